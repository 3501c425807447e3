theorem gdX11_told_0 : ckS (List.drop 0 cX11_told.data.toList) 0 [(0, .aload_n 0, 1), (1, .getfield 100, 3), (4, .aload_n 0, 1), (5, .getfield 106, 3), (8, .if_icmp .ge 5, 3), (11, .iconst 0, 1), (12, .ireturn, 1), (13, .aload_n 0, 1), (14, .invokevirtual 155, 3), (17, .istore_n 1, 1), (18, .aload_n 0, 1), (19, .getfield 22, 3), (22, .iload_n 1, 1), (23, .iaload, 1), (24, .istore_n 2, 1), (25, .iconst 0, 1), (26, .istore_n 3, 1), (27, .iconst 0, 1), (28, .istore 4, 2), (30, .iconst 0, 1), (31, .istore 5, 2), (33, .iload 5, 2), (35, .aload_n 0, 1), (36, .getfield 96, 3), (39, .if_icmp .ge 80, 3), (42, .aload_n 0, 1), (43, .invokevirtual 159, 3), (46, .ifCond .eq 73, 3), (49, .aload_n 0, 1), (50, .getfield 9, 3), (53, .iload 5, 2), (55, .baload, 1), (56, .ifCond .ne 6, 3), (59, .goto 54, 3), (62, .iload_n 3, 1), (63, .aload_n 0, 1), (64, .getfield 68, 3), (67, .sipush 200, 3), (70, .iload_n 1, 1), (71, .imul, 1)] = true := by decide +kernel
theorem dX11_told_0 : decode cX11_told 0 = .ok (.aload_n 0, 1) := ckS_g gdX11_told_0 0 rfl
theorem dX11_told_1 : decode cX11_told 1 = .ok (.getfield 100, 3) := ckS_g gdX11_told_0 1 rfl
theorem dX11_told_4 : decode cX11_told 4 = .ok (.aload_n 0, 1) := ckS_g gdX11_told_0 2 rfl
theorem dX11_told_5 : decode cX11_told 5 = .ok (.getfield 106, 3) := ckS_g gdX11_told_0 3 rfl
theorem dX11_told_8 : decode cX11_told 8 = .ok (.if_icmp .ge 5, 3) := ckS_g gdX11_told_0 4 rfl
theorem dX11_told_11 : decode cX11_told 11 = .ok (.iconst 0, 1) := ckS_g gdX11_told_0 5 rfl
theorem dX11_told_12 : decode cX11_told 12 = .ok (.ireturn, 1) := ckS_g gdX11_told_0 6 rfl
theorem dX11_told_13 : decode cX11_told 13 = .ok (.aload_n 0, 1) := ckS_g gdX11_told_0 7 rfl
theorem dX11_told_14 : decode cX11_told 14 = .ok (.invokevirtual 155, 3) := ckS_g gdX11_told_0 8 rfl
theorem dX11_told_17 : decode cX11_told 17 = .ok (.istore_n 1, 1) := ckS_g gdX11_told_0 9 rfl
theorem dX11_told_18 : decode cX11_told 18 = .ok (.aload_n 0, 1) := ckS_g gdX11_told_0 10 rfl
theorem dX11_told_19 : decode cX11_told 19 = .ok (.getfield 22, 3) := ckS_g gdX11_told_0 11 rfl
theorem dX11_told_22 : decode cX11_told 22 = .ok (.iload_n 1, 1) := ckS_g gdX11_told_0 12 rfl
theorem dX11_told_23 : decode cX11_told 23 = .ok (.iaload, 1) := ckS_g gdX11_told_0 13 rfl
theorem dX11_told_24 : decode cX11_told 24 = .ok (.istore_n 2, 1) := ckS_g gdX11_told_0 14 rfl
theorem dX11_told_25 : decode cX11_told 25 = .ok (.iconst 0, 1) := ckS_g gdX11_told_0 15 rfl
theorem dX11_told_26 : decode cX11_told 26 = .ok (.istore_n 3, 1) := ckS_g gdX11_told_0 16 rfl
theorem dX11_told_27 : decode cX11_told 27 = .ok (.iconst 0, 1) := ckS_g gdX11_told_0 17 rfl
theorem dX11_told_28 : decode cX11_told 28 = .ok (.istore 4, 2) := ckS_g gdX11_told_0 18 rfl
theorem dX11_told_30 : decode cX11_told 30 = .ok (.iconst 0, 1) := ckS_g gdX11_told_0 19 rfl
theorem dX11_told_31 : decode cX11_told 31 = .ok (.istore 5, 2) := ckS_g gdX11_told_0 20 rfl
theorem dX11_told_33 : decode cX11_told 33 = .ok (.iload 5, 2) := ckS_g gdX11_told_0 21 rfl
theorem dX11_told_35 : decode cX11_told 35 = .ok (.aload_n 0, 1) := ckS_g gdX11_told_0 22 rfl
theorem dX11_told_36 : decode cX11_told 36 = .ok (.getfield 96, 3) := ckS_g gdX11_told_0 23 rfl
theorem dX11_told_39 : decode cX11_told 39 = .ok (.if_icmp .ge 80, 3) := ckS_g gdX11_told_0 24 rfl
theorem dX11_told_42 : decode cX11_told 42 = .ok (.aload_n 0, 1) := ckS_g gdX11_told_0 25 rfl
theorem dX11_told_43 : decode cX11_told 43 = .ok (.invokevirtual 159, 3) := ckS_g gdX11_told_0 26 rfl
theorem dX11_told_46 : decode cX11_told 46 = .ok (.ifCond .eq 73, 3) := ckS_g gdX11_told_0 27 rfl
theorem dX11_told_49 : decode cX11_told 49 = .ok (.aload_n 0, 1) := ckS_g gdX11_told_0 28 rfl
theorem dX11_told_50 : decode cX11_told 50 = .ok (.getfield 9, 3) := ckS_g gdX11_told_0 29 rfl
theorem dX11_told_53 : decode cX11_told 53 = .ok (.iload 5, 2) := ckS_g gdX11_told_0 30 rfl
theorem dX11_told_55 : decode cX11_told 55 = .ok (.baload, 1) := ckS_g gdX11_told_0 31 rfl
theorem dX11_told_56 : decode cX11_told 56 = .ok (.ifCond .ne 6, 3) := ckS_g gdX11_told_0 32 rfl
theorem dX11_told_59 : decode cX11_told 59 = .ok (.goto 54, 3) := ckS_g gdX11_told_0 33 rfl
theorem dX11_told_62 : decode cX11_told 62 = .ok (.iload_n 3, 1) := ckS_g gdX11_told_0 34 rfl
theorem dX11_told_63 : decode cX11_told 63 = .ok (.aload_n 0, 1) := ckS_g gdX11_told_0 35 rfl
theorem dX11_told_64 : decode cX11_told 64 = .ok (.getfield 68, 3) := ckS_g gdX11_told_0 36 rfl
theorem dX11_told_67 : decode cX11_told 67 = .ok (.sipush 200, 3) := ckS_g gdX11_told_0 37 rfl
theorem dX11_told_70 : decode cX11_told 70 = .ok (.iload_n 1, 1) := ckS_g gdX11_told_0 38 rfl
theorem dX11_told_71 : decode cX11_told 71 = .ok (.imul, 1) := ckS_g gdX11_told_0 39 rfl
theorem gdX11_told_72 : ckS (List.drop 72 cX11_told.data.toList) 72 [(72, .iload 5, 2), (74, .iadd, 1), (75, .baload, 1), (76, .iconst 1, 1), (77, .if_icmp .ne 7, 3), (80, .iconst 1, 1), (81, .goto 4, 3), (84, .iconst 0, 1), (85, .iadd, 1), (86, .istore_n 3, 1), (87, .iload 4, 2), (89, .aload_n 0, 1), (90, .getfield 68, 3), (93, .sipush 200, 3), (96, .iload_n 1, 1), (97, .imul, 1), (98, .iload 5, 2), (100, .iadd, 1), (101, .baload, 1), (102, .ifCond .ne 7, 3), (105, .iconst 1, 1), (106, .goto 4, 3), (109, .iconst 0, 1), (110, .iadd, 1), (111, .istore 4, 2), (113, .iinc 5 1, 3), (116, .goto (-83), 3), (119, .iload_n 2, 1), (120, .bipush 9, 2), (122, .if_icmp .ne 26, 3), (125, .aload_n 0, 1), (126, .invokevirtual 159, 3), (129, .ifCond .eq 13, 3), (132, .iload 4, 2), (134, .iload_n 3, 1), (135, .if_icmp .le 7, 3), (138, .iconst 5, 1), (139, .goto 4, 3), (142, .iconst 4, 1), (143, .istore 5, 2)] = true := by decide +kernel
theorem dX11_told_72 : decode cX11_told 72 = .ok (.iload 5, 2) := ckS_g gdX11_told_72 0 rfl
theorem dX11_told_74 : decode cX11_told 74 = .ok (.iadd, 1) := ckS_g gdX11_told_72 1 rfl
theorem dX11_told_75 : decode cX11_told 75 = .ok (.baload, 1) := ckS_g gdX11_told_72 2 rfl
theorem dX11_told_76 : decode cX11_told 76 = .ok (.iconst 1, 1) := ckS_g gdX11_told_72 3 rfl
theorem dX11_told_77 : decode cX11_told 77 = .ok (.if_icmp .ne 7, 3) := ckS_g gdX11_told_72 4 rfl
theorem dX11_told_80 : decode cX11_told 80 = .ok (.iconst 1, 1) := ckS_g gdX11_told_72 5 rfl
theorem dX11_told_81 : decode cX11_told 81 = .ok (.goto 4, 3) := ckS_g gdX11_told_72 6 rfl
theorem dX11_told_84 : decode cX11_told 84 = .ok (.iconst 0, 1) := ckS_g gdX11_told_72 7 rfl
theorem dX11_told_85 : decode cX11_told 85 = .ok (.iadd, 1) := ckS_g gdX11_told_72 8 rfl
theorem dX11_told_86 : decode cX11_told 86 = .ok (.istore_n 3, 1) := ckS_g gdX11_told_72 9 rfl
theorem dX11_told_87 : decode cX11_told 87 = .ok (.iload 4, 2) := ckS_g gdX11_told_72 10 rfl
theorem dX11_told_89 : decode cX11_told 89 = .ok (.aload_n 0, 1) := ckS_g gdX11_told_72 11 rfl
theorem dX11_told_90 : decode cX11_told 90 = .ok (.getfield 68, 3) := ckS_g gdX11_told_72 12 rfl
theorem dX11_told_93 : decode cX11_told 93 = .ok (.sipush 200, 3) := ckS_g gdX11_told_72 13 rfl
theorem dX11_told_96 : decode cX11_told 96 = .ok (.iload_n 1, 1) := ckS_g gdX11_told_72 14 rfl
theorem dX11_told_97 : decode cX11_told 97 = .ok (.imul, 1) := ckS_g gdX11_told_72 15 rfl
theorem dX11_told_98 : decode cX11_told 98 = .ok (.iload 5, 2) := ckS_g gdX11_told_72 16 rfl
theorem dX11_told_100 : decode cX11_told 100 = .ok (.iadd, 1) := ckS_g gdX11_told_72 17 rfl
theorem dX11_told_101 : decode cX11_told 101 = .ok (.baload, 1) := ckS_g gdX11_told_72 18 rfl
theorem dX11_told_102 : decode cX11_told 102 = .ok (.ifCond .ne 7, 3) := ckS_g gdX11_told_72 19 rfl
theorem dX11_told_105 : decode cX11_told 105 = .ok (.iconst 1, 1) := ckS_g gdX11_told_72 20 rfl
theorem dX11_told_106 : decode cX11_told 106 = .ok (.goto 4, 3) := ckS_g gdX11_told_72 21 rfl
theorem dX11_told_109 : decode cX11_told 109 = .ok (.iconst 0, 1) := ckS_g gdX11_told_72 22 rfl
theorem dX11_told_110 : decode cX11_told 110 = .ok (.iadd, 1) := ckS_g gdX11_told_72 23 rfl
theorem dX11_told_111 : decode cX11_told 111 = .ok (.istore 4, 2) := ckS_g gdX11_told_72 24 rfl
theorem dX11_told_113 : decode cX11_told 113 = .ok (.iinc 5 1, 3) := ckS_g gdX11_told_72 25 rfl
theorem dX11_told_116 : decode cX11_told 116 = .ok (.goto (-83), 3) := ckS_g gdX11_told_72 26 rfl
theorem dX11_told_119 : decode cX11_told 119 = .ok (.iload_n 2, 1) := ckS_g gdX11_told_72 27 rfl
theorem dX11_told_120 : decode cX11_told 120 = .ok (.bipush 9, 2) := ckS_g gdX11_told_72 28 rfl
theorem dX11_told_122 : decode cX11_told 122 = .ok (.if_icmp .ne 26, 3) := ckS_g gdX11_told_72 29 rfl
theorem dX11_told_125 : decode cX11_told 125 = .ok (.aload_n 0, 1) := ckS_g gdX11_told_72 30 rfl
theorem dX11_told_126 : decode cX11_told 126 = .ok (.invokevirtual 159, 3) := ckS_g gdX11_told_72 31 rfl
theorem dX11_told_129 : decode cX11_told 129 = .ok (.ifCond .eq 13, 3) := ckS_g gdX11_told_72 32 rfl
theorem dX11_told_132 : decode cX11_told 132 = .ok (.iload 4, 2) := ckS_g gdX11_told_72 33 rfl
theorem dX11_told_134 : decode cX11_told 134 = .ok (.iload_n 3, 1) := ckS_g gdX11_told_72 34 rfl
theorem dX11_told_135 : decode cX11_told 135 = .ok (.if_icmp .le 7, 3) := ckS_g gdX11_told_72 35 rfl
theorem dX11_told_138 : decode cX11_told 138 = .ok (.iconst 5, 1) := ckS_g gdX11_told_72 36 rfl
theorem dX11_told_139 : decode cX11_told 139 = .ok (.goto 4, 3) := ckS_g gdX11_told_72 37 rfl
theorem dX11_told_142 : decode cX11_told 142 = .ok (.iconst 4, 1) := ckS_g gdX11_told_72 38 rfl
theorem dX11_told_143 : decode cX11_told 143 = .ok (.istore 5, 2) := ckS_g gdX11_told_72 39 rfl
theorem gdX11_told_145 : ckS (List.drop 145 cX11_told.data.toList) 145 [(145, .goto 39, 3), (148, .aload_n 0, 1), (149, .invokevirtual 159, 3), (152, .ifCond .ne 9, 3), (155, .iconst 3, 1), (156, .istore 5, 2), (158, .goto 26, 3), (161, .aload_n 0, 1), (162, .aload_n 0, 1), (163, .getfield 15, 3), (166, .iload_n 2, 1), (167, .iaload, 1), (168, .iload_n 3, 1), (169, .iload 4, 2), (171, .invokevirtual 233, 3), (174, .ifCond .eq 7, 3), (177, .iconst 1, 1), (178, .goto 4, 3), (181, .iconst 2, 1), (182, .istore 5, 2), (184, .iconst 5, 1), (185, .aload_n 0, 1), (186, .getfield 121, 3), (189, .imul, 1), (190, .istore 6, 2), (192, .aload_n 0, 1), (193, .getfield 93, 3), (196, .iload 6, 2), (198, .aload_n 0, 1), (199, .getfield 118, 3), (202, .iastore, 1), (203, .aload_n 0, 1), (204, .getfield 93, 3), (207, .iload 6, 2), (209, .iconst 1, 1), (210, .iadd, 1), (211, .iload_n 2, 1), (212, .iastore, 1), (213, .aload_n 0, 1), (214, .getfield 93, 3)] = true := by decide +kernel
theorem dX11_told_145 : decode cX11_told 145 = .ok (.goto 39, 3) := ckS_g gdX11_told_145 0 rfl
theorem dX11_told_148 : decode cX11_told 148 = .ok (.aload_n 0, 1) := ckS_g gdX11_told_145 1 rfl
theorem dX11_told_149 : decode cX11_told 149 = .ok (.invokevirtual 159, 3) := ckS_g gdX11_told_145 2 rfl
theorem dX11_told_152 : decode cX11_told 152 = .ok (.ifCond .ne 9, 3) := ckS_g gdX11_told_145 3 rfl
theorem dX11_told_155 : decode cX11_told 155 = .ok (.iconst 3, 1) := ckS_g gdX11_told_145 4 rfl
theorem dX11_told_156 : decode cX11_told 156 = .ok (.istore 5, 2) := ckS_g gdX11_told_145 5 rfl
theorem dX11_told_158 : decode cX11_told 158 = .ok (.goto 26, 3) := ckS_g gdX11_told_145 6 rfl
theorem dX11_told_161 : decode cX11_told 161 = .ok (.aload_n 0, 1) := ckS_g gdX11_told_145 7 rfl
theorem dX11_told_162 : decode cX11_told 162 = .ok (.aload_n 0, 1) := ckS_g gdX11_told_145 8 rfl
theorem dX11_told_163 : decode cX11_told 163 = .ok (.getfield 15, 3) := ckS_g gdX11_told_145 9 rfl
theorem dX11_told_166 : decode cX11_told 166 = .ok (.iload_n 2, 1) := ckS_g gdX11_told_145 10 rfl
theorem dX11_told_167 : decode cX11_told 167 = .ok (.iaload, 1) := ckS_g gdX11_told_145 11 rfl
theorem dX11_told_168 : decode cX11_told 168 = .ok (.iload_n 3, 1) := ckS_g gdX11_told_145 12 rfl
theorem dX11_told_169 : decode cX11_told 169 = .ok (.iload 4, 2) := ckS_g gdX11_told_145 13 rfl
theorem dX11_told_171 : decode cX11_told 171 = .ok (.invokevirtual 233, 3) := ckS_g gdX11_told_145 14 rfl
theorem dX11_told_174 : decode cX11_told 174 = .ok (.ifCond .eq 7, 3) := ckS_g gdX11_told_145 15 rfl
theorem dX11_told_177 : decode cX11_told 177 = .ok (.iconst 1, 1) := ckS_g gdX11_told_145 16 rfl
theorem dX11_told_178 : decode cX11_told 178 = .ok (.goto 4, 3) := ckS_g gdX11_told_145 17 rfl
theorem dX11_told_181 : decode cX11_told 181 = .ok (.iconst 2, 1) := ckS_g gdX11_told_145 18 rfl
theorem dX11_told_182 : decode cX11_told 182 = .ok (.istore 5, 2) := ckS_g gdX11_told_145 19 rfl
theorem dX11_told_184 : decode cX11_told 184 = .ok (.iconst 5, 1) := ckS_g gdX11_told_145 20 rfl
theorem dX11_told_185 : decode cX11_told 185 = .ok (.aload_n 0, 1) := ckS_g gdX11_told_145 21 rfl
theorem dX11_told_186 : decode cX11_told 186 = .ok (.getfield 121, 3) := ckS_g gdX11_told_145 22 rfl
theorem dX11_told_189 : decode cX11_told 189 = .ok (.imul, 1) := ckS_g gdX11_told_145 23 rfl
theorem dX11_told_190 : decode cX11_told 190 = .ok (.istore 6, 2) := ckS_g gdX11_told_145 24 rfl
theorem dX11_told_192 : decode cX11_told 192 = .ok (.aload_n 0, 1) := ckS_g gdX11_told_145 25 rfl
theorem dX11_told_193 : decode cX11_told 193 = .ok (.getfield 93, 3) := ckS_g gdX11_told_145 26 rfl
theorem dX11_told_196 : decode cX11_told 196 = .ok (.iload 6, 2) := ckS_g gdX11_told_145 27 rfl
theorem dX11_told_198 : decode cX11_told 198 = .ok (.aload_n 0, 1) := ckS_g gdX11_told_145 28 rfl
theorem dX11_told_199 : decode cX11_told 199 = .ok (.getfield 118, 3) := ckS_g gdX11_told_145 29 rfl
theorem dX11_told_202 : decode cX11_told 202 = .ok (.iastore, 1) := ckS_g gdX11_told_145 30 rfl
theorem dX11_told_203 : decode cX11_told 203 = .ok (.aload_n 0, 1) := ckS_g gdX11_told_145 31 rfl
theorem dX11_told_204 : decode cX11_told 204 = .ok (.getfield 93, 3) := ckS_g gdX11_told_145 32 rfl
theorem dX11_told_207 : decode cX11_told 207 = .ok (.iload 6, 2) := ckS_g gdX11_told_145 33 rfl
theorem dX11_told_209 : decode cX11_told 209 = .ok (.iconst 1, 1) := ckS_g gdX11_told_145 34 rfl
theorem dX11_told_210 : decode cX11_told 210 = .ok (.iadd, 1) := ckS_g gdX11_told_145 35 rfl
theorem dX11_told_211 : decode cX11_told 211 = .ok (.iload_n 2, 1) := ckS_g gdX11_told_145 36 rfl
theorem dX11_told_212 : decode cX11_told 212 = .ok (.iastore, 1) := ckS_g gdX11_told_145 37 rfl
theorem dX11_told_213 : decode cX11_told 213 = .ok (.aload_n 0, 1) := ckS_g gdX11_told_145 38 rfl
theorem dX11_told_214 : decode cX11_told 214 = .ok (.getfield 93, 3) := ckS_g gdX11_told_145 39 rfl
theorem gdX11_told_217 : ckS (List.drop 217 cX11_told.data.toList) 217 [(217, .iload 6, 2), (219, .iconst 2, 1), (220, .iadd, 1), (221, .iload 5, 2), (223, .iastore, 1), (224, .aload_n 0, 1), (225, .getfield 93, 3), (228, .iload 6, 2), (230, .iconst 3, 1), (231, .iadd, 1), (232, .iload_n 3, 1), (233, .iastore, 1), (234, .aload_n 0, 1), (235, .getfield 93, 3), (238, .iload 6, 2), (240, .iconst 4, 1), (241, .iadd, 1), (242, .iload 4, 2), (244, .iastore, 1), (245, .aload_n 0, 1), (246, .dup, 1), (247, .getfield 121, 3), (250, .iconst 1, 1), (251, .iadd, 1), (252, .putfield 121, 3), (255, .aload_n 0, 1), (256, .iconst (-1), 1), (257, .putfield 112, 3), (260, .iload 5, 2), (262, .iconst 1, 1), (263, .if_icmp .ne 12, 3), (266, .aload_n 0, 1), (267, .iload_n 1, 1), (268, .iload_n 2, 1), (269, .invokevirtual 236, 3), (272, .goto 17, 3), (275, .aload_n 0, 1), (276, .invokevirtual 227, 3), (279, .iload 5, 2), (281, .iconst 4, 1)] = true := by decide +kernel
theorem dX11_told_217 : decode cX11_told 217 = .ok (.iload 6, 2) := ckS_g gdX11_told_217 0 rfl
theorem dX11_told_219 : decode cX11_told 219 = .ok (.iconst 2, 1) := ckS_g gdX11_told_217 1 rfl
theorem dX11_told_220 : decode cX11_told 220 = .ok (.iadd, 1) := ckS_g gdX11_told_217 2 rfl
theorem dX11_told_221 : decode cX11_told 221 = .ok (.iload 5, 2) := ckS_g gdX11_told_217 3 rfl
theorem dX11_told_223 : decode cX11_told 223 = .ok (.iastore, 1) := ckS_g gdX11_told_217 4 rfl
theorem dX11_told_224 : decode cX11_told 224 = .ok (.aload_n 0, 1) := ckS_g gdX11_told_217 5 rfl
theorem dX11_told_225 : decode cX11_told 225 = .ok (.getfield 93, 3) := ckS_g gdX11_told_217 6 rfl
theorem dX11_told_228 : decode cX11_told 228 = .ok (.iload 6, 2) := ckS_g gdX11_told_217 7 rfl
theorem dX11_told_230 : decode cX11_told 230 = .ok (.iconst 3, 1) := ckS_g gdX11_told_217 8 rfl
theorem dX11_told_231 : decode cX11_told 231 = .ok (.iadd, 1) := ckS_g gdX11_told_217 9 rfl
theorem dX11_told_232 : decode cX11_told 232 = .ok (.iload_n 3, 1) := ckS_g gdX11_told_217 10 rfl
theorem dX11_told_233 : decode cX11_told 233 = .ok (.iastore, 1) := ckS_g gdX11_told_217 11 rfl
theorem dX11_told_234 : decode cX11_told 234 = .ok (.aload_n 0, 1) := ckS_g gdX11_told_217 12 rfl
theorem dX11_told_235 : decode cX11_told 235 = .ok (.getfield 93, 3) := ckS_g gdX11_told_217 13 rfl
theorem dX11_told_238 : decode cX11_told 238 = .ok (.iload 6, 2) := ckS_g gdX11_told_217 14 rfl
theorem dX11_told_240 : decode cX11_told 240 = .ok (.iconst 4, 1) := ckS_g gdX11_told_217 15 rfl
theorem dX11_told_241 : decode cX11_told 241 = .ok (.iadd, 1) := ckS_g gdX11_told_217 16 rfl
theorem dX11_told_242 : decode cX11_told 242 = .ok (.iload 4, 2) := ckS_g gdX11_told_217 17 rfl
theorem dX11_told_244 : decode cX11_told 244 = .ok (.iastore, 1) := ckS_g gdX11_told_217 18 rfl
theorem dX11_told_245 : decode cX11_told 245 = .ok (.aload_n 0, 1) := ckS_g gdX11_told_217 19 rfl
theorem dX11_told_246 : decode cX11_told 246 = .ok (.dup, 1) := ckS_g gdX11_told_217 20 rfl
theorem dX11_told_247 : decode cX11_told 247 = .ok (.getfield 121, 3) := ckS_g gdX11_told_217 21 rfl
theorem dX11_told_250 : decode cX11_told 250 = .ok (.iconst 1, 1) := ckS_g gdX11_told_217 22 rfl
theorem dX11_told_251 : decode cX11_told 251 = .ok (.iadd, 1) := ckS_g gdX11_told_217 23 rfl
theorem dX11_told_252 : decode cX11_told 252 = .ok (.putfield 121, 3) := ckS_g gdX11_told_217 24 rfl
theorem dX11_told_255 : decode cX11_told 255 = .ok (.aload_n 0, 1) := ckS_g gdX11_told_217 25 rfl
theorem dX11_told_256 : decode cX11_told 256 = .ok (.iconst (-1), 1) := ckS_g gdX11_told_217 26 rfl
theorem dX11_told_257 : decode cX11_told 257 = .ok (.putfield 112, 3) := ckS_g gdX11_told_217 27 rfl
theorem dX11_told_260 : decode cX11_told 260 = .ok (.iload 5, 2) := ckS_g gdX11_told_217 28 rfl
theorem dX11_told_262 : decode cX11_told 262 = .ok (.iconst 1, 1) := ckS_g gdX11_told_217 29 rfl
theorem dX11_told_263 : decode cX11_told 263 = .ok (.if_icmp .ne 12, 3) := ckS_g gdX11_told_217 30 rfl
theorem dX11_told_266 : decode cX11_told 266 = .ok (.aload_n 0, 1) := ckS_g gdX11_told_217 31 rfl
theorem dX11_told_267 : decode cX11_told 267 = .ok (.iload_n 1, 1) := ckS_g gdX11_told_217 32 rfl
theorem dX11_told_268 : decode cX11_told 268 = .ok (.iload_n 2, 1) := ckS_g gdX11_told_217 33 rfl
theorem dX11_told_269 : decode cX11_told 269 = .ok (.invokevirtual 236, 3) := ckS_g gdX11_told_217 34 rfl
theorem dX11_told_272 : decode cX11_told 272 = .ok (.goto 17, 3) := ckS_g gdX11_told_217 35 rfl
theorem dX11_told_275 : decode cX11_told 275 = .ok (.aload_n 0, 1) := ckS_g gdX11_told_217 36 rfl
theorem dX11_told_276 : decode cX11_told 276 = .ok (.invokevirtual 227, 3) := ckS_g gdX11_told_217 37 rfl
theorem dX11_told_279 : decode cX11_told 279 = .ok (.iload 5, 2) := ckS_g gdX11_told_217 38 rfl
theorem dX11_told_281 : decode cX11_told 281 = .ok (.iconst 4, 1) := ckS_g gdX11_told_217 39 rfl
theorem gdX11_told_282 : ckS (List.drop 282 cX11_told.data.toList) 282 [(282, .if_icmp .ne 7, 3), (285, .aload_n 0, 1), (286, .invokevirtual 227, 3), (289, .iload 5, 2), (291, .ireturn, 1)] = true := by decide +kernel
theorem dX11_told_282 : decode cX11_told 282 = .ok (.if_icmp .ne 7, 3) := ckS_g gdX11_told_282 0 rfl
theorem dX11_told_285 : decode cX11_told 285 = .ok (.aload_n 0, 1) := ckS_g gdX11_told_282 1 rfl
theorem dX11_told_286 : decode cX11_told 286 = .ok (.invokevirtual 227, 3) := ckS_g gdX11_told_282 2 rfl
theorem dX11_told_289 : decode cX11_told 289 = .ok (.iload 5, 2) := ckS_g gdX11_told_282 3 rfl
theorem dX11_told_291 : decode cX11_told 291 = .ok (.ireturn, 1) := ckS_g gdX11_told_282 4 rfl
set_option maxRecDepth 100000 in
theorem z161 : wZ (.selects RX11 yX11_carried yX11_carried) := ⟨List.mem_append_left _ (List.mem_of_getElem? (i := 24) (by decide +kernel)), Or.inl rfl⟩
set_option maxRecDepth 100000 in
theorem z162 : wZ (.instanceMethod yX11_carried) := ⟨wT6 (List.mem_of_getElem? (i := 103) (by decide +kernel)), Or.inl rfl⟩
set_option maxRecDepth 100000 in
theorem z163 : wZ (.methodLink RX11 236 yX11_carried) := ⟨wT6 (List.mem_of_getElem? (i := 101) (by decide +kernel)), Or.inl rfl⟩
set_option maxRecDepth 100000 in
theorem z164 : wZ (.fieldLink RX11 118 "MotionFloorModel$Hall" "entries" "I") := ⟨wT5 (List.mem_of_getElem? (i := 48) (by decide +kernel)), Or.inl rfl⟩
set_option maxRecDepth 100000 in
theorem z165 : wZ (.fieldLink RX11 93 "MotionFloorModel$Hall" "result" "[I") := ⟨wT5 (List.mem_of_getElem? (i := 109) (by decide +kernel)), Or.inl rfl⟩
set_option maxRecDepth 100000 in
theorem z166 : wZ (.fieldLink RX11 121 "MotionFloorModel$Hall" "results" "I") := ⟨wT5 (List.mem_of_getElem? (i := 50) (by decide +kernel)), Or.inl rfl⟩
set_option maxRecDepth 100000 in
theorem z167 : wZ (.selects RX11 yX11_carries yX11_carries) := ⟨List.mem_append_left _ (List.mem_of_getElem? (i := 23) (by decide +kernel)), Or.inl rfl⟩
set_option maxRecDepth 100000 in
theorem z168 : wZ (.instanceMethod yX11_carries) := ⟨wT6 (List.mem_of_getElem? (i := 99) (by decide +kernel)), Or.inl rfl⟩
set_option maxRecDepth 100000 in
theorem z169 : wZ (.methodLink RX11 233 yX11_carries) := ⟨wT6 (List.mem_of_getElem? (i := 97) (by decide +kernel)), Or.inl rfl⟩
set_option maxRecDepth 100000 in
theorem z170 : wZ (.fieldLink RX11 15 "MotionFloorModel$Hall" "majority" "[I") := ⟨wT5 (List.mem_of_getElem? (i := 58) (by decide +kernel)), Or.inl rfl⟩
set_option maxRecDepth 100000 in
theorem z171 : wZ (.code yX11_told cX11_told 7 (some .int)) := ⟨wT6 (List.mem_of_getElem? (i := 96) rfl), Or.inl rfl⟩
def b_X11_told_289 (S : HS) (x1 x2 x3 x4 x5 x6 : Int32) : Int32 × HS := (x5, S)
def q_X11_told_289 (S : HS) (x1 x2 x3 x4 x5 x6 : Int32) : Prop := True
def b_X11_told_a289 (S : HS) (x1 x2 x3 x4 x5 x6 : Int32) : Int32 × HS := (x5, S)
def q_X11_told_a289 (S : HS) (x1 x2 x3 x4 x5 x6 : Int32) : Prop := True
def b_X11_told_a279 (S : HS) (x1 x2 x3 x4 x5 x6 : Int32) : Int32 × HS := if x5 = 4 then (b_X11_told_a289 (f_X11_goes S ).2 x1 x2 x3 x4 x5 x6) else (b_X11_told_289 S x1 x2 x3 x4 x5 x6)
def q_X11_told_a279 (S : HS) (x1 x2 x3 x4 x5 x6 : Int32) : Prop := (if x5 = 4 then (p_X11_goes S ) ∧ (q_X11_told_a289 (f_X11_goes S ).2 x1 x2 x3 x4 x5 x6) else (q_X11_told_289 S x1 x2 x3 x4 x5 x6))
def b_X11_told_a272 (S : HS) (x1 x2 x3 x4 x5 x6 : Int32) : Int32 × HS := (b_X11_told_289 S x1 x2 x3 x4 x5 x6)
def q_X11_told_a272 (S : HS) (x1 x2 x3 x4 x5 x6 : Int32) : Prop := (q_X11_told_289 S x1 x2 x3 x4 x5 x6)
def b_X11_told_184 (S : HS) (x1 x2 x3 x4 x5 : Int32) : Int32 × HS := if x5 = 1 then (b_X11_told_a272 (f_X11_carried (sI (sI (sA (sA (sA (sA (sA S 41 (5 * (S.1 8)).toNatClampNeg (S.1 7)) 41 ((5 * (S.1 8)) + 1).toNatClampNeg x2) 41 ((5 * (S.1 8)) + 2).toNatClampNeg x5) 41 ((5 * (S.1 8)) + 3).toNatClampNeg x3) 41 ((5 * (S.1 8)) + 4).toNatClampNeg x4) 8 (((sA (sA (sA (sA (sA S 41 (5 * (S.1 8)).toNatClampNeg (S.1 7)) 41 ((5 * (S.1 8)) + 1).toNatClampNeg x2) 41 ((5 * (S.1 8)) + 2).toNatClampNeg x5) 41 ((5 * (S.1 8)) + 3).toNatClampNeg x3) 41 ((5 * (S.1 8)) + 4).toNatClampNeg x4).1 8) + 1)) 5 (-1)) x1 x2).2 x1 x2 x3 x4 x5 (5 * (S.1 8))) else (b_X11_told_a279 (f_X11_goes (sI (sI (sA (sA (sA (sA (sA S 41 (5 * (S.1 8)).toNatClampNeg (S.1 7)) 41 ((5 * (S.1 8)) + 1).toNatClampNeg x2) 41 ((5 * (S.1 8)) + 2).toNatClampNeg x5) 41 ((5 * (S.1 8)) + 3).toNatClampNeg x3) 41 ((5 * (S.1 8)) + 4).toNatClampNeg x4) 8 (((sA (sA (sA (sA (sA S 41 (5 * (S.1 8)).toNatClampNeg (S.1 7)) 41 ((5 * (S.1 8)) + 1).toNatClampNeg x2) 41 ((5 * (S.1 8)) + 2).toNatClampNeg x5) 41 ((5 * (S.1 8)) + 3).toNatClampNeg x3) 41 ((5 * (S.1 8)) + 4).toNatClampNeg x4).1 8) + 1)) 5 (-1)) ).2 x1 x2 x3 x4 x5 (5 * (S.1 8)))
def q_X11_told_184 (S : HS) (x1 x2 x3 x4 x5 : Int32) : Prop := (vp_in (5 * (S.1 8)) 3000) ∧ (vp_in ((5 * (S.1 8)) + 1) 3000) ∧ (vp_in ((5 * (S.1 8)) + 2) 3000) ∧ (vp_in ((5 * (S.1 8)) + 3) 3000) ∧ (vp_in ((5 * (S.1 8)) + 4) 3000) ∧ (if x5 = 1 then (p_X11_carried (sI (sI (sA (sA (sA (sA (sA S 41 (5 * (S.1 8)).toNatClampNeg (S.1 7)) 41 ((5 * (S.1 8)) + 1).toNatClampNeg x2) 41 ((5 * (S.1 8)) + 2).toNatClampNeg x5) 41 ((5 * (S.1 8)) + 3).toNatClampNeg x3) 41 ((5 * (S.1 8)) + 4).toNatClampNeg x4) 8 (((sA (sA (sA (sA (sA S 41 (5 * (S.1 8)).toNatClampNeg (S.1 7)) 41 ((5 * (S.1 8)) + 1).toNatClampNeg x2) 41 ((5 * (S.1 8)) + 2).toNatClampNeg x5) 41 ((5 * (S.1 8)) + 3).toNatClampNeg x3) 41 ((5 * (S.1 8)) + 4).toNatClampNeg x4).1 8) + 1)) 5 (-1)) x1 x2) ∧ (q_X11_told_a272 (f_X11_carried (sI (sI (sA (sA (sA (sA (sA S 41 (5 * (S.1 8)).toNatClampNeg (S.1 7)) 41 ((5 * (S.1 8)) + 1).toNatClampNeg x2) 41 ((5 * (S.1 8)) + 2).toNatClampNeg x5) 41 ((5 * (S.1 8)) + 3).toNatClampNeg x3) 41 ((5 * (S.1 8)) + 4).toNatClampNeg x4) 8 (((sA (sA (sA (sA (sA S 41 (5 * (S.1 8)).toNatClampNeg (S.1 7)) 41 ((5 * (S.1 8)) + 1).toNatClampNeg x2) 41 ((5 * (S.1 8)) + 2).toNatClampNeg x5) 41 ((5 * (S.1 8)) + 3).toNatClampNeg x3) 41 ((5 * (S.1 8)) + 4).toNatClampNeg x4).1 8) + 1)) 5 (-1)) x1 x2).2 x1 x2 x3 x4 x5 (5 * (S.1 8))) else (p_X11_goes (sI (sI (sA (sA (sA (sA (sA S 41 (5 * (S.1 8)).toNatClampNeg (S.1 7)) 41 ((5 * (S.1 8)) + 1).toNatClampNeg x2) 41 ((5 * (S.1 8)) + 2).toNatClampNeg x5) 41 ((5 * (S.1 8)) + 3).toNatClampNeg x3) 41 ((5 * (S.1 8)) + 4).toNatClampNeg x4) 8 (((sA (sA (sA (sA (sA S 41 (5 * (S.1 8)).toNatClampNeg (S.1 7)) 41 ((5 * (S.1 8)) + 1).toNatClampNeg x2) 41 ((5 * (S.1 8)) + 2).toNatClampNeg x5) 41 ((5 * (S.1 8)) + 3).toNatClampNeg x3) 41 ((5 * (S.1 8)) + 4).toNatClampNeg x4).1 8) + 1)) 5 (-1)) ) ∧ (q_X11_told_a279 (f_X11_goes (sI (sI (sA (sA (sA (sA (sA S 41 (5 * (S.1 8)).toNatClampNeg (S.1 7)) 41 ((5 * (S.1 8)) + 1).toNatClampNeg x2) 41 ((5 * (S.1 8)) + 2).toNatClampNeg x5) 41 ((5 * (S.1 8)) + 3).toNatClampNeg x3) 41 ((5 * (S.1 8)) + 4).toNatClampNeg x4) 8 (((sA (sA (sA (sA (sA S 41 (5 * (S.1 8)).toNatClampNeg (S.1 7)) 41 ((5 * (S.1 8)) + 1).toNatClampNeg x2) 41 ((5 * (S.1 8)) + 2).toNatClampNeg x5) 41 ((5 * (S.1 8)) + 3).toNatClampNeg x3) 41 ((5 * (S.1 8)) + 4).toNatClampNeg x4).1 8) + 1)) 5 (-1)) ).2 x1 x2 x3 x4 x5 (5 * (S.1 8))))
def b_X11_told_182 (S : HS) (x1 x2 x3 x4 x5 y0 : Int32) : Int32 × HS := (b_X11_told_184 S x1 x2 x3 x4 y0)
def q_X11_told_182 (S : HS) (x1 x2 x3 x4 x5 y0 : Int32) : Prop := (q_X11_told_184 S x1 x2 x3 x4 y0)
def b_X11_told_a174 (S : HS) (x1 x2 x3 x4 x5 y0 : Int32) : Int32 × HS := if y0 = 0 then (b_X11_told_182 S x1 x2 x3 x4 x5 2) else (b_X11_told_182 S x1 x2 x3 x4 x5 1)
def q_X11_told_a174 (S : HS) (x1 x2 x3 x4 x5 y0 : Int32) : Prop := (if y0 = 0 then (q_X11_told_182 S x1 x2 x3 x4 x5 2) else (q_X11_told_182 S x1 x2 x3 x4 x5 1))
def b_X11_told_a152 (S : HS) (x1 x2 x3 x4 x5 y0 : Int32) : Int32 × HS := if y0 = 0 then (b_X11_told_184 S x1 x2 x3 x4 3) else (b_X11_told_a174 (f_X11_carries S (S.2 12 x2.toNatClampNeg) x3 x4).2 x1 x2 x3 x4 x5 (f_X11_carries S (S.2 12 x2.toNatClampNeg) x3 x4).1)
def q_X11_told_a152 (S : HS) (x1 x2 x3 x4 x5 y0 : Int32) : Prop := (if y0 = 0 then (q_X11_told_184 S x1 x2 x3 x4 3) else (vp_in x2 9) ∧ (p_X11_carries S (S.2 12 x2.toNatClampNeg) x3 x4) ∧ (q_X11_told_a174 (f_X11_carries S (S.2 12 x2.toNatClampNeg) x3 x4).2 x1 x2 x3 x4 x5 (f_X11_carries S (S.2 12 x2.toNatClampNeg) x3 x4).1))
def b_X11_told_143 (S : HS) (x1 x2 x3 x4 x5 y0 : Int32) : Int32 × HS := (b_X11_told_184 S x1 x2 x3 x4 y0)
def q_X11_told_143 (S : HS) (x1 x2 x3 x4 x5 y0 : Int32) : Prop := (q_X11_told_184 S x1 x2 x3 x4 y0)
def b_X11_told_142 (S : HS) (x1 x2 x3 x4 x5 : Int32) : Int32 × HS := (b_X11_told_143 S x1 x2 x3 x4 x5 4)
def q_X11_told_142 (S : HS) (x1 x2 x3 x4 x5 : Int32) : Prop := (q_X11_told_143 S x1 x2 x3 x4 x5 4)
def b_X11_told_a129 (S : HS) (x1 x2 x3 x4 x5 y0 : Int32) : Int32 × HS := if y0 = 0 then (b_X11_told_142 S x1 x2 x3 x4 x5) else if x4 ≤ x3 then (b_X11_told_142 S x1 x2 x3 x4 x5) else (b_X11_told_143 S x1 x2 x3 x4 x5 5)
def q_X11_told_a129 (S : HS) (x1 x2 x3 x4 x5 y0 : Int32) : Prop := (if y0 = 0 then (q_X11_told_142 S x1 x2 x3 x4 x5) else (if x4 ≤ x3 then (q_X11_told_142 S x1 x2 x3 x4 x5) else (q_X11_told_143 S x1 x2 x3 x4 x5 5)))
def b_X11_told_119 (S : HS) (x1 x2 x3 x4 x5 : Int32) : Int32 × HS := if x2 = 9 then (b_X11_told_a129 (f_X11_hasSeconder S ).2 x1 x2 x3 x4 x5 (f_X11_hasSeconder S ).1) else (b_X11_told_a152 (f_X11_hasSeconder S ).2 x1 x2 x3 x4 x5 (f_X11_hasSeconder S ).1)
def q_X11_told_119 (S : HS) (x1 x2 x3 x4 x5 : Int32) : Prop := (if x2 = 9 then (p_X11_hasSeconder S ) ∧ (q_X11_told_a129 (f_X11_hasSeconder S ).2 x1 x2 x3 x4 x5 (f_X11_hasSeconder S ).1) else (p_X11_hasSeconder S ) ∧ (q_X11_told_a152 (f_X11_hasSeconder S ).2 x1 x2 x3 x4 x5 (f_X11_hasSeconder S ).1))
def b_X11_told_113 (S : HS) (x1 x2 x3 x4 x5 : Int32) : (Int32 × HS) ⊕ (HS × Int32 × Int32 × Int32 × Int32 × Int32) := Sum.inr (S, x1, x2, x3, x4, (x5 + 1))
def q_X11_told_113 (S : HS) (x1 x2 x3 x4 x5 : Int32) : Prop := True
def b_X11_told_110 (S : HS) (x1 x2 x3 x4 x5 y0 y1 : Int32) : (Int32 × HS) ⊕ (HS × Int32 × Int32 × Int32 × Int32 × Int32) := (b_X11_told_113 S x1 x2 x3 (y1 + y0) x5)
def q_X11_told_110 (S : HS) (x1 x2 x3 x4 x5 y0 y1 : Int32) : Prop := (q_X11_told_113 S x1 x2 x3 (y1 + y0) x5)
def b_X11_told_85 (S : HS) (x1 x2 x3 x4 x5 y0 y1 : Int32) : (Int32 × HS) ⊕ (HS × Int32 × Int32 × Int32 × Int32 × Int32) := if (S.2 29 ((200 * x1) + x5).toNatClampNeg) = 0 then (b_X11_told_110 S x1 x2 (y1 + y0) x4 x5 1 x4) else (b_X11_told_110 S x1 x2 (y1 + y0) x4 x5 0 x4)
def q_X11_told_85 (S : HS) (x1 x2 x3 x4 x5 y0 y1 : Int32) : Prop := (vp_in ((200 * x1) + x5) 18000) ∧ (if (S.2 29 ((200 * x1) + x5).toNatClampNeg) = 0 then (q_X11_told_110 S x1 x2 (y1 + y0) x4 x5 1 x4) else (q_X11_told_110 S x1 x2 (y1 + y0) x4 x5 0 x4))
def b_X11_told_a46 (S : HS) (x1 x2 x3 x4 x5 y0 : Int32) : (Int32 × HS) ⊕ (HS × Int32 × Int32 × Int32 × Int32 × Int32) := if y0 = 0 then Sum.inl ((b_X11_told_119 S x1 x2 x3 x4 x5)) else if (S.2 11 x5.toNatClampNeg) = 0 then (b_X11_told_113 S x1 x2 x3 x4 x5) else if (S.2 29 ((200 * x1) + x5).toNatClampNeg) = 1 then (b_X11_told_85 S x1 x2 x3 x4 x5 1 x3) else (b_X11_told_85 S x1 x2 x3 x4 x5 0 x3)
def q_X11_told_a46 (S : HS) (x1 x2 x3 x4 x5 y0 : Int32) : Prop := (if y0 = 0 then (q_X11_told_119 S x1 x2 x3 x4 x5) else (vp_in x5 200) ∧ (if (S.2 11 x5.toNatClampNeg) = 0 then (q_X11_told_113 S x1 x2 x3 x4 x5) else (vp_in ((200 * x1) + x5) 18000) ∧ (if (S.2 29 ((200 * x1) + x5).toNatClampNeg) = 1 then (q_X11_told_85 S x1 x2 x3 x4 x5 1 x3) else (q_X11_told_85 S x1 x2 x3 x4 x5 0 x3))))
def st_X11_told_33 (S : HS) (x1 x2 x3 x4 x5 : Int32) : (Int32 × HS) ⊕ (HS × Int32 × Int32 × Int32 × Int32 × Int32) := if (S.1 0) ≤ x5 then Sum.inl ((b_X11_told_119 S x1 x2 x3 x4 x5)) else (b_X11_told_a46 (f_X11_hasSeconder S ).2 x1 x2 x3 x4 x5 (f_X11_hasSeconder S ).1)
def ps_X11_told_33 (S : HS) (x1 x2 x3 x4 x5 : Int32) : Prop := (if (S.1 0) ≤ x5 then (q_X11_told_119 S x1 x2 x3 x4 x5) else (p_X11_hasSeconder S ) ∧ (q_X11_told_a46 (f_X11_hasSeconder S ).2 x1 x2 x3 x4 x5 (f_X11_hasSeconder S ).1))
def lp_X11_told_33 : Nat → HS → Int32 → Int32 → Int32 → Int32 → Int32 → Int32 × HS
  | 0, S, _, _, _, _, _ => (0, S)
  | n + 1, S, x1, x2, x3, x4, x5 => match st_X11_told_33 S x1 x2 x3 x4 x5 with
    | Sum.inl r => r
    | Sum.inr q => lp_X11_told_33 n q.1 q.2.1 q.2.2.1 q.2.2.2.1 q.2.2.2.2.1 q.2.2.2.2.2
def lq_X11_told_33 : Nat → HS → Int32 → Int32 → Int32 → Int32 → Int32 → Prop
  | 0, _, _, _, _, _, _ => False
  | n + 1, S, x1, x2, x3, x4, x5 => ps_X11_told_33 S x1 x2 x3 x4 x5 ∧ (match st_X11_told_33 S x1 x2 x3 x4 x5 with
    | Sum.inl _ => True
    | Sum.inr q => lq_X11_told_33 n q.1 q.2.1 q.2.2.1 q.2.2.2.1 q.2.2.2.2.1 q.2.2.2.2.2)
def b_X11_told_a17 (S : HS) (y0 : Int32) : Int32 × HS := (lp_X11_told_33 100000 S y0 (S.2 14 y0.toNatClampNeg) 0 0 0)
def q_X11_told_a17 (S : HS) (y0 : Int32) : Prop := (vp_in y0 90) ∧ (lq_X11_told_33 100000 S y0 (S.2 14 y0.toNatClampNeg) 0 0 0)
def f_X11_told (S : HS)  : Int32 × HS := if (S.1 3) ≤ (S.1 1) then (b_X11_told_a17 (f_X11_top S ).2 (f_X11_top S ).1) else (0, S)
def p_X11_told (S : HS)  : Prop := (if (S.1 3) ≤ (S.1 1) then (p_X11_top S ) ∧ (q_X11_told_a17 (f_X11_top S ).2 (f_X11_top S ).1) else True)
def e_X11_told : List Cond := [.fieldLink RX11 100 "MotionFloorModel$Hall" "there" "I", .fieldLink RX11 106 "MotionFloorModel$Hall" "quorum" "I", .methodLink RX11 155 yX11_top, .instanceMethod yX11_top, .selects RX11 yX11_top yX11_top, .initialized RX11, .fieldLink RX11 22 "MotionFloorModel$Hall" "kind" "[I", .fieldLink RX11 96 "MotionFloorModel$Hall" "seats" "I", .methodLink RX11 159 yX11_hasSeconder, .instanceMethod yX11_hasSeconder, .selects RX11 yX11_hasSeconder yX11_hasSeconder, .fieldLink RX11 15 "MotionFloorModel$Hall" "majority" "[I", .methodLink RX11 233 yX11_carries, .instanceMethod yX11_carries, .selects RX11 yX11_carries yX11_carries, .fieldLink RX11 121 "MotionFloorModel$Hall" "results" "I", .fieldLink RX11 93 "MotionFloorModel$Hall" "result" "[I", .fieldLink RX11 118 "MotionFloorModel$Hall" "entries" "I", .fieldLink RX11 112 "MotionFloorModel$Hall" "floor" "I", .methodLink RX11 227 yX11_goes, .instanceMethod yX11_goes, .selects RX11 yX11_goes yX11_goes, .methodLink RX11 236 yX11_carried, .instanceMethod yX11_carried, .selects RX11 yX11_carried yX11_carried, .fieldLink RX11 9 "MotionFloorModel$Hall" "isThere" "[Z", .fieldLink RX11 68 "MotionFloorModel$Hall" "ballot" "[B"]
def v_X11_told : List Cond := .code yX11_told cX11_told 7 (some .int) :: (e_X11_told ++ (wsX110 ++ (v_X11_top ++ (v_X11_hasSeconder ++ (v_X11_carries ++ (v_X11_goes ++ (v_X11_carried ++ [])))))))
theorem te_X11_told : GoodIn lw_tbl e_X11_told := wGc z117 (wGc z116 (wGc z91 (wGc z90 (wGc z89 (wGc z51 (wGc z78 (wGc z48 (wGc z112 (wGc z111 (wGc z110 (wGc z170 (wGc z169 (wGc z168 (wGc z167 (wGc z166 (wGc z165 (wGc z164 (wGc z118 (wGc z157 (wGc z156 (wGc z155 (wGc z163 (wGc z162 (wGc z161 (wGc z50 (wGc z59 (wG0)))))))))))))))))))))))))))
theorem t_X11_told : GoodIn lw_tbl v_X11_told := wGc z171 (wGa te_X11_told (wGa zcX11 (wGa t_X11_top (wGa t_X11_hasSeconder (wGa t_X11_carries (wGa t_X11_goes (wGa t_X11_carried (wG0))))))))
set_option maxHeartbeats 4000000 in
set_option maxRecDepth 100000 in
theorem c_X11_told (l : Launch) (G : va_G) (K : Nat → ClassId) (h : Nat) (g : Nat → Nat) (S0 : HS)  (sz : Nat) : Met l yX11_told v_X11_told ({ frames := 3, cells := 0, slots := 0, locals := 75 }) (va_Pc [.ref h] (hS G K h g sz S0 (p_X11_told S0))) (va_Qi (fun (r : Int32) (u : HS) => (r, u) = f_X11_told S0) (hB G K h g (va_A (hW K h g S0) sz)) (va_A (hW K h g S0) sz)) 0 0 (va_A (hW K h g S0) sz) := by
  refine Met.ofW (cc := cX11_told) (maxL := 7) (ret := (some .int)) (by decide) rfl ?_
  intro p e s m args below meth c s₁ B hml hv
  obtain ⟨rfl, ⟨hsz, hP, hK, hD0, hTE⟩, hp⟩ := hv
  have hx := B.exec
  have hb := B.bytes
  have hr := B.returns
  have hts := atoms_spec (ws := v_X11_told) B.pre
  have t_ := t_X11_told
  have mw : ∀ w ∈ e_X11_told, w ∈ v_X11_told := fun w h => List.mem_cons_of_mem _ (List.mem_append_left _ h)
  have hw := fun w (h : w ∈ e_X11_told) => hts w (mw w h)
  have iX11 : ∀ w ∈ wsX110, w ∈ v_X11_told := fun w h => List.mem_cons_of_mem _ (List.mem_append_right _ (List.mem_append_left _ h))
  have j_X11_top : ∀ w ∈ v_X11_top, w ∈ v_X11_told := fun w h => List.mem_cons_of_mem _ (List.mem_append_right _ (List.mem_append_right _ (List.mem_append_left _ h)))
  have j_X11_hasSeconder : ∀ w ∈ v_X11_hasSeconder, w ∈ v_X11_told := fun w h => List.mem_cons_of_mem _ (List.mem_append_right _ (List.mem_append_right _ (List.mem_append_right _ (List.mem_append_left _ h))))
  have j_X11_carries : ∀ w ∈ v_X11_carries, w ∈ v_X11_told := fun w h => List.mem_cons_of_mem _ (List.mem_append_right _ (List.mem_append_right _ (List.mem_append_right _ (List.mem_append_right _ (List.mem_append_left _ h)))))
  have j_X11_goes : ∀ w ∈ v_X11_goes, w ∈ v_X11_told := fun w h => List.mem_cons_of_mem _ (List.mem_append_right _ (List.mem_append_right _ (List.mem_append_right _ (List.mem_append_right _ (List.mem_append_right _ (List.mem_append_left _ h))))))
  have j_X11_carried : ∀ w ∈ v_X11_carried, w ∈ v_X11_told := fun w h => List.mem_cons_of_mem _ (List.mem_append_right _ (List.mem_append_right _ (List.mem_append_right _ (List.mem_append_right _ (List.mem_append_right _ (List.mem_append_right _ (List.mem_append_left _ h)))))))
  have hown : s.vm.findClass RX11 = some m.cls := findClass_of_methodNamed B.named
  have hlocks := B.notSynchronized
  subst hsz
  have hD := hD0.self (sz := s.heap.size)
  generalize hAe : va_A (hW K h g S0) s.heap.size = A at hD ⊢
  have hA : ∀ q : Nat, s.heap.size ≤ q → A q := fun q h => by rw [← hAe]; exact Or.inr h
  have hS : va_S A s.heap s.heap [] := va_S.rf
  have hl := lv_entry ([.ref h]) (n := 7) (Nat.le_of_ble_eq_true rfl)
  rw [lg_entry_eq]
  generalize (lg_sl ([.ref h]) ++ List.replicate (7 - (lg_sl ([.ref h])).length) Slot.unset).toArray = ls at hl ⊢
  have hl : lv_has ls 7 [(0, .ref h)] := hl
  refine wGen (fun Q hQ => ?_)
  obtain ⟨X, hX⟩ : ∃ X, f_X11_told S0 = X := ⟨_, rfl⟩
  have B_289 : ∀ (S : HS) (x1 x2 x3 x4 x5 x6 : Int32) (H : Heap) (locs : List Loc) (ls : Array Slot), b_X11_told_289 S x1 x2 x3 x4 x5 x6 = X → q_X11_told_289 S x1 x2 x3 x4 x5 x6 → va_P G vwCl (hW K h g S) H → va_D A (hW K h g S) → va_S A s.heap H locs → lv_has ls 7 [(0, .ref h), (1, .int x1), (2, .int x2), (3, .int x3), (4, .int x4), (5, .int x5), (6, .int x6)] → W p l e ({ frames := 3, cells := 0, slots := 0, locals := 75 } : Room) s m #[Value.ref h] below meth c H locs 0 0 Q (F0 m 289 ls []) := by
    intro S x1 x2 x3 x4 x5 x6 H locs ls hE hp hP hD hS hl
    unfold b_X11_told_289 at hE
    unfold q_X11_told_289 at hp
    refine lv_iload hx hb dX11_told_289 (lv_at hl 5 rfl) ?_
    subst hQ
    exact W.iret (v := x5) hx hb hr (fun t ht hW => ⟨⟨x5, S, rfl, hE.trans hX.symm, by rw [ht]; exact hP, hD⟩, hS.F ht⟩) hS.2.2 dX11_told_291
  have B_184 : ∀ (S : HS) (x1 x2 x3 x4 x5 : Int32) (H : Heap) (locs : List Loc) (ls : Array Slot), b_X11_told_184 S x1 x2 x3 x4 x5 = X → q_X11_told_184 S x1 x2 x3 x4 x5 → va_P G vwCl (hW K h g S) H → va_D A (hW K h g S) → va_S A s.heap H locs → lv_has ls 7 [(0, .ref h), (1, .int x1), (2, .int x2), (3, .int x3), (4, .int x4), (5, .int x5)] → W p l e ({ frames := 3, cells := 0, slots := 0, locals := 75 } : Room) s m #[Value.ref h] below meth c H locs 0 0 Q (F0 m 184 ls []) := by
    intro S x1 x2 x3 x4 x5 H locs ls hE hp hP hD hS hl
    unfold b_X11_told_184 at hE
    unfold q_X11_told_184 at hp
    refine lv_iconst (v := 5) hx hb dX11_told_184 (by decide) ?_
    refine lv_aload_n hx hb dX11_told_185 rfl (lv_at hl 0 rfl) ?_
    refine va_get (D := G) (ci := 8) (v := .int (S.1 8)) (C := RX11) (T := TX11) (N := 42) hx hb hts iX11 hown hK hP 0 rfl rfl 8 (by decide) (hw (.fieldLink RX11 121 "MotionFloorModel$Hall" "results" "I") (List.mem_of_getElem? (i := 15) rfl)) (fun _ h9 => h9) rfl dX11_told_186 ?_
    refine lv_imul hx hb dX11_told_189 ?_
    refine lv_istore (lv' := [(6, .int (5 * (S.1 8))), (0, .ref h), (1, .int x1), (2, .int x2), (3, .int x3), (4, .int x4), (5, .int x5)]) hx hb dX11_told_190 hl (by decide) rfl (fun ls hl => ?_)
    refine lv_aload_n hx hb dX11_told_192 rfl (lv_at hl 1 rfl) ?_
    refine va_get (D := G) (ci := 8) (v := .ref (g 41)) (C := RX11) (T := TX11) (N := 42) hx hb hts iX11 hown hK hP 0 rfl rfl 41 (by decide) (hw (.fieldLink RX11 93 "MotionFloorModel$Hall" "result" "[I") (List.mem_of_getElem? (i := 16) rfl)) (fun _ h9 => h9) rfl dX11_told_193 ?_
    refine lv_iload hx hb dX11_told_196 (lv_at hl 0 rfl) ?_
    refine lv_aload_n hx hb dX11_told_198 rfl (lv_at hl 1 rfl) ?_
    refine va_get (D := G) (ci := 8) (v := .int (S.1 7)) (C := RX11) (T := TX11) (N := 42) hx hb hts iX11 hown hK hP 0 rfl rfl 7 (by decide) (hw (.fieldLink RX11 118 "MotionFloorModel$Hall" "entries" "I") (List.mem_of_getElem? (i := 17) rfl)) (fun _ h9 => h9) rfl dX11_told_199 ?_
    obtain ⟨hy17, hp⟩ := hp
    refine va_iast hx hb hK hP hD hS 27 0 rfl rfl hy17 dX11_told_202 (fun H locs hP hD hS => ?_)
    rw [sA_41] at hP hD
    refine lv_aload_n hx hb dX11_told_203 rfl (lv_at hl 1 rfl) ?_
    refine va_get (D := G) (ci := 8) (v := .ref (g 41)) (C := RX11) (T := TX11) (N := 42) hx hb hts iX11 hown hK hP 0 rfl rfl 41 (by decide) (hw (.fieldLink RX11 93 "MotionFloorModel$Hall" "result" "[I") (List.mem_of_getElem? (i := 16) rfl)) (fun _ h9 => h9) rfl dX11_told_204 ?_
    refine lv_iload hx hb dX11_told_207 (lv_at hl 0 rfl) ?_
    refine lv_iconst (v := 1) hx hb dX11_told_209 (by decide) ?_
    refine lv_iadd hx hb dX11_told_210 ?_
    refine lv_iload_n hx hb dX11_told_211 rfl (lv_at hl 3 rfl) ?_
    obtain ⟨hy18, hp⟩ := hp
    refine va_iast hx hb hK hP hD hS 27 0 rfl rfl hy18 dX11_told_212 (fun H locs hP hD hS => ?_)
    rw [sA_41] at hP hD
    refine lv_aload_n hx hb dX11_told_213 rfl (lv_at hl 1 rfl) ?_
    refine va_get (D := G) (ci := 8) (v := .ref (g 41)) (C := RX11) (T := TX11) (N := 42) hx hb hts iX11 hown hK hP 0 rfl rfl 41 (by decide) (hw (.fieldLink RX11 93 "MotionFloorModel$Hall" "result" "[I") (List.mem_of_getElem? (i := 16) rfl)) (fun _ h9 => h9) rfl dX11_told_214 ?_
    refine lv_iload hx hb dX11_told_217 (lv_at hl 0 rfl) ?_
    refine lv_iconst (v := 2) hx hb dX11_told_219 (by decide) ?_
    refine lv_iadd hx hb dX11_told_220 ?_
    refine lv_iload hx hb dX11_told_221 (lv_at hl 6 rfl) ?_
    obtain ⟨hy19, hp⟩ := hp
    refine va_iast hx hb hK hP hD hS 27 0 rfl rfl hy19 dX11_told_223 (fun H locs hP hD hS => ?_)
    rw [sA_41] at hP hD
    refine lv_aload_n hx hb dX11_told_224 rfl (lv_at hl 1 rfl) ?_
    refine va_get (D := G) (ci := 8) (v := .ref (g 41)) (C := RX11) (T := TX11) (N := 42) hx hb hts iX11 hown hK hP 0 rfl rfl 41 (by decide) (hw (.fieldLink RX11 93 "MotionFloorModel$Hall" "result" "[I") (List.mem_of_getElem? (i := 16) rfl)) (fun _ h9 => h9) rfl dX11_told_225 ?_
    refine lv_iload hx hb dX11_told_228 (lv_at hl 0 rfl) ?_
    refine lv_iconst (v := 3) hx hb dX11_told_230 (by decide) ?_
    refine lv_iadd hx hb dX11_told_231 ?_
    refine lv_iload_n hx hb dX11_told_232 rfl (lv_at hl 4 rfl) ?_
    obtain ⟨hy20, hp⟩ := hp
    refine va_iast hx hb hK hP hD hS 27 0 rfl rfl hy20 dX11_told_233 (fun H locs hP hD hS => ?_)
    rw [sA_41] at hP hD
    refine lv_aload_n hx hb dX11_told_234 rfl (lv_at hl 1 rfl) ?_
    refine va_get (D := G) (ci := 8) (v := .ref (g 41)) (C := RX11) (T := TX11) (N := 42) hx hb hts iX11 hown hK hP 0 rfl rfl 41 (by decide) (hw (.fieldLink RX11 93 "MotionFloorModel$Hall" "result" "[I") (List.mem_of_getElem? (i := 16) rfl)) (fun _ h9 => h9) rfl dX11_told_235 ?_
    refine lv_iload hx hb dX11_told_238 (lv_at hl 0 rfl) ?_
    refine lv_iconst (v := 4) hx hb dX11_told_240 (by decide) ?_
    refine lv_iadd hx hb dX11_told_241 ?_
    refine lv_iload hx hb dX11_told_242 (lv_at hl 5 rfl) ?_
    obtain ⟨hy21, hp⟩ := hp
    refine va_iast hx hb hK hP hD hS 27 0 rfl rfl hy21 dX11_told_244 (fun H locs hP hD hS => ?_)
    rw [sA_41] at hP hD
    refine lv_aload_n hx hb dX11_told_245 rfl (lv_at hl 1 rfl) ?_
    refine lv_dup hx hb dX11_told_246 rfl ?_
    refine va_get (D := G) (ci := 8) (v := .int ((sA (sA (sA (sA (sA S 41 (5 * (S.1 8)).toNatClampNeg (S.1 7)) 41 ((5 * (S.1 8)) + 1).toNatClampNeg x2) 41 ((5 * (S.1 8)) + 2).toNatClampNeg x5) 41 ((5 * (S.1 8)) + 3).toNatClampNeg x3) 41 ((5 * (S.1 8)) + 4).toNatClampNeg x4).1 8)) (C := RX11) (T := TX11) (N := 42) hx hb hts iX11 hown hK hP 0 rfl rfl 8 (by decide) (hw (.fieldLink RX11 121 "MotionFloorModel$Hall" "results" "I") (List.mem_of_getElem? (i := 15) rfl)) (fun _ h9 => h9) rfl dX11_told_247 ?_
    refine lv_iconst (v := 1) hx hb dX11_told_250 (by decide) ?_
    refine lv_iadd hx hb dX11_told_251 ?_
    refine va_put (D := G) (ci := 8) (v := .int (((sA (sA (sA (sA (sA S 41 (5 * (S.1 8)).toNatClampNeg (S.1 7)) 41 ((5 * (S.1 8)) + 1).toNatClampNeg x2) 41 ((5 * (S.1 8)) + 2).toNatClampNeg x5) 41 ((5 * (S.1 8)) + 3).toNatClampNeg x3) 41 ((5 * (S.1 8)) + 4).toNatClampNeg x4).1 8) + 1)) (ty := .int) (C := RX11) (T := TX11) (N := 42) hx hb hts iX11 tyX11 tyX11_ok nmX11 hown hK hP hD hS 0 rfl rfl 8 (by decide) (hw (.fieldLink RX11 121 "MotionFloorModel$Hall" "results" "I") (List.mem_of_getElem? (i := 15) rfl)) (fun _ h9 => h9) rfl (by decide +kernel) rfl rfl (Nat.le_of_ble_eq_true rfl) dX11_told_252 (fun H locs hP hD hS => ?_)
    rw [sI_8] at hP hD
    refine lv_aload_n hx hb dX11_told_255 rfl (lv_at hl 1 rfl) ?_
    refine lv_iconst (v := (-1)) hx hb dX11_told_256 (by decide) ?_
    refine va_put (D := G) (ci := 8) (v := .int (-1)) (ty := .int) (C := RX11) (T := TX11) (N := 42) hx hb hts iX11 tyX11 tyX11_ok nmX11 hown hK hP hD hS 0 rfl rfl 5 (by decide) (hw (.fieldLink RX11 112 "MotionFloorModel$Hall" "floor" "I") (List.mem_of_getElem? (i := 18) rfl)) (fun _ h9 => h9) rfl (by decide +kernel) rfl rfl (Nat.le_of_ble_eq_true rfl) dX11_told_257 (fun H locs hP hD hS => ?_)
    rw [sI_5] at hP hD
    refine lv_iload hx hb dX11_told_260 (lv_at hl 6 rfl) ?_
    refine lv_iconst (v := 1) hx hb dX11_told_262 (by decide) ?_
    refine lv_icmp_ne (tgt := 275) hx hb dX11_told_263 (by decide) (fun c22 => ?_) (fun c22 => ?_)
    · rw [if_neg c22] at hE hp
      refine lv_aload_n hx hb dX11_told_275 rfl (lv_at hl 1 rfl) ?_
      obtain ⟨hy23, hp⟩ := hp
      refine hGov (va_runV (As := []) (rest := []) ⟨hx, hb, hml, hown, hts⟩ (c_X11_goes l G K h g (sI (sI (sA (sA (sA (sA (sA S 41 (5 * (S.1 8)).toNatClampNeg (S.1 7)) 41 ((5 * (S.1 8)) + 1).toNatClampNeg x2) 41 ((5 * (S.1 8)) + 2).toNatClampNeg x5) 41 ((5 * (S.1 8)) + 3).toNatClampNeg x3) 41 ((5 * (S.1 8)) + 4).toNatClampNeg x4) 8 (((sA (sA (sA (sA (sA S 41 (5 * (S.1 8)).toNatClampNeg (S.1 7)) 41 ((5 * (S.1 8)) + 1).toNatClampNeg x2) 41 ((5 * (S.1 8)) + 2).toNatClampNeg x5) 41 ((5 * (S.1 8)) + 3).toNatClampNeg x3) 41 ((5 * (S.1 8)) + 4).toNatClampNeg x4).1 8) + 1)) 5 (-1)) _) (cwV 0 hts (wGV t_ (mw (.methodLink RX11 227 yX11_goes) (List.mem_of_getElem? (i := 19) rfl)) (mw (.instanceMethod yX11_goes) (List.mem_of_getElem? (i := 20) rfl)) (mw (.selects RX11 yX11_goes yX11_goes) (List.mem_of_getElem? (i := 21) rfl)) (mw (.initialized RX11) (List.mem_of_getElem? (i := 5) rfl)) j_X11_goes) rfl rfl rfl (by decide +kernel) ⟨Nat.le_of_ble_eq_true rfl, Nat.le_of_ble_eq_true rfl⟩) (hPV hK hTE hP hD hy23) rfl rfl hl.1 rfl (lv_room (Nat.le_of_ble_eq_true rfl)) dX11_told_276 ⟨Nat.le_of_ble_eq_true rfl, Nat.le_of_ble_eq_true rfl⟩) hP hD hS hA (fun u24 H locs hv hP hD hS => ?_)
      rw [← hv] at hE hp
      dsimp only at hE hp
      unfold b_X11_told_a279 at hE
      unfold q_X11_told_a279 at hp
      refine lv_iload hx hb dX11_told_279 (lv_at hl 6 rfl) ?_
      refine lv_iconst (v := 4) hx hb dX11_told_281 (by decide) ?_
      refine lv_icmp_ne (tgt := 289) hx hb dX11_told_282 (by decide) (fun c26 => ?_) (fun c26 => ?_)
      · rw [if_neg c26] at hE hp
        exact B_289 u24 x1 x2 x3 x4 x5 (5 * (S.1 8)) _ _ _ hE hp hP hD hS (lv_sub hl [1, 2, 3, 4, 5, 6, 0] rfl)
      · rw [if_pos c26] at hE hp
        refine lv_aload_n hx hb dX11_told_285 rfl (lv_at hl 1 rfl) ?_
        obtain ⟨hy27, hp⟩ := hp
        refine hGov (va_runV (As := []) (rest := []) ⟨hx, hb, hml, hown, hts⟩ (c_X11_goes l G K h g u24 _) (cwV 0 hts (wGV t_ (mw (.methodLink RX11 227 yX11_goes) (List.mem_of_getElem? (i := 19) rfl)) (mw (.instanceMethod yX11_goes) (List.mem_of_getElem? (i := 20) rfl)) (mw (.selects RX11 yX11_goes yX11_goes) (List.mem_of_getElem? (i := 21) rfl)) (mw (.initialized RX11) (List.mem_of_getElem? (i := 5) rfl)) j_X11_goes) rfl rfl rfl (by decide +kernel) ⟨Nat.le_of_ble_eq_true rfl, Nat.le_of_ble_eq_true rfl⟩) (hPV hK hTE hP hD hy27) rfl rfl hl.1 rfl (lv_room (Nat.le_of_ble_eq_true rfl)) dX11_told_286 ⟨Nat.le_of_ble_eq_true rfl, Nat.le_of_ble_eq_true rfl⟩) hP hD hS hA (fun u28 H locs hv hP hD hS => ?_)
        rw [← hv] at hE hp
        dsimp only at hE hp
        unfold b_X11_told_a289 at hE
        unfold q_X11_told_a289 at hp
        refine lv_iload hx hb dX11_told_289 (lv_at hl 6 rfl) ?_
        subst hQ
        exact W.iret (v := x5) hx hb hr (fun t ht hW => ⟨⟨x5, u28, rfl, hE.trans hX.symm, by rw [ht]; exact hP, hD⟩, hS.F ht⟩) hS.2.2 dX11_told_291
    · rw [if_pos c22] at hE hp
      refine lv_aload_n hx hb dX11_told_266 rfl (lv_at hl 1 rfl) ?_
      refine lv_iload_n hx hb dX11_told_267 rfl (lv_at hl 2 rfl) ?_
      refine lv_iload_n hx hb dX11_told_268 rfl (lv_at hl 3 rfl) ?_
      obtain ⟨hy34, hp⟩ := hp
      refine hGov (va_runV (As := [.int x1, .int x2]) (rest := []) ⟨hx, hb, hml, hown, hts⟩ (c_X11_carried l G K h g (sI (sI (sA (sA (sA (sA (sA S 41 (5 * (S.1 8)).toNatClampNeg (S.1 7)) 41 ((5 * (S.1 8)) + 1).toNatClampNeg x2) 41 ((5 * (S.1 8)) + 2).toNatClampNeg x5) 41 ((5 * (S.1 8)) + 3).toNatClampNeg x3) 41 ((5 * (S.1 8)) + 4).toNatClampNeg x4) 8 (((sA (sA (sA (sA (sA S 41 (5 * (S.1 8)).toNatClampNeg (S.1 7)) 41 ((5 * (S.1 8)) + 1).toNatClampNeg x2) 41 ((5 * (S.1 8)) + 2).toNatClampNeg x5) 41 ((5 * (S.1 8)) + 3).toNatClampNeg x3) 41 ((5 * (S.1 8)) + 4).toNatClampNeg x4).1 8) + 1)) 5 (-1)) x1 x2 _) (cwV 2 hts (wGV t_ (mw (.methodLink RX11 236 yX11_carried) (List.mem_of_getElem? (i := 22) rfl)) (mw (.instanceMethod yX11_carried) (List.mem_of_getElem? (i := 23) rfl)) (mw (.selects RX11 yX11_carried yX11_carried) (List.mem_of_getElem? (i := 24) rfl)) (mw (.initialized RX11) (List.mem_of_getElem? (i := 5) rfl)) j_X11_carried) rfl rfl rfl (by decide +kernel) ⟨Nat.le_of_ble_eq_true rfl, Nat.le_of_ble_eq_true rfl⟩) (hPV hK hTE hP hD hy34) rfl rfl hl.1 rfl (lv_room (Nat.le_of_ble_eq_true rfl)) dX11_told_269 ⟨Nat.le_of_ble_eq_true rfl, Nat.le_of_ble_eq_true rfl⟩) hP hD hS hA (fun u35 H locs hv hP hD hS => ?_)
      rw [← hv] at hE hp
      dsimp only at hE hp
      unfold b_X11_told_a272 at hE
      unfold q_X11_told_a272 at hp
      refine lv_goto (tgt := 289) hx hb dX11_told_272 (by decide) ?_
      exact B_289 u35 x1 x2 x3 x4 x5 (5 * (S.1 8)) _ _ _ hE hp hP hD hS (lv_sub hl [1, 2, 3, 4, 5, 6, 0] rfl)
  have B_182 : ∀ (S : HS) (x1 x2 x3 x4 x5 y0 : Int32) (H : Heap) (locs : List Loc) (ls : Array Slot), b_X11_told_182 S x1 x2 x3 x4 x5 y0 = X → q_X11_told_182 S x1 x2 x3 x4 x5 y0 → va_P G vwCl (hW K h g S) H → va_D A (hW K h g S) → va_S A s.heap H locs → lv_has ls 7 [(0, .ref h), (1, .int x1), (2, .int x2), (3, .int x3), (4, .int x4), (5, .int x5)] → W p l e ({ frames := 3, cells := 0, slots := 0, locals := 75 } : Room) s m #[Value.ref h] below meth c H locs 0 0 Q (F0 m 182 ls [.int y0]) := by
    intro S x1 x2 x3 x4 x5 y0 H locs ls hE hp hP hD hS hl
    unfold b_X11_told_182 at hE
    unfold q_X11_told_182 at hp
    refine lv_istore (lv' := [(5, .int y0), (0, .ref h), (1, .int x1), (2, .int x2), (3, .int x3), (4, .int x4)]) hx hb dX11_told_182 hl (by decide) rfl (fun ls hl => ?_)
    exact B_184 S x1 x2 x3 x4 y0 _ _ _ hE hp hP hD hS (lv_sub hl [1, 2, 3, 4, 5, 0] rfl)
  have B_143 : ∀ (S : HS) (x1 x2 x3 x4 x5 y0 : Int32) (H : Heap) (locs : List Loc) (ls : Array Slot), b_X11_told_143 S x1 x2 x3 x4 x5 y0 = X → q_X11_told_143 S x1 x2 x3 x4 x5 y0 → va_P G vwCl (hW K h g S) H → va_D A (hW K h g S) → va_S A s.heap H locs → lv_has ls 7 [(0, .ref h), (1, .int x1), (2, .int x2), (3, .int x3), (4, .int x4), (5, .int x5)] → W p l e ({ frames := 3, cells := 0, slots := 0, locals := 75 } : Room) s m #[Value.ref h] below meth c H locs 0 0 Q (F0 m 143 ls [.int y0]) := by
    intro S x1 x2 x3 x4 x5 y0 H locs ls hE hp hP hD hS hl
    unfold b_X11_told_143 at hE
    unfold q_X11_told_143 at hp
    refine lv_istore (lv' := [(5, .int y0), (0, .ref h), (1, .int x1), (2, .int x2), (3, .int x3), (4, .int x4)]) hx hb dX11_told_143 hl (by decide) rfl (fun ls hl => ?_)
    refine lv_goto (tgt := 184) hx hb dX11_told_145 (by decide) ?_
    exact B_184 S x1 x2 x3 x4 y0 _ _ _ hE hp hP hD hS (lv_sub hl [1, 2, 3, 4, 5, 0] rfl)
  have B_142 : ∀ (S : HS) (x1 x2 x3 x4 x5 : Int32) (H : Heap) (locs : List Loc) (ls : Array Slot), b_X11_told_142 S x1 x2 x3 x4 x5 = X → q_X11_told_142 S x1 x2 x3 x4 x5 → va_P G vwCl (hW K h g S) H → va_D A (hW K h g S) → va_S A s.heap H locs → lv_has ls 7 [(0, .ref h), (1, .int x1), (2, .int x2), (3, .int x3), (4, .int x4), (5, .int x5)] → W p l e ({ frames := 3, cells := 0, slots := 0, locals := 75 } : Room) s m #[Value.ref h] below meth c H locs 0 0 Q (F0 m 142 ls []) := by
    intro S x1 x2 x3 x4 x5 H locs ls hE hp hP hD hS hl
    unfold b_X11_told_142 at hE
    unfold q_X11_told_142 at hp
    refine lv_iconst (v := 4) hx hb dX11_told_142 (by decide) ?_
    exact B_143 S x1 x2 x3 x4 x5 4 _ _ _ hE hp hP hD hS (lv_sub hl [0, 1, 2, 3, 4, 5] rfl)
  have B_119 : ∀ (S : HS) (x1 x2 x3 x4 x5 : Int32) (H : Heap) (locs : List Loc) (ls : Array Slot), b_X11_told_119 S x1 x2 x3 x4 x5 = X → q_X11_told_119 S x1 x2 x3 x4 x5 → va_P G vwCl (hW K h g S) H → va_D A (hW K h g S) → va_S A s.heap H locs → lv_has ls 7 [(0, .ref h), (1, .int x1), (2, .int x2), (3, .int x3), (4, .int x4), (5, .int x5)] → W p l e ({ frames := 3, cells := 0, slots := 0, locals := 75 } : Room) s m #[Value.ref h] below meth c H locs 0 0 Q (F0 m 119 ls []) := by
    intro S x1 x2 x3 x4 x5 H locs ls hE hp hP hD hS hl
    unfold b_X11_told_119 at hE
    unfold q_X11_told_119 at hp
    refine lv_iload_n hx hb dX11_told_119 rfl (lv_at hl 2 rfl) ?_
    refine lv_bipush (v := 9) hx hb dX11_told_120 (by decide) ?_
    refine lv_icmp_ne (tgt := 148) hx hb dX11_told_122 (by decide) (fun c7 => ?_) (fun c7 => ?_)
    · rw [if_neg c7] at hE hp
      refine lv_aload_n hx hb dX11_told_148 rfl (lv_at hl 0 rfl) ?_
      obtain ⟨hy8, hp⟩ := hp
      refine hGoi (va_runV (As := []) (rest := []) ⟨hx, hb, hml, hown, hts⟩ (c_X11_hasSeconder l G K h g S _) (cwV 0 hts (wGV t_ (mw (.methodLink RX11 159 yX11_hasSeconder) (List.mem_of_getElem? (i := 8) rfl)) (mw (.instanceMethod yX11_hasSeconder) (List.mem_of_getElem? (i := 9) rfl)) (mw (.selects RX11 yX11_hasSeconder yX11_hasSeconder) (List.mem_of_getElem? (i := 10) rfl)) (mw (.initialized RX11) (List.mem_of_getElem? (i := 5) rfl)) j_X11_hasSeconder) rfl rfl rfl (by decide +kernel) ⟨Nat.le_of_ble_eq_true rfl, Nat.le_of_ble_eq_true rfl⟩) (hPV hK hTE hP hD hy8) rfl rfl hl.1 rfl (lv_room (Nat.le_of_ble_eq_true rfl)) dX11_told_149 ⟨Nat.le_of_ble_eq_true rfl, Nat.le_of_ble_eq_true rfl⟩) hP hD hS hA (fun r10 u9 H locs hv hP hD hS => ?_)
      rw [← hv] at hE hp
      dsimp only at hE hp
      unfold b_X11_told_a152 at hE
      unfold q_X11_told_a152 at hp
      refine lv_if_ne (tgt := 161) hx hb dX11_told_152 (by decide) (fun c11 => ?_) (fun c11 => ?_)
      · rw [if_neg c11] at hE hp
        refine lv_aload_n hx hb dX11_told_161 rfl (lv_at hl 0 rfl) ?_
        refine lv_aload_n hx hb dX11_told_162 rfl (lv_at hl 0 rfl) ?_
        refine va_get (D := G) (ci := 8) (v := .ref (g 12)) (C := RX11) (T := TX11) (N := 42) hx hb hts iX11 hown hK hP 0 rfl rfl 12 (by decide) (hw (.fieldLink RX11 15 "MotionFloorModel$Hall" "majority" "[I") (List.mem_of_getElem? (i := 11) rfl)) (fun _ h9 => h9) rfl dX11_told_163 ?_
        refine lv_iload_n hx hb dX11_told_166 rfl (lv_at hl 2 rfl) ?_
        obtain ⟨hy12, hp⟩ := hp
        refine va_iald hx hb hK hP 2 0 rfl rfl hy12 dX11_told_167 ?_
        refine lv_iload_n hx hb dX11_told_168 rfl (lv_at hl 3 rfl) ?_
        refine lv_iload hx hb dX11_told_169 (lv_at hl 4 rfl) ?_
        obtain ⟨hy13, hp⟩ := hp
        refine hGoi (va_runV (As := [.int (u9.2 12 x2.toNatClampNeg), .int x3, .int x4]) (rest := []) ⟨hx, hb, hml, hown, hts⟩ (c_X11_carries l G K h g u9 (u9.2 12 x2.toNatClampNeg) x3 x4 _) (cwV 3 hts (wGV t_ (mw (.methodLink RX11 233 yX11_carries) (List.mem_of_getElem? (i := 12) rfl)) (mw (.instanceMethod yX11_carries) (List.mem_of_getElem? (i := 13) rfl)) (mw (.selects RX11 yX11_carries yX11_carries) (List.mem_of_getElem? (i := 14) rfl)) (mw (.initialized RX11) (List.mem_of_getElem? (i := 5) rfl)) j_X11_carries) rfl rfl rfl (by decide +kernel) ⟨Nat.le_of_ble_eq_true rfl, Nat.le_of_ble_eq_true rfl⟩) (hPV hK hTE hP hD hy13) rfl rfl hl.1 rfl (lv_room (Nat.le_of_ble_eq_true rfl)) dX11_told_171 ⟨Nat.le_of_ble_eq_true rfl, Nat.le_of_ble_eq_true rfl⟩) hP hD hS hA (fun r15 u14 H locs hv hP hD hS => ?_)
        rw [← hv] at hE hp
        dsimp only at hE hp
        unfold b_X11_told_a174 at hE
        unfold q_X11_told_a174 at hp
        refine lv_if_eq (tgt := 181) hx hb dX11_told_174 (by decide) (fun c16 => ?_) (fun c16 => ?_)
        · rw [if_pos c16] at hE hp
          refine lv_iconst (v := 2) hx hb dX11_told_181 (by decide) ?_
          exact B_182 u14 x1 x2 x3 x4 x5 2 _ _ _ hE hp hP hD hS (lv_sub hl [0, 1, 2, 3, 4, 5] rfl)
        · rw [if_neg c16] at hE hp
          refine lv_iconst (v := 1) hx hb dX11_told_177 (by decide) ?_
          refine lv_goto (tgt := 182) hx hb dX11_told_178 (by decide) ?_
          exact B_182 u14 x1 x2 x3 x4 x5 1 _ _ _ hE hp hP hD hS (lv_sub hl [0, 1, 2, 3, 4, 5] rfl)
      · rw [if_pos c11] at hE hp
        refine lv_iconst (v := 3) hx hb dX11_told_155 (by decide) ?_
        refine lv_istore (lv' := [(5, .int 3), (0, .ref h), (1, .int x1), (2, .int x2), (3, .int x3), (4, .int x4)]) hx hb dX11_told_156 hl (by decide) rfl (fun ls hl => ?_)
        refine lv_goto (tgt := 184) hx hb dX11_told_158 (by decide) ?_
        exact B_184 u9 x1 x2 x3 x4 3 _ _ _ hE hp hP hD hS (lv_sub hl [1, 2, 3, 4, 5, 0] rfl)
    · rw [if_pos c7] at hE hp
      refine lv_aload_n hx hb dX11_told_125 rfl (lv_at hl 0 rfl) ?_
      obtain ⟨hy44, hp⟩ := hp
      refine hGoi (va_runV (As := []) (rest := []) ⟨hx, hb, hml, hown, hts⟩ (c_X11_hasSeconder l G K h g S _) (cwV 0 hts (wGV t_ (mw (.methodLink RX11 159 yX11_hasSeconder) (List.mem_of_getElem? (i := 8) rfl)) (mw (.instanceMethod yX11_hasSeconder) (List.mem_of_getElem? (i := 9) rfl)) (mw (.selects RX11 yX11_hasSeconder yX11_hasSeconder) (List.mem_of_getElem? (i := 10) rfl)) (mw (.initialized RX11) (List.mem_of_getElem? (i := 5) rfl)) j_X11_hasSeconder) rfl rfl rfl (by decide +kernel) ⟨Nat.le_of_ble_eq_true rfl, Nat.le_of_ble_eq_true rfl⟩) (hPV hK hTE hP hD hy44) rfl rfl hl.1 rfl (lv_room (Nat.le_of_ble_eq_true rfl)) dX11_told_126 ⟨Nat.le_of_ble_eq_true rfl, Nat.le_of_ble_eq_true rfl⟩) hP hD hS hA (fun r46 u45 H locs hv hP hD hS => ?_)
      rw [← hv] at hE hp
      dsimp only at hE hp
      unfold b_X11_told_a129 at hE
      unfold q_X11_told_a129 at hp
      refine lv_if_eq (tgt := 142) hx hb dX11_told_129 (by decide) (fun c47 => ?_) (fun c47 => ?_)
      · rw [if_pos c47] at hE hp
        exact B_142 u45 x1 x2 x3 x4 x5 _ _ _ hE hp hP hD hS (lv_sub hl [0, 1, 2, 3, 4, 5] rfl)
      · rw [if_neg c47] at hE hp
        refine lv_iload hx hb dX11_told_132 (lv_at hl 4 rfl) ?_
        refine lv_iload_n hx hb dX11_told_134 rfl (lv_at hl 3 rfl) ?_
        refine lv_icmp_le (tgt := 142) hx hb dX11_told_135 (by decide) (fun c48 => ?_) (fun c48 => ?_)
        · rw [if_pos c48] at hE hp
          exact B_142 u45 x1 x2 x3 x4 x5 _ _ _ hE hp hP hD hS (lv_sub hl [0, 1, 2, 3, 4, 5] rfl)
        · rw [if_neg c48] at hE hp
          refine lv_iconst (v := 5) hx hb dX11_told_138 (by decide) ?_
          refine lv_goto (tgt := 143) hx hb dX11_told_139 (by decide) ?_
          exact B_143 u45 x1 x2 x3 x4 x5 5 _ _ _ hE hp hP hD hS (lv_sub hl [0, 1, 2, 3, 4, 5] rfl)
  have L_33 : ∀ (n : Nat) (S : HS) (x1 x2 x3 x4 x5 : Int32) (H : Heap) (locs : List Loc) (ls : Array Slot), lp_X11_told_33 n S x1 x2 x3 x4 x5 = X → lq_X11_told_33 n S x1 x2 x3 x4 x5 → va_P G vwCl (hW K h g S) H → va_D A (hW K h g S) → va_S A s.heap H locs → lv_has ls 7 [(0, .ref h), (1, .int x1), (2, .int x2), (3, .int x3), (4, .int x4), (5, .int x5)] → W p l e ({ frames := 3, cells := 0, slots := 0, locals := 75 } : Room) s m #[Value.ref h] below meth c H locs 0 0 Q (F0 m 33 ls []) := by
    intro n1
    induction n1 with
    | zero => intro S x1 x2 x3 x4 x5 H locs ls hE hp; exact False.elim hp
    | succ n1 ih1 =>
      intro S x1 x2 x3 x4 x5 H locs ls hO1 hp hP hD hS hl
      rw [lp_X11_told_33] at hO1
      rw [lq_X11_told_33] at hp
      obtain ⟨hp, hq1⟩ := hp
      generalize hE : st_X11_told_33 S x1 x2 x3 x4 x5 = Y1 at hO1 hq1
      unfold st_X11_told_33 at hE
      unfold ps_X11_told_33 at hp
      have B_113 : ∀ (S : HS) (x1 x2 x3 x4 x5 : Int32) (H : Heap) (locs : List Loc) (ls : Array Slot), b_X11_told_113 S x1 x2 x3 x4 x5 = Y1 → q_X11_told_113 S x1 x2 x3 x4 x5 → va_P G vwCl (hW K h g S) H → va_D A (hW K h g S) → va_S A s.heap H locs → lv_has ls 7 [(0, .ref h), (1, .int x1), (2, .int x2), (3, .int x3), (4, .int x4), (5, .int x5)] → W p l e ({ frames := 3, cells := 0, slots := 0, locals := 75 } : Room) s m #[Value.ref h] below meth c H locs 0 0 Q (F0 m 113 ls []) := by
        intro S x1 x2 x3 x4 x5 H locs ls hE hp hP hD hS hl
        unfold b_X11_told_113 at hE
        unfold q_X11_told_113 at hp
        refine lv_iinc (v := (x5 + 1)) (lv' := [(5, .int (x5 + 1)), (0, .ref h), (1, .int x1), (2, .int x2), (3, .int x3), (4, .int x4)]) hx hb dX11_told_113 hl (k := 5) rfl rfl (by decide) rfl (fun ls hl => ?_)
        refine lv_goto (tgt := 33) hx hb dX11_told_116 (by decide) ?_
        subst hE
        dsimp only at hO1 hq1
        exact ih1 S x1 x2 x3 x4 (x5 + 1) _ _ _ hO1 hq1 hP hD hS (lv_sub hl [1, 2, 3, 4, 5, 0] rfl)
      have B_110 : ∀ (S : HS) (x1 x2 x3 x4 x5 y0 y1 : Int32) (H : Heap) (locs : List Loc) (ls : Array Slot), b_X11_told_110 S x1 x2 x3 x4 x5 y0 y1 = Y1 → q_X11_told_110 S x1 x2 x3 x4 x5 y0 y1 → va_P G vwCl (hW K h g S) H → va_D A (hW K h g S) → va_S A s.heap H locs → lv_has ls 7 [(0, .ref h), (1, .int x1), (2, .int x2), (3, .int x3), (4, .int x4), (5, .int x5)] → W p l e ({ frames := 3, cells := 0, slots := 0, locals := 75 } : Room) s m #[Value.ref h] below meth c H locs 0 0 Q (F0 m 110 ls [.int y0, .int y1]) := by
        intro S x1 x2 x3 x4 x5 y0 y1 H locs ls hE hp hP hD hS hl
        unfold b_X11_told_110 at hE
        unfold q_X11_told_110 at hp
        refine lv_iadd hx hb dX11_told_110 ?_
        refine lv_istore (lv' := [(4, .int (y1 + y0)), (0, .ref h), (1, .int x1), (2, .int x2), (3, .int x3), (5, .int x5)]) hx hb dX11_told_111 hl (by decide) rfl (fun ls hl => ?_)
        exact B_113 S x1 x2 x3 (y1 + y0) x5 _ _ _ hE hp hP hD hS (lv_sub hl [1, 2, 3, 4, 0, 5] rfl)
      have B_85 : ∀ (S : HS) (x1 x2 x3 x4 x5 y0 y1 : Int32) (H : Heap) (locs : List Loc) (ls : Array Slot), b_X11_told_85 S x1 x2 x3 x4 x5 y0 y1 = Y1 → q_X11_told_85 S x1 x2 x3 x4 x5 y0 y1 → va_P G vwCl (hW K h g S) H → va_D A (hW K h g S) → va_S A s.heap H locs → lv_has ls 7 [(0, .ref h), (1, .int x1), (2, .int x2), (3, .int x3), (4, .int x4), (5, .int x5)] → W p l e ({ frames := 3, cells := 0, slots := 0, locals := 75 } : Room) s m #[Value.ref h] below meth c H locs 0 0 Q (F0 m 85 ls [.int y0, .int y1]) := by
        intro S x1 x2 x3 x4 x5 y0 y1 H locs ls hE hp hP hD hS hl
        unfold b_X11_told_85 at hE
        unfold q_X11_told_85 at hp
        refine lv_iadd hx hb dX11_told_85 ?_
        refine lv_istore_n (lv' := [(3, .int (y1 + y0)), (0, .ref h), (1, .int x1), (2, .int x2), (4, .int x4), (5, .int x5)]) hx hb dX11_told_86 rfl hl (by decide) rfl (fun ls hl => ?_)
        refine lv_iload hx hb dX11_told_87 (lv_at hl 4 rfl) ?_
        refine lv_aload_n hx hb dX11_told_89 rfl (lv_at hl 1 rfl) ?_
        refine va_get (D := G) (ci := 8) (v := .ref (g 29)) (C := RX11) (T := TX11) (N := 42) hx hb hts iX11 hown hK hP 0 rfl rfl 29 (by decide) (hw (.fieldLink RX11 68 "MotionFloorModel$Hall" "ballot" "[B") (List.mem_of_getElem? (i := 26) rfl)) (fun _ h9 => h9) rfl dX11_told_90 ?_
        refine lv_sipush (v := 200) hx hb dX11_told_93 (by decide) ?_
        refine lv_iload_n hx hb dX11_told_96 rfl (lv_at hl 2 rfl) ?_
        refine lv_imul hx hb dX11_told_97 ?_
        refine lv_iload hx hb dX11_told_98 (lv_at hl 5 rfl) ?_
        refine lv_iadd hx hb dX11_told_100 ?_
        obtain ⟨hy59, hp⟩ := hp
        refine va_bald hx hb hK hP 19 2 rfl rfl hy59 dX11_told_101 ?_
        refine lv_if_ne (tgt := 109) hx hb dX11_told_102 (by decide) (fun c60 => ?_) (fun c60 => ?_)
        · rw [if_neg c60] at hE hp
          refine lv_iconst (v := 0) hx hb dX11_told_109 (by decide) ?_
          exact B_110 S x1 x2 (y1 + y0) x4 x5 0 x4 _ _ _ hE hp hP hD hS (lv_sub hl [1, 2, 3, 0, 4, 5] rfl)
        · rw [if_pos c60] at hE hp
          refine lv_iconst (v := 1) hx hb dX11_told_105 (by decide) ?_
          refine lv_goto (tgt := 110) hx hb dX11_told_106 (by decide) ?_
          exact B_110 S x1 x2 (y1 + y0) x4 x5 1 x4 _ _ _ hE hp hP hD hS (lv_sub hl [1, 2, 3, 0, 4, 5] rfl)
      refine lv_iload hx hb dX11_told_33 (lv_at hl 5 rfl) ?_
      refine lv_aload_n hx hb dX11_told_35 rfl (lv_at hl 0 rfl) ?_
      refine va_get (D := G) (ci := 8) (v := .int (S.1 0)) (C := RX11) (T := TX11) (N := 42) hx hb hts iX11 hown hK hP 0 rfl rfl 0 (by decide) (hw (.fieldLink RX11 96 "MotionFloorModel$Hall" "seats" "I") (List.mem_of_getElem? (i := 7) rfl)) (fun _ h9 => h9) rfl dX11_told_36 ?_
      refine lv_icmp_ge (tgt := 119) hx hb dX11_told_39 (by decide) (fun c6 => ?_) (fun c6 => ?_)
      · rw [if_pos c6] at hE hp
        subst hE
        have hE := hO1
        dsimp only at hE
        exact B_119 S x1 x2 x3 x4 x5 _ _ _ hE hp hP hD hS (lv_sub hl [0, 1, 2, 3, 4, 5] rfl)
      · rw [if_neg c6] at hE hp
        refine lv_aload_n hx hb dX11_told_42 rfl (lv_at hl 0 rfl) ?_
        obtain ⟨hy51, hp⟩ := hp
        refine hGoi (va_runV (As := []) (rest := []) ⟨hx, hb, hml, hown, hts⟩ (c_X11_hasSeconder l G K h g S _) (cwV 0 hts (wGV t_ (mw (.methodLink RX11 159 yX11_hasSeconder) (List.mem_of_getElem? (i := 8) rfl)) (mw (.instanceMethod yX11_hasSeconder) (List.mem_of_getElem? (i := 9) rfl)) (mw (.selects RX11 yX11_hasSeconder yX11_hasSeconder) (List.mem_of_getElem? (i := 10) rfl)) (mw (.initialized RX11) (List.mem_of_getElem? (i := 5) rfl)) j_X11_hasSeconder) rfl rfl rfl (by decide +kernel) ⟨Nat.le_of_ble_eq_true rfl, Nat.le_of_ble_eq_true rfl⟩) (hPV hK hTE hP hD hy51) rfl rfl hl.1 rfl (lv_room (Nat.le_of_ble_eq_true rfl)) dX11_told_43 ⟨Nat.le_of_ble_eq_true rfl, Nat.le_of_ble_eq_true rfl⟩) hP hD hS hA (fun r53 u52 H locs hv hP hD hS => ?_)
        rw [← hv] at hE hp
        dsimp only at hE hp
        unfold b_X11_told_a46 at hE
        unfold q_X11_told_a46 at hp
        refine lv_if_eq (tgt := 119) hx hb dX11_told_46 (by decide) (fun c54 => ?_) (fun c54 => ?_)
        · rw [if_pos c54] at hE hp
          subst hE
          have hE := hO1
          dsimp only at hE
          exact B_119 u52 x1 x2 x3 x4 x5 _ _ _ hE hp hP hD hS (lv_sub hl [0, 1, 2, 3, 4, 5] rfl)
        · rw [if_neg c54] at hE hp
          refine lv_aload_n hx hb dX11_told_49 rfl (lv_at hl 0 rfl) ?_
          refine va_get (D := G) (ci := 8) (v := .ref (g 11)) (C := RX11) (T := TX11) (N := 42) hx hb hts iX11 hown hK hP 0 rfl rfl 11 (by decide) (hw (.fieldLink RX11 9 "MotionFloorModel$Hall" "isThere" "[Z") (List.mem_of_getElem? (i := 25) rfl)) (fun _ h9 => h9) rfl dX11_told_50 ?_
          refine lv_iload hx hb dX11_told_53 (lv_at hl 5 rfl) ?_
          obtain ⟨hy55, hp⟩ := hp
          refine va_zald hx hb hK hP 1 1 rfl rfl hy55 dX11_told_55 ?_
          refine lv_if_ne (tgt := 62) hx hb dX11_told_56 (by decide) (fun c56 => ?_) (fun c56 => ?_)
          · rw [if_neg c56] at hE hp
            refine lv_iload_n hx hb dX11_told_62 rfl (lv_at hl 3 rfl) ?_
            refine lv_aload_n hx hb dX11_told_63 rfl (lv_at hl 0 rfl) ?_
            refine va_get (D := G) (ci := 8) (v := .ref (g 29)) (C := RX11) (T := TX11) (N := 42) hx hb hts iX11 hown hK hP 0 rfl rfl 29 (by decide) (hw (.fieldLink RX11 68 "MotionFloorModel$Hall" "ballot" "[B") (List.mem_of_getElem? (i := 26) rfl)) (fun _ h9 => h9) rfl dX11_told_64 ?_
            refine lv_sipush (v := 200) hx hb dX11_told_67 (by decide) ?_
            refine lv_iload_n hx hb dX11_told_70 rfl (lv_at hl 1 rfl) ?_
            refine lv_imul hx hb dX11_told_71 ?_
            refine lv_iload hx hb dX11_told_72 (lv_at hl 5 rfl) ?_
            refine lv_iadd hx hb dX11_told_74 ?_
            obtain ⟨hy57, hp⟩ := hp
            refine va_bald hx hb hK hP 19 2 rfl rfl hy57 dX11_told_75 ?_
            refine lv_iconst (v := 1) hx hb dX11_told_76 (by decide) ?_
            refine lv_icmp_ne (tgt := 84) hx hb dX11_told_77 (by decide) (fun c58 => ?_) (fun c58 => ?_)
            · rw [if_neg c58] at hE hp
              refine lv_iconst (v := 0) hx hb dX11_told_84 (by decide) ?_
              exact B_85 u52 x1 x2 x3 x4 x5 0 x3 _ _ _ hE hp hP hD hS (lv_sub hl [0, 1, 2, 3, 4, 5] rfl)
            · rw [if_pos c58] at hE hp
              refine lv_iconst (v := 1) hx hb dX11_told_80 (by decide) ?_
              refine lv_goto (tgt := 85) hx hb dX11_told_81 (by decide) ?_
              exact B_85 u52 x1 x2 x3 x4 x5 1 x3 _ _ _ hE hp hP hD hS (lv_sub hl [0, 1, 2, 3, 4, 5] rfl)
          · rw [if_pos c56] at hE hp
            refine lv_goto (tgt := 113) hx hb dX11_told_59 (by decide) ?_
            exact B_113 u52 x1 x2 x3 x4 x5 _ _ _ hE hp hP hD hS (lv_sub hl [0, 1, 2, 3, 4, 5] rfl)
  have B_M : ∀ (S : HS) (H : Heap) (locs : List Loc) (ls : Array Slot), f_X11_told S = X → p_X11_told S → va_P G vwCl (hW K h g S) H → va_D A (hW K h g S) → va_S A s.heap H locs → lv_has ls 7 [(0, .ref h)] → W p l e ({ frames := 3, cells := 0, slots := 0, locals := 75 } : Room) s m #[Value.ref h] below meth c H locs 0 0 Q (F0 m 0 ls []) := by
    intro S H locs ls hE hp hP hD hS hl
    unfold f_X11_told at hE
    unfold p_X11_told at hp
    refine lv_aload_n hx hb dX11_told_0 rfl (lv_at hl 0 rfl) ?_
    refine va_get (D := G) (ci := 8) (v := .int (S.1 1)) (C := RX11) (T := TX11) (N := 42) hx hb hts iX11 hown hK hP 0 rfl rfl 1 (by decide) (hw (.fieldLink RX11 100 "MotionFloorModel$Hall" "there" "I") (List.mem_of_getElem? (i := 0) rfl)) (fun _ h9 => h9) rfl dX11_told_1 ?_
    refine lv_aload_n hx hb dX11_told_4 rfl (lv_at hl 0 rfl) ?_
    refine va_get (D := G) (ci := 8) (v := .int (S.1 3)) (C := RX11) (T := TX11) (N := 42) hx hb hts iX11 hown hK hP 0 rfl rfl 3 (by decide) (hw (.fieldLink RX11 106 "MotionFloorModel$Hall" "quorum" "I") (List.mem_of_getElem? (i := 1) rfl)) (fun _ h9 => h9) rfl dX11_told_5 ?_
    refine lv_icmp_ge (tgt := 13) hx hb dX11_told_8 (by decide) (fun c1 => ?_) (fun c1 => ?_)
    · rw [if_pos c1] at hE hp
      refine lv_aload_n hx hb dX11_told_13 rfl (lv_at hl 0 rfl) ?_
      obtain ⟨hy2, hp⟩ := hp
      refine hGoi (va_runV (As := []) (rest := []) ⟨hx, hb, hml, hown, hts⟩ (c_X11_top l G K h g S _) (cwV 0 hts (wGV t_ (mw (.methodLink RX11 155 yX11_top) (List.mem_of_getElem? (i := 2) rfl)) (mw (.instanceMethod yX11_top) (List.mem_of_getElem? (i := 3) rfl)) (mw (.selects RX11 yX11_top yX11_top) (List.mem_of_getElem? (i := 4) rfl)) (mw (.initialized RX11) (List.mem_of_getElem? (i := 5) rfl)) j_X11_top) rfl rfl rfl (by decide +kernel) ⟨Nat.le_of_ble_eq_true rfl, Nat.le_of_ble_eq_true rfl⟩) (hPV hK hTE hP hD hy2) rfl rfl hl.1 rfl (lv_room (Nat.le_of_ble_eq_true rfl)) dX11_told_14 ⟨Nat.le_of_ble_eq_true rfl, Nat.le_of_ble_eq_true rfl⟩) hP hD hS hA (fun r4 u3 H locs hv hP hD hS => ?_)
      rw [← hv] at hE hp
      dsimp only at hE hp
      unfold b_X11_told_a17 at hE
      unfold q_X11_told_a17 at hp
      refine lv_istore_n (lv' := [(1, .int r4), (0, .ref h)]) hx hb dX11_told_17 rfl hl (by decide) rfl (fun ls hl => ?_)
      refine lv_aload_n hx hb dX11_told_18 rfl (lv_at hl 1 rfl) ?_
      refine va_get (D := G) (ci := 8) (v := .ref (g 14)) (C := RX11) (T := TX11) (N := 42) hx hb hts iX11 hown hK hP 0 rfl rfl 14 (by decide) (hw (.fieldLink RX11 22 "MotionFloorModel$Hall" "kind" "[I") (List.mem_of_getElem? (i := 6) rfl)) (fun _ h9 => h9) rfl dX11_told_19 ?_
      refine lv_iload_n hx hb dX11_told_22 rfl (lv_at hl 0 rfl) ?_
      obtain ⟨hy5, hp⟩ := hp
      refine va_iald hx hb hK hP 4 0 rfl rfl hy5 dX11_told_23 ?_
      refine lv_istore_n (lv' := [(2, .int (u3.2 14 r4.toNatClampNeg)), (1, .int r4), (0, .ref h)]) hx hb dX11_told_24 rfl hl (by decide) rfl (fun ls hl => ?_)
      refine lv_iconst (v := 0) hx hb dX11_told_25 (by decide) ?_
      refine lv_istore_n (lv' := [(3, .int 0), (2, .int (u3.2 14 r4.toNatClampNeg)), (1, .int r4), (0, .ref h)]) hx hb dX11_told_26 rfl hl (by decide) rfl (fun ls hl => ?_)
      refine lv_iconst (v := 0) hx hb dX11_told_27 (by decide) ?_
      refine lv_istore (lv' := [(4, .int 0), (3, .int 0), (2, .int (u3.2 14 r4.toNatClampNeg)), (1, .int r4), (0, .ref h)]) hx hb dX11_told_28 hl (by decide) rfl (fun ls hl => ?_)
      refine lv_iconst (v := 0) hx hb dX11_told_30 (by decide) ?_
      refine lv_istore (lv' := [(5, .int 0), (4, .int 0), (3, .int 0), (2, .int (u3.2 14 r4.toNatClampNeg)), (1, .int r4), (0, .ref h)]) hx hb dX11_told_31 hl (by decide) rfl (fun ls hl => ?_)
      exact L_33 100000 u3 r4 (u3.2 14 r4.toNatClampNeg) 0 0 0 _ _ _ hE hp hP hD hS (lv_sub hl [5, 4, 3, 2, 1, 0] rfl)
    · rw [if_neg c1] at hE hp
      refine lv_iconst (v := 0) hx hb dX11_told_11 (by decide) ?_
      subst hQ
      exact W.iret (v := 0) hx hb hr (fun t ht hW => ⟨⟨0, S, rfl, hE.trans hX.symm, by rw [ht]; exact hP, hD⟩, hS.F ht⟩) hS.2.2 dX11_told_12
  exact B_M S0 _ _ _ hX hp hP hD hS hl
theorem dX11_does_1 : decode cX11_does 1 = .ok (.tableswitch 484 1 21 #[99, 121, 156, 163, 183, 201, 208, 245, 259, 282, 309, 337, 371, 377, 383, 389, 401, 427, 436, 389, 479], 99) := by decide +kernel
theorem gdX11_does_0 : ckS (List.drop 0 cX11_does.data.toList) 0 [(0, .iload_n 1, 1), (100, .aload_n 0, 1), (101, .getfield 9, 3), (104, .iload_n 2, 1), (105, .iconst 1, 1), (106, .bastore, 1), (107, .aload_n 0, 1), (108, .dup, 1), (109, .getfield 100, 3), (112, .iconst 1, 1), (113, .iadd, 1), (114, .putfield 100, 3), (117, .aload_n 0, 1), (118, .getfield 100, 3), (121, .ireturn, 1), (122, .aload_n 0, 1), (123, .getfield 9, 3), (126, .iload_n 2, 1), (127, .iconst 0, 1), (128, .bastore, 1), (129, .aload_n 0, 1), (130, .dup, 1), (131, .getfield 100, 3), (134, .iconst 1, 1), (135, .isub, 1), (136, .putfield 100, 3), (139, .aload_n 0, 1), (140, .getfield 112, 3), (143, .iload_n 2, 1), (144, .if_icmp .ne 8, 3), (147, .aload_n 0, 1), (148, .iconst (-1), 1), (149, .putfield 112, 3), (152, .aload_n 0, 1), (153, .getfield 100, 3), (156, .ireturn, 1), (157, .aload_n 0, 1), (158, .iload_n 2, 1), (159, .putfield 106, 3), (162, .iload_n 2, 1)] = true := by decide +kernel
theorem dX11_does_0 : decode cX11_does 0 = .ok (.iload_n 1, 1) := ckS_g gdX11_does_0 0 rfl
theorem dX11_does_100 : decode cX11_does 100 = .ok (.aload_n 0, 1) := ckS_g gdX11_does_0 1 rfl
theorem dX11_does_101 : decode cX11_does 101 = .ok (.getfield 9, 3) := ckS_g gdX11_does_0 2 rfl
theorem dX11_does_104 : decode cX11_does 104 = .ok (.iload_n 2, 1) := ckS_g gdX11_does_0 3 rfl
theorem dX11_does_105 : decode cX11_does 105 = .ok (.iconst 1, 1) := ckS_g gdX11_does_0 4 rfl
theorem dX11_does_106 : decode cX11_does 106 = .ok (.bastore, 1) := ckS_g gdX11_does_0 5 rfl
theorem dX11_does_107 : decode cX11_does 107 = .ok (.aload_n 0, 1) := ckS_g gdX11_does_0 6 rfl
theorem dX11_does_108 : decode cX11_does 108 = .ok (.dup, 1) := ckS_g gdX11_does_0 7 rfl
theorem dX11_does_109 : decode cX11_does 109 = .ok (.getfield 100, 3) := ckS_g gdX11_does_0 8 rfl
theorem dX11_does_112 : decode cX11_does 112 = .ok (.iconst 1, 1) := ckS_g gdX11_does_0 9 rfl
theorem dX11_does_113 : decode cX11_does 113 = .ok (.iadd, 1) := ckS_g gdX11_does_0 10 rfl
theorem dX11_does_114 : decode cX11_does 114 = .ok (.putfield 100, 3) := ckS_g gdX11_does_0 11 rfl
theorem dX11_does_117 : decode cX11_does 117 = .ok (.aload_n 0, 1) := ckS_g gdX11_does_0 12 rfl
theorem dX11_does_118 : decode cX11_does 118 = .ok (.getfield 100, 3) := ckS_g gdX11_does_0 13 rfl
theorem dX11_does_121 : decode cX11_does 121 = .ok (.ireturn, 1) := ckS_g gdX11_does_0 14 rfl
theorem dX11_does_122 : decode cX11_does 122 = .ok (.aload_n 0, 1) := ckS_g gdX11_does_0 15 rfl
theorem dX11_does_123 : decode cX11_does 123 = .ok (.getfield 9, 3) := ckS_g gdX11_does_0 16 rfl
theorem dX11_does_126 : decode cX11_does 126 = .ok (.iload_n 2, 1) := ckS_g gdX11_does_0 17 rfl
theorem dX11_does_127 : decode cX11_does 127 = .ok (.iconst 0, 1) := ckS_g gdX11_does_0 18 rfl
theorem dX11_does_128 : decode cX11_does 128 = .ok (.bastore, 1) := ckS_g gdX11_does_0 19 rfl
theorem dX11_does_129 : decode cX11_does 129 = .ok (.aload_n 0, 1) := ckS_g gdX11_does_0 20 rfl
theorem dX11_does_130 : decode cX11_does 130 = .ok (.dup, 1) := ckS_g gdX11_does_0 21 rfl
theorem dX11_does_131 : decode cX11_does 131 = .ok (.getfield 100, 3) := ckS_g gdX11_does_0 22 rfl
theorem dX11_does_134 : decode cX11_does 134 = .ok (.iconst 1, 1) := ckS_g gdX11_does_0 23 rfl
theorem dX11_does_135 : decode cX11_does 135 = .ok (.isub, 1) := ckS_g gdX11_does_0 24 rfl
theorem dX11_does_136 : decode cX11_does 136 = .ok (.putfield 100, 3) := ckS_g gdX11_does_0 25 rfl
theorem dX11_does_139 : decode cX11_does 139 = .ok (.aload_n 0, 1) := ckS_g gdX11_does_0 26 rfl
theorem dX11_does_140 : decode cX11_does 140 = .ok (.getfield 112, 3) := ckS_g gdX11_does_0 27 rfl
theorem dX11_does_143 : decode cX11_does 143 = .ok (.iload_n 2, 1) := ckS_g gdX11_does_0 28 rfl
theorem dX11_does_144 : decode cX11_does 144 = .ok (.if_icmp .ne 8, 3) := ckS_g gdX11_does_0 29 rfl
theorem dX11_does_147 : decode cX11_does 147 = .ok (.aload_n 0, 1) := ckS_g gdX11_does_0 30 rfl
theorem dX11_does_148 : decode cX11_does 148 = .ok (.iconst (-1), 1) := ckS_g gdX11_does_0 31 rfl
theorem dX11_does_149 : decode cX11_does 149 = .ok (.putfield 112, 3) := ckS_g gdX11_does_0 32 rfl
theorem dX11_does_152 : decode cX11_does 152 = .ok (.aload_n 0, 1) := ckS_g gdX11_does_0 33 rfl
theorem dX11_does_153 : decode cX11_does 153 = .ok (.getfield 100, 3) := ckS_g gdX11_does_0 34 rfl
theorem dX11_does_156 : decode cX11_does 156 = .ok (.ireturn, 1) := ckS_g gdX11_does_0 35 rfl
theorem dX11_does_157 : decode cX11_does 157 = .ok (.aload_n 0, 1) := ckS_g gdX11_does_0 36 rfl
theorem dX11_does_158 : decode cX11_does 158 = .ok (.iload_n 2, 1) := ckS_g gdX11_does_0 37 rfl
theorem dX11_does_159 : decode cX11_does 159 = .ok (.putfield 106, 3) := ckS_g gdX11_does_0 38 rfl
theorem dX11_does_162 : decode cX11_does 162 = .ok (.iload_n 2, 1) := ckS_g gdX11_does_0 39 rfl
theorem gdX11_does_163 : ckS (List.drop 163 cX11_does.data.toList) 163 [(163, .ireturn, 1), (164, .aload_n 0, 1), (165, .iload_n 2, 1), (166, .putfield 103, 3), (169, .aload_n 0, 1), (170, .getfield 112, 3), (173, .iload_n 2, 1), (174, .if_icmp .ne 8, 3), (177, .aload_n 0, 1), (178, .iconst (-1), 1), (179, .putfield 112, 3), (182, .iload_n 2, 1), (183, .ireturn, 1), (184, .aload_n 0, 1), (185, .getfield 15, 3), (188, .iload_n 2, 1), (189, .iaload, 1), (190, .istore 6, 2), (192, .aload_n 0, 1), (193, .getfield 15, 3), (196, .iload_n 2, 1), (197, .iload_n 3, 1), (198, .iastore, 1), (199, .iload 6, 2), (201, .ireturn, 1), (202, .aload_n 0, 1), (203, .iload_n 2, 1), (204, .putfield 109, 3), (207, .iload_n 2, 1), (208, .ireturn, 1), (209, .aload_n 0, 1), (210, .iload_n 2, 1), (211, .putfield 112, 3), (214, .aload_n 0, 1), (215, .getfield 115, 3), (218, .ifCond .ne 5, 3), (221, .iconst 0, 1), (222, .ireturn, 1), (223, .aload_n 0, 1), (224, .getfield 31, 3)] = true := by decide +kernel
theorem dX11_does_163 : decode cX11_does 163 = .ok (.ireturn, 1) := ckS_g gdX11_does_163 0 rfl
theorem dX11_does_164 : decode cX11_does 164 = .ok (.aload_n 0, 1) := ckS_g gdX11_does_163 1 rfl
theorem dX11_does_165 : decode cX11_does 165 = .ok (.iload_n 2, 1) := ckS_g gdX11_does_163 2 rfl
theorem dX11_does_166 : decode cX11_does 166 = .ok (.putfield 103, 3) := ckS_g gdX11_does_163 3 rfl
theorem dX11_does_169 : decode cX11_does 169 = .ok (.aload_n 0, 1) := ckS_g gdX11_does_163 4 rfl
theorem dX11_does_170 : decode cX11_does 170 = .ok (.getfield 112, 3) := ckS_g gdX11_does_163 5 rfl
theorem dX11_does_173 : decode cX11_does 173 = .ok (.iload_n 2, 1) := ckS_g gdX11_does_163 6 rfl
theorem dX11_does_174 : decode cX11_does 174 = .ok (.if_icmp .ne 8, 3) := ckS_g gdX11_does_163 7 rfl
theorem dX11_does_177 : decode cX11_does 177 = .ok (.aload_n 0, 1) := ckS_g gdX11_does_163 8 rfl
theorem dX11_does_178 : decode cX11_does 178 = .ok (.iconst (-1), 1) := ckS_g gdX11_does_163 9 rfl
theorem dX11_does_179 : decode cX11_does 179 = .ok (.putfield 112, 3) := ckS_g gdX11_does_163 10 rfl
theorem dX11_does_182 : decode cX11_does 182 = .ok (.iload_n 2, 1) := ckS_g gdX11_does_163 11 rfl
theorem dX11_does_183 : decode cX11_does 183 = .ok (.ireturn, 1) := ckS_g gdX11_does_163 12 rfl
theorem dX11_does_184 : decode cX11_does 184 = .ok (.aload_n 0, 1) := ckS_g gdX11_does_163 13 rfl
theorem dX11_does_185 : decode cX11_does 185 = .ok (.getfield 15, 3) := ckS_g gdX11_does_163 14 rfl
theorem dX11_does_188 : decode cX11_does 188 = .ok (.iload_n 2, 1) := ckS_g gdX11_does_163 15 rfl
theorem dX11_does_189 : decode cX11_does 189 = .ok (.iaload, 1) := ckS_g gdX11_does_163 16 rfl
theorem dX11_does_190 : decode cX11_does 190 = .ok (.istore 6, 2) := ckS_g gdX11_does_163 17 rfl
theorem dX11_does_192 : decode cX11_does 192 = .ok (.aload_n 0, 1) := ckS_g gdX11_does_163 18 rfl
theorem dX11_does_193 : decode cX11_does 193 = .ok (.getfield 15, 3) := ckS_g gdX11_does_163 19 rfl
theorem dX11_does_196 : decode cX11_does 196 = .ok (.iload_n 2, 1) := ckS_g gdX11_does_163 20 rfl
theorem dX11_does_197 : decode cX11_does 197 = .ok (.iload_n 3, 1) := ckS_g gdX11_does_163 21 rfl
theorem dX11_does_198 : decode cX11_does 198 = .ok (.iastore, 1) := ckS_g gdX11_does_163 22 rfl
theorem dX11_does_199 : decode cX11_does 199 = .ok (.iload 6, 2) := ckS_g gdX11_does_163 23 rfl
theorem dX11_does_201 : decode cX11_does 201 = .ok (.ireturn, 1) := ckS_g gdX11_does_163 24 rfl
theorem dX11_does_202 : decode cX11_does 202 = .ok (.aload_n 0, 1) := ckS_g gdX11_does_163 25 rfl
theorem dX11_does_203 : decode cX11_does 203 = .ok (.iload_n 2, 1) := ckS_g gdX11_does_163 26 rfl
theorem dX11_does_204 : decode cX11_does 204 = .ok (.putfield 109, 3) := ckS_g gdX11_does_163 27 rfl
theorem dX11_does_207 : decode cX11_does 207 = .ok (.iload_n 2, 1) := ckS_g gdX11_does_163 28 rfl
theorem dX11_does_208 : decode cX11_does 208 = .ok (.ireturn, 1) := ckS_g gdX11_does_163 29 rfl
theorem dX11_does_209 : decode cX11_does 209 = .ok (.aload_n 0, 1) := ckS_g gdX11_does_163 30 rfl
theorem dX11_does_210 : decode cX11_does 210 = .ok (.iload_n 2, 1) := ckS_g gdX11_does_163 31 rfl
theorem dX11_does_211 : decode cX11_does 211 = .ok (.putfield 112, 3) := ckS_g gdX11_does_163 32 rfl
theorem dX11_does_214 : decode cX11_does 214 = .ok (.aload_n 0, 1) := ckS_g gdX11_does_163 33 rfl
theorem dX11_does_215 : decode cX11_does 215 = .ok (.getfield 115, 3) := ckS_g gdX11_does_163 34 rfl
theorem dX11_does_218 : decode cX11_does 218 = .ok (.ifCond .ne 5, 3) := ckS_g gdX11_does_163 35 rfl
theorem dX11_does_221 : decode cX11_does 221 = .ok (.iconst 0, 1) := ckS_g gdX11_does_163 36 rfl
theorem dX11_does_222 : decode cX11_does 222 = .ok (.ireturn, 1) := ckS_g gdX11_does_163 37 rfl
theorem dX11_does_223 : decode cX11_does 223 = .ok (.aload_n 0, 1) := ckS_g gdX11_does_163 38 rfl
theorem dX11_does_224 : decode cX11_does 224 = .ok (.getfield 31, 3) := ckS_g gdX11_does_163 39 rfl
theorem gdX11_does_227 : ckS (List.drop 227 cX11_does.data.toList) 227 [(227, .aload_n 0, 1), (228, .invokevirtual 155, 3), (231, .dup2, 1), (232, .iaload, 1), (233, .iconst 1, 1), (234, .iadd, 1), (235, .iastore, 1), (236, .aload_n 0, 1), (237, .getfield 31, 3), (240, .aload_n 0, 1), (241, .invokevirtual 155, 3), (244, .iaload, 1), (245, .ireturn, 1), (246, .aload_n 0, 1), (247, .getfield 112, 3), (250, .istore 6, 2), (252, .aload_n 0, 1), (253, .iconst (-1), 1), (254, .putfield 112, 3), (257, .iload 6, 2), (259, .ireturn, 1), (260, .aload_n 0, 1), (261, .getfield 34, 3), (264, .aload_n 0, 1), (265, .invokevirtual 155, 3), (268, .dup2, 1), (269, .iaload, 1), (270, .iconst 1, 1), (271, .iadd, 1), (272, .iastore, 1), (273, .aload_n 0, 1), (274, .getfield 34, 3), (277, .aload_n 0, 1), (278, .invokevirtual 155, 3), (281, .iaload, 1), (282, .ireturn, 1), (283, .aload_n 0, 1), (284, .invokevirtual 206, 3), (287, .aload_n 0, 1), (288, .getfield 75, 3)] = true := by decide +kernel
theorem dX11_does_227 : decode cX11_does 227 = .ok (.aload_n 0, 1) := ckS_g gdX11_does_227 0 rfl
theorem dX11_does_228 : decode cX11_does 228 = .ok (.invokevirtual 155, 3) := ckS_g gdX11_does_227 1 rfl
theorem dX11_does_231 : decode cX11_does 231 = .ok (.dup2, 1) := ckS_g gdX11_does_227 2 rfl
theorem dX11_does_232 : decode cX11_does 232 = .ok (.iaload, 1) := ckS_g gdX11_does_227 3 rfl
theorem dX11_does_233 : decode cX11_does 233 = .ok (.iconst 1, 1) := ckS_g gdX11_does_227 4 rfl
theorem dX11_does_234 : decode cX11_does 234 = .ok (.iadd, 1) := ckS_g gdX11_does_227 5 rfl
theorem dX11_does_235 : decode cX11_does 235 = .ok (.iastore, 1) := ckS_g gdX11_does_227 6 rfl
theorem dX11_does_236 : decode cX11_does 236 = .ok (.aload_n 0, 1) := ckS_g gdX11_does_227 7 rfl
theorem dX11_does_237 : decode cX11_does 237 = .ok (.getfield 31, 3) := ckS_g gdX11_does_227 8 rfl
theorem dX11_does_240 : decode cX11_does 240 = .ok (.aload_n 0, 1) := ckS_g gdX11_does_227 9 rfl
theorem dX11_does_241 : decode cX11_does 241 = .ok (.invokevirtual 155, 3) := ckS_g gdX11_does_227 10 rfl
theorem dX11_does_244 : decode cX11_does 244 = .ok (.iaload, 1) := ckS_g gdX11_does_227 11 rfl
theorem dX11_does_245 : decode cX11_does 245 = .ok (.ireturn, 1) := ckS_g gdX11_does_227 12 rfl
theorem dX11_does_246 : decode cX11_does 246 = .ok (.aload_n 0, 1) := ckS_g gdX11_does_227 13 rfl
theorem dX11_does_247 : decode cX11_does 247 = .ok (.getfield 112, 3) := ckS_g gdX11_does_227 14 rfl
theorem dX11_does_250 : decode cX11_does 250 = .ok (.istore 6, 2) := ckS_g gdX11_does_227 15 rfl
theorem dX11_does_252 : decode cX11_does 252 = .ok (.aload_n 0, 1) := ckS_g gdX11_does_227 16 rfl
theorem dX11_does_253 : decode cX11_does 253 = .ok (.iconst (-1), 1) := ckS_g gdX11_does_227 17 rfl
theorem dX11_does_254 : decode cX11_does 254 = .ok (.putfield 112, 3) := ckS_g gdX11_does_227 18 rfl
theorem dX11_does_257 : decode cX11_does 257 = .ok (.iload 6, 2) := ckS_g gdX11_does_227 19 rfl
theorem dX11_does_259 : decode cX11_does 259 = .ok (.ireturn, 1) := ckS_g gdX11_does_227 20 rfl
theorem dX11_does_260 : decode cX11_does 260 = .ok (.aload_n 0, 1) := ckS_g gdX11_does_227 21 rfl
theorem dX11_does_261 : decode cX11_does 261 = .ok (.getfield 34, 3) := ckS_g gdX11_does_227 22 rfl
theorem dX11_does_264 : decode cX11_does 264 = .ok (.aload_n 0, 1) := ckS_g gdX11_does_227 23 rfl
theorem dX11_does_265 : decode cX11_does 265 = .ok (.invokevirtual 155, 3) := ckS_g gdX11_does_227 24 rfl
theorem dX11_does_268 : decode cX11_does 268 = .ok (.dup2, 1) := ckS_g gdX11_does_227 25 rfl
theorem dX11_does_269 : decode cX11_does 269 = .ok (.iaload, 1) := ckS_g gdX11_does_227 26 rfl
theorem dX11_does_270 : decode cX11_does 270 = .ok (.iconst 1, 1) := ckS_g gdX11_does_227 27 rfl
theorem dX11_does_271 : decode cX11_does 271 = .ok (.iadd, 1) := ckS_g gdX11_does_227 28 rfl
theorem dX11_does_272 : decode cX11_does 272 = .ok (.iastore, 1) := ckS_g gdX11_does_227 29 rfl
theorem dX11_does_273 : decode cX11_does 273 = .ok (.aload_n 0, 1) := ckS_g gdX11_does_227 30 rfl
theorem dX11_does_274 : decode cX11_does 274 = .ok (.getfield 34, 3) := ckS_g gdX11_does_227 31 rfl
theorem dX11_does_277 : decode cX11_does 277 = .ok (.aload_n 0, 1) := ckS_g gdX11_does_227 32 rfl
theorem dX11_does_278 : decode cX11_does 278 = .ok (.invokevirtual 155, 3) := ckS_g gdX11_does_227 33 rfl
theorem dX11_does_281 : decode cX11_does 281 = .ok (.iaload, 1) := ckS_g gdX11_does_227 34 rfl
theorem dX11_does_282 : decode cX11_does 282 = .ok (.ireturn, 1) := ckS_g gdX11_does_227 35 rfl
theorem dX11_does_283 : decode cX11_does 283 = .ok (.aload_n 0, 1) := ckS_g gdX11_does_227 36 rfl
theorem dX11_does_284 : decode cX11_does 284 = .ok (.invokevirtual 206, 3) := ckS_g gdX11_does_227 37 rfl
theorem dX11_does_287 : decode cX11_does 287 = .ok (.aload_n 0, 1) := ckS_g gdX11_does_227 38 rfl
theorem dX11_does_288 : decode cX11_does 288 = .ok (.getfield 75, 3) := ckS_g gdX11_does_227 39 rfl
theorem gdX11_does_291 : ckS (List.drop 291 cX11_does.data.toList) 291 [(291, .iconst 0, 1), (292, .aload_n 0, 1), (293, .iload_n 2, 1), (294, .invokevirtual 209, 3), (297, .iastore, 1), (298, .aload_n 0, 1), (299, .iconst 1, 1), (300, .putfield 130, 3), (303, .aload_n 0, 1), (304, .iconst 0, 1), (305, .putfield 151, 3), (308, .iload_n 2, 1), (309, .ireturn, 1), (310, .aload_n 0, 1), (311, .getfield 40, 3), (314, .aload_n 0, 1), (315, .getfield 75, 3), (318, .iconst 0, 1), (319, .iaload, 1), (320, .iload_n 2, 1), (321, .iastore, 1), (322, .aload_n 0, 1), (323, .getfield 43, 3), (326, .aload_n 0, 1), (327, .getfield 75, 3), (330, .iconst 0, 1), (331, .iaload, 1), (332, .iload_n 3, 1), (333, .iastore, 1), (334, .iload_n 3, 1), (335, .iload_n 2, 1), (336, .isub, 1), (337, .ireturn, 1), (338, .aload_n 0, 1), (339, .iload_n 2, 1), (340, .invokevirtual 212, 3), (343, .aload_n 0, 1), (344, .iload_n 3, 1), (345, .invokevirtual 212, 3), (348, .aload_n 0, 1)] = true := by decide +kernel
theorem dX11_does_291 : decode cX11_does 291 = .ok (.iconst 0, 1) := ckS_g gdX11_does_291 0 rfl
theorem dX11_does_292 : decode cX11_does 292 = .ok (.aload_n 0, 1) := ckS_g gdX11_does_291 1 rfl
theorem dX11_does_293 : decode cX11_does 293 = .ok (.iload_n 2, 1) := ckS_g gdX11_does_291 2 rfl
theorem dX11_does_294 : decode cX11_does 294 = .ok (.invokevirtual 209, 3) := ckS_g gdX11_does_291 3 rfl
theorem dX11_does_297 : decode cX11_does 297 = .ok (.iastore, 1) := ckS_g gdX11_does_291 4 rfl
theorem dX11_does_298 : decode cX11_does 298 = .ok (.aload_n 0, 1) := ckS_g gdX11_does_291 5 rfl
theorem dX11_does_299 : decode cX11_does 299 = .ok (.iconst 1, 1) := ckS_g gdX11_does_291 6 rfl
theorem dX11_does_300 : decode cX11_does 300 = .ok (.putfield 130, 3) := ckS_g gdX11_does_291 7 rfl
theorem dX11_does_303 : decode cX11_does 303 = .ok (.aload_n 0, 1) := ckS_g gdX11_does_291 8 rfl
theorem dX11_does_304 : decode cX11_does 304 = .ok (.iconst 0, 1) := ckS_g gdX11_does_291 9 rfl
theorem dX11_does_305 : decode cX11_does 305 = .ok (.putfield 151, 3) := ckS_g gdX11_does_291 10 rfl
theorem dX11_does_308 : decode cX11_does 308 = .ok (.iload_n 2, 1) := ckS_g gdX11_does_291 11 rfl
theorem dX11_does_309 : decode cX11_does 309 = .ok (.ireturn, 1) := ckS_g gdX11_does_291 12 rfl
theorem dX11_does_310 : decode cX11_does 310 = .ok (.aload_n 0, 1) := ckS_g gdX11_does_291 13 rfl
theorem dX11_does_311 : decode cX11_does 311 = .ok (.getfield 40, 3) := ckS_g gdX11_does_291 14 rfl
theorem dX11_does_314 : decode cX11_does 314 = .ok (.aload_n 0, 1) := ckS_g gdX11_does_291 15 rfl
theorem dX11_does_315 : decode cX11_does 315 = .ok (.getfield 75, 3) := ckS_g gdX11_does_291 16 rfl
theorem dX11_does_318 : decode cX11_does 318 = .ok (.iconst 0, 1) := ckS_g gdX11_does_291 17 rfl
theorem dX11_does_319 : decode cX11_does 319 = .ok (.iaload, 1) := ckS_g gdX11_does_291 18 rfl
theorem dX11_does_320 : decode cX11_does 320 = .ok (.iload_n 2, 1) := ckS_g gdX11_does_291 19 rfl
theorem dX11_does_321 : decode cX11_does 321 = .ok (.iastore, 1) := ckS_g gdX11_does_291 20 rfl
theorem dX11_does_322 : decode cX11_does 322 = .ok (.aload_n 0, 1) := ckS_g gdX11_does_291 21 rfl
theorem dX11_does_323 : decode cX11_does 323 = .ok (.getfield 43, 3) := ckS_g gdX11_does_291 22 rfl
theorem dX11_does_326 : decode cX11_does 326 = .ok (.aload_n 0, 1) := ckS_g gdX11_does_291 23 rfl
theorem dX11_does_327 : decode cX11_does 327 = .ok (.getfield 75, 3) := ckS_g gdX11_does_291 24 rfl
theorem dX11_does_330 : decode cX11_does 330 = .ok (.iconst 0, 1) := ckS_g gdX11_does_291 25 rfl
theorem dX11_does_331 : decode cX11_does 331 = .ok (.iaload, 1) := ckS_g gdX11_does_291 26 rfl
theorem dX11_does_332 : decode cX11_does 332 = .ok (.iload_n 3, 1) := ckS_g gdX11_does_291 27 rfl
theorem dX11_does_333 : decode cX11_does 333 = .ok (.iastore, 1) := ckS_g gdX11_does_291 28 rfl
theorem dX11_does_334 : decode cX11_does 334 = .ok (.iload_n 3, 1) := ckS_g gdX11_does_291 29 rfl
theorem dX11_does_335 : decode cX11_does 335 = .ok (.iload_n 2, 1) := ckS_g gdX11_does_291 30 rfl
theorem dX11_does_336 : decode cX11_does 336 = .ok (.isub, 1) := ckS_g gdX11_does_291 31 rfl
theorem dX11_does_337 : decode cX11_does 337 = .ok (.ireturn, 1) := ckS_g gdX11_does_291 32 rfl
theorem dX11_does_338 : decode cX11_does 338 = .ok (.aload_n 0, 1) := ckS_g gdX11_does_291 33 rfl
theorem dX11_does_339 : decode cX11_does 339 = .ok (.iload_n 2, 1) := ckS_g gdX11_does_291 34 rfl
theorem dX11_does_340 : decode cX11_does 340 = .ok (.invokevirtual 212, 3) := ckS_g gdX11_does_291 35 rfl
theorem dX11_does_343 : decode cX11_does 343 = .ok (.aload_n 0, 1) := ckS_g gdX11_does_291 36 rfl
theorem dX11_does_344 : decode cX11_does 344 = .ok (.iload_n 3, 1) := ckS_g gdX11_does_291 37 rfl
theorem dX11_does_345 : decode cX11_does 345 = .ok (.invokevirtual 212, 3) := ckS_g gdX11_does_291 38 rfl
theorem dX11_does_348 : decode cX11_does 348 = .ok (.aload_n 0, 1) := ckS_g gdX11_does_291 39 rfl
theorem gdX11_does_349 : ckS (List.drop 349 cX11_does.data.toList) 349 [(349, .iload 4, 2), (351, .invokevirtual 212, 3), (354, .aload_n 0, 1), (355, .iload 5, 2), (357, .invokevirtual 212, 3), (360, .aload_n 0, 1), (361, .getfield 37, 3), (364, .aload_n 0, 1), (365, .getfield 75, 3), (368, .iconst 0, 1), (369, .iaload, 1), (370, .iaload, 1), (371, .ireturn, 1), (372, .aload_n 0, 1), (373, .iload_n 2, 1), (374, .invokevirtual 215, 3), (377, .ireturn, 1), (378, .aload_n 0, 1), (379, .iload_n 2, 1), (380, .invokevirtual 218, 3), (383, .ireturn, 1), (384, .aload_n 0, 1), (385, .iload_n 2, 1), (386, .invokevirtual 221, 3), (389, .ireturn, 1), (390, .aload_n 0, 1), (391, .getfield 28, 3), (394, .aload_n 0, 1), (395, .invokevirtual 155, 3), (398, .iload_n 2, 1), (399, .iastore, 1), (400, .iconst 1, 1), (401, .ireturn, 1), (402, .aload_n 0, 1), (403, .getfield 68, 3), (406, .sipush 200, 3), (409, .aload_n 0, 1), (410, .invokevirtual 155, 3), (413, .imul, 1), (414, .iload_n 2, 1)] = true := by decide +kernel
theorem dX11_does_349 : decode cX11_does 349 = .ok (.iload 4, 2) := ckS_g gdX11_does_349 0 rfl
theorem dX11_does_351 : decode cX11_does 351 = .ok (.invokevirtual 212, 3) := ckS_g gdX11_does_349 1 rfl
theorem dX11_does_354 : decode cX11_does 354 = .ok (.aload_n 0, 1) := ckS_g gdX11_does_349 2 rfl
theorem dX11_does_355 : decode cX11_does 355 = .ok (.iload 5, 2) := ckS_g gdX11_does_349 3 rfl
theorem dX11_does_357 : decode cX11_does 357 = .ok (.invokevirtual 212, 3) := ckS_g gdX11_does_349 4 rfl
theorem dX11_does_360 : decode cX11_does 360 = .ok (.aload_n 0, 1) := ckS_g gdX11_does_349 5 rfl
theorem dX11_does_361 : decode cX11_does 361 = .ok (.getfield 37, 3) := ckS_g gdX11_does_349 6 rfl
theorem dX11_does_364 : decode cX11_does 364 = .ok (.aload_n 0, 1) := ckS_g gdX11_does_349 7 rfl
theorem dX11_does_365 : decode cX11_does 365 = .ok (.getfield 75, 3) := ckS_g gdX11_does_349 8 rfl
theorem dX11_does_368 : decode cX11_does 368 = .ok (.iconst 0, 1) := ckS_g gdX11_does_349 9 rfl
theorem dX11_does_369 : decode cX11_does 369 = .ok (.iaload, 1) := ckS_g gdX11_does_349 10 rfl
theorem dX11_does_370 : decode cX11_does 370 = .ok (.iaload, 1) := ckS_g gdX11_does_349 11 rfl
theorem dX11_does_371 : decode cX11_does 371 = .ok (.ireturn, 1) := ckS_g gdX11_does_349 12 rfl
theorem dX11_does_372 : decode cX11_does 372 = .ok (.aload_n 0, 1) := ckS_g gdX11_does_349 13 rfl
theorem dX11_does_373 : decode cX11_does 373 = .ok (.iload_n 2, 1) := ckS_g gdX11_does_349 14 rfl
theorem dX11_does_374 : decode cX11_does 374 = .ok (.invokevirtual 215, 3) := ckS_g gdX11_does_349 15 rfl
theorem dX11_does_377 : decode cX11_does 377 = .ok (.ireturn, 1) := ckS_g gdX11_does_349 16 rfl
theorem dX11_does_378 : decode cX11_does 378 = .ok (.aload_n 0, 1) := ckS_g gdX11_does_349 17 rfl
theorem dX11_does_379 : decode cX11_does 379 = .ok (.iload_n 2, 1) := ckS_g gdX11_does_349 18 rfl
theorem dX11_does_380 : decode cX11_does 380 = .ok (.invokevirtual 218, 3) := ckS_g gdX11_does_349 19 rfl
theorem dX11_does_383 : decode cX11_does 383 = .ok (.ireturn, 1) := ckS_g gdX11_does_349 20 rfl
theorem dX11_does_384 : decode cX11_does 384 = .ok (.aload_n 0, 1) := ckS_g gdX11_does_349 21 rfl
theorem dX11_does_385 : decode cX11_does 385 = .ok (.iload_n 2, 1) := ckS_g gdX11_does_349 22 rfl
theorem dX11_does_386 : decode cX11_does 386 = .ok (.invokevirtual 221, 3) := ckS_g gdX11_does_349 23 rfl
theorem dX11_does_389 : decode cX11_does 389 = .ok (.ireturn, 1) := ckS_g gdX11_does_349 24 rfl
theorem dX11_does_390 : decode cX11_does 390 = .ok (.aload_n 0, 1) := ckS_g gdX11_does_349 25 rfl
theorem dX11_does_391 : decode cX11_does 391 = .ok (.getfield 28, 3) := ckS_g gdX11_does_349 26 rfl
theorem dX11_does_394 : decode cX11_does 394 = .ok (.aload_n 0, 1) := ckS_g gdX11_does_349 27 rfl
theorem dX11_does_395 : decode cX11_does 395 = .ok (.invokevirtual 155, 3) := ckS_g gdX11_does_349 28 rfl
theorem dX11_does_398 : decode cX11_does 398 = .ok (.iload_n 2, 1) := ckS_g gdX11_does_349 29 rfl
theorem dX11_does_399 : decode cX11_does 399 = .ok (.iastore, 1) := ckS_g gdX11_does_349 30 rfl
theorem dX11_does_400 : decode cX11_does 400 = .ok (.iconst 1, 1) := ckS_g gdX11_does_349 31 rfl
theorem dX11_does_401 : decode cX11_does 401 = .ok (.ireturn, 1) := ckS_g gdX11_does_349 32 rfl
theorem dX11_does_402 : decode cX11_does 402 = .ok (.aload_n 0, 1) := ckS_g gdX11_does_349 33 rfl
theorem dX11_does_403 : decode cX11_does 403 = .ok (.getfield 68, 3) := ckS_g gdX11_does_349 34 rfl
theorem dX11_does_406 : decode cX11_does 406 = .ok (.sipush 200, 3) := ckS_g gdX11_does_349 35 rfl
theorem dX11_does_409 : decode cX11_does 409 = .ok (.aload_n 0, 1) := ckS_g gdX11_does_349 36 rfl
theorem dX11_does_410 : decode cX11_does 410 = .ok (.invokevirtual 155, 3) := ckS_g gdX11_does_349 37 rfl
theorem dX11_does_413 : decode cX11_does 413 = .ok (.imul, 1) := ckS_g gdX11_does_349 38 rfl
theorem dX11_does_414 : decode cX11_does 414 = .ok (.iload_n 2, 1) := ckS_g gdX11_does_349 39 rfl
theorem gdX11_does_415 : ckS (List.drop 415 cX11_does.data.toList) 415 [(415, .iadd, 1), (416, .iload_n 3, 1), (417, .i2b, 1), (418, .bastore, 1), (419, .aload_n 0, 1), (420, .aload_n 0, 1), (421, .invokevirtual 155, 3), (424, .invokevirtual 224, 3), (427, .ireturn, 1), (428, .aload_n 0, 1), (429, .invokevirtual 227, 3), (432, .aload_n 0, 1), (433, .getfield 115, 3), (436, .ireturn, 1), (437, .aload_n 0, 1), (438, .bipush 9, 2), (440, .invokevirtual 209, 3), (443, .istore 6, 2), (445, .aload_n 0, 1), (446, .getfield 25, 3), (449, .iload 6, 2), (451, .aload_n 0, 1), (452, .getfield 103, 3), (455, .iastore, 1), (456, .aload_n 0, 1), (457, .getfield 72, 3), (460, .aload_n 0, 1), (461, .getfield 115, 3), (464, .iload 6, 2), (466, .iastore, 1), (467, .aload_n 0, 1), (468, .dup, 1), (469, .getfield 115, 3), (472, .iconst 1, 1), (473, .iadd, 1), (474, .putfield 115, 3), (477, .bipush 9, 2), (479, .ireturn, 1), (480, .aload_n 0, 1), (481, .invokevirtual 230, 3)] = true := by decide +kernel
theorem dX11_does_415 : decode cX11_does 415 = .ok (.iadd, 1) := ckS_g gdX11_does_415 0 rfl
theorem dX11_does_416 : decode cX11_does 416 = .ok (.iload_n 3, 1) := ckS_g gdX11_does_415 1 rfl
theorem dX11_does_417 : decode cX11_does 417 = .ok (.i2b, 1) := ckS_g gdX11_does_415 2 rfl
theorem dX11_does_418 : decode cX11_does 418 = .ok (.bastore, 1) := ckS_g gdX11_does_415 3 rfl
theorem dX11_does_419 : decode cX11_does 419 = .ok (.aload_n 0, 1) := ckS_g gdX11_does_415 4 rfl
theorem dX11_does_420 : decode cX11_does 420 = .ok (.aload_n 0, 1) := ckS_g gdX11_does_415 5 rfl
theorem dX11_does_421 : decode cX11_does 421 = .ok (.invokevirtual 155, 3) := ckS_g gdX11_does_415 6 rfl
theorem dX11_does_424 : decode cX11_does 424 = .ok (.invokevirtual 224, 3) := ckS_g gdX11_does_415 7 rfl
theorem dX11_does_427 : decode cX11_does 427 = .ok (.ireturn, 1) := ckS_g gdX11_does_415 8 rfl
theorem dX11_does_428 : decode cX11_does 428 = .ok (.aload_n 0, 1) := ckS_g gdX11_does_415 9 rfl
theorem dX11_does_429 : decode cX11_does 429 = .ok (.invokevirtual 227, 3) := ckS_g gdX11_does_415 10 rfl
theorem dX11_does_432 : decode cX11_does 432 = .ok (.aload_n 0, 1) := ckS_g gdX11_does_415 11 rfl
theorem dX11_does_433 : decode cX11_does 433 = .ok (.getfield 115, 3) := ckS_g gdX11_does_415 12 rfl
theorem dX11_does_436 : decode cX11_does 436 = .ok (.ireturn, 1) := ckS_g gdX11_does_415 13 rfl
theorem dX11_does_437 : decode cX11_does 437 = .ok (.aload_n 0, 1) := ckS_g gdX11_does_415 14 rfl
theorem dX11_does_438 : decode cX11_does 438 = .ok (.bipush 9, 2) := ckS_g gdX11_does_415 15 rfl
theorem dX11_does_440 : decode cX11_does 440 = .ok (.invokevirtual 209, 3) := ckS_g gdX11_does_415 16 rfl
theorem dX11_does_443 : decode cX11_does 443 = .ok (.istore 6, 2) := ckS_g gdX11_does_415 17 rfl
theorem dX11_does_445 : decode cX11_does 445 = .ok (.aload_n 0, 1) := ckS_g gdX11_does_415 18 rfl
theorem dX11_does_446 : decode cX11_does 446 = .ok (.getfield 25, 3) := ckS_g gdX11_does_415 19 rfl
theorem dX11_does_449 : decode cX11_does 449 = .ok (.iload 6, 2) := ckS_g gdX11_does_415 20 rfl
theorem dX11_does_451 : decode cX11_does 451 = .ok (.aload_n 0, 1) := ckS_g gdX11_does_415 21 rfl
theorem dX11_does_452 : decode cX11_does 452 = .ok (.getfield 103, 3) := ckS_g gdX11_does_415 22 rfl
theorem dX11_does_455 : decode cX11_does 455 = .ok (.iastore, 1) := ckS_g gdX11_does_415 23 rfl
theorem dX11_does_456 : decode cX11_does 456 = .ok (.aload_n 0, 1) := ckS_g gdX11_does_415 24 rfl
theorem dX11_does_457 : decode cX11_does 457 = .ok (.getfield 72, 3) := ckS_g gdX11_does_415 25 rfl
theorem dX11_does_460 : decode cX11_does 460 = .ok (.aload_n 0, 1) := ckS_g gdX11_does_415 26 rfl
theorem dX11_does_461 : decode cX11_does 461 = .ok (.getfield 115, 3) := ckS_g gdX11_does_415 27 rfl
theorem dX11_does_464 : decode cX11_does 464 = .ok (.iload 6, 2) := ckS_g gdX11_does_415 28 rfl
theorem dX11_does_466 : decode cX11_does 466 = .ok (.iastore, 1) := ckS_g gdX11_does_415 29 rfl
theorem dX11_does_467 : decode cX11_does 467 = .ok (.aload_n 0, 1) := ckS_g gdX11_does_415 30 rfl
theorem dX11_does_468 : decode cX11_does 468 = .ok (.dup, 1) := ckS_g gdX11_does_415 31 rfl
theorem dX11_does_469 : decode cX11_does 469 = .ok (.getfield 115, 3) := ckS_g gdX11_does_415 32 rfl
theorem dX11_does_472 : decode cX11_does 472 = .ok (.iconst 1, 1) := ckS_g gdX11_does_415 33 rfl
theorem dX11_does_473 : decode cX11_does 473 = .ok (.iadd, 1) := ckS_g gdX11_does_415 34 rfl
theorem dX11_does_474 : decode cX11_does 474 = .ok (.putfield 115, 3) := ckS_g gdX11_does_415 35 rfl
theorem dX11_does_477 : decode cX11_does 477 = .ok (.bipush 9, 2) := ckS_g gdX11_does_415 36 rfl
theorem dX11_does_479 : decode cX11_does 479 = .ok (.ireturn, 1) := ckS_g gdX11_does_415 37 rfl
theorem dX11_does_480 : decode cX11_does 480 = .ok (.aload_n 0, 1) := ckS_g gdX11_does_415 38 rfl
theorem dX11_does_481 : decode cX11_does 481 = .ok (.invokevirtual 230, 3) := ckS_g gdX11_does_415 39 rfl
theorem gdX11_does_484 : ckS (List.drop 484 cX11_does.data.toList) 484 [(484, .ireturn, 1), (485, .aload_n 0, 1), (486, .getfield 115, 3), (489, .istore 6, 2), (491, .aload_n 0, 1), (492, .getfield 115, 3), (495, .ifCond .le 10, 3), (498, .aload_n 0, 1), (499, .invokevirtual 227, 3), (502, .goto (-11), 3), (505, .aload_n 0, 1), (506, .invokevirtual 206, 3), (509, .aload_n 0, 1), (510, .iconst (-1), 1), (511, .putfield 112, 3), (514, .iload 6, 2), (516, .ireturn, 1)] = true := by decide +kernel
theorem dX11_does_484 : decode cX11_does 484 = .ok (.ireturn, 1) := ckS_g gdX11_does_484 0 rfl
theorem dX11_does_485 : decode cX11_does 485 = .ok (.aload_n 0, 1) := ckS_g gdX11_does_484 1 rfl
theorem dX11_does_486 : decode cX11_does 486 = .ok (.getfield 115, 3) := ckS_g gdX11_does_484 2 rfl
theorem dX11_does_489 : decode cX11_does 489 = .ok (.istore 6, 2) := ckS_g gdX11_does_484 3 rfl
theorem dX11_does_491 : decode cX11_does 491 = .ok (.aload_n 0, 1) := ckS_g gdX11_does_484 4 rfl
theorem dX11_does_492 : decode cX11_does 492 = .ok (.getfield 115, 3) := ckS_g gdX11_does_484 5 rfl
theorem dX11_does_495 : decode cX11_does 495 = .ok (.ifCond .le 10, 3) := ckS_g gdX11_does_484 6 rfl
theorem dX11_does_498 : decode cX11_does 498 = .ok (.aload_n 0, 1) := ckS_g gdX11_does_484 7 rfl
theorem dX11_does_499 : decode cX11_does 499 = .ok (.invokevirtual 227, 3) := ckS_g gdX11_does_484 8 rfl
theorem dX11_does_502 : decode cX11_does 502 = .ok (.goto (-11), 3) := ckS_g gdX11_does_484 9 rfl
theorem dX11_does_505 : decode cX11_does 505 = .ok (.aload_n 0, 1) := ckS_g gdX11_does_484 10 rfl
theorem dX11_does_506 : decode cX11_does 506 = .ok (.invokevirtual 206, 3) := ckS_g gdX11_does_484 11 rfl
theorem dX11_does_509 : decode cX11_does 509 = .ok (.aload_n 0, 1) := ckS_g gdX11_does_484 12 rfl
theorem dX11_does_510 : decode cX11_does 510 = .ok (.iconst (-1), 1) := ckS_g gdX11_does_484 13 rfl
theorem dX11_does_511 : decode cX11_does 511 = .ok (.putfield 112, 3) := ckS_g gdX11_does_484 14 rfl
theorem dX11_does_514 : decode cX11_does 514 = .ok (.iload 6, 2) := ckS_g gdX11_does_484 15 rfl
theorem dX11_does_516 : decode cX11_does 516 = .ok (.ireturn, 1) := ckS_g gdX11_does_484 16 rfl
set_option maxRecDepth 100000 in
theorem z172 : wZ (.selects RX11 yX11_told yX11_told) := ⟨List.mem_append_left _ (List.mem_of_getElem? (i := 22) (by decide +kernel)), Or.inl rfl⟩
set_option maxRecDepth 100000 in
theorem z173 : wZ (.instanceMethod yX11_told) := ⟨wT6 (List.mem_of_getElem? (i := 95) (by decide +kernel)), Or.inl rfl⟩
set_option maxRecDepth 100000 in
theorem z174 : wZ (.methodLink RX11 230 yX11_told) := ⟨wT6 (List.mem_of_getElem? (i := 93) (by decide +kernel)), Or.inl rfl⟩
set_option maxRecDepth 100000 in
theorem z175 : wZ (.selects RX11 yX11_voters yX11_voters) := ⟨wT6 (List.mem_of_getElem? (i := 87) (by decide +kernel)), Or.inl rfl⟩
set_option maxRecDepth 100000 in
theorem z176 : wZ (.instanceMethod yX11_voters) := ⟨wT6 (List.mem_of_getElem? (i := 86) (by decide +kernel)), Or.inl rfl⟩
set_option maxRecDepth 100000 in
theorem z177 : wZ (.methodLink RX11 224 yX11_voters) := ⟨wT6 (List.mem_of_getElem? (i := 85) (by decide +kernel)), Or.inl rfl⟩
set_option maxRecDepth 100000 in
theorem z178 : wZ (.selects RX11 yX11_move yX11_move) := ⟨List.mem_append_left _ (List.mem_of_getElem? (i := 20) (by decide +kernel)), Or.inl rfl⟩
set_option maxRecDepth 100000 in
theorem z179 : wZ (.instanceMethod yX11_move) := ⟨wT6 (List.mem_of_getElem? (i := 83) (by decide +kernel)), Or.inl rfl⟩
set_option maxRecDepth 100000 in
theorem z180 : wZ (.methodLink RX11 221 yX11_move) := ⟨wT6 (List.mem_of_getElem? (i := 81) (by decide +kernel)), Or.inl rfl⟩
set_option maxRecDepth 100000 in
theorem z181 : wZ (.selects RX11 yX11_take yX11_take) := ⟨List.mem_append_left _ (List.mem_of_getElem? (i := 19) (by decide +kernel)), Or.inl rfl⟩
set_option maxRecDepth 100000 in
theorem z182 : wZ (.instanceMethod yX11_take) := ⟨wT6 (List.mem_of_getElem? (i := 79) (by decide +kernel)), Or.inl rfl⟩
set_option maxRecDepth 100000 in
theorem z183 : wZ (.methodLink RX11 218 yX11_take) := ⟨wT6 (List.mem_of_getElem? (i := 77) (by decide +kernel)), Or.inl rfl⟩
set_option maxRecDepth 100000 in
theorem z184 : wZ (.selects RX11 yX11_lay yX11_lay) := ⟨List.mem_append_left _ (List.mem_of_getElem? (i := 18) (by decide +kernel)), Or.inl rfl⟩
set_option maxRecDepth 100000 in
theorem z185 : wZ (.instanceMethod yX11_lay) := ⟨wT6 (List.mem_of_getElem? (i := 75) (by decide +kernel)), Or.inl rfl⟩
set_option maxRecDepth 100000 in
theorem z186 : wZ (.methodLink RX11 215 yX11_lay) := ⟨wT6 (List.mem_of_getElem? (i := 73) (by decide +kernel)), Or.inl rfl⟩
set_option maxRecDepth 100000 in
theorem z187 : wZ (.selects RX11 yX11_addWord yX11_addWord) := ⟨List.mem_append_left _ (List.mem_of_getElem? (i := 17) (by decide +kernel)), Or.inl rfl⟩
set_option maxRecDepth 100000 in
theorem z188 : wZ (.instanceMethod yX11_addWord) := ⟨wT6 (List.mem_of_getElem? (i := 71) (by decide +kernel)), Or.inl rfl⟩
set_option maxRecDepth 100000 in
theorem z189 : wZ (.methodLink RX11 212 yX11_addWord) := ⟨wT6 (List.mem_of_getElem? (i := 69) (by decide +kernel)), Or.inl rfl⟩
set_option maxRecDepth 100000 in
theorem z190 : wZ (.selects RX11 yX11_newSlot yX11_newSlot) := ⟨List.mem_append_left _ (List.mem_of_getElem? (i := 15) (by decide +kernel)), Or.inl rfl⟩
set_option maxRecDepth 100000 in
theorem z191 : wZ (.instanceMethod yX11_newSlot) := ⟨wT6 (List.mem_of_getElem? (i := 63) (by decide +kernel)), Or.inl rfl⟩
set_option maxRecDepth 100000 in
theorem z192 : wZ (.methodLink RX11 209 yX11_newSlot) := ⟨wT6 (List.mem_of_getElem? (i := 61) (by decide +kernel)), Or.inl rfl⟩
set_option maxRecDepth 100000 in
theorem z193 : wZ (.selects RX11 yX11_dropDraft yX11_dropDraft) := ⟨List.mem_append_left _ (List.mem_of_getElem? (i := 14) (by decide +kernel)), Or.inl rfl⟩
set_option maxRecDepth 100000 in
theorem z194 : wZ (.instanceMethod yX11_dropDraft) := ⟨wT6 (List.mem_of_getElem? (i := 59) (by decide +kernel)), Or.inl rfl⟩
set_option maxRecDepth 100000 in
theorem z195 : wZ (.methodLink RX11 206 yX11_dropDraft) := ⟨wT6 (List.mem_of_getElem? (i := 57) (by decide +kernel)), Or.inl rfl⟩
set_option maxRecDepth 100000 in
theorem z196 : wZ (.code yX11_does cX11_does 7 (some .int)) := ⟨wT6 (List.mem_of_getElem? (i := 56) rfl), Or.inl rfl⟩
def b_X11_does_152 (S : HS) (x1 x2 x3 x4 x5 : Int32) : Int32 × HS := ((S.1 1), S)
def q_X11_does_152 (S : HS) (x1 x2 x3 x4 x5 : Int32) : Prop := True
def b_X11_does_182 (S : HS) (x1 x2 x3 x4 x5 : Int32) : Int32 × HS := (x2, S)
def q_X11_does_182 (S : HS) (x1 x2 x3 x4 x5 : Int32) : Prop := True
def b_X11_does_a244 (S : HS) (x1 x2 x3 x4 x5 y0 : Int32) : Int32 × HS := ((S.2 17 y0.toNatClampNeg), S)
def q_X11_does_a244 (S : HS) (x1 x2 x3 x4 x5 y0 : Int32) : Prop := (vp_in y0 90) ∧ True
def b_X11_does_a231 (S : HS) (x1 x2 x3 x4 x5 y0 : Int32) : Int32 × HS := (b_X11_does_a244 (f_X11_top (sA S 17 y0.toNatClampNeg ((S.2 17 y0.toNatClampNeg) + 1)) ).2 x1 x2 x3 x4 x5 (f_X11_top (sA S 17 y0.toNatClampNeg ((S.2 17 y0.toNatClampNeg) + 1)) ).1)
def q_X11_does_a231 (S : HS) (x1 x2 x3 x4 x5 y0 : Int32) : Prop := (vp_in y0 90) ∧ (vp_in y0 90) ∧ (p_X11_top (sA S 17 y0.toNatClampNeg ((S.2 17 y0.toNatClampNeg) + 1)) ) ∧ (q_X11_does_a244 (f_X11_top (sA S 17 y0.toNatClampNeg ((S.2 17 y0.toNatClampNeg) + 1)) ).2 x1 x2 x3 x4 x5 (f_X11_top (sA S 17 y0.toNatClampNeg ((S.2 17 y0.toNatClampNeg) + 1)) ).1)
def b_X11_does_a281 (S : HS) (x1 x2 x3 x4 x5 y0 : Int32) : Int32 × HS := ((S.2 18 y0.toNatClampNeg), S)
def q_X11_does_a281 (S : HS) (x1 x2 x3 x4 x5 y0 : Int32) : Prop := (vp_in y0 90) ∧ True
def b_X11_does_a268 (S : HS) (x1 x2 x3 x4 x5 y0 : Int32) : Int32 × HS := (b_X11_does_a281 (f_X11_top (sA S 18 y0.toNatClampNeg ((S.2 18 y0.toNatClampNeg) + 1)) ).2 x1 x2 x3 x4 x5 (f_X11_top (sA S 18 y0.toNatClampNeg ((S.2 18 y0.toNatClampNeg) + 1)) ).1)
def q_X11_does_a268 (S : HS) (x1 x2 x3 x4 x5 y0 : Int32) : Prop := (vp_in y0 90) ∧ (vp_in y0 90) ∧ (p_X11_top (sA S 18 y0.toNatClampNeg ((S.2 18 y0.toNatClampNeg) + 1)) ) ∧ (q_X11_does_a281 (f_X11_top (sA S 18 y0.toNatClampNeg ((S.2 18 y0.toNatClampNeg) + 1)) ).2 x1 x2 x3 x4 x5 (f_X11_top (sA S 18 y0.toNatClampNeg ((S.2 18 y0.toNatClampNeg) + 1)) ).1)
def b_X11_does_a297 (S : HS) (x1 x2 x3 x4 x5 y0 y1 : Int32) : Int32 × HS := (x2, (sI (sI (sA S 32 y1.toNatClampNeg y0) 35 1) 36 0))
def q_X11_does_a297 (S : HS) (x1 x2 x3 x4 x5 y0 y1 : Int32) : Prop := (vp_in y1 9) ∧ True
def b_X11_does_a287 (S : HS) (x1 x2 x3 x4 x5 : Int32) : Int32 × HS := (b_X11_does_a297 (f_X11_newSlot S x2).2 x1 x2 x3 x4 x5 (f_X11_newSlot S x2).1 0)
def q_X11_does_a287 (S : HS) (x1 x2 x3 x4 x5 : Int32) : Prop := (p_X11_newSlot S x2) ∧ (q_X11_does_a297 (f_X11_newSlot S x2).2 x1 x2 x3 x4 x5 (f_X11_newSlot S x2).1 0)
def b_X11_does_a360 (S : HS) (x1 x2 x3 x4 x5 : Int32) : Int32 × HS := ((S.2 19 (S.2 32 (0 : Int32).toNatClampNeg).toNatClampNeg), S)
def q_X11_does_a360 (S : HS) (x1 x2 x3 x4 x5 : Int32) : Prop := (vp_in 0 9) ∧ (vp_in (S.2 32 (0 : Int32).toNatClampNeg) 90) ∧ True
def b_X11_does_a354 (S : HS) (x1 x2 x3 x4 x5 : Int32) : Int32 × HS := (b_X11_does_a360 (f_X11_addWord S x5).2 x1 x2 x3 x4 x5)
def q_X11_does_a354 (S : HS) (x1 x2 x3 x4 x5 : Int32) : Prop := (p_X11_addWord S x5) ∧ (q_X11_does_a360 (f_X11_addWord S x5).2 x1 x2 x3 x4 x5)
def b_X11_does_a348 (S : HS) (x1 x2 x3 x4 x5 : Int32) : Int32 × HS := (b_X11_does_a354 (f_X11_addWord S x4).2 x1 x2 x3 x4 x5)
def q_X11_does_a348 (S : HS) (x1 x2 x3 x4 x5 : Int32) : Prop := (p_X11_addWord S x4) ∧ (q_X11_does_a354 (f_X11_addWord S x4).2 x1 x2 x3 x4 x5)
def b_X11_does_a343 (S : HS) (x1 x2 x3 x4 x5 : Int32) : Int32 × HS := (b_X11_does_a348 (f_X11_addWord S x3).2 x1 x2 x3 x4 x5)
def q_X11_does_a343 (S : HS) (x1 x2 x3 x4 x5 : Int32) : Prop := (p_X11_addWord S x3) ∧ (q_X11_does_a348 (f_X11_addWord S x3).2 x1 x2 x3 x4 x5)
def b_X11_does_a377 (S : HS) (x1 x2 x3 x4 x5 y0 : Int32) : Int32 × HS := (y0, S)
def q_X11_does_a377 (S : HS) (x1 x2 x3 x4 x5 y0 : Int32) : Prop := True
def b_X11_does_a383 (S : HS) (x1 x2 x3 x4 x5 y0 : Int32) : Int32 × HS := (y0, S)
def q_X11_does_a383 (S : HS) (x1 x2 x3 x4 x5 y0 : Int32) : Prop := True
def b_X11_does_a389 (S : HS) (x1 x2 x3 x4 x5 y0 : Int32) : Int32 × HS := (y0, S)
def q_X11_does_a389 (S : HS) (x1 x2 x3 x4 x5 y0 : Int32) : Prop := True
def b_X11_does_a398 (S : HS) (x1 x2 x3 x4 x5 y0 : Int32) : Int32 × HS := (1, (sA S 16 y0.toNatClampNeg x2))
def q_X11_does_a398 (S : HS) (x1 x2 x3 x4 x5 y0 : Int32) : Prop := (vp_in y0 90) ∧ True
def b_X11_does_390 (S : HS) (x1 x2 x3 x4 x5 : Int32) : Int32 × HS := (b_X11_does_a398 (f_X11_top S ).2 x1 x2 x3 x4 x5 (f_X11_top S ).1)
def q_X11_does_390 (S : HS) (x1 x2 x3 x4 x5 : Int32) : Prop := (p_X11_top S ) ∧ (q_X11_does_a398 (f_X11_top S ).2 x1 x2 x3 x4 x5 (f_X11_top S ).1)
def b_X11_does_a427 (S : HS) (x1 x2 x3 x4 x5 y0 : Int32) : Int32 × HS := (y0, S)
def q_X11_does_a427 (S : HS) (x1 x2 x3 x4 x5 y0 : Int32) : Prop := True
def b_X11_does_a424 (S : HS) (x1 x2 x3 x4 x5 y0 : Int32) : Int32 × HS := (b_X11_does_a427 (f_X11_voters S y0).2 x1 x2 x3 x4 x5 (f_X11_voters S y0).1)
def q_X11_does_a424 (S : HS) (x1 x2 x3 x4 x5 y0 : Int32) : Prop := (p_X11_voters S y0) ∧ (q_X11_does_a427 (f_X11_voters S y0).2 x1 x2 x3 x4 x5 (f_X11_voters S y0).1)
def b_X11_does_a413 (S : HS) (x1 x2 x3 x4 x5 y0 y1 : Int32) : Int32 × HS := (b_X11_does_a424 (f_X11_top (sA S 29 ((y1 * y0) + x2).toNatClampNeg (vp_nar .byte (x3.toInt8.toInt32))) ).2 x1 x2 x3 x4 x5 (f_X11_top (sA S 29 ((y1 * y0) + x2).toNatClampNeg (vp_nar .byte (x3.toInt8.toInt32))) ).1)
def q_X11_does_a413 (S : HS) (x1 x2 x3 x4 x5 y0 y1 : Int32) : Prop := (vp_in ((y1 * y0) + x2) 18000) ∧ (p_X11_top (sA S 29 ((y1 * y0) + x2).toNatClampNeg (vp_nar .byte (x3.toInt8.toInt32))) ) ∧ (q_X11_does_a424 (f_X11_top (sA S 29 ((y1 * y0) + x2).toNatClampNeg (vp_nar .byte (x3.toInt8.toInt32))) ).2 x1 x2 x3 x4 x5 (f_X11_top (sA S 29 ((y1 * y0) + x2).toNatClampNeg (vp_nar .byte (x3.toInt8.toInt32))) ).1)
def b_X11_does_a432 (S : HS) (x1 x2 x3 x4 x5 : Int32) : Int32 × HS := ((S.1 6), S)
def q_X11_does_a432 (S : HS) (x1 x2 x3 x4 x5 : Int32) : Prop := True
def b_X11_does_a443 (S : HS) (x1 x2 x3 x4 x5 y0 : Int32) : Int32 × HS := (9, (sI (sA (sA S 15 y0.toNatClampNeg (S.1 2)) 31 ((sA S 15 y0.toNatClampNeg (S.1 2)).1 6).toNatClampNeg y0) 6 (((sA (sA S 15 y0.toNatClampNeg (S.1 2)) 31 ((sA S 15 y0.toNatClampNeg (S.1 2)).1 6).toNatClampNeg y0).1 6) + 1)))
def q_X11_does_a443 (S : HS) (x1 x2 x3 x4 x5 y0 : Int32) : Prop := (vp_in y0 90) ∧ (vp_in ((sA S 15 y0.toNatClampNeg (S.1 2)).1 6) 9) ∧ True
def b_X11_does_a484 (S : HS) (x1 x2 x3 x4 x5 y0 : Int32) : Int32 × HS := (y0, S)
def q_X11_does_a484 (S : HS) (x1 x2 x3 x4 x5 y0 : Int32) : Prop := True
def b_X11_does_a509 (S : HS) (x1 x2 x3 x4 x5 x6 : Int32) : Int32 × HS := (x6, (sI S 5 (-1)))
def q_X11_does_a509 (S : HS) (x1 x2 x3 x4 x5 x6 : Int32) : Prop := True
def b_X11_does_a502 (S : HS) (x1 x2 x3 x4 x5 x6 : Int32) : (Int32 × HS) ⊕ (HS × Int32 × Int32 × Int32 × Int32 × Int32 × Int32) := Sum.inr (S, x1, x2, x3, x4, x5, x6)
def q_X11_does_a502 (S : HS) (x1 x2 x3 x4 x5 x6 : Int32) : Prop := True
def st_X11_does_491 (S : HS) (x1 x2 x3 x4 x5 x6 : Int32) : (Int32 × HS) ⊕ (HS × Int32 × Int32 × Int32 × Int32 × Int32 × Int32) := if (S.1 6) ≤ 0 then Sum.inl ((b_X11_does_a509 (f_X11_dropDraft S ).2 x1 x2 x3 x4 x5 x6)) else (b_X11_does_a502 (f_X11_goes S ).2 x1 x2 x3 x4 x5 x6)
def ps_X11_does_491 (S : HS) (x1 x2 x3 x4 x5 x6 : Int32) : Prop := (if (S.1 6) ≤ 0 then (p_X11_dropDraft S ) ∧ (q_X11_does_a509 (f_X11_dropDraft S ).2 x1 x2 x3 x4 x5 x6) else (p_X11_goes S ) ∧ (q_X11_does_a502 (f_X11_goes S ).2 x1 x2 x3 x4 x5 x6))
def lp_X11_does_491 : Nat → HS → Int32 → Int32 → Int32 → Int32 → Int32 → Int32 → Int32 × HS
  | 0, S, _, _, _, _, _, _ => (0, S)
  | n + 1, S, x1, x2, x3, x4, x5, x6 => match st_X11_does_491 S x1 x2 x3 x4 x5 x6 with
    | Sum.inl r => r
    | Sum.inr q => lp_X11_does_491 n q.1 q.2.1 q.2.2.1 q.2.2.2.1 q.2.2.2.2.1 q.2.2.2.2.2.1 q.2.2.2.2.2.2
def lq_X11_does_491 : Nat → HS → Int32 → Int32 → Int32 → Int32 → Int32 → Int32 → Prop
  | 0, _, _, _, _, _, _, _ => False
  | n + 1, S, x1, x2, x3, x4, x5, x6 => ps_X11_does_491 S x1 x2 x3 x4 x5 x6 ∧ (match st_X11_does_491 S x1 x2 x3 x4 x5 x6 with
    | Sum.inl _ => True
    | Sum.inr q => lq_X11_does_491 n q.1 q.2.1 q.2.2.1 q.2.2.2.1 q.2.2.2.2.1 q.2.2.2.2.2.1 q.2.2.2.2.2.2)
def f_X11_does (S : HS) (x1 x2 x3 x4 x5 : Int32) : Int32 × HS := if x1 = 1 then (((sI (sA S 11 x2.toNatClampNeg (vp_nar .boolean 1)) 1 (((sA S 11 x2.toNatClampNeg (vp_nar .boolean 1)).1 1) + 1)).1 1), (sI (sA S 11 x2.toNatClampNeg (vp_nar .boolean 1)) 1 (((sA S 11 x2.toNatClampNeg (vp_nar .boolean 1)).1 1) + 1))) else if x1 = 2 then if ((sI (sA S 11 x2.toNatClampNeg (vp_nar .boolean 0)) 1 (((sA S 11 x2.toNatClampNeg (vp_nar .boolean 0)).1 1) - 1)).1 5) = x2 then (b_X11_does_152 (sI (sI (sA S 11 x2.toNatClampNeg (vp_nar .boolean 0)) 1 (((sA S 11 x2.toNatClampNeg (vp_nar .boolean 0)).1 1) - 1)) 5 (-1)) x1 x2 x3 x4 x5) else (b_X11_does_152 (sI (sA S 11 x2.toNatClampNeg (vp_nar .boolean 0)) 1 (((sA S 11 x2.toNatClampNeg (vp_nar .boolean 0)).1 1) - 1)) x1 x2 x3 x4 x5) else if x1 = 3 then (x2, (sI S 3 x2)) else if x1 = 4 then if ((sI S 2 x2).1 5) = x2 then (b_X11_does_182 (sI (sI S 2 x2) 5 (-1)) x1 x2 x3 x4 x5) else (b_X11_does_182 (sI S 2 x2) x1 x2 x3 x4 x5) else if x1 = 5 then ((S.2 12 x2.toNatClampNeg), (sA S 12 x2.toNatClampNeg x3)) else if x1 = 6 then (x2, (sI S 4 x2)) else if x1 = 7 then if ((sI S 5 x2).1 6) = 0 then (0, (sI S 5 x2)) else (b_X11_does_a231 (f_X11_top (sI S 5 x2) ).2 x1 x2 x3 x4 x5 (f_X11_top (sI S 5 x2) ).1) else if x1 = 8 then ((S.1 5), (sI S 5 (-1))) else if x1 = 9 then (b_X11_does_a268 (f_X11_top S ).2 x1 x2 x3 x4 x5 (f_X11_top S ).1) else if x1 = 10 then (b_X11_does_a287 (f_X11_dropDraft S ).2 x1 x2 x3 x4 x5) else if x1 = 11 then ((x3 - x2), (sA (sA S 20 (S.2 32 (0 : Int32).toNatClampNeg).toNatClampNeg x2) 21 ((sA S 20 (S.2 32 (0 : Int32).toNatClampNeg).toNatClampNeg x2).2 32 (0 : Int32).toNatClampNeg).toNatClampNeg x3)) else if x1 = 12 then (b_X11_does_a343 (f_X11_addWord S x2).2 x1 x2 x3 x4 x5) else if x1 = 13 then (b_X11_does_a377 (f_X11_lay S x2).2 x1 x2 x3 x4 x5 (f_X11_lay S x2).1) else if x1 = 14 then (b_X11_does_a383 (f_X11_take S x2).2 x1 x2 x3 x4 x5 (f_X11_take S x2).1) else if x1 = 15 then (b_X11_does_a389 (f_X11_move S x2).2 x1 x2 x3 x4 x5 (f_X11_move S x2).1) else if x1 = 16 then (b_X11_does_390 S x1 x2 x3 x4 x5) else if x1 = 17 then (b_X11_does_a413 (f_X11_top S ).2 x1 x2 x3 x4 x5 (f_X11_top S ).1 200) else if x1 = 18 then (b_X11_does_a432 (f_X11_goes S ).2 x1 x2 x3 x4 x5) else if x1 = 19 then (b_X11_does_a443 (f_X11_newSlot S 9).2 x1 x2 x3 x4 x5 (f_X11_newSlot S 9).1) else if x1 = 20 then (b_X11_does_390 S x1 x2 x3 x4 x5) else if x1 = 21 then (b_X11_does_a484 (f_X11_told S ).2 x1 x2 x3 x4 x5 (f_X11_told S ).1) else (lp_X11_does_491 100000 S x1 x2 x3 x4 x5 (S.1 6))
def p_X11_does (S : HS) (x1 x2 x3 x4 x5 : Int32) : Prop := (if x1 = 1 then (vp_in x2 200) ∧ True else (if x1 = 2 then (vp_in x2 200) ∧ (if ((sI (sA S 11 x2.toNatClampNeg (vp_nar .boolean 0)) 1 (((sA S 11 x2.toNatClampNeg (vp_nar .boolean 0)).1 1) - 1)).1 5) = x2 then (q_X11_does_152 (sI (sI (sA S 11 x2.toNatClampNeg (vp_nar .boolean 0)) 1 (((sA S 11 x2.toNatClampNeg (vp_nar .boolean 0)).1 1) - 1)) 5 (-1)) x1 x2 x3 x4 x5) else (q_X11_does_152 (sI (sA S 11 x2.toNatClampNeg (vp_nar .boolean 0)) 1 (((sA S 11 x2.toNatClampNeg (vp_nar .boolean 0)).1 1) - 1)) x1 x2 x3 x4 x5)) else (if x1 = 3 then True else (if x1 = 4 then (if ((sI S 2 x2).1 5) = x2 then (q_X11_does_182 (sI (sI S 2 x2) 5 (-1)) x1 x2 x3 x4 x5) else (q_X11_does_182 (sI S 2 x2) x1 x2 x3 x4 x5)) else (if x1 = 5 then (vp_in x2 9) ∧ (vp_in x2 9) ∧ True else (if x1 = 6 then True else (if x1 = 7 then (if ((sI S 5 x2).1 6) = 0 then True else (p_X11_top (sI S 5 x2) ) ∧ (q_X11_does_a231 (f_X11_top (sI S 5 x2) ).2 x1 x2 x3 x4 x5 (f_X11_top (sI S 5 x2) ).1)) else (if x1 = 8 then True else (if x1 = 9 then (p_X11_top S ) ∧ (q_X11_does_a268 (f_X11_top S ).2 x1 x2 x3 x4 x5 (f_X11_top S ).1) else (if x1 = 10 then (p_X11_dropDraft S ) ∧ (q_X11_does_a287 (f_X11_dropDraft S ).2 x1 x2 x3 x4 x5) else (if x1 = 11 then (vp_in 0 9) ∧ (vp_in (S.2 32 (0 : Int32).toNatClampNeg) 90) ∧ (vp_in 0 9) ∧ (vp_in ((sA S 20 (S.2 32 (0 : Int32).toNatClampNeg).toNatClampNeg x2).2 32 (0 : Int32).toNatClampNeg) 90) ∧ True else (if x1 = 12 then (p_X11_addWord S x2) ∧ (q_X11_does_a343 (f_X11_addWord S x2).2 x1 x2 x3 x4 x5) else (if x1 = 13 then (p_X11_lay S x2) ∧ (q_X11_does_a377 (f_X11_lay S x2).2 x1 x2 x3 x4 x5 (f_X11_lay S x2).1) else (if x1 = 14 then (p_X11_take S x2) ∧ (q_X11_does_a383 (f_X11_take S x2).2 x1 x2 x3 x4 x5 (f_X11_take S x2).1) else (if x1 = 15 then (p_X11_move S x2) ∧ (q_X11_does_a389 (f_X11_move S x2).2 x1 x2 x3 x4 x5 (f_X11_move S x2).1) else (if x1 = 16 then (q_X11_does_390 S x1 x2 x3 x4 x5) else (if x1 = 17 then (p_X11_top S ) ∧ (q_X11_does_a413 (f_X11_top S ).2 x1 x2 x3 x4 x5 (f_X11_top S ).1 200) else (if x1 = 18 then (p_X11_goes S ) ∧ (q_X11_does_a432 (f_X11_goes S ).2 x1 x2 x3 x4 x5) else (if x1 = 19 then (p_X11_newSlot S 9) ∧ (q_X11_does_a443 (f_X11_newSlot S 9).2 x1 x2 x3 x4 x5 (f_X11_newSlot S 9).1) else (if x1 = 20 then (q_X11_does_390 S x1 x2 x3 x4 x5) else (if x1 = 21 then (p_X11_told S ) ∧ (q_X11_does_a484 (f_X11_told S ).2 x1 x2 x3 x4 x5 (f_X11_told S ).1) else (lq_X11_does_491 100000 S x1 x2 x3 x4 x5 (S.1 6)))))))))))))))))))))))
def e_X11_does : List Cond := [.fieldLink RX11 9 "MotionFloorModel$Hall" "isThere" "[Z", .fieldLink RX11 100 "MotionFloorModel$Hall" "there" "I", .fieldLink RX11 112 "MotionFloorModel$Hall" "floor" "I", .fieldLink RX11 106 "MotionFloorModel$Hall" "quorum" "I", .fieldLink RX11 103 "MotionFloorModel$Hall" "chair" "I", .fieldLink RX11 15 "MotionFloorModel$Hall" "majority" "[I", .fieldLink RX11 109 "MotionFloorModel$Hall" "limit" "I", .fieldLink RX11 115 "MotionFloorModel$Hall" "pending" "I", .fieldLink RX11 31 "MotionFloorModel$Hall" "floors" "[I", .methodLink RX11 155 yX11_top, .instanceMethod yX11_top, .selects RX11 yX11_top yX11_top, .initialized RX11, .fieldLink RX11 34 "MotionFloorModel$Hall" "speeches" "[I", .methodLink RX11 206 yX11_dropDraft, .instanceMethod yX11_dropDraft, .selects RX11 yX11_dropDraft yX11_dropDraft, .fieldLink RX11 75 "MotionFloorModel$Hall" "draft" "[I", .methodLink RX11 209 yX11_newSlot, .instanceMethod yX11_newSlot, .selects RX11 yX11_newSlot yX11_newSlot, .fieldLink RX11 130 "MotionFloorModel$Hall" "drafted" "I", .fieldLink RX11 151 "MotionFloorModel$Hall" "draftTabled" "Z", .fieldLink RX11 40 "MotionFloorModel$Hall" "from" "[I", .fieldLink RX11 43 "MotionFloorModel$Hall" "to" "[I", .methodLink RX11 212 yX11_addWord, .instanceMethod yX11_addWord, .selects RX11 yX11_addWord yX11_addWord, .fieldLink RX11 37 "MotionFloorModel$Hall" "words" "[I", .methodLink RX11 215 yX11_lay, .instanceMethod yX11_lay, .selects RX11 yX11_lay yX11_lay, .methodLink RX11 218 yX11_take, .instanceMethod yX11_take, .selects RX11 yX11_take yX11_take, .methodLink RX11 221 yX11_move, .instanceMethod yX11_move, .selects RX11 yX11_move yX11_move, .fieldLink RX11 28 "MotionFloorModel$Hall" "seconder" "[I", .fieldLink RX11 68 "MotionFloorModel$Hall" "ballot" "[B", .methodLink RX11 224 yX11_voters, .instanceMethod yX11_voters, .selects RX11 yX11_voters yX11_voters, .methodLink RX11 227 yX11_goes, .instanceMethod yX11_goes, .selects RX11 yX11_goes yX11_goes, .fieldLink RX11 25 "MotionFloorModel$Hall" "mover" "[I", .fieldLink RX11 72 "MotionFloorModel$Hall" "row" "[I", .methodLink RX11 230 yX11_told, .instanceMethod yX11_told, .selects RX11 yX11_told yX11_told]
def v_X11_does : List Cond := .code yX11_does cX11_does 7 (some .int) :: (e_X11_does ++ (wsX110 ++ (v_X11_top ++ (v_X11_dropDraft ++ (v_X11_newSlot ++ (v_X11_addWord ++ (v_X11_lay ++ (v_X11_take ++ (v_X11_move ++ (v_X11_voters ++ (v_X11_goes ++ (v_X11_told ++ []))))))))))))
theorem te_X11_does : GoodIn lw_tbl e_X11_does := wGc z50 (wGc z117 (wGc z118 (wGc z116 (wGc z133 (wGc z170 (wGc z132 (wGc z56 (wGc z62 (wGc z91 (wGc z90 (wGc z89 (wGc z51 (wGc z61 (wGc z195 (wGc z194 (wGc z193 (wGc z84 (wGc z192 (wGc z191 (wGc z190 (wGc z86 (wGc z85 (wGc z75 (wGc z74 (wGc z189 (wGc z188 (wGc z187 (wGc z76 (wGc z186 (wGc z185 (wGc z184 (wGc z183 (wGc z182 (wGc z181 (wGc z180 (wGc z179 (wGc z178 (wGc z66 (wGc z59 (wGc z177 (wGc z176 (wGc z175 (wGc z157 (wGc z156 (wGc z155 (wGc z77 (wGc z57 (wGc z174 (wGc z173 (wGc z172 (wG0)))))))))))))))))))))))))))))))))))))))))))))))))))
theorem t_X11_does : GoodIn lw_tbl v_X11_does := wGc z196 (wGa te_X11_does (wGa zcX11 (wGa t_X11_top (wGa t_X11_dropDraft (wGa t_X11_newSlot (wGa t_X11_addWord (wGa t_X11_lay (wGa t_X11_take (wGa t_X11_move (wGa t_X11_voters (wGa t_X11_goes (wGa t_X11_told (wG0)))))))))))))
set_option maxHeartbeats 4000000 in
set_option maxRecDepth 100000 in
theorem c_X11_does (l : Launch) (G : va_G) (K : Nat → ClassId) (h : Nat) (g : Nat → Nat) (S0 : HS) (a1 a2 a3 a4 a5 : Int32) (sz : Nat) : Met l yX11_does v_X11_does ({ frames := 4, cells := 0, slots := 0, locals := 101 }) (va_Pc [.ref h, .int a1, .int a2, .int a3, .int a4, .int a5] (hS G K h g sz S0 (p_X11_does S0 a1 a2 a3 a4 a5))) (va_Qi (fun (r : Int32) (u : HS) => (r, u) = f_X11_does S0 a1 a2 a3 a4 a5) (hB G K h g (va_A (hW K h g S0) sz)) (va_A (hW K h g S0) sz)) 0 0 (va_A (hW K h g S0) sz) := by
  refine Met.ofW (cc := cX11_does) (maxL := 7) (ret := (some .int)) (by decide) rfl ?_
  intro p e s m args below meth c s₁ B hml hv
  obtain ⟨rfl, ⟨hsz, hP, hK, hD0, hTE⟩, hp⟩ := hv
  have hx := B.exec
  have hb := B.bytes
  have hr := B.returns
  have hts := atoms_spec (ws := v_X11_does) B.pre
  have t_ := t_X11_does
  have mw : ∀ w ∈ e_X11_does, w ∈ v_X11_does := fun w h => List.mem_cons_of_mem _ (List.mem_append_left _ h)
  have hw := fun w (h : w ∈ e_X11_does) => hts w (mw w h)
  have iX11 : ∀ w ∈ wsX110, w ∈ v_X11_does := fun w h => List.mem_cons_of_mem _ (List.mem_append_right _ (List.mem_append_left _ h))
  have j_X11_top : ∀ w ∈ v_X11_top, w ∈ v_X11_does := fun w h => List.mem_cons_of_mem _ (List.mem_append_right _ (List.mem_append_right _ (List.mem_append_left _ h)))
  have j_X11_dropDraft : ∀ w ∈ v_X11_dropDraft, w ∈ v_X11_does := fun w h => List.mem_cons_of_mem _ (List.mem_append_right _ (List.mem_append_right _ (List.mem_append_right _ (List.mem_append_left _ h))))
  have j_X11_newSlot : ∀ w ∈ v_X11_newSlot, w ∈ v_X11_does := fun w h => List.mem_cons_of_mem _ (List.mem_append_right _ (List.mem_append_right _ (List.mem_append_right _ (List.mem_append_right _ (List.mem_append_left _ h)))))
  have j_X11_addWord : ∀ w ∈ v_X11_addWord, w ∈ v_X11_does := fun w h => List.mem_cons_of_mem _ (List.mem_append_right _ (List.mem_append_right _ (List.mem_append_right _ (List.mem_append_right _ (List.mem_append_right _ (List.mem_append_left _ h))))))
  have j_X11_lay : ∀ w ∈ v_X11_lay, w ∈ v_X11_does := fun w h => List.mem_cons_of_mem _ (List.mem_append_right _ (List.mem_append_right _ (List.mem_append_right _ (List.mem_append_right _ (List.mem_append_right _ (List.mem_append_right _ (List.mem_append_left _ h)))))))
  have j_X11_take : ∀ w ∈ v_X11_take, w ∈ v_X11_does := fun w h => List.mem_cons_of_mem _ (List.mem_append_right _ (List.mem_append_right _ (List.mem_append_right _ (List.mem_append_right _ (List.mem_append_right _ (List.mem_append_right _ (List.mem_append_right _ (List.mem_append_left _ h))))))))
  have j_X11_move : ∀ w ∈ v_X11_move, w ∈ v_X11_does := fun w h => List.mem_cons_of_mem _ (List.mem_append_right _ (List.mem_append_right _ (List.mem_append_right _ (List.mem_append_right _ (List.mem_append_right _ (List.mem_append_right _ (List.mem_append_right _ (List.mem_append_right _ (List.mem_append_left _ h)))))))))
  have j_X11_voters : ∀ w ∈ v_X11_voters, w ∈ v_X11_does := fun w h => List.mem_cons_of_mem _ (List.mem_append_right _ (List.mem_append_right _ (List.mem_append_right _ (List.mem_append_right _ (List.mem_append_right _ (List.mem_append_right _ (List.mem_append_right _ (List.mem_append_right _ (List.mem_append_right _ (List.mem_append_left _ h))))))))))
  have j_X11_goes : ∀ w ∈ v_X11_goes, w ∈ v_X11_does := fun w h => List.mem_cons_of_mem _ (List.mem_append_right _ (List.mem_append_right _ (List.mem_append_right _ (List.mem_append_right _ (List.mem_append_right _ (List.mem_append_right _ (List.mem_append_right _ (List.mem_append_right _ (List.mem_append_right _ (List.mem_append_right _ (List.mem_append_left _ h)))))))))))
  have j_X11_told : ∀ w ∈ v_X11_told, w ∈ v_X11_does := fun w h => List.mem_cons_of_mem _ (List.mem_append_right _ (List.mem_append_right _ (List.mem_append_right _ (List.mem_append_right _ (List.mem_append_right _ (List.mem_append_right _ (List.mem_append_right _ (List.mem_append_right _ (List.mem_append_right _ (List.mem_append_right _ (List.mem_append_right _ (List.mem_append_left _ h))))))))))))
  have hown : s.vm.findClass RX11 = some m.cls := findClass_of_methodNamed B.named
  have hlocks := B.notSynchronized
  subst hsz
  have hD := hD0.self (sz := s.heap.size)
  generalize hAe : va_A (hW K h g S0) s.heap.size = A at hD ⊢
  have hA : ∀ q : Nat, s.heap.size ≤ q → A q := fun q h => by rw [← hAe]; exact Or.inr h
  have hS : va_S A s.heap s.heap [] := va_S.rf
  have hl := lv_entry ([.ref h, .int a1, .int a2, .int a3, .int a4, .int a5]) (n := 7) (Nat.le_of_ble_eq_true rfl)
  rw [lg_entry_eq]
  generalize (lg_sl ([.ref h, .int a1, .int a2, .int a3, .int a4, .int a5]) ++ List.replicate (7 - (lg_sl ([.ref h, .int a1, .int a2, .int a3, .int a4, .int a5])).length) Slot.unset).toArray = ls at hl ⊢
  have hl : lv_has ls 7 [(0, .ref h), (1, .int a1), (2, .int a2), (3, .int a3), (4, .int a4), (5, .int a5)] := hl
  refine wGen (fun Q hQ => ?_)
  obtain ⟨X, hX⟩ : ∃ X, f_X11_does S0 a1 a2 a3 a4 a5 = X := ⟨_, rfl⟩
  have B_152 : ∀ (S : HS) (x1 x2 x3 x4 x5 : Int32) (H : Heap) (locs : List Loc) (ls : Array Slot), b_X11_does_152 S x1 x2 x3 x4 x5 = X → q_X11_does_152 S x1 x2 x3 x4 x5 → va_P G vwCl (hW K h g S) H → va_D A (hW K h g S) → va_S A s.heap H locs → lv_has ls 7 [(0, .ref h), (1, .int x1), (2, .int x2), (3, .int x3), (4, .int x4), (5, .int x5)] → W p l e ({ frames := 4, cells := 0, slots := 0, locals := 101 } : Room) s m #[Value.ref h, Value.int a1, Value.int a2, Value.int a3, Value.int a4, Value.int a5] below meth c H locs 0 0 Q (F0 m 152 ls []) := by
    intro S x1 x2 x3 x4 x5 H locs ls hE hp hP hD hS hl
    unfold b_X11_does_152 at hE
    unfold q_X11_does_152 at hp
    refine lv_aload_n hx hb dX11_does_152 rfl (lv_at hl 0 rfl) ?_
    refine va_get (D := G) (ci := 8) (v := .int (S.1 1)) (C := RX11) (T := TX11) (N := 42) hx hb hts iX11 hown hK hP 0 rfl rfl 1 (by decide) (hw (.fieldLink RX11 100 "MotionFloorModel$Hall" "there" "I") (List.mem_of_getElem? (i := 1) rfl)) (fun _ h9 => h9) rfl dX11_does_153 ?_
    subst hQ
    exact W.iret (v := (S.1 1)) hx hb hr (fun t ht hW => ⟨⟨(S.1 1), S, rfl, hE.trans hX.symm, by rw [ht]; exact hP, hD⟩, hS.F ht⟩) hS.2.2 dX11_does_156
  have B_182 : ∀ (S : HS) (x1 x2 x3 x4 x5 : Int32) (H : Heap) (locs : List Loc) (ls : Array Slot), b_X11_does_182 S x1 x2 x3 x4 x5 = X → q_X11_does_182 S x1 x2 x3 x4 x5 → va_P G vwCl (hW K h g S) H → va_D A (hW K h g S) → va_S A s.heap H locs → lv_has ls 7 [(0, .ref h), (1, .int x1), (2, .int x2), (3, .int x3), (4, .int x4), (5, .int x5)] → W p l e ({ frames := 4, cells := 0, slots := 0, locals := 101 } : Room) s m #[Value.ref h, Value.int a1, Value.int a2, Value.int a3, Value.int a4, Value.int a5] below meth c H locs 0 0 Q (F0 m 182 ls []) := by
    intro S x1 x2 x3 x4 x5 H locs ls hE hp hP hD hS hl
    unfold b_X11_does_182 at hE
    unfold q_X11_does_182 at hp
    refine lv_iload_n hx hb dX11_does_182 rfl (lv_at hl 2 rfl) ?_
    subst hQ
    exact W.iret (v := x2) hx hb hr (fun t ht hW => ⟨⟨x2, S, rfl, hE.trans hX.symm, by rw [ht]; exact hP, hD⟩, hS.F ht⟩) hS.2.2 dX11_does_183
  have B_390 : ∀ (S : HS) (x1 x2 x3 x4 x5 : Int32) (H : Heap) (locs : List Loc) (ls : Array Slot), b_X11_does_390 S x1 x2 x3 x4 x5 = X → q_X11_does_390 S x1 x2 x3 x4 x5 → va_P G vwCl (hW K h g S) H → va_D A (hW K h g S) → va_S A s.heap H locs → lv_has ls 7 [(0, .ref h), (1, .int x1), (2, .int x2), (3, .int x3), (4, .int x4), (5, .int x5)] → W p l e ({ frames := 4, cells := 0, slots := 0, locals := 101 } : Room) s m #[Value.ref h, Value.int a1, Value.int a2, Value.int a3, Value.int a4, Value.int a5] below meth c H locs 0 0 Q (F0 m 390 ls []) := by
    intro S x1 x2 x3 x4 x5 H locs ls hE hp hP hD hS hl
    unfold b_X11_does_390 at hE
    unfold q_X11_does_390 at hp
    refine lv_aload_n hx hb dX11_does_390 rfl (lv_at hl 0 rfl) ?_
    refine va_get (D := G) (ci := 8) (v := .ref (g 16)) (C := RX11) (T := TX11) (N := 42) hx hb hts iX11 hown hK hP 0 rfl rfl 16 (by decide) (hw (.fieldLink RX11 28 "MotionFloorModel$Hall" "seconder" "[I") (List.mem_of_getElem? (i := 38) rfl)) (fun _ h9 => h9) rfl dX11_does_391 ?_
    refine lv_aload_n hx hb dX11_does_394 rfl (lv_at hl 0 rfl) ?_
    obtain ⟨hy105, hp⟩ := hp
    refine hGoi (va_runV (As := []) (rest := [.ref (g 16)]) ⟨hx, hb, hml, hown, hts⟩ (c_X11_top l G K h g S _) (cwV 0 hts (wGV t_ (mw (.methodLink RX11 155 yX11_top) (List.mem_of_getElem? (i := 9) rfl)) (mw (.instanceMethod yX11_top) (List.mem_of_getElem? (i := 10) rfl)) (mw (.selects RX11 yX11_top yX11_top) (List.mem_of_getElem? (i := 11) rfl)) (mw (.initialized RX11) (List.mem_of_getElem? (i := 12) rfl)) j_X11_top) rfl rfl rfl (by decide +kernel) ⟨Nat.le_of_ble_eq_true rfl, Nat.le_of_ble_eq_true rfl⟩) (hPV hK hTE hP hD hy105) rfl rfl hl.1 rfl (lv_room (Nat.le_of_ble_eq_true rfl)) dX11_does_395 ⟨Nat.le_of_ble_eq_true rfl, Nat.le_of_ble_eq_true rfl⟩) hP hD hS hA (fun r107 u106 H locs hv hP hD hS => ?_)
    rw [← hv] at hE hp
    dsimp only at hE hp
    unfold b_X11_does_a398 at hE
    unfold q_X11_does_a398 at hp
    refine lv_iload_n hx hb dX11_does_398 rfl (lv_at hl 2 rfl) ?_
    obtain ⟨hy108, hp⟩ := hp
    refine va_iast hx hb hK hP hD hS 6 0 rfl rfl hy108 dX11_does_399 (fun H locs hP hD hS => ?_)
    rw [sA_16] at hP hD
    refine lv_iconst (v := 1) hx hb dX11_does_400 (by decide) ?_
    subst hQ
    exact W.iret (v := 1) hx hb hr (fun t ht hW => ⟨⟨1, (sA u106 16 r107.toNatClampNeg x2), rfl, hE.trans hX.symm, by rw [ht]; exact hP, hD⟩, hS.F ht⟩) hS.2.2 dX11_does_401
  have L_491 : ∀ (n : Nat) (S : HS) (x1 x2 x3 x4 x5 x6 : Int32) (H : Heap) (locs : List Loc) (ls : Array Slot), lp_X11_does_491 n S x1 x2 x3 x4 x5 x6 = X → lq_X11_does_491 n S x1 x2 x3 x4 x5 x6 → va_P G vwCl (hW K h g S) H → va_D A (hW K h g S) → va_S A s.heap H locs → lv_has ls 7 [(0, .ref h), (1, .int x1), (2, .int x2), (3, .int x3), (4, .int x4), (5, .int x5), (6, .int x6)] → W p l e ({ frames := 4, cells := 0, slots := 0, locals := 101 } : Room) s m #[Value.ref h, Value.int a1, Value.int a2, Value.int a3, Value.int a4, Value.int a5] below meth c H locs 0 0 Q (F0 m 491 ls []) := by
    intro n1
    induction n1 with
    | zero => intro S x1 x2 x3 x4 x5 x6 H locs ls hE hp; exact False.elim hp
    | succ n1 ih1 =>
      intro S x1 x2 x3 x4 x5 x6 H locs ls hO1 hp hP hD hS hl
      rw [lp_X11_does_491] at hO1
      rw [lq_X11_does_491] at hp
      obtain ⟨hp, hq1⟩ := hp
      generalize hE : st_X11_does_491 S x1 x2 x3 x4 x5 x6 = Y1 at hO1 hq1
      unfold st_X11_does_491 at hE
      unfold ps_X11_does_491 at hp
      refine lv_aload_n hx hb dX11_does_491 rfl (lv_at hl 0 rfl) ?_
      refine va_get (D := G) (ci := 8) (v := .int (S.1 6)) (C := RX11) (T := TX11) (N := 42) hx hb hts iX11 hown hK hP 0 rfl rfl 6 (by decide) (hw (.fieldLink RX11 115 "MotionFloorModel$Hall" "pending" "I") (List.mem_of_getElem? (i := 7) rfl)) (fun _ h9 => h9) rfl dX11_does_492 ?_
      refine lv_if_le (tgt := 505) hx hb dX11_does_495 (by decide) (fun c143 => ?_) (fun c143 => ?_)
      · rw [if_pos c143] at hE hp
        subst hE
        have hE := hO1
        dsimp only at hE
        refine lv_aload_n hx hb dX11_does_505 rfl (lv_at hl 0 rfl) ?_
        obtain ⟨hy144, hp⟩ := hp
        refine hGov (va_runV (As := []) (rest := []) ⟨hx, hb, hml, hown, hts⟩ (c_X11_dropDraft l G K h g S _) (cwV 0 hts (wGV t_ (mw (.methodLink RX11 206 yX11_dropDraft) (List.mem_of_getElem? (i := 14) rfl)) (mw (.instanceMethod yX11_dropDraft) (List.mem_of_getElem? (i := 15) rfl)) (mw (.selects RX11 yX11_dropDraft yX11_dropDraft) (List.mem_of_getElem? (i := 16) rfl)) (mw (.initialized RX11) (List.mem_of_getElem? (i := 12) rfl)) j_X11_dropDraft) rfl rfl rfl (by decide +kernel) ⟨Nat.le_of_ble_eq_true rfl, Nat.le_of_ble_eq_true rfl⟩) (hPV hK hTE hP hD hy144) rfl rfl hl.1 rfl (lv_room (Nat.le_of_ble_eq_true rfl)) dX11_does_506 ⟨Nat.le_of_ble_eq_true rfl, Nat.le_of_ble_eq_true rfl⟩) hP hD hS hA (fun u145 H locs hv hP hD hS => ?_)
        rw [← hv] at hE hp
        dsimp only at hE hp
        unfold b_X11_does_a509 at hE
        unfold q_X11_does_a509 at hp
        refine lv_aload_n hx hb dX11_does_509 rfl (lv_at hl 0 rfl) ?_
        refine lv_iconst (v := (-1)) hx hb dX11_does_510 (by decide) ?_
        refine va_put (D := G) (ci := 8) (v := .int (-1)) (ty := .int) (C := RX11) (T := TX11) (N := 42) hx hb hts iX11 tyX11 tyX11_ok nmX11 hown hK hP hD hS 0 rfl rfl 5 (by decide) (hw (.fieldLink RX11 112 "MotionFloorModel$Hall" "floor" "I") (List.mem_of_getElem? (i := 2) rfl)) (fun _ h9 => h9) rfl (by decide +kernel) rfl rfl (Nat.le_of_ble_eq_true rfl) dX11_does_511 (fun H locs hP hD hS => ?_)
        rw [sI_5] at hP hD
        refine lv_iload hx hb dX11_does_514 (lv_at hl 6 rfl) ?_
        subst hQ
        exact W.iret (v := x6) hx hb hr (fun t ht hW => ⟨⟨x6, (sI u145 5 (-1)), rfl, hE.trans hX.symm, by rw [ht]; exact hP, hD⟩, hS.F ht⟩) hS.2.2 dX11_does_516
      · rw [if_neg c143] at hE hp
        refine lv_aload_n hx hb dX11_does_498 rfl (lv_at hl 0 rfl) ?_
        obtain ⟨hy147, hp⟩ := hp
        refine hGov (va_runV (As := []) (rest := []) ⟨hx, hb, hml, hown, hts⟩ (c_X11_goes l G K h g S _) (cwV 0 hts (wGV t_ (mw (.methodLink RX11 227 yX11_goes) (List.mem_of_getElem? (i := 43) rfl)) (mw (.instanceMethod yX11_goes) (List.mem_of_getElem? (i := 44) rfl)) (mw (.selects RX11 yX11_goes yX11_goes) (List.mem_of_getElem? (i := 45) rfl)) (mw (.initialized RX11) (List.mem_of_getElem? (i := 12) rfl)) j_X11_goes) rfl rfl rfl (by decide +kernel) ⟨Nat.le_of_ble_eq_true rfl, Nat.le_of_ble_eq_true rfl⟩) (hPV hK hTE hP hD hy147) rfl rfl hl.1 rfl (lv_room (Nat.le_of_ble_eq_true rfl)) dX11_does_499 ⟨Nat.le_of_ble_eq_true rfl, Nat.le_of_ble_eq_true rfl⟩) hP hD hS hA (fun u148 H locs hv hP hD hS => ?_)
        rw [← hv] at hE hp
        dsimp only at hE hp
        unfold b_X11_does_a502 at hE
        unfold q_X11_does_a502 at hp
        refine lv_goto (tgt := 491) hx hb dX11_does_502 (by decide) ?_
        subst hE
        dsimp only at hO1 hq1
        exact ih1 u148 x1 x2 x3 x4 x5 x6 _ _ _ hO1 hq1 hP hD hS (lv_sub hl [0, 1, 2, 3, 4, 5, 6] rfl)
  have B_M : ∀ (S : HS) (x1 x2 x3 x4 x5 : Int32) (H : Heap) (locs : List Loc) (ls : Array Slot), f_X11_does S x1 x2 x3 x4 x5 = X → p_X11_does S x1 x2 x3 x4 x5 → va_P G vwCl (hW K h g S) H → va_D A (hW K h g S) → va_S A s.heap H locs → lv_has ls 7 [(0, .ref h), (1, .int x1), (2, .int x2), (3, .int x3), (4, .int x4), (5, .int x5)] → W p l e ({ frames := 4, cells := 0, slots := 0, locals := 101 } : Room) s m #[Value.ref h, Value.int a1, Value.int a2, Value.int a3, Value.int a4, Value.int a5] below meth c H locs 0 0 Q (F0 m 0 ls []) := by
    intro S x1 x2 x3 x4 x5 H locs ls hE hp hP hD hS hl
    unfold f_X11_does at hE
    unfold p_X11_does at hp
    refine lv_iload_n hx hb dX11_does_0 rfl (lv_at hl 1 rfl) ?_
    by_cases s1 : x1 = 1
    · rw [if_pos s1] at hE hp
      refine lv_tableIn (off := 99) (tgt := 100) hx hb dX11_does_1 (by rw [s1]; decide) (by rw [s1]; decide) (by rw [s1]; decide) (by decide) ?_
      refine lv_aload_n hx hb dX11_does_100 rfl (lv_at hl 0 rfl) ?_
      refine va_get (D := G) (ci := 8) (v := .ref (g 11)) (C := RX11) (T := TX11) (N := 42) hx hb hts iX11 hown hK hP 0 rfl rfl 11 (by decide) (hw (.fieldLink RX11 9 "MotionFloorModel$Hall" "isThere" "[Z") (List.mem_of_getElem? (i := 0) rfl)) (fun _ h9 => h9) rfl dX11_does_101 ?_
      refine lv_iload_n hx hb dX11_does_104 rfl (lv_at hl 2 rfl) ?_
      refine lv_iconst (v := 1) hx hb dX11_does_105 (by decide) ?_
      obtain ⟨hy1, hp⟩ := hp
      refine va_zast hx hb hK hP hD hS 1 1 rfl rfl hy1 dX11_does_106 (fun H locs hP hD hS => ?_)
      rw [sA_11] at hP hD
      refine lv_aload_n hx hb dX11_does_107 rfl (lv_at hl 0 rfl) ?_
      refine lv_dup hx hb dX11_does_108 rfl ?_
      refine va_get (D := G) (ci := 8) (v := .int ((sA S 11 x2.toNatClampNeg (vp_nar .boolean 1)).1 1)) (C := RX11) (T := TX11) (N := 42) hx hb hts iX11 hown hK hP 0 rfl rfl 1 (by decide) (hw (.fieldLink RX11 100 "MotionFloorModel$Hall" "there" "I") (List.mem_of_getElem? (i := 1) rfl)) (fun _ h9 => h9) rfl dX11_does_109 ?_
      refine lv_iconst (v := 1) hx hb dX11_does_112 (by decide) ?_
      refine lv_iadd hx hb dX11_does_113 ?_
      refine va_put (D := G) (ci := 8) (v := .int (((sA S 11 x2.toNatClampNeg (vp_nar .boolean 1)).1 1) + 1)) (ty := .int) (C := RX11) (T := TX11) (N := 42) hx hb hts iX11 tyX11 tyX11_ok nmX11 hown hK hP hD hS 0 rfl rfl 1 (by decide) (hw (.fieldLink RX11 100 "MotionFloorModel$Hall" "there" "I") (List.mem_of_getElem? (i := 1) rfl)) (fun _ h9 => h9) rfl (by decide +kernel) rfl rfl (Nat.le_of_ble_eq_true rfl) dX11_does_114 (fun H locs hP hD hS => ?_)
      rw [sI_1] at hP hD
      refine lv_aload_n hx hb dX11_does_117 rfl (lv_at hl 0 rfl) ?_
      refine va_get (D := G) (ci := 8) (v := .int ((sI (sA S 11 x2.toNatClampNeg (vp_nar .boolean 1)) 1 (((sA S 11 x2.toNatClampNeg (vp_nar .boolean 1)).1 1) + 1)).1 1)) (C := RX11) (T := TX11) (N := 42) hx hb hts iX11 hown hK hP 0 rfl rfl 1 (by decide) (hw (.fieldLink RX11 100 "MotionFloorModel$Hall" "there" "I") (List.mem_of_getElem? (i := 1) rfl)) (fun _ h9 => h9) rfl dX11_does_118 ?_
      subst hQ
      exact W.iret (v := ((sI (sA S 11 x2.toNatClampNeg (vp_nar .boolean 1)) 1 (((sA S 11 x2.toNatClampNeg (vp_nar .boolean 1)).1 1) + 1)).1 1)) hx hb hr (fun t ht hW => ⟨⟨((sI (sA S 11 x2.toNatClampNeg (vp_nar .boolean 1)) 1 (((sA S 11 x2.toNatClampNeg (vp_nar .boolean 1)).1 1) + 1)).1 1), (sI (sA S 11 x2.toNatClampNeg (vp_nar .boolean 1)) 1 (((sA S 11 x2.toNatClampNeg (vp_nar .boolean 1)).1 1) + 1)), rfl, hE.trans hX.symm, by rw [ht]; exact hP, hD⟩, hS.F ht⟩) hS.2.2 dX11_does_121
    rw [if_neg s1] at hE hp
    have s1 := wNe (b := 1) rfl (by decide) s1
    by_cases s2 : x1 = 2
    · rw [if_pos s2] at hE hp
      refine lv_tableIn (off := 121) (tgt := 122) hx hb dX11_does_1 (by rw [s2]; decide) (by rw [s2]; decide) (by rw [s2]; decide) (by decide) ?_
      refine lv_aload_n hx hb dX11_does_122 rfl (lv_at hl 0 rfl) ?_
      refine va_get (D := G) (ci := 8) (v := .ref (g 11)) (C := RX11) (T := TX11) (N := 42) hx hb hts iX11 hown hK hP 0 rfl rfl 11 (by decide) (hw (.fieldLink RX11 9 "MotionFloorModel$Hall" "isThere" "[Z") (List.mem_of_getElem? (i := 0) rfl)) (fun _ h9 => h9) rfl dX11_does_123 ?_
      refine lv_iload_n hx hb dX11_does_126 rfl (lv_at hl 2 rfl) ?_
      refine lv_iconst (v := 0) hx hb dX11_does_127 (by decide) ?_
      obtain ⟨hy2, hp⟩ := hp
      refine va_zast hx hb hK hP hD hS 1 1 rfl rfl hy2 dX11_does_128 (fun H locs hP hD hS => ?_)
      rw [sA_11] at hP hD
      refine lv_aload_n hx hb dX11_does_129 rfl (lv_at hl 0 rfl) ?_
      refine lv_dup hx hb dX11_does_130 rfl ?_
      refine va_get (D := G) (ci := 8) (v := .int ((sA S 11 x2.toNatClampNeg (vp_nar .boolean 0)).1 1)) (C := RX11) (T := TX11) (N := 42) hx hb hts iX11 hown hK hP 0 rfl rfl 1 (by decide) (hw (.fieldLink RX11 100 "MotionFloorModel$Hall" "there" "I") (List.mem_of_getElem? (i := 1) rfl)) (fun _ h9 => h9) rfl dX11_does_131 ?_
      refine lv_iconst (v := 1) hx hb dX11_does_134 (by decide) ?_
      refine lv_isub hx hb dX11_does_135 ?_
      refine va_put (D := G) (ci := 8) (v := .int (((sA S 11 x2.toNatClampNeg (vp_nar .boolean 0)).1 1) - 1)) (ty := .int) (C := RX11) (T := TX11) (N := 42) hx hb hts iX11 tyX11 tyX11_ok nmX11 hown hK hP hD hS 0 rfl rfl 1 (by decide) (hw (.fieldLink RX11 100 "MotionFloorModel$Hall" "there" "I") (List.mem_of_getElem? (i := 1) rfl)) (fun _ h9 => h9) rfl (by decide +kernel) rfl rfl (Nat.le_of_ble_eq_true rfl) dX11_does_136 (fun H locs hP hD hS => ?_)
      rw [sI_1] at hP hD
      refine lv_aload_n hx hb dX11_does_139 rfl (lv_at hl 0 rfl) ?_
      refine va_get (D := G) (ci := 8) (v := .int ((sI (sA S 11 x2.toNatClampNeg (vp_nar .boolean 0)) 1 (((sA S 11 x2.toNatClampNeg (vp_nar .boolean 0)).1 1) - 1)).1 5)) (C := RX11) (T := TX11) (N := 42) hx hb hts iX11 hown hK hP 0 rfl rfl 5 (by decide) (hw (.fieldLink RX11 112 "MotionFloorModel$Hall" "floor" "I") (List.mem_of_getElem? (i := 2) rfl)) (fun _ h9 => h9) rfl dX11_does_140 ?_
      refine lv_iload_n hx hb dX11_does_143 rfl (lv_at hl 2 rfl) ?_
      refine lv_icmp_ne (tgt := 152) hx hb dX11_does_144 (by decide) (fun c3 => ?_) (fun c3 => ?_)
      · rw [if_neg c3] at hE hp
        exact B_152 (sI (sA S 11 x2.toNatClampNeg (vp_nar .boolean 0)) 1 (((sA S 11 x2.toNatClampNeg (vp_nar .boolean 0)).1 1) - 1)) x1 x2 x3 x4 x5 _ _ _ hE hp hP hD hS (lv_sub hl [0, 1, 2, 3, 4, 5] rfl)
      · rw [if_pos c3] at hE hp
        refine lv_aload_n hx hb dX11_does_147 rfl (lv_at hl 0 rfl) ?_
        refine lv_iconst (v := (-1)) hx hb dX11_does_148 (by decide) ?_
        refine va_put (D := G) (ci := 8) (v := .int (-1)) (ty := .int) (C := RX11) (T := TX11) (N := 42) hx hb hts iX11 tyX11 tyX11_ok nmX11 hown hK hP hD hS 0 rfl rfl 5 (by decide) (hw (.fieldLink RX11 112 "MotionFloorModel$Hall" "floor" "I") (List.mem_of_getElem? (i := 2) rfl)) (fun _ h9 => h9) rfl (by decide +kernel) rfl rfl (Nat.le_of_ble_eq_true rfl) dX11_does_149 (fun H locs hP hD hS => ?_)
        rw [sI_5] at hP hD
        exact B_152 (sI (sI (sA S 11 x2.toNatClampNeg (vp_nar .boolean 0)) 1 (((sA S 11 x2.toNatClampNeg (vp_nar .boolean 0)).1 1) - 1)) 5 (-1)) x1 x2 x3 x4 x5 _ _ _ hE hp hP hD hS (lv_sub hl [0, 1, 2, 3, 4, 5] rfl)
    rw [if_neg s2] at hE hp
    have s2 := wNe (b := 2) rfl (by decide) s2
    by_cases s3 : x1 = 3
    · rw [if_pos s3] at hE hp
      refine lv_tableIn (off := 156) (tgt := 157) hx hb dX11_does_1 (by rw [s3]; decide) (by rw [s3]; decide) (by rw [s3]; decide) (by decide) ?_
      refine lv_aload_n hx hb dX11_does_157 rfl (lv_at hl 0 rfl) ?_
      refine lv_iload_n hx hb dX11_does_158 rfl (lv_at hl 2 rfl) ?_
      refine va_put (D := G) (ci := 8) (v := .int x2) (ty := .int) (C := RX11) (T := TX11) (N := 42) hx hb hts iX11 tyX11 tyX11_ok nmX11 hown hK hP hD hS 0 rfl rfl 3 (by decide) (hw (.fieldLink RX11 106 "MotionFloorModel$Hall" "quorum" "I") (List.mem_of_getElem? (i := 3) rfl)) (fun _ h9 => h9) rfl (by decide +kernel) rfl rfl (Nat.le_of_ble_eq_true rfl) dX11_does_159 (fun H locs hP hD hS => ?_)
      rw [sI_3] at hP hD
      refine lv_iload_n hx hb dX11_does_162 rfl (lv_at hl 2 rfl) ?_
      subst hQ
      exact W.iret (v := x2) hx hb hr (fun t ht hW => ⟨⟨x2, (sI S 3 x2), rfl, hE.trans hX.symm, by rw [ht]; exact hP, hD⟩, hS.F ht⟩) hS.2.2 dX11_does_163
    rw [if_neg s3] at hE hp
    have s3 := wNe (b := 3) rfl (by decide) s3
    by_cases s4 : x1 = 4
    · rw [if_pos s4] at hE hp
      refine lv_tableIn (off := 163) (tgt := 164) hx hb dX11_does_1 (by rw [s4]; decide) (by rw [s4]; decide) (by rw [s4]; decide) (by decide) ?_
      refine lv_aload_n hx hb dX11_does_164 rfl (lv_at hl 0 rfl) ?_
      refine lv_iload_n hx hb dX11_does_165 rfl (lv_at hl 2 rfl) ?_
      refine va_put (D := G) (ci := 8) (v := .int x2) (ty := .int) (C := RX11) (T := TX11) (N := 42) hx hb hts iX11 tyX11 tyX11_ok nmX11 hown hK hP hD hS 0 rfl rfl 2 (by decide) (hw (.fieldLink RX11 103 "MotionFloorModel$Hall" "chair" "I") (List.mem_of_getElem? (i := 4) rfl)) (fun _ h9 => h9) rfl (by decide +kernel) rfl rfl (Nat.le_of_ble_eq_true rfl) dX11_does_166 (fun H locs hP hD hS => ?_)
      rw [sI_2] at hP hD
      refine lv_aload_n hx hb dX11_does_169 rfl (lv_at hl 0 rfl) ?_
      refine va_get (D := G) (ci := 8) (v := .int ((sI S 2 x2).1 5)) (C := RX11) (T := TX11) (N := 42) hx hb hts iX11 hown hK hP 0 rfl rfl 5 (by decide) (hw (.fieldLink RX11 112 "MotionFloorModel$Hall" "floor" "I") (List.mem_of_getElem? (i := 2) rfl)) (fun _ h9 => h9) rfl dX11_does_170 ?_
      refine lv_iload_n hx hb dX11_does_173 rfl (lv_at hl 2 rfl) ?_
      refine lv_icmp_ne (tgt := 182) hx hb dX11_does_174 (by decide) (fun c4 => ?_) (fun c4 => ?_)
      · rw [if_neg c4] at hE hp
        exact B_182 (sI S 2 x2) x1 x2 x3 x4 x5 _ _ _ hE hp hP hD hS (lv_sub hl [0, 1, 2, 3, 4, 5] rfl)
      · rw [if_pos c4] at hE hp
        refine lv_aload_n hx hb dX11_does_177 rfl (lv_at hl 0 rfl) ?_
        refine lv_iconst (v := (-1)) hx hb dX11_does_178 (by decide) ?_
        refine va_put (D := G) (ci := 8) (v := .int (-1)) (ty := .int) (C := RX11) (T := TX11) (N := 42) hx hb hts iX11 tyX11 tyX11_ok nmX11 hown hK hP hD hS 0 rfl rfl 5 (by decide) (hw (.fieldLink RX11 112 "MotionFloorModel$Hall" "floor" "I") (List.mem_of_getElem? (i := 2) rfl)) (fun _ h9 => h9) rfl (by decide +kernel) rfl rfl (Nat.le_of_ble_eq_true rfl) dX11_does_179 (fun H locs hP hD hS => ?_)
        rw [sI_5] at hP hD
        exact B_182 (sI (sI S 2 x2) 5 (-1)) x1 x2 x3 x4 x5 _ _ _ hE hp hP hD hS (lv_sub hl [0, 1, 2, 3, 4, 5] rfl)
    rw [if_neg s4] at hE hp
    have s4 := wNe (b := 4) rfl (by decide) s4
    by_cases s5 : x1 = 5
    · rw [if_pos s5] at hE hp
      refine lv_tableIn (off := 183) (tgt := 184) hx hb dX11_does_1 (by rw [s5]; decide) (by rw [s5]; decide) (by rw [s5]; decide) (by decide) ?_
      refine lv_aload_n hx hb dX11_does_184 rfl (lv_at hl 0 rfl) ?_
      refine va_get (D := G) (ci := 8) (v := .ref (g 12)) (C := RX11) (T := TX11) (N := 42) hx hb hts iX11 hown hK hP 0 rfl rfl 12 (by decide) (hw (.fieldLink RX11 15 "MotionFloorModel$Hall" "majority" "[I") (List.mem_of_getElem? (i := 5) rfl)) (fun _ h9 => h9) rfl dX11_does_185 ?_
      refine lv_iload_n hx hb dX11_does_188 rfl (lv_at hl 2 rfl) ?_
      obtain ⟨hy5, hp⟩ := hp
      refine va_iald hx hb hK hP 2 0 rfl rfl hy5 dX11_does_189 ?_
      refine lv_istore (lv' := [(6, .int (S.2 12 x2.toNatClampNeg)), (0, .ref h), (1, .int x1), (2, .int x2), (3, .int x3), (4, .int x4), (5, .int x5)]) hx hb dX11_does_190 hl (by decide) rfl (fun ls hl => ?_)
      refine lv_aload_n hx hb dX11_does_192 rfl (lv_at hl 1 rfl) ?_
      refine va_get (D := G) (ci := 8) (v := .ref (g 12)) (C := RX11) (T := TX11) (N := 42) hx hb hts iX11 hown hK hP 0 rfl rfl 12 (by decide) (hw (.fieldLink RX11 15 "MotionFloorModel$Hall" "majority" "[I") (List.mem_of_getElem? (i := 5) rfl)) (fun _ h9 => h9) rfl dX11_does_193 ?_
      refine lv_iload_n hx hb dX11_does_196 rfl (lv_at hl 3 rfl) ?_
      refine lv_iload_n hx hb dX11_does_197 rfl (lv_at hl 4 rfl) ?_
      obtain ⟨hy6, hp⟩ := hp
      refine va_iast hx hb hK hP hD hS 2 0 rfl rfl hy6 dX11_does_198 (fun H locs hP hD hS => ?_)
      rw [sA_12] at hP hD
      refine lv_iload hx hb dX11_does_199 (lv_at hl 0 rfl) ?_
      subst hQ
      exact W.iret (v := (S.2 12 x2.toNatClampNeg)) hx hb hr (fun t ht hW => ⟨⟨(S.2 12 x2.toNatClampNeg), (sA S 12 x2.toNatClampNeg x3), rfl, hE.trans hX.symm, by rw [ht]; exact hP, hD⟩, hS.F ht⟩) hS.2.2 dX11_does_201
    rw [if_neg s5] at hE hp
    have s5 := wNe (b := 5) rfl (by decide) s5
    by_cases s6 : x1 = 6
    · rw [if_pos s6] at hE hp
      refine lv_tableIn (off := 201) (tgt := 202) hx hb dX11_does_1 (by rw [s6]; decide) (by rw [s6]; decide) (by rw [s6]; decide) (by decide) ?_
      refine lv_aload_n hx hb dX11_does_202 rfl (lv_at hl 0 rfl) ?_
      refine lv_iload_n hx hb dX11_does_203 rfl (lv_at hl 2 rfl) ?_
      refine va_put (D := G) (ci := 8) (v := .int x2) (ty := .int) (C := RX11) (T := TX11) (N := 42) hx hb hts iX11 tyX11 tyX11_ok nmX11 hown hK hP hD hS 0 rfl rfl 4 (by decide) (hw (.fieldLink RX11 109 "MotionFloorModel$Hall" "limit" "I") (List.mem_of_getElem? (i := 6) rfl)) (fun _ h9 => h9) rfl (by decide +kernel) rfl rfl (Nat.le_of_ble_eq_true rfl) dX11_does_204 (fun H locs hP hD hS => ?_)
      rw [sI_4] at hP hD
      refine lv_iload_n hx hb dX11_does_207 rfl (lv_at hl 2 rfl) ?_
      subst hQ
      exact W.iret (v := x2) hx hb hr (fun t ht hW => ⟨⟨x2, (sI S 4 x2), rfl, hE.trans hX.symm, by rw [ht]; exact hP, hD⟩, hS.F ht⟩) hS.2.2 dX11_does_208
    rw [if_neg s6] at hE hp
    have s6 := wNe (b := 6) rfl (by decide) s6
    by_cases s7 : x1 = 7
    · rw [if_pos s7] at hE hp
      refine lv_tableIn (off := 208) (tgt := 209) hx hb dX11_does_1 (by rw [s7]; decide) (by rw [s7]; decide) (by rw [s7]; decide) (by decide) ?_
      refine lv_aload_n hx hb dX11_does_209 rfl (lv_at hl 0 rfl) ?_
      refine lv_iload_n hx hb dX11_does_210 rfl (lv_at hl 2 rfl) ?_
      refine va_put (D := G) (ci := 8) (v := .int x2) (ty := .int) (C := RX11) (T := TX11) (N := 42) hx hb hts iX11 tyX11 tyX11_ok nmX11 hown hK hP hD hS 0 rfl rfl 5 (by decide) (hw (.fieldLink RX11 112 "MotionFloorModel$Hall" "floor" "I") (List.mem_of_getElem? (i := 2) rfl)) (fun _ h9 => h9) rfl (by decide +kernel) rfl rfl (Nat.le_of_ble_eq_true rfl) dX11_does_211 (fun H locs hP hD hS => ?_)
      rw [sI_5] at hP hD
      refine lv_aload_n hx hb dX11_does_214 rfl (lv_at hl 0 rfl) ?_
      refine va_get (D := G) (ci := 8) (v := .int ((sI S 5 x2).1 6)) (C := RX11) (T := TX11) (N := 42) hx hb hts iX11 hown hK hP 0 rfl rfl 6 (by decide) (hw (.fieldLink RX11 115 "MotionFloorModel$Hall" "pending" "I") (List.mem_of_getElem? (i := 7) rfl)) (fun _ h9 => h9) rfl dX11_does_215 ?_
      refine lv_if_ne (tgt := 223) hx hb dX11_does_218 (by decide) (fun c7 => ?_) (fun c7 => ?_)
      · rw [if_neg c7] at hE hp
        refine lv_aload_n hx hb dX11_does_223 rfl (lv_at hl 0 rfl) ?_
        refine va_get (D := G) (ci := 8) (v := .ref (g 17)) (C := RX11) (T := TX11) (N := 42) hx hb hts iX11 hown hK hP 0 rfl rfl 17 (by decide) (hw (.fieldLink RX11 31 "MotionFloorModel$Hall" "floors" "[I") (List.mem_of_getElem? (i := 8) rfl)) (fun _ h9 => h9) rfl dX11_does_224 ?_
        refine lv_aload_n hx hb dX11_does_227 rfl (lv_at hl 0 rfl) ?_
        obtain ⟨hy8, hp⟩ := hp
        refine hGoi (va_runV (As := []) (rest := [.ref (g 17)]) ⟨hx, hb, hml, hown, hts⟩ (c_X11_top l G K h g (sI S 5 x2) _) (cwV 0 hts (wGV t_ (mw (.methodLink RX11 155 yX11_top) (List.mem_of_getElem? (i := 9) rfl)) (mw (.instanceMethod yX11_top) (List.mem_of_getElem? (i := 10) rfl)) (mw (.selects RX11 yX11_top yX11_top) (List.mem_of_getElem? (i := 11) rfl)) (mw (.initialized RX11) (List.mem_of_getElem? (i := 12) rfl)) j_X11_top) rfl rfl rfl (by decide +kernel) ⟨Nat.le_of_ble_eq_true rfl, Nat.le_of_ble_eq_true rfl⟩) (hPV hK hTE hP hD hy8) rfl rfl hl.1 rfl (lv_room (Nat.le_of_ble_eq_true rfl)) dX11_does_228 ⟨Nat.le_of_ble_eq_true rfl, Nat.le_of_ble_eq_true rfl⟩) hP hD hS hA (fun r10 u9 H locs hv hP hD hS => ?_)
        rw [← hv] at hE hp
        dsimp only at hE hp
        unfold b_X11_does_a231 at hE
        unfold q_X11_does_a231 at hp
        refine lv_dup2_11 hx hb dX11_does_231 rfl rfl ?_
        obtain ⟨hy11, hp⟩ := hp
        refine va_iald hx hb hK hP 7 0 rfl rfl hy11 dX11_does_232 ?_
        refine lv_iconst (v := 1) hx hb dX11_does_233 (by decide) ?_
        refine lv_iadd hx hb dX11_does_234 ?_
        obtain ⟨hy12, hp⟩ := hp
        refine va_iast hx hb hK hP hD hS 7 0 rfl rfl hy12 dX11_does_235 (fun H locs hP hD hS => ?_)
        rw [sA_17] at hP hD
        refine lv_aload_n hx hb dX11_does_236 rfl (lv_at hl 0 rfl) ?_
        refine va_get (D := G) (ci := 8) (v := .ref (g 17)) (C := RX11) (T := TX11) (N := 42) hx hb hts iX11 hown hK hP 0 rfl rfl 17 (by decide) (hw (.fieldLink RX11 31 "MotionFloorModel$Hall" "floors" "[I") (List.mem_of_getElem? (i := 8) rfl)) (fun _ h9 => h9) rfl dX11_does_237 ?_
        refine lv_aload_n hx hb dX11_does_240 rfl (lv_at hl 0 rfl) ?_
        obtain ⟨hy13, hp⟩ := hp
        refine hGoi (va_runV (As := []) (rest := [.ref (g 17)]) ⟨hx, hb, hml, hown, hts⟩ (c_X11_top l G K h g (sA u9 17 r10.toNatClampNeg ((u9.2 17 r10.toNatClampNeg) + 1)) _) (cwV 0 hts (wGV t_ (mw (.methodLink RX11 155 yX11_top) (List.mem_of_getElem? (i := 9) rfl)) (mw (.instanceMethod yX11_top) (List.mem_of_getElem? (i := 10) rfl)) (mw (.selects RX11 yX11_top yX11_top) (List.mem_of_getElem? (i := 11) rfl)) (mw (.initialized RX11) (List.mem_of_getElem? (i := 12) rfl)) j_X11_top) rfl rfl rfl (by decide +kernel) ⟨Nat.le_of_ble_eq_true rfl, Nat.le_of_ble_eq_true rfl⟩) (hPV hK hTE hP hD hy13) rfl rfl hl.1 rfl (lv_room (Nat.le_of_ble_eq_true rfl)) dX11_does_241 ⟨Nat.le_of_ble_eq_true rfl, Nat.le_of_ble_eq_true rfl⟩) hP hD hS hA (fun r15 u14 H locs hv hP hD hS => ?_)
        rw [← hv] at hE hp
        dsimp only at hE hp
        unfold b_X11_does_a244 at hE
        unfold q_X11_does_a244 at hp
        obtain ⟨hy16, hp⟩ := hp
        refine va_iald hx hb hK hP 7 0 rfl rfl hy16 dX11_does_244 ?_
        subst hQ
        exact W.iret (v := (u14.2 17 r15.toNatClampNeg)) hx hb hr (fun t ht hW => ⟨⟨(u14.2 17 r15.toNatClampNeg), u14, rfl, hE.trans hX.symm, by rw [ht]; exact hP, hD⟩, hS.F ht⟩) hS.2.2 dX11_does_245
      · rw [if_pos c7] at hE hp
        refine lv_iconst (v := 0) hx hb dX11_does_221 (by decide) ?_
        subst hQ
        exact W.iret (v := 0) hx hb hr (fun t ht hW => ⟨⟨0, (sI S 5 x2), rfl, hE.trans hX.symm, by rw [ht]; exact hP, hD⟩, hS.F ht⟩) hS.2.2 dX11_does_222
    rw [if_neg s7] at hE hp
    have s7 := wNe (b := 7) rfl (by decide) s7
    by_cases s8 : x1 = 8
    · rw [if_pos s8] at hE hp
      refine lv_tableIn (off := 245) (tgt := 246) hx hb dX11_does_1 (by rw [s8]; decide) (by rw [s8]; decide) (by rw [s8]; decide) (by decide) ?_
      refine lv_aload_n hx hb dX11_does_246 rfl (lv_at hl 0 rfl) ?_
      refine va_get (D := G) (ci := 8) (v := .int (S.1 5)) (C := RX11) (T := TX11) (N := 42) hx hb hts iX11 hown hK hP 0 rfl rfl 5 (by decide) (hw (.fieldLink RX11 112 "MotionFloorModel$Hall" "floor" "I") (List.mem_of_getElem? (i := 2) rfl)) (fun _ h9 => h9) rfl dX11_does_247 ?_
      refine lv_istore (lv' := [(6, .int (S.1 5)), (0, .ref h), (1, .int x1), (2, .int x2), (3, .int x3), (4, .int x4), (5, .int x5)]) hx hb dX11_does_250 hl (by decide) rfl (fun ls hl => ?_)
      refine lv_aload_n hx hb dX11_does_252 rfl (lv_at hl 1 rfl) ?_
      refine lv_iconst (v := (-1)) hx hb dX11_does_253 (by decide) ?_
      refine va_put (D := G) (ci := 8) (v := .int (-1)) (ty := .int) (C := RX11) (T := TX11) (N := 42) hx hb hts iX11 tyX11 tyX11_ok nmX11 hown hK hP hD hS 0 rfl rfl 5 (by decide) (hw (.fieldLink RX11 112 "MotionFloorModel$Hall" "floor" "I") (List.mem_of_getElem? (i := 2) rfl)) (fun _ h9 => h9) rfl (by decide +kernel) rfl rfl (Nat.le_of_ble_eq_true rfl) dX11_does_254 (fun H locs hP hD hS => ?_)
      rw [sI_5] at hP hD
      refine lv_iload hx hb dX11_does_257 (lv_at hl 0 rfl) ?_
      subst hQ
      exact W.iret (v := (S.1 5)) hx hb hr (fun t ht hW => ⟨⟨(S.1 5), (sI S 5 (-1)), rfl, hE.trans hX.symm, by rw [ht]; exact hP, hD⟩, hS.F ht⟩) hS.2.2 dX11_does_259
    rw [if_neg s8] at hE hp
    have s8 := wNe (b := 8) rfl (by decide) s8
    by_cases s9 : x1 = 9
    · rw [if_pos s9] at hE hp
      refine lv_tableIn (off := 259) (tgt := 260) hx hb dX11_does_1 (by rw [s9]; decide) (by rw [s9]; decide) (by rw [s9]; decide) (by decide) ?_
      refine lv_aload_n hx hb dX11_does_260 rfl (lv_at hl 0 rfl) ?_
      refine va_get (D := G) (ci := 8) (v := .ref (g 18)) (C := RX11) (T := TX11) (N := 42) hx hb hts iX11 hown hK hP 0 rfl rfl 18 (by decide) (hw (.fieldLink RX11 34 "MotionFloorModel$Hall" "speeches" "[I") (List.mem_of_getElem? (i := 13) rfl)) (fun _ h9 => h9) rfl dX11_does_261 ?_
      refine lv_aload_n hx hb dX11_does_264 rfl (lv_at hl 0 rfl) ?_
      obtain ⟨hy24, hp⟩ := hp
      refine hGoi (va_runV (As := []) (rest := [.ref (g 18)]) ⟨hx, hb, hml, hown, hts⟩ (c_X11_top l G K h g S _) (cwV 0 hts (wGV t_ (mw (.methodLink RX11 155 yX11_top) (List.mem_of_getElem? (i := 9) rfl)) (mw (.instanceMethod yX11_top) (List.mem_of_getElem? (i := 10) rfl)) (mw (.selects RX11 yX11_top yX11_top) (List.mem_of_getElem? (i := 11) rfl)) (mw (.initialized RX11) (List.mem_of_getElem? (i := 12) rfl)) j_X11_top) rfl rfl rfl (by decide +kernel) ⟨Nat.le_of_ble_eq_true rfl, Nat.le_of_ble_eq_true rfl⟩) (hPV hK hTE hP hD hy24) rfl rfl hl.1 rfl (lv_room (Nat.le_of_ble_eq_true rfl)) dX11_does_265 ⟨Nat.le_of_ble_eq_true rfl, Nat.le_of_ble_eq_true rfl⟩) hP hD hS hA (fun r26 u25 H locs hv hP hD hS => ?_)
      rw [← hv] at hE hp
      dsimp only at hE hp
      unfold b_X11_does_a268 at hE
      unfold q_X11_does_a268 at hp
      refine lv_dup2_11 hx hb dX11_does_268 rfl rfl ?_
      obtain ⟨hy27, hp⟩ := hp
      refine va_iald hx hb hK hP 8 0 rfl rfl hy27 dX11_does_269 ?_
      refine lv_iconst (v := 1) hx hb dX11_does_270 (by decide) ?_
      refine lv_iadd hx hb dX11_does_271 ?_
      obtain ⟨hy28, hp⟩ := hp
      refine va_iast hx hb hK hP hD hS 8 0 rfl rfl hy28 dX11_does_272 (fun H locs hP hD hS => ?_)
      rw [sA_18] at hP hD
      refine lv_aload_n hx hb dX11_does_273 rfl (lv_at hl 0 rfl) ?_
      refine va_get (D := G) (ci := 8) (v := .ref (g 18)) (C := RX11) (T := TX11) (N := 42) hx hb hts iX11 hown hK hP 0 rfl rfl 18 (by decide) (hw (.fieldLink RX11 34 "MotionFloorModel$Hall" "speeches" "[I") (List.mem_of_getElem? (i := 13) rfl)) (fun _ h9 => h9) rfl dX11_does_274 ?_
      refine lv_aload_n hx hb dX11_does_277 rfl (lv_at hl 0 rfl) ?_
      obtain ⟨hy29, hp⟩ := hp
      refine hGoi (va_runV (As := []) (rest := [.ref (g 18)]) ⟨hx, hb, hml, hown, hts⟩ (c_X11_top l G K h g (sA u25 18 r26.toNatClampNeg ((u25.2 18 r26.toNatClampNeg) + 1)) _) (cwV 0 hts (wGV t_ (mw (.methodLink RX11 155 yX11_top) (List.mem_of_getElem? (i := 9) rfl)) (mw (.instanceMethod yX11_top) (List.mem_of_getElem? (i := 10) rfl)) (mw (.selects RX11 yX11_top yX11_top) (List.mem_of_getElem? (i := 11) rfl)) (mw (.initialized RX11) (List.mem_of_getElem? (i := 12) rfl)) j_X11_top) rfl rfl rfl (by decide +kernel) ⟨Nat.le_of_ble_eq_true rfl, Nat.le_of_ble_eq_true rfl⟩) (hPV hK hTE hP hD hy29) rfl rfl hl.1 rfl (lv_room (Nat.le_of_ble_eq_true rfl)) dX11_does_278 ⟨Nat.le_of_ble_eq_true rfl, Nat.le_of_ble_eq_true rfl⟩) hP hD hS hA (fun r31 u30 H locs hv hP hD hS => ?_)
      rw [← hv] at hE hp
      dsimp only at hE hp
      unfold b_X11_does_a281 at hE
      unfold q_X11_does_a281 at hp
      obtain ⟨hy32, hp⟩ := hp
      refine va_iald hx hb hK hP 8 0 rfl rfl hy32 dX11_does_281 ?_
      subst hQ
      exact W.iret (v := (u30.2 18 r31.toNatClampNeg)) hx hb hr (fun t ht hW => ⟨⟨(u30.2 18 r31.toNatClampNeg), u30, rfl, hE.trans hX.symm, by rw [ht]; exact hP, hD⟩, hS.F ht⟩) hS.2.2 dX11_does_282
    rw [if_neg s9] at hE hp
    have s9 := wNe (b := 9) rfl (by decide) s9
    by_cases s10 : x1 = 10
    · rw [if_pos s10] at hE hp
      refine lv_tableIn (off := 282) (tgt := 283) hx hb dX11_does_1 (by rw [s10]; decide) (by rw [s10]; decide) (by rw [s10]; decide) (by decide) ?_
      refine lv_aload_n hx hb dX11_does_283 rfl (lv_at hl 0 rfl) ?_
      obtain ⟨hy40, hp⟩ := hp
      refine hGov (va_runV (As := []) (rest := []) ⟨hx, hb, hml, hown, hts⟩ (c_X11_dropDraft l G K h g S _) (cwV 0 hts (wGV t_ (mw (.methodLink RX11 206 yX11_dropDraft) (List.mem_of_getElem? (i := 14) rfl)) (mw (.instanceMethod yX11_dropDraft) (List.mem_of_getElem? (i := 15) rfl)) (mw (.selects RX11 yX11_dropDraft yX11_dropDraft) (List.mem_of_getElem? (i := 16) rfl)) (mw (.initialized RX11) (List.mem_of_getElem? (i := 12) rfl)) j_X11_dropDraft) rfl rfl rfl (by decide +kernel) ⟨Nat.le_of_ble_eq_true rfl, Nat.le_of_ble_eq_true rfl⟩) (hPV hK hTE hP hD hy40) rfl rfl hl.1 rfl (lv_room (Nat.le_of_ble_eq_true rfl)) dX11_does_284 ⟨Nat.le_of_ble_eq_true rfl, Nat.le_of_ble_eq_true rfl⟩) hP hD hS hA (fun u41 H locs hv hP hD hS => ?_)
      rw [← hv] at hE hp
      dsimp only at hE hp
      unfold b_X11_does_a287 at hE
      unfold q_X11_does_a287 at hp
      refine lv_aload_n hx hb dX11_does_287 rfl (lv_at hl 0 rfl) ?_
      refine va_get (D := G) (ci := 8) (v := .ref (g 32)) (C := RX11) (T := TX11) (N := 42) hx hb hts iX11 hown hK hP 0 rfl rfl 32 (by decide) (hw (.fieldLink RX11 75 "MotionFloorModel$Hall" "draft" "[I") (List.mem_of_getElem? (i := 17) rfl)) (fun _ h9 => h9) rfl dX11_does_288 ?_
      refine lv_iconst (v := 0) hx hb dX11_does_291 (by decide) ?_
      refine lv_aload_n hx hb dX11_does_292 rfl (lv_at hl 0 rfl) ?_
      refine lv_iload_n hx hb dX11_does_293 rfl (lv_at hl 2 rfl) ?_
      obtain ⟨hy43, hp⟩ := hp
      refine hGoi (va_runV (As := [.int x2]) (rest := [.int 0, .ref (g 32)]) ⟨hx, hb, hml, hown, hts⟩ (c_X11_newSlot l G K h g u41 x2 _) (cwV 1 hts (wGV t_ (mw (.methodLink RX11 209 yX11_newSlot) (List.mem_of_getElem? (i := 18) rfl)) (mw (.instanceMethod yX11_newSlot) (List.mem_of_getElem? (i := 19) rfl)) (mw (.selects RX11 yX11_newSlot yX11_newSlot) (List.mem_of_getElem? (i := 20) rfl)) (mw (.initialized RX11) (List.mem_of_getElem? (i := 12) rfl)) j_X11_newSlot) rfl rfl rfl (by decide +kernel) ⟨Nat.le_of_ble_eq_true rfl, Nat.le_of_ble_eq_true rfl⟩) (hPV hK hTE hP hD hy43) rfl rfl hl.1 rfl (lv_room (Nat.le_of_ble_eq_true rfl)) dX11_does_294 ⟨Nat.le_of_ble_eq_true rfl, Nat.le_of_ble_eq_true rfl⟩) hP hD hS hA (fun r45 u44 H locs hv hP hD hS => ?_)
      rw [← hv] at hE hp
      dsimp only at hE hp
      unfold b_X11_does_a297 at hE
      unfold q_X11_does_a297 at hp
      obtain ⟨hy46, hp⟩ := hp
      refine va_iast hx hb hK hP hD hS 21 0 rfl rfl hy46 dX11_does_297 (fun H locs hP hD hS => ?_)
      rw [sA_32] at hP hD
      refine lv_aload_n hx hb dX11_does_298 rfl (lv_at hl 0 rfl) ?_
      refine lv_iconst (v := 1) hx hb dX11_does_299 (by decide) ?_
      refine va_put (D := G) (ci := 8) (v := .int 1) (ty := .int) (C := RX11) (T := TX11) (N := 42) hx hb hts iX11 tyX11 tyX11_ok nmX11 hown hK hP hD hS 0 rfl rfl 35 (by decide) (hw (.fieldLink RX11 130 "MotionFloorModel$Hall" "drafted" "I") (List.mem_of_getElem? (i := 21) rfl)) (fun _ h9 => h9) rfl (by decide +kernel) rfl rfl (Nat.le_of_ble_eq_true rfl) dX11_does_300 (fun H locs hP hD hS => ?_)
      rw [sI_35] at hP hD
      refine lv_aload_n hx hb dX11_does_303 rfl (lv_at hl 0 rfl) ?_
      refine lv_iconst (v := 0) hx hb dX11_does_304 (by decide) ?_
      refine va_put (D := G) (ci := 8) (v := .int 0) (ty := .boolean) (C := RX11) (T := TX11) (N := 42) hx hb hts iX11 tyX11 tyX11_ok nmX11 hown hK hP hD hS 0 rfl rfl 36 (by decide) (hw (.fieldLink RX11 151 "MotionFloorModel$Hall" "draftTabled" "Z") (List.mem_of_getElem? (i := 22) rfl)) (fun _ h9 => h9) rfl (by decide +kernel) rfl rfl (Nat.le_of_ble_eq_true rfl) dX11_does_305 (fun H locs hP hD hS => ?_)
      rw [sI_36] at hP hD
      refine lv_iload_n hx hb dX11_does_308 rfl (lv_at hl 2 rfl) ?_
      subst hQ
      exact W.iret (v := x2) hx hb hr (fun t ht hW => ⟨⟨x2, (sI (sI (sA u44 32 (0 : Int32).toNatClampNeg r45) 35 1) 36 0), rfl, hE.trans hX.symm, by rw [ht]; exact hP, hD⟩, hS.F ht⟩) hS.2.2 dX11_does_309
    rw [if_neg s10] at hE hp
    have s10 := wNe (b := 10) rfl (by decide) s10
    by_cases s11 : x1 = 11
    · rw [if_pos s11] at hE hp
      refine lv_tableIn (off := 309) (tgt := 310) hx hb dX11_does_1 (by rw [s11]; decide) (by rw [s11]; decide) (by rw [s11]; decide) (by decide) ?_
      refine lv_aload_n hx hb dX11_does_310 rfl (lv_at hl 0 rfl) ?_
      refine va_get (D := G) (ci := 8) (v := .ref (g 20)) (C := RX11) (T := TX11) (N := 42) hx hb hts iX11 hown hK hP 0 rfl rfl 20 (by decide) (hw (.fieldLink RX11 40 "MotionFloorModel$Hall" "from" "[I") (List.mem_of_getElem? (i := 23) rfl)) (fun _ h9 => h9) rfl dX11_does_311 ?_
      refine lv_aload_n hx hb dX11_does_314 rfl (lv_at hl 0 rfl) ?_
      refine va_get (D := G) (ci := 8) (v := .ref (g 32)) (C := RX11) (T := TX11) (N := 42) hx hb hts iX11 hown hK hP 0 rfl rfl 32 (by decide) (hw (.fieldLink RX11 75 "MotionFloorModel$Hall" "draft" "[I") (List.mem_of_getElem? (i := 17) rfl)) (fun _ h9 => h9) rfl dX11_does_315 ?_
      refine lv_iconst (v := 0) hx hb dX11_does_318 (by decide) ?_
      obtain ⟨hy52, hp⟩ := hp
      refine va_iald hx hb hK hP 21 0 rfl rfl hy52 dX11_does_319 ?_
      refine lv_iload_n hx hb dX11_does_320 rfl (lv_at hl 2 rfl) ?_
      obtain ⟨hy53, hp⟩ := hp
      refine va_iast hx hb hK hP hD hS 10 0 rfl rfl hy53 dX11_does_321 (fun H locs hP hD hS => ?_)
      rw [sA_20] at hP hD
      refine lv_aload_n hx hb dX11_does_322 rfl (lv_at hl 0 rfl) ?_
      refine va_get (D := G) (ci := 8) (v := .ref (g 21)) (C := RX11) (T := TX11) (N := 42) hx hb hts iX11 hown hK hP 0 rfl rfl 21 (by decide) (hw (.fieldLink RX11 43 "MotionFloorModel$Hall" "to" "[I") (List.mem_of_getElem? (i := 24) rfl)) (fun _ h9 => h9) rfl dX11_does_323 ?_
      refine lv_aload_n hx hb dX11_does_326 rfl (lv_at hl 0 rfl) ?_
      refine va_get (D := G) (ci := 8) (v := .ref (g 32)) (C := RX11) (T := TX11) (N := 42) hx hb hts iX11 hown hK hP 0 rfl rfl 32 (by decide) (hw (.fieldLink RX11 75 "MotionFloorModel$Hall" "draft" "[I") (List.mem_of_getElem? (i := 17) rfl)) (fun _ h9 => h9) rfl dX11_does_327 ?_
      refine lv_iconst (v := 0) hx hb dX11_does_330 (by decide) ?_
      obtain ⟨hy54, hp⟩ := hp
      refine va_iald hx hb hK hP 21 0 rfl rfl hy54 dX11_does_331 ?_
      refine lv_iload_n hx hb dX11_does_332 rfl (lv_at hl 3 rfl) ?_
      obtain ⟨hy55, hp⟩ := hp
      refine va_iast hx hb hK hP hD hS 11 0 rfl rfl hy55 dX11_does_333 (fun H locs hP hD hS => ?_)
      rw [sA_21] at hP hD
      refine lv_iload_n hx hb dX11_does_334 rfl (lv_at hl 3 rfl) ?_
      refine lv_iload_n hx hb dX11_does_335 rfl (lv_at hl 2 rfl) ?_
      refine lv_isub hx hb dX11_does_336 ?_
      subst hQ
      exact W.iret (v := (x3 - x2)) hx hb hr (fun t ht hW => ⟨⟨(x3 - x2), (sA (sA S 20 (S.2 32 (0 : Int32).toNatClampNeg).toNatClampNeg x2) 21 ((sA S 20 (S.2 32 (0 : Int32).toNatClampNeg).toNatClampNeg x2).2 32 (0 : Int32).toNatClampNeg).toNatClampNeg x3), rfl, hE.trans hX.symm, by rw [ht]; exact hP, hD⟩, hS.F ht⟩) hS.2.2 dX11_does_337
    rw [if_neg s11] at hE hp
    have s11 := wNe (b := 11) rfl (by decide) s11
    by_cases s12 : x1 = 12
    · rw [if_pos s12] at hE hp
      refine lv_tableIn (off := 337) (tgt := 338) hx hb dX11_does_1 (by rw [s12]; decide) (by rw [s12]; decide) (by rw [s12]; decide) (by decide) ?_
      refine lv_aload_n hx hb dX11_does_338 rfl (lv_at hl 0 rfl) ?_
      refine lv_iload_n hx hb dX11_does_339 rfl (lv_at hl 2 rfl) ?_
      obtain ⟨hy56, hp⟩ := hp
      refine hGov (va_runV (As := [.int x2]) (rest := []) ⟨hx, hb, hml, hown, hts⟩ (c_X11_addWord l G K h g S x2 _) (cwV 1 hts (wGV t_ (mw (.methodLink RX11 212 yX11_addWord) (List.mem_of_getElem? (i := 25) rfl)) (mw (.instanceMethod yX11_addWord) (List.mem_of_getElem? (i := 26) rfl)) (mw (.selects RX11 yX11_addWord yX11_addWord) (List.mem_of_getElem? (i := 27) rfl)) (mw (.initialized RX11) (List.mem_of_getElem? (i := 12) rfl)) j_X11_addWord) rfl rfl rfl (by decide +kernel) ⟨Nat.le_of_ble_eq_true rfl, Nat.le_of_ble_eq_true rfl⟩) (hPV hK hTE hP hD hy56) rfl rfl hl.1 rfl (lv_room (Nat.le_of_ble_eq_true rfl)) dX11_does_340 ⟨Nat.le_of_ble_eq_true rfl, Nat.le_of_ble_eq_true rfl⟩) hP hD hS hA (fun u57 H locs hv hP hD hS => ?_)
      rw [← hv] at hE hp
      dsimp only at hE hp
      unfold b_X11_does_a343 at hE
      unfold q_X11_does_a343 at hp
      refine lv_aload_n hx hb dX11_does_343 rfl (lv_at hl 0 rfl) ?_
      refine lv_iload_n hx hb dX11_does_344 rfl (lv_at hl 3 rfl) ?_
      obtain ⟨hy59, hp⟩ := hp
      refine hGov (va_runV (As := [.int x3]) (rest := []) ⟨hx, hb, hml, hown, hts⟩ (c_X11_addWord l G K h g u57 x3 _) (cwV 1 hts (wGV t_ (mw (.methodLink RX11 212 yX11_addWord) (List.mem_of_getElem? (i := 25) rfl)) (mw (.instanceMethod yX11_addWord) (List.mem_of_getElem? (i := 26) rfl)) (mw (.selects RX11 yX11_addWord yX11_addWord) (List.mem_of_getElem? (i := 27) rfl)) (mw (.initialized RX11) (List.mem_of_getElem? (i := 12) rfl)) j_X11_addWord) rfl rfl rfl (by decide +kernel) ⟨Nat.le_of_ble_eq_true rfl, Nat.le_of_ble_eq_true rfl⟩) (hPV hK hTE hP hD hy59) rfl rfl hl.1 rfl (lv_room (Nat.le_of_ble_eq_true rfl)) dX11_does_345 ⟨Nat.le_of_ble_eq_true rfl, Nat.le_of_ble_eq_true rfl⟩) hP hD hS hA (fun u60 H locs hv hP hD hS => ?_)
      rw [← hv] at hE hp
      dsimp only at hE hp
      unfold b_X11_does_a348 at hE
      unfold q_X11_does_a348 at hp
      refine lv_aload_n hx hb dX11_does_348 rfl (lv_at hl 0 rfl) ?_
      refine lv_iload hx hb dX11_does_349 (lv_at hl 4 rfl) ?_
      obtain ⟨hy62, hp⟩ := hp
      refine hGov (va_runV (As := [.int x4]) (rest := []) ⟨hx, hb, hml, hown, hts⟩ (c_X11_addWord l G K h g u60 x4 _) (cwV 1 hts (wGV t_ (mw (.methodLink RX11 212 yX11_addWord) (List.mem_of_getElem? (i := 25) rfl)) (mw (.instanceMethod yX11_addWord) (List.mem_of_getElem? (i := 26) rfl)) (mw (.selects RX11 yX11_addWord yX11_addWord) (List.mem_of_getElem? (i := 27) rfl)) (mw (.initialized RX11) (List.mem_of_getElem? (i := 12) rfl)) j_X11_addWord) rfl rfl rfl (by decide +kernel) ⟨Nat.le_of_ble_eq_true rfl, Nat.le_of_ble_eq_true rfl⟩) (hPV hK hTE hP hD hy62) rfl rfl hl.1 rfl (lv_room (Nat.le_of_ble_eq_true rfl)) dX11_does_351 ⟨Nat.le_of_ble_eq_true rfl, Nat.le_of_ble_eq_true rfl⟩) hP hD hS hA (fun u63 H locs hv hP hD hS => ?_)
      rw [← hv] at hE hp
      dsimp only at hE hp
      unfold b_X11_does_a354 at hE
      unfold q_X11_does_a354 at hp
      refine lv_aload_n hx hb dX11_does_354 rfl (lv_at hl 0 rfl) ?_
      refine lv_iload hx hb dX11_does_355 (lv_at hl 5 rfl) ?_
      obtain ⟨hy65, hp⟩ := hp
      refine hGov (va_runV (As := [.int x5]) (rest := []) ⟨hx, hb, hml, hown, hts⟩ (c_X11_addWord l G K h g u63 x5 _) (cwV 1 hts (wGV t_ (mw (.methodLink RX11 212 yX11_addWord) (List.mem_of_getElem? (i := 25) rfl)) (mw (.instanceMethod yX11_addWord) (List.mem_of_getElem? (i := 26) rfl)) (mw (.selects RX11 yX11_addWord yX11_addWord) (List.mem_of_getElem? (i := 27) rfl)) (mw (.initialized RX11) (List.mem_of_getElem? (i := 12) rfl)) j_X11_addWord) rfl rfl rfl (by decide +kernel) ⟨Nat.le_of_ble_eq_true rfl, Nat.le_of_ble_eq_true rfl⟩) (hPV hK hTE hP hD hy65) rfl rfl hl.1 rfl (lv_room (Nat.le_of_ble_eq_true rfl)) dX11_does_357 ⟨Nat.le_of_ble_eq_true rfl, Nat.le_of_ble_eq_true rfl⟩) hP hD hS hA (fun u66 H locs hv hP hD hS => ?_)
      rw [← hv] at hE hp
      dsimp only at hE hp
      unfold b_X11_does_a360 at hE
      unfold q_X11_does_a360 at hp
      refine lv_aload_n hx hb dX11_does_360 rfl (lv_at hl 0 rfl) ?_
      refine va_get (D := G) (ci := 8) (v := .ref (g 19)) (C := RX11) (T := TX11) (N := 42) hx hb hts iX11 hown hK hP 0 rfl rfl 19 (by decide) (hw (.fieldLink RX11 37 "MotionFloorModel$Hall" "words" "[I") (List.mem_of_getElem? (i := 28) rfl)) (fun _ h9 => h9) rfl dX11_does_361 ?_
      refine lv_aload_n hx hb dX11_does_364 rfl (lv_at hl 0 rfl) ?_
      refine va_get (D := G) (ci := 8) (v := .ref (g 32)) (C := RX11) (T := TX11) (N := 42) hx hb hts iX11 hown hK hP 0 rfl rfl 32 (by decide) (hw (.fieldLink RX11 75 "MotionFloorModel$Hall" "draft" "[I") (List.mem_of_getElem? (i := 17) rfl)) (fun _ h9 => h9) rfl dX11_does_365 ?_
      refine lv_iconst (v := 0) hx hb dX11_does_368 (by decide) ?_
      obtain ⟨hy68, hp⟩ := hp
      refine va_iald hx hb hK hP 21 0 rfl rfl hy68 dX11_does_369 ?_
      obtain ⟨hy69, hp⟩ := hp
      refine va_iald hx hb hK hP 9 0 rfl rfl hy69 dX11_does_370 ?_
      subst hQ
      exact W.iret (v := (u66.2 19 (u66.2 32 (0 : Int32).toNatClampNeg).toNatClampNeg)) hx hb hr (fun t ht hW => ⟨⟨(u66.2 19 (u66.2 32 (0 : Int32).toNatClampNeg).toNatClampNeg), u66, rfl, hE.trans hX.symm, by rw [ht]; exact hP, hD⟩, hS.F ht⟩) hS.2.2 dX11_does_371
    rw [if_neg s12] at hE hp
    have s12 := wNe (b := 12) rfl (by decide) s12
    by_cases s13 : x1 = 13
    · rw [if_pos s13] at hE hp
      refine lv_tableIn (off := 371) (tgt := 372) hx hb dX11_does_1 (by rw [s13]; decide) (by rw [s13]; decide) (by rw [s13]; decide) (by decide) ?_
      refine lv_aload_n hx hb dX11_does_372 rfl (lv_at hl 0 rfl) ?_
      refine lv_iload_n hx hb dX11_does_373 rfl (lv_at hl 2 rfl) ?_
      obtain ⟨hy96, hp⟩ := hp
      refine hGoi (va_runV (As := [.int x2]) (rest := []) ⟨hx, hb, hml, hown, hts⟩ (c_X11_lay l G K h g S x2 _) (cwV 1 hts (wGV t_ (mw (.methodLink RX11 215 yX11_lay) (List.mem_of_getElem? (i := 29) rfl)) (mw (.instanceMethod yX11_lay) (List.mem_of_getElem? (i := 30) rfl)) (mw (.selects RX11 yX11_lay yX11_lay) (List.mem_of_getElem? (i := 31) rfl)) (mw (.initialized RX11) (List.mem_of_getElem? (i := 12) rfl)) j_X11_lay) rfl rfl rfl (by decide +kernel) ⟨Nat.le_of_ble_eq_true rfl, Nat.le_of_ble_eq_true rfl⟩) (hPV hK hTE hP hD hy96) rfl rfl hl.1 rfl (lv_room (Nat.le_of_ble_eq_true rfl)) dX11_does_374 ⟨Nat.le_of_ble_eq_true rfl, Nat.le_of_ble_eq_true rfl⟩) hP hD hS hA (fun r98 u97 H locs hv hP hD hS => ?_)
      rw [← hv] at hE hp
      dsimp only at hE hp
      unfold b_X11_does_a377 at hE
      unfold q_X11_does_a377 at hp
      subst hQ
      exact W.iret (v := r98) hx hb hr (fun t ht hW => ⟨⟨r98, u97, rfl, hE.trans hX.symm, by rw [ht]; exact hP, hD⟩, hS.F ht⟩) hS.2.2 dX11_does_377
    rw [if_neg s13] at hE hp
    have s13 := wNe (b := 13) rfl (by decide) s13
    by_cases s14 : x1 = 14
    · rw [if_pos s14] at hE hp
      refine lv_tableIn (off := 377) (tgt := 378) hx hb dX11_does_1 (by rw [s14]; decide) (by rw [s14]; decide) (by rw [s14]; decide) (by decide) ?_
      refine lv_aload_n hx hb dX11_does_378 rfl (lv_at hl 0 rfl) ?_
      refine lv_iload_n hx hb dX11_does_379 rfl (lv_at hl 2 rfl) ?_
      obtain ⟨hy99, hp⟩ := hp
      refine hGoi (va_runV (As := [.int x2]) (rest := []) ⟨hx, hb, hml, hown, hts⟩ (c_X11_take l G K h g S x2 _) (cwV 1 hts (wGV t_ (mw (.methodLink RX11 218 yX11_take) (List.mem_of_getElem? (i := 32) rfl)) (mw (.instanceMethod yX11_take) (List.mem_of_getElem? (i := 33) rfl)) (mw (.selects RX11 yX11_take yX11_take) (List.mem_of_getElem? (i := 34) rfl)) (mw (.initialized RX11) (List.mem_of_getElem? (i := 12) rfl)) j_X11_take) rfl rfl rfl (by decide +kernel) ⟨Nat.le_of_ble_eq_true rfl, Nat.le_of_ble_eq_true rfl⟩) (hPV hK hTE hP hD hy99) rfl rfl hl.1 rfl (lv_room (Nat.le_of_ble_eq_true rfl)) dX11_does_380 ⟨Nat.le_of_ble_eq_true rfl, Nat.le_of_ble_eq_true rfl⟩) hP hD hS hA (fun r101 u100 H locs hv hP hD hS => ?_)
      rw [← hv] at hE hp
      dsimp only at hE hp
      unfold b_X11_does_a383 at hE
      unfold q_X11_does_a383 at hp
      subst hQ
      exact W.iret (v := r101) hx hb hr (fun t ht hW => ⟨⟨r101, u100, rfl, hE.trans hX.symm, by rw [ht]; exact hP, hD⟩, hS.F ht⟩) hS.2.2 dX11_does_383
    rw [if_neg s14] at hE hp
    have s14 := wNe (b := 14) rfl (by decide) s14
    by_cases s15 : x1 = 15
    · rw [if_pos s15] at hE hp
      refine lv_tableIn (off := 383) (tgt := 384) hx hb dX11_does_1 (by rw [s15]; decide) (by rw [s15]; decide) (by rw [s15]; decide) (by decide) ?_
      refine lv_aload_n hx hb dX11_does_384 rfl (lv_at hl 0 rfl) ?_
      refine lv_iload_n hx hb dX11_does_385 rfl (lv_at hl 2 rfl) ?_
      obtain ⟨hy102, hp⟩ := hp
      refine hGoi (va_runV (As := [.int x2]) (rest := []) ⟨hx, hb, hml, hown, hts⟩ (c_X11_move l G K h g S x2 _) (cwV 1 hts (wGV t_ (mw (.methodLink RX11 221 yX11_move) (List.mem_of_getElem? (i := 35) rfl)) (mw (.instanceMethod yX11_move) (List.mem_of_getElem? (i := 36) rfl)) (mw (.selects RX11 yX11_move yX11_move) (List.mem_of_getElem? (i := 37) rfl)) (mw (.initialized RX11) (List.mem_of_getElem? (i := 12) rfl)) j_X11_move) rfl rfl rfl (by decide +kernel) ⟨Nat.le_of_ble_eq_true rfl, Nat.le_of_ble_eq_true rfl⟩) (hPV hK hTE hP hD hy102) rfl rfl hl.1 rfl (lv_room (Nat.le_of_ble_eq_true rfl)) dX11_does_386 ⟨Nat.le_of_ble_eq_true rfl, Nat.le_of_ble_eq_true rfl⟩) hP hD hS hA (fun r104 u103 H locs hv hP hD hS => ?_)
      rw [← hv] at hE hp
      dsimp only at hE hp
      unfold b_X11_does_a389 at hE
      unfold q_X11_does_a389 at hp
      subst hQ
      exact W.iret (v := r104) hx hb hr (fun t ht hW => ⟨⟨r104, u103, rfl, hE.trans hX.symm, by rw [ht]; exact hP, hD⟩, hS.F ht⟩) hS.2.2 dX11_does_389
    rw [if_neg s15] at hE hp
    have s15 := wNe (b := 15) rfl (by decide) s15
    by_cases s16 : x1 = 16
    · rw [if_pos s16] at hE hp
      refine lv_tableIn (off := 389) (tgt := 390) hx hb dX11_does_1 (by rw [s16]; decide) (by rw [s16]; decide) (by rw [s16]; decide) (by decide) ?_
      exact B_390 S x1 x2 x3 x4 x5 _ _ _ hE hp hP hD hS (lv_sub hl [0, 1, 2, 3, 4, 5] rfl)
    rw [if_neg s16] at hE hp
    have s16 := wNe (b := 16) rfl (by decide) s16
    by_cases s17 : x1 = 17
    · rw [if_pos s17] at hE hp
      refine lv_tableIn (off := 401) (tgt := 402) hx hb dX11_does_1 (by rw [s17]; decide) (by rw [s17]; decide) (by rw [s17]; decide) (by decide) ?_
      refine lv_aload_n hx hb dX11_does_402 rfl (lv_at hl 0 rfl) ?_
      refine va_get (D := G) (ci := 8) (v := .ref (g 29)) (C := RX11) (T := TX11) (N := 42) hx hb hts iX11 hown hK hP 0 rfl rfl 29 (by decide) (hw (.fieldLink RX11 68 "MotionFloorModel$Hall" "ballot" "[B") (List.mem_of_getElem? (i := 39) rfl)) (fun _ h9 => h9) rfl dX11_does_403 ?_
      refine lv_sipush (v := 200) hx hb dX11_does_406 (by decide) ?_
      refine lv_aload_n hx hb dX11_does_409 rfl (lv_at hl 0 rfl) ?_
      obtain ⟨hy110, hp⟩ := hp
      refine hGoi (va_runV (As := []) (rest := [.int 200, .ref (g 29)]) ⟨hx, hb, hml, hown, hts⟩ (c_X11_top l G K h g S _) (cwV 0 hts (wGV t_ (mw (.methodLink RX11 155 yX11_top) (List.mem_of_getElem? (i := 9) rfl)) (mw (.instanceMethod yX11_top) (List.mem_of_getElem? (i := 10) rfl)) (mw (.selects RX11 yX11_top yX11_top) (List.mem_of_getElem? (i := 11) rfl)) (mw (.initialized RX11) (List.mem_of_getElem? (i := 12) rfl)) j_X11_top) rfl rfl rfl (by decide +kernel) ⟨Nat.le_of_ble_eq_true rfl, Nat.le_of_ble_eq_true rfl⟩) (hPV hK hTE hP hD hy110) rfl rfl hl.1 rfl (lv_room (Nat.le_of_ble_eq_true rfl)) dX11_does_410 ⟨Nat.le_of_ble_eq_true rfl, Nat.le_of_ble_eq_true rfl⟩) hP hD hS hA (fun r112 u111 H locs hv hP hD hS => ?_)
      rw [← hv] at hE hp
      dsimp only at hE hp
      unfold b_X11_does_a413 at hE
      unfold q_X11_does_a413 at hp
      refine lv_imul hx hb dX11_does_413 ?_
      refine lv_iload_n hx hb dX11_does_414 rfl (lv_at hl 2 rfl) ?_
      refine lv_iadd hx hb dX11_does_415 ?_
      refine lv_iload_n hx hb dX11_does_416 rfl (lv_at hl 3 rfl) ?_
      refine lv_i2b (v := x3.toInt8.toInt32) hx hb dX11_does_417 rfl ?_
      obtain ⟨hy113, hp⟩ := hp
      refine va_bast hx hb hK hP hD hS 19 2 rfl rfl hy113 dX11_does_418 (fun H locs hP hD hS => ?_)
      rw [sA_29] at hP hD
      refine lv_aload_n hx hb dX11_does_419 rfl (lv_at hl 0 rfl) ?_
      refine lv_aload_n hx hb dX11_does_420 rfl (lv_at hl 0 rfl) ?_
      obtain ⟨hy114, hp⟩ := hp
      refine hGoi (va_runV (As := []) (rest := [.ref h]) ⟨hx, hb, hml, hown, hts⟩ (c_X11_top l G K h g (sA u111 29 ((200 * r112) + x2).toNatClampNeg (vp_nar .byte (x3.toInt8.toInt32))) _) (cwV 0 hts (wGV t_ (mw (.methodLink RX11 155 yX11_top) (List.mem_of_getElem? (i := 9) rfl)) (mw (.instanceMethod yX11_top) (List.mem_of_getElem? (i := 10) rfl)) (mw (.selects RX11 yX11_top yX11_top) (List.mem_of_getElem? (i := 11) rfl)) (mw (.initialized RX11) (List.mem_of_getElem? (i := 12) rfl)) j_X11_top) rfl rfl rfl (by decide +kernel) ⟨Nat.le_of_ble_eq_true rfl, Nat.le_of_ble_eq_true rfl⟩) (hPV hK hTE hP hD hy114) rfl rfl hl.1 rfl (lv_room (Nat.le_of_ble_eq_true rfl)) dX11_does_421 ⟨Nat.le_of_ble_eq_true rfl, Nat.le_of_ble_eq_true rfl⟩) hP hD hS hA (fun r116 u115 H locs hv hP hD hS => ?_)
      rw [← hv] at hE hp
      dsimp only at hE hp
      unfold b_X11_does_a424 at hE
      unfold q_X11_does_a424 at hp
      obtain ⟨hy117, hp⟩ := hp
      refine hGoi (va_runV (As := [.int r116]) (rest := []) ⟨hx, hb, hml, hown, hts⟩ (c_X11_voters l G K h g u115 r116 _) (cwV 1 hts (wGV t_ (mw (.methodLink RX11 224 yX11_voters) (List.mem_of_getElem? (i := 40) rfl)) (mw (.instanceMethod yX11_voters) (List.mem_of_getElem? (i := 41) rfl)) (mw (.selects RX11 yX11_voters yX11_voters) (List.mem_of_getElem? (i := 42) rfl)) (mw (.initialized RX11) (List.mem_of_getElem? (i := 12) rfl)) j_X11_voters) rfl rfl rfl (by decide +kernel) ⟨Nat.le_of_ble_eq_true rfl, Nat.le_of_ble_eq_true rfl⟩) (hPV hK hTE hP hD hy117) rfl rfl hl.1 rfl (lv_room (Nat.le_of_ble_eq_true rfl)) dX11_does_424 ⟨Nat.le_of_ble_eq_true rfl, Nat.le_of_ble_eq_true rfl⟩) hP hD hS hA (fun r119 u118 H locs hv hP hD hS => ?_)
      rw [← hv] at hE hp
      dsimp only at hE hp
      unfold b_X11_does_a427 at hE
      unfold q_X11_does_a427 at hp
      subst hQ
      exact W.iret (v := r119) hx hb hr (fun t ht hW => ⟨⟨r119, u118, rfl, hE.trans hX.symm, by rw [ht]; exact hP, hD⟩, hS.F ht⟩) hS.2.2 dX11_does_427
    rw [if_neg s17] at hE hp
    have s17 := wNe (b := 17) rfl (by decide) s17
    by_cases s18 : x1 = 18
    · rw [if_pos s18] at hE hp
      refine lv_tableIn (off := 427) (tgt := 428) hx hb dX11_does_1 (by rw [s18]; decide) (by rw [s18]; decide) (by rw [s18]; decide) (by decide) ?_
      refine lv_aload_n hx hb dX11_does_428 rfl (lv_at hl 0 rfl) ?_
      obtain ⟨hy130, hp⟩ := hp
      refine hGov (va_runV (As := []) (rest := []) ⟨hx, hb, hml, hown, hts⟩ (c_X11_goes l G K h g S _) (cwV 0 hts (wGV t_ (mw (.methodLink RX11 227 yX11_goes) (List.mem_of_getElem? (i := 43) rfl)) (mw (.instanceMethod yX11_goes) (List.mem_of_getElem? (i := 44) rfl)) (mw (.selects RX11 yX11_goes yX11_goes) (List.mem_of_getElem? (i := 45) rfl)) (mw (.initialized RX11) (List.mem_of_getElem? (i := 12) rfl)) j_X11_goes) rfl rfl rfl (by decide +kernel) ⟨Nat.le_of_ble_eq_true rfl, Nat.le_of_ble_eq_true rfl⟩) (hPV hK hTE hP hD hy130) rfl rfl hl.1 rfl (lv_room (Nat.le_of_ble_eq_true rfl)) dX11_does_429 ⟨Nat.le_of_ble_eq_true rfl, Nat.le_of_ble_eq_true rfl⟩) hP hD hS hA (fun u131 H locs hv hP hD hS => ?_)
      rw [← hv] at hE hp
      dsimp only at hE hp
      unfold b_X11_does_a432 at hE
      unfold q_X11_does_a432 at hp
      refine lv_aload_n hx hb dX11_does_432 rfl (lv_at hl 0 rfl) ?_
      refine va_get (D := G) (ci := 8) (v := .int (u131.1 6)) (C := RX11) (T := TX11) (N := 42) hx hb hts iX11 hown hK hP 0 rfl rfl 6 (by decide) (hw (.fieldLink RX11 115 "MotionFloorModel$Hall" "pending" "I") (List.mem_of_getElem? (i := 7) rfl)) (fun _ h9 => h9) rfl dX11_does_433 ?_
      subst hQ
      exact W.iret (v := (u131.1 6)) hx hb hr (fun t ht hW => ⟨⟨(u131.1 6), u131, rfl, hE.trans hX.symm, by rw [ht]; exact hP, hD⟩, hS.F ht⟩) hS.2.2 dX11_does_436
    rw [if_neg s18] at hE hp
    have s18 := wNe (b := 18) rfl (by decide) s18
    by_cases s19 : x1 = 19
    · rw [if_pos s19] at hE hp
      refine lv_tableIn (off := 436) (tgt := 437) hx hb dX11_does_1 (by rw [s19]; decide) (by rw [s19]; decide) (by rw [s19]; decide) (by decide) ?_
      refine lv_aload_n hx hb dX11_does_437 rfl (lv_at hl 0 rfl) ?_
      refine lv_bipush (v := 9) hx hb dX11_does_438 (by decide) ?_
      obtain ⟨hy133, hp⟩ := hp
      refine hGoi (va_runV (As := [.int 9]) (rest := []) ⟨hx, hb, hml, hown, hts⟩ (c_X11_newSlot l G K h g S 9 _) (cwV 1 hts (wGV t_ (mw (.methodLink RX11 209 yX11_newSlot) (List.mem_of_getElem? (i := 18) rfl)) (mw (.instanceMethod yX11_newSlot) (List.mem_of_getElem? (i := 19) rfl)) (mw (.selects RX11 yX11_newSlot yX11_newSlot) (List.mem_of_getElem? (i := 20) rfl)) (mw (.initialized RX11) (List.mem_of_getElem? (i := 12) rfl)) j_X11_newSlot) rfl rfl rfl (by decide +kernel) ⟨Nat.le_of_ble_eq_true rfl, Nat.le_of_ble_eq_true rfl⟩) (hPV hK hTE hP hD hy133) rfl rfl hl.1 rfl (lv_room (Nat.le_of_ble_eq_true rfl)) dX11_does_440 ⟨Nat.le_of_ble_eq_true rfl, Nat.le_of_ble_eq_true rfl⟩) hP hD hS hA (fun r135 u134 H locs hv hP hD hS => ?_)
      rw [← hv] at hE hp
      dsimp only at hE hp
      unfold b_X11_does_a443 at hE
      unfold q_X11_does_a443 at hp
      refine lv_istore (lv' := [(6, .int r135), (0, .ref h), (1, .int x1), (2, .int x2), (3, .int x3), (4, .int x4), (5, .int x5)]) hx hb dX11_does_443 hl (by decide) rfl (fun ls hl => ?_)
      refine lv_aload_n hx hb dX11_does_445 rfl (lv_at hl 1 rfl) ?_
      refine va_get (D := G) (ci := 8) (v := .ref (g 15)) (C := RX11) (T := TX11) (N := 42) hx hb hts iX11 hown hK hP 0 rfl rfl 15 (by decide) (hw (.fieldLink RX11 25 "MotionFloorModel$Hall" "mover" "[I") (List.mem_of_getElem? (i := 46) rfl)) (fun _ h9 => h9) rfl dX11_does_446 ?_
      refine lv_iload hx hb dX11_does_449 (lv_at hl 0 rfl) ?_
      refine lv_aload_n hx hb dX11_does_451 rfl (lv_at hl 1 rfl) ?_
      refine va_get (D := G) (ci := 8) (v := .int (u134.1 2)) (C := RX11) (T := TX11) (N := 42) hx hb hts iX11 hown hK hP 0 rfl rfl 2 (by decide) (hw (.fieldLink RX11 103 "MotionFloorModel$Hall" "chair" "I") (List.mem_of_getElem? (i := 4) rfl)) (fun _ h9 => h9) rfl dX11_does_452 ?_
      obtain ⟨hy136, hp⟩ := hp
      refine va_iast hx hb hK hP hD hS 5 0 rfl rfl hy136 dX11_does_455 (fun H locs hP hD hS => ?_)
      rw [sA_15] at hP hD
      refine lv_aload_n hx hb dX11_does_456 rfl (lv_at hl 1 rfl) ?_
      refine va_get (D := G) (ci := 8) (v := .ref (g 31)) (C := RX11) (T := TX11) (N := 42) hx hb hts iX11 hown hK hP 0 rfl rfl 31 (by decide) (hw (.fieldLink RX11 72 "MotionFloorModel$Hall" "row" "[I") (List.mem_of_getElem? (i := 47) rfl)) (fun _ h9 => h9) rfl dX11_does_457 ?_
      refine lv_aload_n hx hb dX11_does_460 rfl (lv_at hl 1 rfl) ?_
      refine va_get (D := G) (ci := 8) (v := .int ((sA u134 15 r135.toNatClampNeg (u134.1 2)).1 6)) (C := RX11) (T := TX11) (N := 42) hx hb hts iX11 hown hK hP 0 rfl rfl 6 (by decide) (hw (.fieldLink RX11 115 "MotionFloorModel$Hall" "pending" "I") (List.mem_of_getElem? (i := 7) rfl)) (fun _ h9 => h9) rfl dX11_does_461 ?_
      refine lv_iload hx hb dX11_does_464 (lv_at hl 0 rfl) ?_
      obtain ⟨hy137, hp⟩ := hp
      refine va_iast hx hb hK hP hD hS 20 0 rfl rfl hy137 dX11_does_466 (fun H locs hP hD hS => ?_)
      rw [sA_31] at hP hD
      refine lv_aload_n hx hb dX11_does_467 rfl (lv_at hl 1 rfl) ?_
      refine lv_dup hx hb dX11_does_468 rfl ?_
      refine va_get (D := G) (ci := 8) (v := .int ((sA (sA u134 15 r135.toNatClampNeg (u134.1 2)) 31 ((sA u134 15 r135.toNatClampNeg (u134.1 2)).1 6).toNatClampNeg r135).1 6)) (C := RX11) (T := TX11) (N := 42) hx hb hts iX11 hown hK hP 0 rfl rfl 6 (by decide) (hw (.fieldLink RX11 115 "MotionFloorModel$Hall" "pending" "I") (List.mem_of_getElem? (i := 7) rfl)) (fun _ h9 => h9) rfl dX11_does_469 ?_
      refine lv_iconst (v := 1) hx hb dX11_does_472 (by decide) ?_
      refine lv_iadd hx hb dX11_does_473 ?_
      refine va_put (D := G) (ci := 8) (v := .int (((sA (sA u134 15 r135.toNatClampNeg (u134.1 2)) 31 ((sA u134 15 r135.toNatClampNeg (u134.1 2)).1 6).toNatClampNeg r135).1 6) + 1)) (ty := .int) (C := RX11) (T := TX11) (N := 42) hx hb hts iX11 tyX11 tyX11_ok nmX11 hown hK hP hD hS 0 rfl rfl 6 (by decide) (hw (.fieldLink RX11 115 "MotionFloorModel$Hall" "pending" "I") (List.mem_of_getElem? (i := 7) rfl)) (fun _ h9 => h9) rfl (by decide +kernel) rfl rfl (Nat.le_of_ble_eq_true rfl) dX11_does_474 (fun H locs hP hD hS => ?_)
      rw [sI_6] at hP hD
      refine lv_bipush (v := 9) hx hb dX11_does_477 (by decide) ?_
      subst hQ
      exact W.iret (v := 9) hx hb hr (fun t ht hW => ⟨⟨9, (sI (sA (sA u134 15 r135.toNatClampNeg (u134.1 2)) 31 ((sA u134 15 r135.toNatClampNeg (u134.1 2)).1 6).toNatClampNeg r135) 6 (((sA (sA u134 15 r135.toNatClampNeg (u134.1 2)) 31 ((sA u134 15 r135.toNatClampNeg (u134.1 2)).1 6).toNatClampNeg r135).1 6) + 1)), rfl, hE.trans hX.symm, by rw [ht]; exact hP, hD⟩, hS.F ht⟩) hS.2.2 dX11_does_479
    rw [if_neg s19] at hE hp
    have s19 := wNe (b := 19) rfl (by decide) s19
    by_cases s20 : x1 = 20
    · rw [if_pos s20] at hE hp
      refine lv_tableIn (off := 389) (tgt := 390) hx hb dX11_does_1 (by rw [s20]; decide) (by rw [s20]; decide) (by rw [s20]; decide) (by decide) ?_
      exact B_390 S x1 x2 x3 x4 x5 _ _ _ hE hp hP hD hS (lv_sub hl [0, 1, 2, 3, 4, 5] rfl)
    rw [if_neg s20] at hE hp
    have s20 := wNe (b := 20) rfl (by decide) s20
    by_cases s21 : x1 = 21
    · rw [if_pos s21] at hE hp
      refine lv_tableIn (off := 479) (tgt := 480) hx hb dX11_does_1 (by rw [s21]; decide) (by rw [s21]; decide) (by rw [s21]; decide) (by decide) ?_
      refine lv_aload_n hx hb dX11_does_480 rfl (lv_at hl 0 rfl) ?_
      obtain ⟨hy140, hp⟩ := hp
      refine hGoi (va_runV (As := []) (rest := []) ⟨hx, hb, hml, hown, hts⟩ (c_X11_told l G K h g S _) (cwV 0 hts (wGV t_ (mw (.methodLink RX11 230 yX11_told) (List.mem_of_getElem? (i := 48) rfl)) (mw (.instanceMethod yX11_told) (List.mem_of_getElem? (i := 49) rfl)) (mw (.selects RX11 yX11_told yX11_told) (List.mem_of_getElem? (i := 50) rfl)) (mw (.initialized RX11) (List.mem_of_getElem? (i := 12) rfl)) j_X11_told) rfl rfl rfl (by decide +kernel) ⟨Nat.le_of_ble_eq_true rfl, Nat.le_of_ble_eq_true rfl⟩) (hPV hK hTE hP hD hy140) rfl rfl hl.1 rfl (lv_room (Nat.le_of_ble_eq_true rfl)) dX11_does_481 ⟨Nat.le_of_ble_eq_true rfl, Nat.le_of_ble_eq_true rfl⟩) hP hD hS hA (fun r142 u141 H locs hv hP hD hS => ?_)
      rw [← hv] at hE hp
      dsimp only at hE hp
      unfold b_X11_does_a484 at hE
      unfold q_X11_does_a484 at hp
      subst hQ
      exact W.iret (v := r142) hx hb hr (fun t ht hW => ⟨⟨r142, u141, rfl, hE.trans hX.symm, by rw [ht]; exact hP, hD⟩, hS.F ht⟩) hS.2.2 dX11_does_484
    rw [if_neg s21] at hE hp
    have s21 := wNe (b := 21) rfl (by decide) s21
    refine lv_tableOut (tgt := 485) hx hb dX11_does_1 (by omega) (by decide) ?_
    refine lv_aload_n hx hb dX11_does_485 rfl (lv_at hl 0 rfl) ?_
    refine va_get (D := G) (ci := 8) (v := .int (S.1 6)) (C := RX11) (T := TX11) (N := 42) hx hb hts iX11 hown hK hP 0 rfl rfl 6 (by decide) (hw (.fieldLink RX11 115 "MotionFloorModel$Hall" "pending" "I") (List.mem_of_getElem? (i := 7) rfl)) (fun _ h9 => h9) rfl dX11_does_486 ?_
    refine lv_istore (lv' := [(6, .int (S.1 6)), (0, .ref h), (1, .int x1), (2, .int x2), (3, .int x3), (4, .int x4), (5, .int x5)]) hx hb dX11_does_489 hl (by decide) rfl (fun ls hl => ?_)
    exact L_491 100000 S x1 x2 x3 x4 x5 (S.1 6) _ _ _ hE hp hP hD hS (lv_sub hl [1, 2, 3, 4, 5, 6, 0] rfl)
  exact B_M S0 a1 a2 a3 a4 a5 _ _ _ hX hp hP hD hS hl
