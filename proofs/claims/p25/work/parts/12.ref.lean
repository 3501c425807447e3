theorem gdX11_reasonOfMove_0 : ckS (List.drop 0 cX11_reasonOfMove.data.toList) 0 [(0, .aload_n 0, 1), (1, .getfield 130, 3), (4, .ifCond .ne 6, 3), (7, .bipush 11, 2), (9, .ireturn, 1), (10, .aload_n 0, 1), (11, .getfield 75, 3), (14, .iconst 0, 1), (15, .iaload, 1), (16, .istore_n 2, 1), (17, .aload_n 0, 1), (18, .getfield 151, 3), (21, .ifCond .eq 7, 3), (24, .iconst 1, 1), (25, .goto 9, 3), (28, .aload_n 0, 1), (29, .getfield 22, 3), (32, .iload_n 2, 1), (33, .iaload, 1), (34, .istore_n 3, 1), (35, .iload_n 3, 1), (36, .iconst 1, 1), (37, .if_icmp .ne 12, 3), (40, .aload_n 0, 1), (41, .getfield 115, 3), (44, .ifCond .le 83, 3), (47, .iconst 1, 1), (48, .ireturn, 1), (49, .iload_n 3, 1), (50, .iconst 4, 1), (51, .if_icmp .ge 13, 3), (54, .aload_n 0, 1), (55, .iload_n 3, 1), (56, .invokevirtual 184, 3), (59, .ifCond .ne 68, 3), (62, .iconst 1, 1), (63, .ireturn, 1), (64, .iconst 0, 1), (65, .istore 4, 2), (67, .iconst 0, 1)] = true := by decide +kernel
theorem dX11_reasonOfMove_0 : decode cX11_reasonOfMove 0 = .ok (.aload_n 0, 1) := ckS_g gdX11_reasonOfMove_0 0 rfl
theorem dX11_reasonOfMove_1 : decode cX11_reasonOfMove 1 = .ok (.getfield 130, 3) := ckS_g gdX11_reasonOfMove_0 1 rfl
theorem dX11_reasonOfMove_4 : decode cX11_reasonOfMove 4 = .ok (.ifCond .ne 6, 3) := ckS_g gdX11_reasonOfMove_0 2 rfl
theorem dX11_reasonOfMove_7 : decode cX11_reasonOfMove 7 = .ok (.bipush 11, 2) := ckS_g gdX11_reasonOfMove_0 3 rfl
theorem dX11_reasonOfMove_9 : decode cX11_reasonOfMove 9 = .ok (.ireturn, 1) := ckS_g gdX11_reasonOfMove_0 4 rfl
theorem dX11_reasonOfMove_10 : decode cX11_reasonOfMove 10 = .ok (.aload_n 0, 1) := ckS_g gdX11_reasonOfMove_0 5 rfl
theorem dX11_reasonOfMove_11 : decode cX11_reasonOfMove 11 = .ok (.getfield 75, 3) := ckS_g gdX11_reasonOfMove_0 6 rfl
theorem dX11_reasonOfMove_14 : decode cX11_reasonOfMove 14 = .ok (.iconst 0, 1) := ckS_g gdX11_reasonOfMove_0 7 rfl
theorem dX11_reasonOfMove_15 : decode cX11_reasonOfMove 15 = .ok (.iaload, 1) := ckS_g gdX11_reasonOfMove_0 8 rfl
theorem dX11_reasonOfMove_16 : decode cX11_reasonOfMove 16 = .ok (.istore_n 2, 1) := ckS_g gdX11_reasonOfMove_0 9 rfl
theorem dX11_reasonOfMove_17 : decode cX11_reasonOfMove 17 = .ok (.aload_n 0, 1) := ckS_g gdX11_reasonOfMove_0 10 rfl
theorem dX11_reasonOfMove_18 : decode cX11_reasonOfMove 18 = .ok (.getfield 151, 3) := ckS_g gdX11_reasonOfMove_0 11 rfl
theorem dX11_reasonOfMove_21 : decode cX11_reasonOfMove 21 = .ok (.ifCond .eq 7, 3) := ckS_g gdX11_reasonOfMove_0 12 rfl
theorem dX11_reasonOfMove_24 : decode cX11_reasonOfMove 24 = .ok (.iconst 1, 1) := ckS_g gdX11_reasonOfMove_0 13 rfl
theorem dX11_reasonOfMove_25 : decode cX11_reasonOfMove 25 = .ok (.goto 9, 3) := ckS_g gdX11_reasonOfMove_0 14 rfl
theorem dX11_reasonOfMove_28 : decode cX11_reasonOfMove 28 = .ok (.aload_n 0, 1) := ckS_g gdX11_reasonOfMove_0 15 rfl
theorem dX11_reasonOfMove_29 : decode cX11_reasonOfMove 29 = .ok (.getfield 22, 3) := ckS_g gdX11_reasonOfMove_0 16 rfl
theorem dX11_reasonOfMove_32 : decode cX11_reasonOfMove 32 = .ok (.iload_n 2, 1) := ckS_g gdX11_reasonOfMove_0 17 rfl
theorem dX11_reasonOfMove_33 : decode cX11_reasonOfMove 33 = .ok (.iaload, 1) := ckS_g gdX11_reasonOfMove_0 18 rfl
theorem dX11_reasonOfMove_34 : decode cX11_reasonOfMove 34 = .ok (.istore_n 3, 1) := ckS_g gdX11_reasonOfMove_0 19 rfl
theorem dX11_reasonOfMove_35 : decode cX11_reasonOfMove 35 = .ok (.iload_n 3, 1) := ckS_g gdX11_reasonOfMove_0 20 rfl
theorem dX11_reasonOfMove_36 : decode cX11_reasonOfMove 36 = .ok (.iconst 1, 1) := ckS_g gdX11_reasonOfMove_0 21 rfl
theorem dX11_reasonOfMove_37 : decode cX11_reasonOfMove 37 = .ok (.if_icmp .ne 12, 3) := ckS_g gdX11_reasonOfMove_0 22 rfl
theorem dX11_reasonOfMove_40 : decode cX11_reasonOfMove 40 = .ok (.aload_n 0, 1) := ckS_g gdX11_reasonOfMove_0 23 rfl
theorem dX11_reasonOfMove_41 : decode cX11_reasonOfMove 41 = .ok (.getfield 115, 3) := ckS_g gdX11_reasonOfMove_0 24 rfl
theorem dX11_reasonOfMove_44 : decode cX11_reasonOfMove 44 = .ok (.ifCond .le 83, 3) := ckS_g gdX11_reasonOfMove_0 25 rfl
theorem dX11_reasonOfMove_47 : decode cX11_reasonOfMove 47 = .ok (.iconst 1, 1) := ckS_g gdX11_reasonOfMove_0 26 rfl
theorem dX11_reasonOfMove_48 : decode cX11_reasonOfMove 48 = .ok (.ireturn, 1) := ckS_g gdX11_reasonOfMove_0 27 rfl
theorem dX11_reasonOfMove_49 : decode cX11_reasonOfMove 49 = .ok (.iload_n 3, 1) := ckS_g gdX11_reasonOfMove_0 28 rfl
theorem dX11_reasonOfMove_50 : decode cX11_reasonOfMove 50 = .ok (.iconst 4, 1) := ckS_g gdX11_reasonOfMove_0 29 rfl
theorem dX11_reasonOfMove_51 : decode cX11_reasonOfMove 51 = .ok (.if_icmp .ge 13, 3) := ckS_g gdX11_reasonOfMove_0 30 rfl
theorem dX11_reasonOfMove_54 : decode cX11_reasonOfMove 54 = .ok (.aload_n 0, 1) := ckS_g gdX11_reasonOfMove_0 31 rfl
theorem dX11_reasonOfMove_55 : decode cX11_reasonOfMove 55 = .ok (.iload_n 3, 1) := ckS_g gdX11_reasonOfMove_0 32 rfl
theorem dX11_reasonOfMove_56 : decode cX11_reasonOfMove 56 = .ok (.invokevirtual 184, 3) := ckS_g gdX11_reasonOfMove_0 33 rfl
theorem dX11_reasonOfMove_59 : decode cX11_reasonOfMove 59 = .ok (.ifCond .ne 68, 3) := ckS_g gdX11_reasonOfMove_0 34 rfl
theorem dX11_reasonOfMove_62 : decode cX11_reasonOfMove 62 = .ok (.iconst 1, 1) := ckS_g gdX11_reasonOfMove_0 35 rfl
theorem dX11_reasonOfMove_63 : decode cX11_reasonOfMove 63 = .ok (.ireturn, 1) := ckS_g gdX11_reasonOfMove_0 36 rfl
theorem dX11_reasonOfMove_64 : decode cX11_reasonOfMove 64 = .ok (.iconst 0, 1) := ckS_g gdX11_reasonOfMove_0 37 rfl
theorem dX11_reasonOfMove_65 : decode cX11_reasonOfMove 65 = .ok (.istore 4, 2) := ckS_g gdX11_reasonOfMove_0 38 rfl
theorem dX11_reasonOfMove_67 : decode cX11_reasonOfMove 67 = .ok (.iconst 0, 1) := ckS_g gdX11_reasonOfMove_0 39 rfl
theorem gdX11_reasonOfMove_68 : ckS (List.drop 68 cX11_reasonOfMove.data.toList) 68 [(68, .istore 5, 2), (70, .iload 5, 2), (72, .aload_n 0, 1), (73, .getfield 115, 3), (76, .if_icmp .ge 37, 3), (79, .iload 4, 2), (81, .ifCond .ne 19, 3), (84, .aload_n 0, 1), (85, .getfield 22, 3), (88, .aload_n 0, 1), (89, .getfield 72, 3), (92, .iload 5, 2), (94, .iaload, 1), (95, .iaload, 1), (96, .iload_n 3, 1), (97, .if_icmp .lt 7, 3), (100, .iconst 1, 1), (101, .goto 4, 3), (104, .iconst 0, 1), (105, .istore 4, 2), (107, .iinc 5 1, 3), (110, .goto (-40), 3), (113, .aload_n 0, 1), (114, .getfield 115, 3), (117, .ifCond .eq 8, 3), (120, .iload 4, 2), (122, .ifCond .eq 5, 3), (125, .iconst 1, 1), (126, .ireturn, 1), (127, .aload_n 0, 1), (128, .getfield 112, 3), (131, .iconst (-1), 1), (132, .if_icmp .eq 11, 3), (135, .aload_n 0, 1), (136, .getfield 112, 3), (139, .iload_n 1, 1), (140, .if_icmp .eq 5, 3), (143, .iconst 2, 1), (144, .ireturn, 1), (145, .aload_n 0, 1)] = true := by decide +kernel
theorem dX11_reasonOfMove_68 : decode cX11_reasonOfMove 68 = .ok (.istore 5, 2) := ckS_g gdX11_reasonOfMove_68 0 rfl
theorem dX11_reasonOfMove_70 : decode cX11_reasonOfMove 70 = .ok (.iload 5, 2) := ckS_g gdX11_reasonOfMove_68 1 rfl
theorem dX11_reasonOfMove_72 : decode cX11_reasonOfMove 72 = .ok (.aload_n 0, 1) := ckS_g gdX11_reasonOfMove_68 2 rfl
theorem dX11_reasonOfMove_73 : decode cX11_reasonOfMove 73 = .ok (.getfield 115, 3) := ckS_g gdX11_reasonOfMove_68 3 rfl
theorem dX11_reasonOfMove_76 : decode cX11_reasonOfMove 76 = .ok (.if_icmp .ge 37, 3) := ckS_g gdX11_reasonOfMove_68 4 rfl
theorem dX11_reasonOfMove_79 : decode cX11_reasonOfMove 79 = .ok (.iload 4, 2) := ckS_g gdX11_reasonOfMove_68 5 rfl
theorem dX11_reasonOfMove_81 : decode cX11_reasonOfMove 81 = .ok (.ifCond .ne 19, 3) := ckS_g gdX11_reasonOfMove_68 6 rfl
theorem dX11_reasonOfMove_84 : decode cX11_reasonOfMove 84 = .ok (.aload_n 0, 1) := ckS_g gdX11_reasonOfMove_68 7 rfl
theorem dX11_reasonOfMove_85 : decode cX11_reasonOfMove 85 = .ok (.getfield 22, 3) := ckS_g gdX11_reasonOfMove_68 8 rfl
theorem dX11_reasonOfMove_88 : decode cX11_reasonOfMove 88 = .ok (.aload_n 0, 1) := ckS_g gdX11_reasonOfMove_68 9 rfl
theorem dX11_reasonOfMove_89 : decode cX11_reasonOfMove 89 = .ok (.getfield 72, 3) := ckS_g gdX11_reasonOfMove_68 10 rfl
theorem dX11_reasonOfMove_92 : decode cX11_reasonOfMove 92 = .ok (.iload 5, 2) := ckS_g gdX11_reasonOfMove_68 11 rfl
theorem dX11_reasonOfMove_94 : decode cX11_reasonOfMove 94 = .ok (.iaload, 1) := ckS_g gdX11_reasonOfMove_68 12 rfl
theorem dX11_reasonOfMove_95 : decode cX11_reasonOfMove 95 = .ok (.iaload, 1) := ckS_g gdX11_reasonOfMove_68 13 rfl
theorem dX11_reasonOfMove_96 : decode cX11_reasonOfMove 96 = .ok (.iload_n 3, 1) := ckS_g gdX11_reasonOfMove_68 14 rfl
theorem dX11_reasonOfMove_97 : decode cX11_reasonOfMove 97 = .ok (.if_icmp .lt 7, 3) := ckS_g gdX11_reasonOfMove_68 15 rfl
theorem dX11_reasonOfMove_100 : decode cX11_reasonOfMove 100 = .ok (.iconst 1, 1) := ckS_g gdX11_reasonOfMove_68 16 rfl
theorem dX11_reasonOfMove_101 : decode cX11_reasonOfMove 101 = .ok (.goto 4, 3) := ckS_g gdX11_reasonOfMove_68 17 rfl
theorem dX11_reasonOfMove_104 : decode cX11_reasonOfMove 104 = .ok (.iconst 0, 1) := ckS_g gdX11_reasonOfMove_68 18 rfl
theorem dX11_reasonOfMove_105 : decode cX11_reasonOfMove 105 = .ok (.istore 4, 2) := ckS_g gdX11_reasonOfMove_68 19 rfl
theorem dX11_reasonOfMove_107 : decode cX11_reasonOfMove 107 = .ok (.iinc 5 1, 3) := ckS_g gdX11_reasonOfMove_68 20 rfl
theorem dX11_reasonOfMove_110 : decode cX11_reasonOfMove 110 = .ok (.goto (-40), 3) := ckS_g gdX11_reasonOfMove_68 21 rfl
theorem dX11_reasonOfMove_113 : decode cX11_reasonOfMove 113 = .ok (.aload_n 0, 1) := ckS_g gdX11_reasonOfMove_68 22 rfl
theorem dX11_reasonOfMove_114 : decode cX11_reasonOfMove 114 = .ok (.getfield 115, 3) := ckS_g gdX11_reasonOfMove_68 23 rfl
theorem dX11_reasonOfMove_117 : decode cX11_reasonOfMove 117 = .ok (.ifCond .eq 8, 3) := ckS_g gdX11_reasonOfMove_68 24 rfl
theorem dX11_reasonOfMove_120 : decode cX11_reasonOfMove 120 = .ok (.iload 4, 2) := ckS_g gdX11_reasonOfMove_68 25 rfl
theorem dX11_reasonOfMove_122 : decode cX11_reasonOfMove 122 = .ok (.ifCond .eq 5, 3) := ckS_g gdX11_reasonOfMove_68 26 rfl
theorem dX11_reasonOfMove_125 : decode cX11_reasonOfMove 125 = .ok (.iconst 1, 1) := ckS_g gdX11_reasonOfMove_68 27 rfl
theorem dX11_reasonOfMove_126 : decode cX11_reasonOfMove 126 = .ok (.ireturn, 1) := ckS_g gdX11_reasonOfMove_68 28 rfl
theorem dX11_reasonOfMove_127 : decode cX11_reasonOfMove 127 = .ok (.aload_n 0, 1) := ckS_g gdX11_reasonOfMove_68 29 rfl
theorem dX11_reasonOfMove_128 : decode cX11_reasonOfMove 128 = .ok (.getfield 112, 3) := ckS_g gdX11_reasonOfMove_68 30 rfl
theorem dX11_reasonOfMove_131 : decode cX11_reasonOfMove 131 = .ok (.iconst (-1), 1) := ckS_g gdX11_reasonOfMove_68 31 rfl
theorem dX11_reasonOfMove_132 : decode cX11_reasonOfMove 132 = .ok (.if_icmp .eq 11, 3) := ckS_g gdX11_reasonOfMove_68 32 rfl
theorem dX11_reasonOfMove_135 : decode cX11_reasonOfMove 135 = .ok (.aload_n 0, 1) := ckS_g gdX11_reasonOfMove_68 33 rfl
theorem dX11_reasonOfMove_136 : decode cX11_reasonOfMove 136 = .ok (.getfield 112, 3) := ckS_g gdX11_reasonOfMove_68 34 rfl
theorem dX11_reasonOfMove_139 : decode cX11_reasonOfMove 139 = .ok (.iload_n 1, 1) := ckS_g gdX11_reasonOfMove_68 35 rfl
theorem dX11_reasonOfMove_140 : decode cX11_reasonOfMove 140 = .ok (.if_icmp .eq 5, 3) := ckS_g gdX11_reasonOfMove_68 36 rfl
theorem dX11_reasonOfMove_143 : decode cX11_reasonOfMove 143 = .ok (.iconst 2, 1) := ckS_g gdX11_reasonOfMove_68 37 rfl
theorem dX11_reasonOfMove_144 : decode cX11_reasonOfMove 144 = .ok (.ireturn, 1) := ckS_g gdX11_reasonOfMove_68 38 rfl
theorem dX11_reasonOfMove_145 : decode cX11_reasonOfMove 145 = .ok (.aload_n 0, 1) := ckS_g gdX11_reasonOfMove_68 39 rfl
theorem gdX11_reasonOfMove_146 : ckS (List.drop 146 cX11_reasonOfMove.data.toList) 146 [(146, .getfield 115, 3), (149, .ifCond .le 12, 3), (152, .aload_n 0, 1), (153, .invokevirtual 159, 3), (156, .ifCond .ne 5, 3), (159, .iconst 3, 1), (160, .ireturn, 1), (161, .aload_n 0, 1), (162, .getfield 100, 3), (165, .aload_n 0, 1), (166, .getfield 106, 3), (169, .if_icmp .ge 5, 3), (172, .iconst 4, 1), (173, .ireturn, 1), (174, .aload_n 0, 1), (175, .getfield 151, 3), (178, .ifCond .ne 17, 3), (181, .iload_n 3, 1), (182, .iconst 2, 1), (183, .if_icmp .eq 8, 3), (186, .iload_n 3, 1), (187, .iconst 3, 1), (188, .if_icmp .ne 7, 3), (191, .iconst 1, 1), (192, .goto 4, 3), (195, .iconst 0, 1), (196, .istore 4, 2), (198, .iload 4, 2), (200, .ifCond .eq 59, 3), (203, .aload_n 0, 1), (204, .getfield 58, 3), (207, .iload_n 2, 1), (208, .baload, 1), (209, .ifCond .ne 48, 3), (212, .aload_n 0, 1), (213, .getfield 55, 3), (216, .iload_n 2, 1), (217, .baload, 1), (218, .ifCond .eq 21, 3), (221, .aload_n 0, 1)] = true := by decide +kernel
theorem dX11_reasonOfMove_146 : decode cX11_reasonOfMove 146 = .ok (.getfield 115, 3) := ckS_g gdX11_reasonOfMove_146 0 rfl
theorem dX11_reasonOfMove_149 : decode cX11_reasonOfMove 149 = .ok (.ifCond .le 12, 3) := ckS_g gdX11_reasonOfMove_146 1 rfl
theorem dX11_reasonOfMove_152 : decode cX11_reasonOfMove 152 = .ok (.aload_n 0, 1) := ckS_g gdX11_reasonOfMove_146 2 rfl
theorem dX11_reasonOfMove_153 : decode cX11_reasonOfMove 153 = .ok (.invokevirtual 159, 3) := ckS_g gdX11_reasonOfMove_146 3 rfl
theorem dX11_reasonOfMove_156 : decode cX11_reasonOfMove 156 = .ok (.ifCond .ne 5, 3) := ckS_g gdX11_reasonOfMove_146 4 rfl
theorem dX11_reasonOfMove_159 : decode cX11_reasonOfMove 159 = .ok (.iconst 3, 1) := ckS_g gdX11_reasonOfMove_146 5 rfl
theorem dX11_reasonOfMove_160 : decode cX11_reasonOfMove 160 = .ok (.ireturn, 1) := ckS_g gdX11_reasonOfMove_146 6 rfl
theorem dX11_reasonOfMove_161 : decode cX11_reasonOfMove 161 = .ok (.aload_n 0, 1) := ckS_g gdX11_reasonOfMove_146 7 rfl
theorem dX11_reasonOfMove_162 : decode cX11_reasonOfMove 162 = .ok (.getfield 100, 3) := ckS_g gdX11_reasonOfMove_146 8 rfl
theorem dX11_reasonOfMove_165 : decode cX11_reasonOfMove 165 = .ok (.aload_n 0, 1) := ckS_g gdX11_reasonOfMove_146 9 rfl
theorem dX11_reasonOfMove_166 : decode cX11_reasonOfMove 166 = .ok (.getfield 106, 3) := ckS_g gdX11_reasonOfMove_146 10 rfl
theorem dX11_reasonOfMove_169 : decode cX11_reasonOfMove 169 = .ok (.if_icmp .ge 5, 3) := ckS_g gdX11_reasonOfMove_146 11 rfl
theorem dX11_reasonOfMove_172 : decode cX11_reasonOfMove 172 = .ok (.iconst 4, 1) := ckS_g gdX11_reasonOfMove_146 12 rfl
theorem dX11_reasonOfMove_173 : decode cX11_reasonOfMove 173 = .ok (.ireturn, 1) := ckS_g gdX11_reasonOfMove_146 13 rfl
theorem dX11_reasonOfMove_174 : decode cX11_reasonOfMove 174 = .ok (.aload_n 0, 1) := ckS_g gdX11_reasonOfMove_146 14 rfl
theorem dX11_reasonOfMove_175 : decode cX11_reasonOfMove 175 = .ok (.getfield 151, 3) := ckS_g gdX11_reasonOfMove_146 15 rfl
theorem dX11_reasonOfMove_178 : decode cX11_reasonOfMove 178 = .ok (.ifCond .ne 17, 3) := ckS_g gdX11_reasonOfMove_146 16 rfl
theorem dX11_reasonOfMove_181 : decode cX11_reasonOfMove 181 = .ok (.iload_n 3, 1) := ckS_g gdX11_reasonOfMove_146 17 rfl
theorem dX11_reasonOfMove_182 : decode cX11_reasonOfMove 182 = .ok (.iconst 2, 1) := ckS_g gdX11_reasonOfMove_146 18 rfl
theorem dX11_reasonOfMove_183 : decode cX11_reasonOfMove 183 = .ok (.if_icmp .eq 8, 3) := ckS_g gdX11_reasonOfMove_146 19 rfl
theorem dX11_reasonOfMove_186 : decode cX11_reasonOfMove 186 = .ok (.iload_n 3, 1) := ckS_g gdX11_reasonOfMove_146 20 rfl
theorem dX11_reasonOfMove_187 : decode cX11_reasonOfMove 187 = .ok (.iconst 3, 1) := ckS_g gdX11_reasonOfMove_146 21 rfl
theorem dX11_reasonOfMove_188 : decode cX11_reasonOfMove 188 = .ok (.if_icmp .ne 7, 3) := ckS_g gdX11_reasonOfMove_146 22 rfl
theorem dX11_reasonOfMove_191 : decode cX11_reasonOfMove 191 = .ok (.iconst 1, 1) := ckS_g gdX11_reasonOfMove_146 23 rfl
theorem dX11_reasonOfMove_192 : decode cX11_reasonOfMove 192 = .ok (.goto 4, 3) := ckS_g gdX11_reasonOfMove_146 24 rfl
theorem dX11_reasonOfMove_195 : decode cX11_reasonOfMove 195 = .ok (.iconst 0, 1) := ckS_g gdX11_reasonOfMove_146 25 rfl
theorem dX11_reasonOfMove_196 : decode cX11_reasonOfMove 196 = .ok (.istore 4, 2) := ckS_g gdX11_reasonOfMove_146 26 rfl
theorem dX11_reasonOfMove_198 : decode cX11_reasonOfMove 198 = .ok (.iload 4, 2) := ckS_g gdX11_reasonOfMove_146 27 rfl
theorem dX11_reasonOfMove_200 : decode cX11_reasonOfMove 200 = .ok (.ifCond .eq 59, 3) := ckS_g gdX11_reasonOfMove_146 28 rfl
theorem dX11_reasonOfMove_203 : decode cX11_reasonOfMove 203 = .ok (.aload_n 0, 1) := ckS_g gdX11_reasonOfMove_146 29 rfl
theorem dX11_reasonOfMove_204 : decode cX11_reasonOfMove 204 = .ok (.getfield 58, 3) := ckS_g gdX11_reasonOfMove_146 30 rfl
theorem dX11_reasonOfMove_207 : decode cX11_reasonOfMove 207 = .ok (.iload_n 2, 1) := ckS_g gdX11_reasonOfMove_146 31 rfl
theorem dX11_reasonOfMove_208 : decode cX11_reasonOfMove 208 = .ok (.baload, 1) := ckS_g gdX11_reasonOfMove_146 32 rfl
theorem dX11_reasonOfMove_209 : decode cX11_reasonOfMove 209 = .ok (.ifCond .ne 48, 3) := ckS_g gdX11_reasonOfMove_146 33 rfl
theorem dX11_reasonOfMove_212 : decode cX11_reasonOfMove 212 = .ok (.aload_n 0, 1) := ckS_g gdX11_reasonOfMove_146 34 rfl
theorem dX11_reasonOfMove_213 : decode cX11_reasonOfMove 213 = .ok (.getfield 55, 3) := ckS_g gdX11_reasonOfMove_146 35 rfl
theorem dX11_reasonOfMove_216 : decode cX11_reasonOfMove 216 = .ok (.iload_n 2, 1) := ckS_g gdX11_reasonOfMove_146 36 rfl
theorem dX11_reasonOfMove_217 : decode cX11_reasonOfMove 217 = .ok (.baload, 1) := ckS_g gdX11_reasonOfMove_146 37 rfl
theorem dX11_reasonOfMove_218 : decode cX11_reasonOfMove 218 = .ok (.ifCond .eq 21, 3) := ckS_g gdX11_reasonOfMove_146 38 rfl
theorem dX11_reasonOfMove_221 : decode cX11_reasonOfMove 221 = .ok (.aload_n 0, 1) := ckS_g gdX11_reasonOfMove_146 39 rfl
theorem gdX11_reasonOfMove_222 : ckS (List.drop 222 cX11_reasonOfMove.data.toList) 222 [(222, .getfield 49, 3), (225, .iload_n 2, 1), (226, .iaload, 1), (227, .aload_n 0, 1), (228, .getfield 46, 3), (231, .aload_n 0, 1), (232, .invokevirtual 155, 3), (235, .iaload, 1), (236, .if_icmp .ne 21, 3), (239, .aload_n 0, 1), (240, .getfield 43, 3), (243, .iload_n 2, 1), (244, .iaload, 1), (245, .aload_n 0, 1), (246, .getfield 37, 3), (249, .aload_n 0, 1), (250, .invokevirtual 155, 3), (253, .iaload, 1), (254, .if_icmp .le 5, 3), (257, .iconst 5, 1), (258, .ireturn, 1), (259, .aload_n 0, 1), (260, .getfield 151, 3), (263, .ifCond .eq 5, 3), (266, .iconst 0, 1), (267, .ireturn, 1), (268, .aload_n 0, 1), (269, .getfield 115, 3), (272, .bipush 9, 2), (274, .if_icmp .ne 6, 3), (277, .bipush 10, 2), (279, .ireturn, 1), (280, .iload 4, 2), (282, .ifCond .eq 113, 3), (285, .aload_n 0, 1), (286, .getfield 37, 3), (289, .aload_n 0, 1), (290, .invokevirtual 155, 3), (293, .iaload, 1), (294, .aload_n 0, 1)] = true := by decide +kernel
theorem dX11_reasonOfMove_222 : decode cX11_reasonOfMove 222 = .ok (.getfield 49, 3) := ckS_g gdX11_reasonOfMove_222 0 rfl
theorem dX11_reasonOfMove_225 : decode cX11_reasonOfMove 225 = .ok (.iload_n 2, 1) := ckS_g gdX11_reasonOfMove_222 1 rfl
theorem dX11_reasonOfMove_226 : decode cX11_reasonOfMove 226 = .ok (.iaload, 1) := ckS_g gdX11_reasonOfMove_222 2 rfl
theorem dX11_reasonOfMove_227 : decode cX11_reasonOfMove 227 = .ok (.aload_n 0, 1) := ckS_g gdX11_reasonOfMove_222 3 rfl
theorem dX11_reasonOfMove_228 : decode cX11_reasonOfMove 228 = .ok (.getfield 46, 3) := ckS_g gdX11_reasonOfMove_222 4 rfl
theorem dX11_reasonOfMove_231 : decode cX11_reasonOfMove 231 = .ok (.aload_n 0, 1) := ckS_g gdX11_reasonOfMove_222 5 rfl
theorem dX11_reasonOfMove_232 : decode cX11_reasonOfMove 232 = .ok (.invokevirtual 155, 3) := ckS_g gdX11_reasonOfMove_222 6 rfl
theorem dX11_reasonOfMove_235 : decode cX11_reasonOfMove 235 = .ok (.iaload, 1) := ckS_g gdX11_reasonOfMove_222 7 rfl
theorem dX11_reasonOfMove_236 : decode cX11_reasonOfMove 236 = .ok (.if_icmp .ne 21, 3) := ckS_g gdX11_reasonOfMove_222 8 rfl
theorem dX11_reasonOfMove_239 : decode cX11_reasonOfMove 239 = .ok (.aload_n 0, 1) := ckS_g gdX11_reasonOfMove_222 9 rfl
theorem dX11_reasonOfMove_240 : decode cX11_reasonOfMove 240 = .ok (.getfield 43, 3) := ckS_g gdX11_reasonOfMove_222 10 rfl
theorem dX11_reasonOfMove_243 : decode cX11_reasonOfMove 243 = .ok (.iload_n 2, 1) := ckS_g gdX11_reasonOfMove_222 11 rfl
theorem dX11_reasonOfMove_244 : decode cX11_reasonOfMove 244 = .ok (.iaload, 1) := ckS_g gdX11_reasonOfMove_222 12 rfl
theorem dX11_reasonOfMove_245 : decode cX11_reasonOfMove 245 = .ok (.aload_n 0, 1) := ckS_g gdX11_reasonOfMove_222 13 rfl
theorem dX11_reasonOfMove_246 : decode cX11_reasonOfMove 246 = .ok (.getfield 37, 3) := ckS_g gdX11_reasonOfMove_222 14 rfl
theorem dX11_reasonOfMove_249 : decode cX11_reasonOfMove 249 = .ok (.aload_n 0, 1) := ckS_g gdX11_reasonOfMove_222 15 rfl
theorem dX11_reasonOfMove_250 : decode cX11_reasonOfMove 250 = .ok (.invokevirtual 155, 3) := ckS_g gdX11_reasonOfMove_222 16 rfl
theorem dX11_reasonOfMove_253 : decode cX11_reasonOfMove 253 = .ok (.iaload, 1) := ckS_g gdX11_reasonOfMove_222 17 rfl
theorem dX11_reasonOfMove_254 : decode cX11_reasonOfMove 254 = .ok (.if_icmp .le 5, 3) := ckS_g gdX11_reasonOfMove_222 18 rfl
theorem dX11_reasonOfMove_257 : decode cX11_reasonOfMove 257 = .ok (.iconst 5, 1) := ckS_g gdX11_reasonOfMove_222 19 rfl
theorem dX11_reasonOfMove_258 : decode cX11_reasonOfMove 258 = .ok (.ireturn, 1) := ckS_g gdX11_reasonOfMove_222 20 rfl
theorem dX11_reasonOfMove_259 : decode cX11_reasonOfMove 259 = .ok (.aload_n 0, 1) := ckS_g gdX11_reasonOfMove_222 21 rfl
theorem dX11_reasonOfMove_260 : decode cX11_reasonOfMove 260 = .ok (.getfield 151, 3) := ckS_g gdX11_reasonOfMove_222 22 rfl
theorem dX11_reasonOfMove_263 : decode cX11_reasonOfMove 263 = .ok (.ifCond .eq 5, 3) := ckS_g gdX11_reasonOfMove_222 23 rfl
theorem dX11_reasonOfMove_266 : decode cX11_reasonOfMove 266 = .ok (.iconst 0, 1) := ckS_g gdX11_reasonOfMove_222 24 rfl
theorem dX11_reasonOfMove_267 : decode cX11_reasonOfMove 267 = .ok (.ireturn, 1) := ckS_g gdX11_reasonOfMove_222 25 rfl
theorem dX11_reasonOfMove_268 : decode cX11_reasonOfMove 268 = .ok (.aload_n 0, 1) := ckS_g gdX11_reasonOfMove_222 26 rfl
theorem dX11_reasonOfMove_269 : decode cX11_reasonOfMove 269 = .ok (.getfield 115, 3) := ckS_g gdX11_reasonOfMove_222 27 rfl
theorem dX11_reasonOfMove_272 : decode cX11_reasonOfMove 272 = .ok (.bipush 9, 2) := ckS_g gdX11_reasonOfMove_222 28 rfl
theorem dX11_reasonOfMove_274 : decode cX11_reasonOfMove 274 = .ok (.if_icmp .ne 6, 3) := ckS_g gdX11_reasonOfMove_222 29 rfl
theorem dX11_reasonOfMove_277 : decode cX11_reasonOfMove 277 = .ok (.bipush 10, 2) := ckS_g gdX11_reasonOfMove_222 30 rfl
theorem dX11_reasonOfMove_279 : decode cX11_reasonOfMove 279 = .ok (.ireturn, 1) := ckS_g gdX11_reasonOfMove_222 31 rfl
theorem dX11_reasonOfMove_280 : decode cX11_reasonOfMove 280 = .ok (.iload 4, 2) := ckS_g gdX11_reasonOfMove_222 32 rfl
theorem dX11_reasonOfMove_282 : decode cX11_reasonOfMove 282 = .ok (.ifCond .eq 113, 3) := ckS_g gdX11_reasonOfMove_222 33 rfl
theorem dX11_reasonOfMove_285 : decode cX11_reasonOfMove 285 = .ok (.aload_n 0, 1) := ckS_g gdX11_reasonOfMove_222 34 rfl
theorem dX11_reasonOfMove_286 : decode cX11_reasonOfMove 286 = .ok (.getfield 37, 3) := ckS_g gdX11_reasonOfMove_222 35 rfl
theorem dX11_reasonOfMove_289 : decode cX11_reasonOfMove 289 = .ok (.aload_n 0, 1) := ckS_g gdX11_reasonOfMove_222 36 rfl
theorem dX11_reasonOfMove_290 : decode cX11_reasonOfMove 290 = .ok (.invokevirtual 155, 3) := ckS_g gdX11_reasonOfMove_222 37 rfl
theorem dX11_reasonOfMove_293 : decode cX11_reasonOfMove 293 = .ok (.iaload, 1) := ckS_g gdX11_reasonOfMove_222 38 rfl
theorem dX11_reasonOfMove_294 : decode cX11_reasonOfMove 294 = .ok (.aload_n 0, 1) := ckS_g gdX11_reasonOfMove_222 39 rfl
theorem gdX11_reasonOfMove_295 : ckS (List.drop 295 cX11_reasonOfMove.data.toList) 295 [(295, .getfield 37, 3), (298, .iload_n 2, 1), (299, .iaload, 1), (300, .iadd, 1), (301, .aload_n 0, 1), (302, .getfield 43, 3), (305, .iload_n 2, 1), (306, .iaload, 1), (307, .aload_n 0, 1), (308, .getfield 40, 3), (311, .iload_n 2, 1), (312, .iaload, 1), (313, .isub, 1), (314, .isub, 1), (315, .istore 5, 2), (317, .iload 5, 2), (319, .sipush 400, 3), (322, .if_icmp .le 6, 3), (325, .bipush 10, 2), (327, .ireturn, 1), (328, .iload_n 3, 1), (329, .iconst 3, 1), (330, .if_icmp .ne 17, 3), (333, .aload_n 0, 1), (334, .getfield 72, 3), (337, .aload_n 0, 1), (338, .getfield 115, 3), (341, .iconst 2, 1), (342, .isub, 1), (343, .iaload, 1), (344, .goto 4, 3), (347, .iconst (-1), 1), (348, .istore 6, 2), (350, .iload 6, 2), (352, .iconst (-1), 1), (353, .if_icmp .eq 42, 3), (356, .aload_n 0, 1), (357, .getfield 37, 3), (360, .iload 6, 2), (362, .iaload, 1)] = true := by decide +kernel
theorem dX11_reasonOfMove_295 : decode cX11_reasonOfMove 295 = .ok (.getfield 37, 3) := ckS_g gdX11_reasonOfMove_295 0 rfl
theorem dX11_reasonOfMove_298 : decode cX11_reasonOfMove 298 = .ok (.iload_n 2, 1) := ckS_g gdX11_reasonOfMove_295 1 rfl
theorem dX11_reasonOfMove_299 : decode cX11_reasonOfMove 299 = .ok (.iaload, 1) := ckS_g gdX11_reasonOfMove_295 2 rfl
theorem dX11_reasonOfMove_300 : decode cX11_reasonOfMove 300 = .ok (.iadd, 1) := ckS_g gdX11_reasonOfMove_295 3 rfl
theorem dX11_reasonOfMove_301 : decode cX11_reasonOfMove 301 = .ok (.aload_n 0, 1) := ckS_g gdX11_reasonOfMove_295 4 rfl
theorem dX11_reasonOfMove_302 : decode cX11_reasonOfMove 302 = .ok (.getfield 43, 3) := ckS_g gdX11_reasonOfMove_295 5 rfl
theorem dX11_reasonOfMove_305 : decode cX11_reasonOfMove 305 = .ok (.iload_n 2, 1) := ckS_g gdX11_reasonOfMove_295 6 rfl
theorem dX11_reasonOfMove_306 : decode cX11_reasonOfMove 306 = .ok (.iaload, 1) := ckS_g gdX11_reasonOfMove_295 7 rfl
theorem dX11_reasonOfMove_307 : decode cX11_reasonOfMove 307 = .ok (.aload_n 0, 1) := ckS_g gdX11_reasonOfMove_295 8 rfl
theorem dX11_reasonOfMove_308 : decode cX11_reasonOfMove 308 = .ok (.getfield 40, 3) := ckS_g gdX11_reasonOfMove_295 9 rfl
theorem dX11_reasonOfMove_311 : decode cX11_reasonOfMove 311 = .ok (.iload_n 2, 1) := ckS_g gdX11_reasonOfMove_295 10 rfl
theorem dX11_reasonOfMove_312 : decode cX11_reasonOfMove 312 = .ok (.iaload, 1) := ckS_g gdX11_reasonOfMove_295 11 rfl
theorem dX11_reasonOfMove_313 : decode cX11_reasonOfMove 313 = .ok (.isub, 1) := ckS_g gdX11_reasonOfMove_295 12 rfl
theorem dX11_reasonOfMove_314 : decode cX11_reasonOfMove 314 = .ok (.isub, 1) := ckS_g gdX11_reasonOfMove_295 13 rfl
theorem dX11_reasonOfMove_315 : decode cX11_reasonOfMove 315 = .ok (.istore 5, 2) := ckS_g gdX11_reasonOfMove_295 14 rfl
theorem dX11_reasonOfMove_317 : decode cX11_reasonOfMove 317 = .ok (.iload 5, 2) := ckS_g gdX11_reasonOfMove_295 15 rfl
theorem dX11_reasonOfMove_319 : decode cX11_reasonOfMove 319 = .ok (.sipush 400, 3) := ckS_g gdX11_reasonOfMove_295 16 rfl
theorem dX11_reasonOfMove_322 : decode cX11_reasonOfMove 322 = .ok (.if_icmp .le 6, 3) := ckS_g gdX11_reasonOfMove_295 17 rfl
theorem dX11_reasonOfMove_325 : decode cX11_reasonOfMove 325 = .ok (.bipush 10, 2) := ckS_g gdX11_reasonOfMove_295 18 rfl
theorem dX11_reasonOfMove_327 : decode cX11_reasonOfMove 327 = .ok (.ireturn, 1) := ckS_g gdX11_reasonOfMove_295 19 rfl
theorem dX11_reasonOfMove_328 : decode cX11_reasonOfMove 328 = .ok (.iload_n 3, 1) := ckS_g gdX11_reasonOfMove_295 20 rfl
theorem dX11_reasonOfMove_329 : decode cX11_reasonOfMove 329 = .ok (.iconst 3, 1) := ckS_g gdX11_reasonOfMove_295 21 rfl
theorem dX11_reasonOfMove_330 : decode cX11_reasonOfMove 330 = .ok (.if_icmp .ne 17, 3) := ckS_g gdX11_reasonOfMove_295 22 rfl
theorem dX11_reasonOfMove_333 : decode cX11_reasonOfMove 333 = .ok (.aload_n 0, 1) := ckS_g gdX11_reasonOfMove_295 23 rfl
theorem dX11_reasonOfMove_334 : decode cX11_reasonOfMove 334 = .ok (.getfield 72, 3) := ckS_g gdX11_reasonOfMove_295 24 rfl
theorem dX11_reasonOfMove_337 : decode cX11_reasonOfMove 337 = .ok (.aload_n 0, 1) := ckS_g gdX11_reasonOfMove_295 25 rfl
theorem dX11_reasonOfMove_338 : decode cX11_reasonOfMove 338 = .ok (.getfield 115, 3) := ckS_g gdX11_reasonOfMove_295 26 rfl
theorem dX11_reasonOfMove_341 : decode cX11_reasonOfMove 341 = .ok (.iconst 2, 1) := ckS_g gdX11_reasonOfMove_295 27 rfl
theorem dX11_reasonOfMove_342 : decode cX11_reasonOfMove 342 = .ok (.isub, 1) := ckS_g gdX11_reasonOfMove_295 28 rfl
theorem dX11_reasonOfMove_343 : decode cX11_reasonOfMove 343 = .ok (.iaload, 1) := ckS_g gdX11_reasonOfMove_295 29 rfl
theorem dX11_reasonOfMove_344 : decode cX11_reasonOfMove 344 = .ok (.goto 4, 3) := ckS_g gdX11_reasonOfMove_295 30 rfl
theorem dX11_reasonOfMove_347 : decode cX11_reasonOfMove 347 = .ok (.iconst (-1), 1) := ckS_g gdX11_reasonOfMove_295 31 rfl
theorem dX11_reasonOfMove_348 : decode cX11_reasonOfMove 348 = .ok (.istore 6, 2) := ckS_g gdX11_reasonOfMove_295 32 rfl
theorem dX11_reasonOfMove_350 : decode cX11_reasonOfMove 350 = .ok (.iload 6, 2) := ckS_g gdX11_reasonOfMove_295 33 rfl
theorem dX11_reasonOfMove_352 : decode cX11_reasonOfMove 352 = .ok (.iconst (-1), 1) := ckS_g gdX11_reasonOfMove_295 34 rfl
theorem dX11_reasonOfMove_353 : decode cX11_reasonOfMove 353 = .ok (.if_icmp .eq 42, 3) := ckS_g gdX11_reasonOfMove_295 35 rfl
theorem dX11_reasonOfMove_356 : decode cX11_reasonOfMove 356 = .ok (.aload_n 0, 1) := ckS_g gdX11_reasonOfMove_295 36 rfl
theorem dX11_reasonOfMove_357 : decode cX11_reasonOfMove 357 = .ok (.getfield 37, 3) := ckS_g gdX11_reasonOfMove_295 37 rfl
theorem dX11_reasonOfMove_360 : decode cX11_reasonOfMove 360 = .ok (.iload 6, 2) := ckS_g gdX11_reasonOfMove_295 38 rfl
theorem dX11_reasonOfMove_362 : decode cX11_reasonOfMove 362 = .ok (.iaload, 1) := ckS_g gdX11_reasonOfMove_295 39 rfl
theorem gdX11_reasonOfMove_363 : ckS (List.drop 363 cX11_reasonOfMove.data.toList) 363 [(363, .iload 5, 2), (365, .iadd, 1), (366, .aload_n 0, 1), (367, .getfield 43, 3), (370, .aload_n 0, 1), (371, .invokevirtual 155, 3), (374, .iaload, 1), (375, .aload_n 0, 1), (376, .getfield 40, 3), (379, .aload_n 0, 1), (380, .invokevirtual 155, 3), (383, .iaload, 1), (384, .isub, 1), (385, .isub, 1), (386, .sipush 400, 3), (389, .if_icmp .le 6, 3), (392, .bipush 10, 2), (394, .ireturn, 1), (395, .iload_n 3, 1), (396, .iconst 4, 1), (397, .if_icmp .eq 14, 3), (400, .iload_n 3, 1), (401, .iconst 5, 1), (402, .if_icmp .eq 9, 3), (405, .iload_n 3, 1), (406, .bipush 7, 2), (408, .if_icmp .ne 16, 3), (411, .aload_n 0, 1), (412, .invokevirtual 193, 3), (415, .iconst (-1), 1), (416, .if_icmp .ne 8, 3), (419, .bipush 10, 2), (421, .goto 4, 3), (424, .iconst 0, 1), (425, .ireturn, 1)] = true := by decide +kernel
theorem dX11_reasonOfMove_363 : decode cX11_reasonOfMove 363 = .ok (.iload 5, 2) := ckS_g gdX11_reasonOfMove_363 0 rfl
theorem dX11_reasonOfMove_365 : decode cX11_reasonOfMove 365 = .ok (.iadd, 1) := ckS_g gdX11_reasonOfMove_363 1 rfl
theorem dX11_reasonOfMove_366 : decode cX11_reasonOfMove 366 = .ok (.aload_n 0, 1) := ckS_g gdX11_reasonOfMove_363 2 rfl
theorem dX11_reasonOfMove_367 : decode cX11_reasonOfMove 367 = .ok (.getfield 43, 3) := ckS_g gdX11_reasonOfMove_363 3 rfl
theorem dX11_reasonOfMove_370 : decode cX11_reasonOfMove 370 = .ok (.aload_n 0, 1) := ckS_g gdX11_reasonOfMove_363 4 rfl
theorem dX11_reasonOfMove_371 : decode cX11_reasonOfMove 371 = .ok (.invokevirtual 155, 3) := ckS_g gdX11_reasonOfMove_363 5 rfl
theorem dX11_reasonOfMove_374 : decode cX11_reasonOfMove 374 = .ok (.iaload, 1) := ckS_g gdX11_reasonOfMove_363 6 rfl
theorem dX11_reasonOfMove_375 : decode cX11_reasonOfMove 375 = .ok (.aload_n 0, 1) := ckS_g gdX11_reasonOfMove_363 7 rfl
theorem dX11_reasonOfMove_376 : decode cX11_reasonOfMove 376 = .ok (.getfield 40, 3) := ckS_g gdX11_reasonOfMove_363 8 rfl
theorem dX11_reasonOfMove_379 : decode cX11_reasonOfMove 379 = .ok (.aload_n 0, 1) := ckS_g gdX11_reasonOfMove_363 9 rfl
theorem dX11_reasonOfMove_380 : decode cX11_reasonOfMove 380 = .ok (.invokevirtual 155, 3) := ckS_g gdX11_reasonOfMove_363 10 rfl
theorem dX11_reasonOfMove_383 : decode cX11_reasonOfMove 383 = .ok (.iaload, 1) := ckS_g gdX11_reasonOfMove_363 11 rfl
theorem dX11_reasonOfMove_384 : decode cX11_reasonOfMove 384 = .ok (.isub, 1) := ckS_g gdX11_reasonOfMove_363 12 rfl
theorem dX11_reasonOfMove_385 : decode cX11_reasonOfMove 385 = .ok (.isub, 1) := ckS_g gdX11_reasonOfMove_363 13 rfl
theorem dX11_reasonOfMove_386 : decode cX11_reasonOfMove 386 = .ok (.sipush 400, 3) := ckS_g gdX11_reasonOfMove_363 14 rfl
theorem dX11_reasonOfMove_389 : decode cX11_reasonOfMove 389 = .ok (.if_icmp .le 6, 3) := ckS_g gdX11_reasonOfMove_363 15 rfl
theorem dX11_reasonOfMove_392 : decode cX11_reasonOfMove 392 = .ok (.bipush 10, 2) := ckS_g gdX11_reasonOfMove_363 16 rfl
theorem dX11_reasonOfMove_394 : decode cX11_reasonOfMove 394 = .ok (.ireturn, 1) := ckS_g gdX11_reasonOfMove_363 17 rfl
theorem dX11_reasonOfMove_395 : decode cX11_reasonOfMove 395 = .ok (.iload_n 3, 1) := ckS_g gdX11_reasonOfMove_363 18 rfl
theorem dX11_reasonOfMove_396 : decode cX11_reasonOfMove 396 = .ok (.iconst 4, 1) := ckS_g gdX11_reasonOfMove_363 19 rfl
theorem dX11_reasonOfMove_397 : decode cX11_reasonOfMove 397 = .ok (.if_icmp .eq 14, 3) := ckS_g gdX11_reasonOfMove_363 20 rfl
theorem dX11_reasonOfMove_400 : decode cX11_reasonOfMove 400 = .ok (.iload_n 3, 1) := ckS_g gdX11_reasonOfMove_363 21 rfl
theorem dX11_reasonOfMove_401 : decode cX11_reasonOfMove 401 = .ok (.iconst 5, 1) := ckS_g gdX11_reasonOfMove_363 22 rfl
theorem dX11_reasonOfMove_402 : decode cX11_reasonOfMove 402 = .ok (.if_icmp .eq 9, 3) := ckS_g gdX11_reasonOfMove_363 23 rfl
theorem dX11_reasonOfMove_405 : decode cX11_reasonOfMove 405 = .ok (.iload_n 3, 1) := ckS_g gdX11_reasonOfMove_363 24 rfl
theorem dX11_reasonOfMove_406 : decode cX11_reasonOfMove 406 = .ok (.bipush 7, 2) := ckS_g gdX11_reasonOfMove_363 25 rfl
theorem dX11_reasonOfMove_408 : decode cX11_reasonOfMove 408 = .ok (.if_icmp .ne 16, 3) := ckS_g gdX11_reasonOfMove_363 26 rfl
theorem dX11_reasonOfMove_411 : decode cX11_reasonOfMove 411 = .ok (.aload_n 0, 1) := ckS_g gdX11_reasonOfMove_363 27 rfl
theorem dX11_reasonOfMove_412 : decode cX11_reasonOfMove 412 = .ok (.invokevirtual 193, 3) := ckS_g gdX11_reasonOfMove_363 28 rfl
theorem dX11_reasonOfMove_415 : decode cX11_reasonOfMove 415 = .ok (.iconst (-1), 1) := ckS_g gdX11_reasonOfMove_363 29 rfl
theorem dX11_reasonOfMove_416 : decode cX11_reasonOfMove 416 = .ok (.if_icmp .ne 8, 3) := ckS_g gdX11_reasonOfMove_363 30 rfl
theorem dX11_reasonOfMove_419 : decode cX11_reasonOfMove 419 = .ok (.bipush 10, 2) := ckS_g gdX11_reasonOfMove_363 31 rfl
theorem dX11_reasonOfMove_421 : decode cX11_reasonOfMove 421 = .ok (.goto 4, 3) := ckS_g gdX11_reasonOfMove_363 32 rfl
theorem dX11_reasonOfMove_424 : decode cX11_reasonOfMove 424 = .ok (.iconst 0, 1) := ckS_g gdX11_reasonOfMove_363 33 rfl
theorem dX11_reasonOfMove_425 : decode cX11_reasonOfMove 425 = .ok (.ireturn, 1) := ckS_g gdX11_reasonOfMove_363 34 rfl
set_option maxRecDepth 100000 in
theorem z110 : wZ (.selects RX11 yX11_hasSeconder yX11_hasSeconder) := ⟨List.mem_append_left _ (List.mem_of_getElem? (i := 4) (by decide +kernel)), Or.inl rfl⟩
set_option maxRecDepth 100000 in
theorem z111 : wZ (.instanceMethod yX11_hasSeconder) := ⟨wT6 (List.mem_of_getElem? (i := 12) (by decide +kernel)), Or.inl rfl⟩
set_option maxRecDepth 100000 in
theorem z112 : wZ (.methodLink RX11 159 yX11_hasSeconder) := ⟨wT6 (List.mem_of_getElem? (i := 10) (by decide +kernel)), Or.inl rfl⟩
set_option maxRecDepth 100000 in
theorem z113 : wZ (.selects RX11 yX11_free yX11_free) := ⟨List.mem_append_left _ (List.mem_of_getElem? (i := 11) (by decide +kernel)), Or.inl rfl⟩
set_option maxRecDepth 100000 in
theorem z114 : wZ (.instanceMethod yX11_free) := ⟨wT6 (List.mem_of_getElem? (i := 47) (by decide +kernel)), Or.inl rfl⟩
set_option maxRecDepth 100000 in
theorem z115 : wZ (.methodLink RX11 193 yX11_free) := ⟨wT6 (List.mem_of_getElem? (i := 45) (by decide +kernel)), Or.inl rfl⟩
set_option maxRecDepth 100000 in
theorem z116 : wZ (.fieldLink RX11 106 "MotionFloorModel$Hall" "quorum" "I") := ⟨wT5 (List.mem_of_getElem? (i := 40) (by decide +kernel)), Or.inl rfl⟩
set_option maxRecDepth 100000 in
theorem z117 : wZ (.fieldLink RX11 100 "MotionFloorModel$Hall" "there" "I") := ⟨wT5 (List.mem_of_getElem? (i := 36) (by decide +kernel)), Or.inl rfl⟩
set_option maxRecDepth 100000 in
theorem z118 : wZ (.fieldLink RX11 112 "MotionFloorModel$Hall" "floor" "I") := ⟨wT5 (List.mem_of_getElem? (i := 44) (by decide +kernel)), Or.inl rfl⟩
set_option maxRecDepth 100000 in
theorem z119 : wZ (.code yX11_reasonOfMove cX11_reasonOfMove 7 (some .int)) := ⟨wT6 (List.mem_of_getElem? (i := 44) rfl), Or.inl rfl⟩
def b_X11_reasonOfMove_125 (S : HS) (x1 x2 x3 x4 x5 : Int32) : Int32 × HS := (1, S)
def q_X11_reasonOfMove_125 (S : HS) (x1 x2 x3 x4 x5 : Int32) : Prop := True
def b_X11_reasonOfMove_143 (S : HS) (x1 x2 x3 : Int32) : Int32 × HS := (2, S)
def q_X11_reasonOfMove_143 (S : HS) (x1 x2 x3 : Int32) : Prop := True
def b_X11_reasonOfMove_425 (S : HS) (x1 x2 x3 x4 y0 : Int32) : Int32 × HS := (y0, S)
def q_X11_reasonOfMove_425 (S : HS) (x1 x2 x3 x4 y0 : Int32) : Prop := True
def b_X11_reasonOfMove_424 (S : HS) (x1 x2 x3 x4 : Int32) : Int32 × HS := (b_X11_reasonOfMove_425 S x1 x2 x3 x4 0)
def q_X11_reasonOfMove_424 (S : HS) (x1 x2 x3 x4 : Int32) : Prop := (q_X11_reasonOfMove_425 S x1 x2 x3 x4 0)
def b_X11_reasonOfMove_a415 (S : HS) (x1 x2 x3 x4 y0 : Int32) : Int32 × HS := if y0 = (-1) then (b_X11_reasonOfMove_425 S x1 x2 x3 x4 10) else (b_X11_reasonOfMove_424 S x1 x2 x3 x4)
def q_X11_reasonOfMove_a415 (S : HS) (x1 x2 x3 x4 y0 : Int32) : Prop := (if y0 = (-1) then (q_X11_reasonOfMove_425 S x1 x2 x3 x4 10) else (q_X11_reasonOfMove_424 S x1 x2 x3 x4))
def b_X11_reasonOfMove_411 (S : HS) (x1 x2 x3 x4 : Int32) : Int32 × HS := (b_X11_reasonOfMove_a415 (f_X11_free S ).2 x1 x2 x3 x4 (f_X11_free S ).1)
def q_X11_reasonOfMove_411 (S : HS) (x1 x2 x3 x4 : Int32) : Prop := (p_X11_free S ) ∧ (q_X11_reasonOfMove_a415 (f_X11_free S ).2 x1 x2 x3 x4 (f_X11_free S ).1)
def b_X11_reasonOfMove_395 (S : HS) (x1 x2 x3 x4 : Int32) : Int32 × HS := if x3 = 4 then (b_X11_reasonOfMove_411 S x1 x2 x3 x4) else if x3 = 5 then (b_X11_reasonOfMove_411 S x1 x2 x3 x4) else if x3 = 7 then (b_X11_reasonOfMove_411 S x1 x2 x3 x4) else (b_X11_reasonOfMove_424 S x1 x2 x3 x4)
def q_X11_reasonOfMove_395 (S : HS) (x1 x2 x3 x4 : Int32) : Prop := (if x3 = 4 then (q_X11_reasonOfMove_411 S x1 x2 x3 x4) else (if x3 = 5 then (q_X11_reasonOfMove_411 S x1 x2 x3 x4) else (if x3 = 7 then (q_X11_reasonOfMove_411 S x1 x2 x3 x4) else (q_X11_reasonOfMove_424 S x1 x2 x3 x4))))
def b_X11_reasonOfMove_a383 (S : HS) (x1 x2 x3 x4 x5 x6 y0 y1 y2 : Int32) : Int32 × HS := if (y2 - (y1 - (S.2 20 y0.toNatClampNeg))) ≤ 400 then (b_X11_reasonOfMove_395 S x1 x2 x3 x4) else (10, S)
def q_X11_reasonOfMove_a383 (S : HS) (x1 x2 x3 x4 x5 x6 y0 y1 y2 : Int32) : Prop := (vp_in y0 90) ∧ (if (y2 - (y1 - (S.2 20 y0.toNatClampNeg))) ≤ 400 then (q_X11_reasonOfMove_395 S x1 x2 x3 x4) else True)
def b_X11_reasonOfMove_a374 (S : HS) (x1 x2 x3 x4 x5 x6 y0 y1 : Int32) : Int32 × HS := (b_X11_reasonOfMove_a383 (f_X11_top S ).2 x1 x2 x3 x4 x5 x6 (f_X11_top S ).1 (S.2 21 y0.toNatClampNeg) y1)
def q_X11_reasonOfMove_a374 (S : HS) (x1 x2 x3 x4 x5 x6 y0 y1 : Int32) : Prop := (vp_in y0 90) ∧ (p_X11_top S ) ∧ (q_X11_reasonOfMove_a383 (f_X11_top S ).2 x1 x2 x3 x4 x5 x6 (f_X11_top S ).1 (S.2 21 y0.toNatClampNeg) y1)
def b_X11_reasonOfMove_348 (S : HS) (x1 x2 x3 x4 x5 y0 : Int32) : Int32 × HS := if y0 = (-1) then (b_X11_reasonOfMove_395 S x1 x2 x3 x4) else (b_X11_reasonOfMove_a374 (f_X11_top S ).2 x1 x2 x3 x4 x5 y0 (f_X11_top S ).1 ((S.2 19 y0.toNatClampNeg) + x5))
def q_X11_reasonOfMove_348 (S : HS) (x1 x2 x3 x4 x5 y0 : Int32) : Prop := (if y0 = (-1) then (q_X11_reasonOfMove_395 S x1 x2 x3 x4) else (vp_in y0 90) ∧ (p_X11_top S ) ∧ (q_X11_reasonOfMove_a374 (f_X11_top S ).2 x1 x2 x3 x4 x5 y0 (f_X11_top S ).1 ((S.2 19 y0.toNatClampNeg) + x5)))
def b_X11_reasonOfMove_a293 (S : HS) (x1 x2 x3 x4 y0 : Int32) : Int32 × HS := if (((S.2 19 y0.toNatClampNeg) + (S.2 19 x2.toNatClampNeg)) - ((S.2 21 x2.toNatClampNeg) - (S.2 20 x2.toNatClampNeg))) ≤ 400 then if x3 = 3 then (b_X11_reasonOfMove_348 S x1 x2 x3 x4 (((S.2 19 y0.toNatClampNeg) + (S.2 19 x2.toNatClampNeg)) - ((S.2 21 x2.toNatClampNeg) - (S.2 20 x2.toNatClampNeg))) (S.2 31 ((S.1 6) - 2).toNatClampNeg)) else (b_X11_reasonOfMove_348 S x1 x2 x3 x4 (((S.2 19 y0.toNatClampNeg) + (S.2 19 x2.toNatClampNeg)) - ((S.2 21 x2.toNatClampNeg) - (S.2 20 x2.toNatClampNeg))) (-1)) else (10, S)
def q_X11_reasonOfMove_a293 (S : HS) (x1 x2 x3 x4 y0 : Int32) : Prop := (vp_in y0 90) ∧ (vp_in x2 90) ∧ (vp_in x2 90) ∧ (vp_in x2 90) ∧ (if (((S.2 19 y0.toNatClampNeg) + (S.2 19 x2.toNatClampNeg)) - ((S.2 21 x2.toNatClampNeg) - (S.2 20 x2.toNatClampNeg))) ≤ 400 then (if x3 = 3 then (vp_in ((S.1 6) - 2) 9) ∧ (q_X11_reasonOfMove_348 S x1 x2 x3 x4 (((S.2 19 y0.toNatClampNeg) + (S.2 19 x2.toNatClampNeg)) - ((S.2 21 x2.toNatClampNeg) - (S.2 20 x2.toNatClampNeg))) (S.2 31 ((S.1 6) - 2).toNatClampNeg)) else (q_X11_reasonOfMove_348 S x1 x2 x3 x4 (((S.2 19 y0.toNatClampNeg) + (S.2 19 x2.toNatClampNeg)) - ((S.2 21 x2.toNatClampNeg) - (S.2 20 x2.toNatClampNeg))) (-1))) else True)
def b_X11_reasonOfMove_259 (S : HS) (x1 x2 x3 x4 : Int32) : Int32 × HS := if (S.1 36) = 0 then if (S.1 6) = 9 then (10, S) else if x4 = 0 then (b_X11_reasonOfMove_395 S x1 x2 x3 x4) else (b_X11_reasonOfMove_a293 (f_X11_top S ).2 x1 x2 x3 x4 (f_X11_top S ).1) else (0, S)
def q_X11_reasonOfMove_259 (S : HS) (x1 x2 x3 x4 : Int32) : Prop := (if (S.1 36) = 0 then (if (S.1 6) = 9 then True else (if x4 = 0 then (q_X11_reasonOfMove_395 S x1 x2 x3 x4) else (p_X11_top S ) ∧ (q_X11_reasonOfMove_a293 (f_X11_top S ).2 x1 x2 x3 x4 (f_X11_top S ).1))) else True)
def b_X11_reasonOfMove_257 (S : HS) (x1 x2 x3 x4 : Int32) : Int32 × HS := (5, S)
def q_X11_reasonOfMove_257 (S : HS) (x1 x2 x3 x4 : Int32) : Prop := True
def b_X11_reasonOfMove_a253 (S : HS) (x1 x2 x3 x4 y0 y1 : Int32) : Int32 × HS := if y1 ≤ (S.2 19 y0.toNatClampNeg) then (b_X11_reasonOfMove_259 S x1 x2 x3 x4) else (b_X11_reasonOfMove_257 S x1 x2 x3 x4)
def q_X11_reasonOfMove_a253 (S : HS) (x1 x2 x3 x4 y0 y1 : Int32) : Prop := (vp_in y0 90) ∧ (if y1 ≤ (S.2 19 y0.toNatClampNeg) then (q_X11_reasonOfMove_259 S x1 x2 x3 x4) else (q_X11_reasonOfMove_257 S x1 x2 x3 x4))
def b_X11_reasonOfMove_239 (S : HS) (x1 x2 x3 x4 : Int32) : Int32 × HS := (b_X11_reasonOfMove_a253 (f_X11_top S ).2 x1 x2 x3 x4 (f_X11_top S ).1 (S.2 21 x2.toNatClampNeg))
def q_X11_reasonOfMove_239 (S : HS) (x1 x2 x3 x4 : Int32) : Prop := (vp_in x2 90) ∧ (p_X11_top S ) ∧ (q_X11_reasonOfMove_a253 (f_X11_top S ).2 x1 x2 x3 x4 (f_X11_top S ).1 (S.2 21 x2.toNatClampNeg))
def b_X11_reasonOfMove_a235 (S : HS) (x1 x2 x3 x4 y0 y1 : Int32) : Int32 × HS := if y1 = (S.2 22 y0.toNatClampNeg) then (b_X11_reasonOfMove_239 S x1 x2 x3 x4) else (b_X11_reasonOfMove_257 S x1 x2 x3 x4)
def q_X11_reasonOfMove_a235 (S : HS) (x1 x2 x3 x4 y0 y1 : Int32) : Prop := (vp_in y0 90) ∧ (if y1 = (S.2 22 y0.toNatClampNeg) then (q_X11_reasonOfMove_239 S x1 x2 x3 x4) else (q_X11_reasonOfMove_257 S x1 x2 x3 x4))
def b_X11_reasonOfMove_196 (S : HS) (x1 x2 x3 y0 : Int32) : Int32 × HS := if y0 = 0 then (b_X11_reasonOfMove_259 S x1 x2 x3 y0) else if (S.2 26 x2.toNatClampNeg) = 0 then if (S.2 25 x2.toNatClampNeg) = 0 then (b_X11_reasonOfMove_239 S x1 x2 x3 y0) else (b_X11_reasonOfMove_a235 (f_X11_top S ).2 x1 x2 x3 y0 (f_X11_top S ).1 (S.2 23 x2.toNatClampNeg)) else (b_X11_reasonOfMove_257 S x1 x2 x3 y0)
def q_X11_reasonOfMove_196 (S : HS) (x1 x2 x3 y0 : Int32) : Prop := (if y0 = 0 then (q_X11_reasonOfMove_259 S x1 x2 x3 y0) else (vp_in x2 90) ∧ (if (S.2 26 x2.toNatClampNeg) = 0 then (vp_in x2 90) ∧ (if (S.2 25 x2.toNatClampNeg) = 0 then (q_X11_reasonOfMove_239 S x1 x2 x3 y0) else (vp_in x2 90) ∧ (p_X11_top S ) ∧ (q_X11_reasonOfMove_a235 (f_X11_top S ).2 x1 x2 x3 y0 (f_X11_top S ).1 (S.2 23 x2.toNatClampNeg))) else (q_X11_reasonOfMove_257 S x1 x2 x3 y0)))
def b_X11_reasonOfMove_195 (S : HS) (x1 x2 x3 : Int32) : Int32 × HS := (b_X11_reasonOfMove_196 S x1 x2 x3 0)
def q_X11_reasonOfMove_195 (S : HS) (x1 x2 x3 : Int32) : Prop := (q_X11_reasonOfMove_196 S x1 x2 x3 0)
def b_X11_reasonOfMove_191 (S : HS) (x1 x2 x3 : Int32) : Int32 × HS := (b_X11_reasonOfMove_196 S x1 x2 x3 1)
def q_X11_reasonOfMove_191 (S : HS) (x1 x2 x3 : Int32) : Prop := (q_X11_reasonOfMove_196 S x1 x2 x3 1)
def b_X11_reasonOfMove_161 (S : HS) (x1 x2 x3 : Int32) : Int32 × HS := if (S.1 3) ≤ (S.1 1) then if (S.1 36) = 0 then if x3 = 2 then (b_X11_reasonOfMove_191 S x1 x2 x3) else if x3 = 3 then (b_X11_reasonOfMove_191 S x1 x2 x3) else (b_X11_reasonOfMove_195 S x1 x2 x3) else (b_X11_reasonOfMove_195 S x1 x2 x3) else (4, S)
def q_X11_reasonOfMove_161 (S : HS) (x1 x2 x3 : Int32) : Prop := (if (S.1 3) ≤ (S.1 1) then (if (S.1 36) = 0 then (if x3 = 2 then (q_X11_reasonOfMove_191 S x1 x2 x3) else (if x3 = 3 then (q_X11_reasonOfMove_191 S x1 x2 x3) else (q_X11_reasonOfMove_195 S x1 x2 x3))) else (q_X11_reasonOfMove_195 S x1 x2 x3)) else True)
def b_X11_reasonOfMove_a156 (S : HS) (x1 x2 x3 y0 : Int32) : Int32 × HS := if y0 = 0 then (3, S) else (b_X11_reasonOfMove_161 S x1 x2 x3)
def q_X11_reasonOfMove_a156 (S : HS) (x1 x2 x3 y0 : Int32) : Prop := (if y0 = 0 then True else (q_X11_reasonOfMove_161 S x1 x2 x3))
def b_X11_reasonOfMove_127 (S : HS) (x1 x2 x3 : Int32) : Int32 × HS := if (S.1 5) = (-1) then (b_X11_reasonOfMove_143 S x1 x2 x3) else if (S.1 5) = x1 then if (S.1 6) ≤ 0 then (b_X11_reasonOfMove_161 S x1 x2 x3) else (b_X11_reasonOfMove_a156 (f_X11_hasSeconder S ).2 x1 x2 x3 (f_X11_hasSeconder S ).1) else (b_X11_reasonOfMove_143 S x1 x2 x3)
def q_X11_reasonOfMove_127 (S : HS) (x1 x2 x3 : Int32) : Prop := (if (S.1 5) = (-1) then (q_X11_reasonOfMove_143 S x1 x2 x3) else (if (S.1 5) = x1 then (if (S.1 6) ≤ 0 then (q_X11_reasonOfMove_161 S x1 x2 x3) else (p_X11_hasSeconder S ) ∧ (q_X11_reasonOfMove_a156 (f_X11_hasSeconder S ).2 x1 x2 x3 (f_X11_hasSeconder S ).1)) else (q_X11_reasonOfMove_143 S x1 x2 x3)))
def b_X11_reasonOfMove_105 (S : HS) (x1 x2 x3 x4 x5 y0 : Int32) : (Int32 × HS) ⊕ (HS × Int32 × Int32 × Int32 × Int32 × Int32) := Sum.inr (S, x1, x2, x3, y0, (x5 + 1))
def q_X11_reasonOfMove_105 (S : HS) (x1 x2 x3 x4 x5 y0 : Int32) : Prop := True
def b_X11_reasonOfMove_100 (S : HS) (x1 x2 x3 x4 x5 : Int32) : (Int32 × HS) ⊕ (HS × Int32 × Int32 × Int32 × Int32 × Int32) := (b_X11_reasonOfMove_105 S x1 x2 x3 x4 x5 1)
def q_X11_reasonOfMove_100 (S : HS) (x1 x2 x3 x4 x5 : Int32) : Prop := (q_X11_reasonOfMove_105 S x1 x2 x3 x4 x5 1)
def st_X11_reasonOfMove_70 (S : HS) (x1 x2 x3 x4 x5 : Int32) : (Int32 × HS) ⊕ (HS × Int32 × Int32 × Int32 × Int32 × Int32) := if (S.1 6) ≤ x5 then Sum.inl (if (S.1 6) = 0 then (b_X11_reasonOfMove_125 S x1 x2 x3 x4 x5) else if x4 = 0 then (b_X11_reasonOfMove_127 S x1 x2 x3) else (b_X11_reasonOfMove_125 S x1 x2 x3 x4 x5)) else if x4 = 0 then if (S.2 14 (S.2 31 x5.toNatClampNeg).toNatClampNeg) < x3 then (b_X11_reasonOfMove_105 S x1 x2 x3 x4 x5 0) else (b_X11_reasonOfMove_100 S x1 x2 x3 x4 x5) else (b_X11_reasonOfMove_100 S x1 x2 x3 x4 x5)
def ps_X11_reasonOfMove_70 (S : HS) (x1 x2 x3 x4 x5 : Int32) : Prop := (if (S.1 6) ≤ x5 then (if (S.1 6) = 0 then (q_X11_reasonOfMove_125 S x1 x2 x3 x4 x5) else (if x4 = 0 then (q_X11_reasonOfMove_127 S x1 x2 x3) else (q_X11_reasonOfMove_125 S x1 x2 x3 x4 x5))) else (if x4 = 0 then (vp_in x5 9) ∧ (vp_in (S.2 31 x5.toNatClampNeg) 90) ∧ (if (S.2 14 (S.2 31 x5.toNatClampNeg).toNatClampNeg) < x3 then (q_X11_reasonOfMove_105 S x1 x2 x3 x4 x5 0) else (q_X11_reasonOfMove_100 S x1 x2 x3 x4 x5)) else (q_X11_reasonOfMove_100 S x1 x2 x3 x4 x5)))
def lp_X11_reasonOfMove_70 : Nat → HS → Int32 → Int32 → Int32 → Int32 → Int32 → Int32 × HS
  | 0, S, _, _, _, _, _ => (0, S)
  | n + 1, S, x1, x2, x3, x4, x5 => match st_X11_reasonOfMove_70 S x1 x2 x3 x4 x5 with
    | Sum.inl r => r
    | Sum.inr q => lp_X11_reasonOfMove_70 n q.1 q.2.1 q.2.2.1 q.2.2.2.1 q.2.2.2.2.1 q.2.2.2.2.2
def lq_X11_reasonOfMove_70 : Nat → HS → Int32 → Int32 → Int32 → Int32 → Int32 → Prop
  | 0, _, _, _, _, _, _ => False
  | n + 1, S, x1, x2, x3, x4, x5 => ps_X11_reasonOfMove_70 S x1 x2 x3 x4 x5 ∧ (match st_X11_reasonOfMove_70 S x1 x2 x3 x4 x5 with
    | Sum.inl _ => True
    | Sum.inr q => lq_X11_reasonOfMove_70 n q.1 q.2.1 q.2.2.1 q.2.2.2.1 q.2.2.2.2.1 q.2.2.2.2.2)
def b_X11_reasonOfMove_a59 (S : HS) (x1 x2 x3 y0 : Int32) : Int32 × HS := if y0 = 0 then (1, S) else (b_X11_reasonOfMove_127 S x1 x2 x3)
def q_X11_reasonOfMove_a59 (S : HS) (x1 x2 x3 y0 : Int32) : Prop := (if y0 = 0 then True else (q_X11_reasonOfMove_127 S x1 x2 x3))
def b_X11_reasonOfMove_34 (S : HS) (x1 x2 y0 : Int32) : Int32 × HS := if y0 = 1 then if (S.1 6) ≤ 0 then (b_X11_reasonOfMove_127 S x1 x2 y0) else (1, S) else if 4 ≤ y0 then (lp_X11_reasonOfMove_70 100000 S x1 x2 y0 0 0) else (b_X11_reasonOfMove_a59 (f_X11_isAbout S y0).2 x1 x2 y0 (f_X11_isAbout S y0).1)
def q_X11_reasonOfMove_34 (S : HS) (x1 x2 y0 : Int32) : Prop := (if y0 = 1 then (if (S.1 6) ≤ 0 then (q_X11_reasonOfMove_127 S x1 x2 y0) else True) else (if 4 ≤ y0 then (lq_X11_reasonOfMove_70 100000 S x1 x2 y0 0 0) else (p_X11_isAbout S y0) ∧ (q_X11_reasonOfMove_a59 (f_X11_isAbout S y0).2 x1 x2 y0 (f_X11_isAbout S y0).1)))
def f_X11_reasonOfMove (S : HS) (x1 : Int32) : Int32 × HS := if (S.1 35) = 0 then (11, S) else if (S.1 36) = 0 then (b_X11_reasonOfMove_34 S x1 (S.2 32 (0 : Int32).toNatClampNeg) (S.2 14 (S.2 32 (0 : Int32).toNatClampNeg).toNatClampNeg)) else (b_X11_reasonOfMove_34 S x1 (S.2 32 (0 : Int32).toNatClampNeg) 1)
def p_X11_reasonOfMove (S : HS) (x1 : Int32) : Prop := (if (S.1 35) = 0 then True else (vp_in 0 9) ∧ (if (S.1 36) = 0 then (vp_in (S.2 32 (0 : Int32).toNatClampNeg) 90) ∧ (q_X11_reasonOfMove_34 S x1 (S.2 32 (0 : Int32).toNatClampNeg) (S.2 14 (S.2 32 (0 : Int32).toNatClampNeg).toNatClampNeg)) else (q_X11_reasonOfMove_34 S x1 (S.2 32 (0 : Int32).toNatClampNeg) 1)))
def e_X11_reasonOfMove : List Cond := [.fieldLink RX11 130 "MotionFloorModel$Hall" "drafted" "I", .fieldLink RX11 75 "MotionFloorModel$Hall" "draft" "[I", .fieldLink RX11 151 "MotionFloorModel$Hall" "draftTabled" "Z", .fieldLink RX11 22 "MotionFloorModel$Hall" "kind" "[I", .fieldLink RX11 115 "MotionFloorModel$Hall" "pending" "I", .fieldLink RX11 112 "MotionFloorModel$Hall" "floor" "I", .fieldLink RX11 100 "MotionFloorModel$Hall" "there" "I", .fieldLink RX11 106 "MotionFloorModel$Hall" "quorum" "I", .methodLink RX11 193 yX11_free, .instanceMethod yX11_free, .selects RX11 yX11_free yX11_free, .initialized RX11, .fieldLink RX11 37 "MotionFloorModel$Hall" "words" "[I", .methodLink RX11 155 yX11_top, .instanceMethod yX11_top, .selects RX11 yX11_top yX11_top, .fieldLink RX11 43 "MotionFloorModel$Hall" "to" "[I", .fieldLink RX11 40 "MotionFloorModel$Hall" "from" "[I", .fieldLink RX11 72 "MotionFloorModel$Hall" "row" "[I", .fieldLink RX11 58 "MotionFloorModel$Hall" "outside" "[Z", .fieldLink RX11 55 "MotionFloorModel$Hall" "laid" "[Z", .fieldLink RX11 49 "MotionFloorModel$Hall" "subject" "[I", .fieldLink RX11 46 "MotionFloorModel$Hall" "self" "[I", .methodLink RX11 159 yX11_hasSeconder, .instanceMethod yX11_hasSeconder, .selects RX11 yX11_hasSeconder yX11_hasSeconder, .methodLink RX11 184 yX11_isAbout, .instanceMethod yX11_isAbout, .selects RX11 yX11_isAbout yX11_isAbout]
def v_X11_reasonOfMove : List Cond := .code yX11_reasonOfMove cX11_reasonOfMove 7 (some .int) :: (e_X11_reasonOfMove ++ (wsX110 ++ (v_X11_free ++ (v_X11_top ++ (v_X11_hasSeconder ++ (v_X11_isAbout ++ []))))))
theorem te_X11_reasonOfMove : GoodIn lw_tbl e_X11_reasonOfMove := wGc z86 (wGc z84 (wGc z85 (wGc z78 (wGc z56 (wGc z118 (wGc z117 (wGc z116 (wGc z115 (wGc z114 (wGc z113 (wGc z51 (wGc z76 (wGc z91 (wGc z90 (wGc z89 (wGc z74 (wGc z75 (wGc z57 (wGc z71 (wGc z72 (wGc z73 (wGc z63 (wGc z112 (wGc z111 (wGc z110 (wGc z102 (wGc z101 (wGc z100 (wG0)))))))))))))))))))))))))))))
theorem t_X11_reasonOfMove : GoodIn lw_tbl v_X11_reasonOfMove := wGc z119 (wGa te_X11_reasonOfMove (wGa zcX11 (wGa t_X11_free (wGa t_X11_top (wGa t_X11_hasSeconder (wGa t_X11_isAbout (wG0)))))))
set_option maxHeartbeats 4000000 in
set_option maxRecDepth 100000 in
theorem c_X11_reasonOfMove (l : Launch) (G : va_G) (K : Nat → ClassId) (h : Nat) (g : Nat → Nat) (S0 : HS) (a1 : Int32) (sz : Nat) : Met l yX11_reasonOfMove v_X11_reasonOfMove ({ frames := 2, cells := 0, slots := 0, locals := 42 }) (va_Pc [.ref h, .int a1] (hS G K h g sz S0 (p_X11_reasonOfMove S0 a1))) (va_Qi (fun (r : Int32) (u : HS) => (r, u) = f_X11_reasonOfMove S0 a1) (hB G K h g (va_A (hW K h g S0) sz)) (va_A (hW K h g S0) sz)) 0 0 (va_A (hW K h g S0) sz) := by
  refine Met.ofW (cc := cX11_reasonOfMove) (maxL := 7) (ret := (some .int)) (by decide) rfl ?_
  intro p e s m args below meth c s₁ B hml hv
  obtain ⟨rfl, ⟨hsz, hP, hK, hD0, hTE⟩, hp⟩ := hv
  have hx := B.exec
  have hb := B.bytes
  have hr := B.returns
  have hts := atoms_spec (ws := v_X11_reasonOfMove) B.pre
  have t_ := t_X11_reasonOfMove
  have mw : ∀ w ∈ e_X11_reasonOfMove, w ∈ v_X11_reasonOfMove := fun w h => List.mem_cons_of_mem _ (List.mem_append_left _ h)
  have hw := fun w (h : w ∈ e_X11_reasonOfMove) => hts w (mw w h)
  have iX11 : ∀ w ∈ wsX110, w ∈ v_X11_reasonOfMove := fun w h => List.mem_cons_of_mem _ (List.mem_append_right _ (List.mem_append_left _ h))
  have j_X11_free : ∀ w ∈ v_X11_free, w ∈ v_X11_reasonOfMove := fun w h => List.mem_cons_of_mem _ (List.mem_append_right _ (List.mem_append_right _ (List.mem_append_left _ h)))
  have j_X11_top : ∀ w ∈ v_X11_top, w ∈ v_X11_reasonOfMove := fun w h => List.mem_cons_of_mem _ (List.mem_append_right _ (List.mem_append_right _ (List.mem_append_right _ (List.mem_append_left _ h))))
  have j_X11_hasSeconder : ∀ w ∈ v_X11_hasSeconder, w ∈ v_X11_reasonOfMove := fun w h => List.mem_cons_of_mem _ (List.mem_append_right _ (List.mem_append_right _ (List.mem_append_right _ (List.mem_append_right _ (List.mem_append_left _ h)))))
  have j_X11_isAbout : ∀ w ∈ v_X11_isAbout, w ∈ v_X11_reasonOfMove := fun w h => List.mem_cons_of_mem _ (List.mem_append_right _ (List.mem_append_right _ (List.mem_append_right _ (List.mem_append_right _ (List.mem_append_right _ (List.mem_append_left _ h))))))
  have hown : s.vm.findClass RX11 = some m.cls := findClass_of_methodNamed B.named
  have hlocks := B.notSynchronized
  subst hsz
  have hD := hD0.self (sz := s.heap.size)
  generalize hAe : va_A (hW K h g S0) s.heap.size = A at hD ⊢
  have hA : ∀ q : Nat, s.heap.size ≤ q → A q := fun q h => by rw [← hAe]; exact Or.inr h
  have hS : va_S A s.heap s.heap [] := va_S.rf
  have hl := lv_entry ([.ref h, .int a1]) (n := 7) (Nat.le_of_ble_eq_true rfl)
  rw [lg_entry_eq]
  generalize (lg_sl ([.ref h, .int a1]) ++ List.replicate (7 - (lg_sl ([.ref h, .int a1])).length) Slot.unset).toArray = ls at hl ⊢
  have hl : lv_has ls 7 [(0, .ref h), (1, .int a1)] := hl
  refine wGen (fun Q hQ => ?_)
  obtain ⟨X, hX⟩ : ∃ X, f_X11_reasonOfMove S0 a1 = X := ⟨_, rfl⟩
  have B_125 : ∀ (S : HS) (x1 x2 x3 x4 x5 : Int32) (H : Heap) (locs : List Loc) (ls : Array Slot), b_X11_reasonOfMove_125 S x1 x2 x3 x4 x5 = X → q_X11_reasonOfMove_125 S x1 x2 x3 x4 x5 → va_P G vwCl (hW K h g S) H → va_D A (hW K h g S) → va_S A s.heap H locs → lv_has ls 7 [(0, .ref h), (1, .int x1), (2, .int x2), (3, .int x3), (4, .int x4), (5, .int x5)] → W p l e ({ frames := 2, cells := 0, slots := 0, locals := 42 } : Room) s m #[Value.ref h, Value.int a1] below meth c H locs 0 0 Q (F0 m 125 ls []) := by
    intro S x1 x2 x3 x4 x5 H locs ls hE hp hP hD hS hl
    unfold b_X11_reasonOfMove_125 at hE
    unfold q_X11_reasonOfMove_125 at hp
    refine lv_iconst (v := 1) hx hb dX11_reasonOfMove_125 (by decide) ?_
    subst hQ
    exact W.iret (v := 1) hx hb hr (fun t ht hW => ⟨⟨1, S, rfl, hE.trans hX.symm, by rw [ht]; exact hP, hD⟩, hS.F ht⟩) hS.2.2 dX11_reasonOfMove_126
  have B_143 : ∀ (S : HS) (x1 x2 x3 : Int32) (H : Heap) (locs : List Loc) (ls : Array Slot), b_X11_reasonOfMove_143 S x1 x2 x3 = X → q_X11_reasonOfMove_143 S x1 x2 x3 → va_P G vwCl (hW K h g S) H → va_D A (hW K h g S) → va_S A s.heap H locs → lv_has ls 7 [(0, .ref h), (1, .int x1), (2, .int x2), (3, .int x3)] → W p l e ({ frames := 2, cells := 0, slots := 0, locals := 42 } : Room) s m #[Value.ref h, Value.int a1] below meth c H locs 0 0 Q (F0 m 143 ls []) := by
    intro S x1 x2 x3 H locs ls hE hp hP hD hS hl
    unfold b_X11_reasonOfMove_143 at hE
    unfold q_X11_reasonOfMove_143 at hp
    refine lv_iconst (v := 2) hx hb dX11_reasonOfMove_143 (by decide) ?_
    subst hQ
    exact W.iret (v := 2) hx hb hr (fun t ht hW => ⟨⟨2, S, rfl, hE.trans hX.symm, by rw [ht]; exact hP, hD⟩, hS.F ht⟩) hS.2.2 dX11_reasonOfMove_144
  have B_425 : ∀ (S : HS) (x1 x2 x3 x4 y0 : Int32) (H : Heap) (locs : List Loc) (ls : Array Slot), b_X11_reasonOfMove_425 S x1 x2 x3 x4 y0 = X → q_X11_reasonOfMove_425 S x1 x2 x3 x4 y0 → va_P G vwCl (hW K h g S) H → va_D A (hW K h g S) → va_S A s.heap H locs → lv_has ls 7 [(0, .ref h), (1, .int x1), (2, .int x2), (3, .int x3), (4, .int x4)] → W p l e ({ frames := 2, cells := 0, slots := 0, locals := 42 } : Room) s m #[Value.ref h, Value.int a1] below meth c H locs 0 0 Q (F0 m 425 ls [.int y0]) := by
    intro S x1 x2 x3 x4 y0 H locs ls hE hp hP hD hS hl
    unfold b_X11_reasonOfMove_425 at hE
    unfold q_X11_reasonOfMove_425 at hp
    subst hQ
    exact W.iret (v := y0) hx hb hr (fun t ht hW => ⟨⟨y0, S, rfl, hE.trans hX.symm, by rw [ht]; exact hP, hD⟩, hS.F ht⟩) hS.2.2 dX11_reasonOfMove_425
  have B_424 : ∀ (S : HS) (x1 x2 x3 x4 : Int32) (H : Heap) (locs : List Loc) (ls : Array Slot), b_X11_reasonOfMove_424 S x1 x2 x3 x4 = X → q_X11_reasonOfMove_424 S x1 x2 x3 x4 → va_P G vwCl (hW K h g S) H → va_D A (hW K h g S) → va_S A s.heap H locs → lv_has ls 7 [(0, .ref h), (1, .int x1), (2, .int x2), (3, .int x3), (4, .int x4)] → W p l e ({ frames := 2, cells := 0, slots := 0, locals := 42 } : Room) s m #[Value.ref h, Value.int a1] below meth c H locs 0 0 Q (F0 m 424 ls []) := by
    intro S x1 x2 x3 x4 H locs ls hE hp hP hD hS hl
    unfold b_X11_reasonOfMove_424 at hE
    unfold q_X11_reasonOfMove_424 at hp
    refine lv_iconst (v := 0) hx hb dX11_reasonOfMove_424 (by decide) ?_
    exact B_425 S x1 x2 x3 x4 0 _ _ _ hE hp hP hD hS (lv_sub hl [0, 1, 2, 3, 4] rfl)
  have B_411 : ∀ (S : HS) (x1 x2 x3 x4 : Int32) (H : Heap) (locs : List Loc) (ls : Array Slot), b_X11_reasonOfMove_411 S x1 x2 x3 x4 = X → q_X11_reasonOfMove_411 S x1 x2 x3 x4 → va_P G vwCl (hW K h g S) H → va_D A (hW K h g S) → va_S A s.heap H locs → lv_has ls 7 [(0, .ref h), (1, .int x1), (2, .int x2), (3, .int x3), (4, .int x4)] → W p l e ({ frames := 2, cells := 0, slots := 0, locals := 42 } : Room) s m #[Value.ref h, Value.int a1] below meth c H locs 0 0 Q (F0 m 411 ls []) := by
    intro S x1 x2 x3 x4 H locs ls hE hp hP hD hS hl
    unfold b_X11_reasonOfMove_411 at hE
    unfold q_X11_reasonOfMove_411 at hp
    refine lv_aload_n hx hb dX11_reasonOfMove_411 rfl (lv_at hl 0 rfl) ?_
    obtain ⟨hy20, hp⟩ := hp
    refine hGoi (va_runV (As := []) (rest := []) ⟨hx, hb, hml, hown, hts⟩ (c_X11_free l G K h g S _) (cwV 0 hts (wGV t_ (mw (.methodLink RX11 193 yX11_free) (List.mem_of_getElem? (i := 8) rfl)) (mw (.instanceMethod yX11_free) (List.mem_of_getElem? (i := 9) rfl)) (mw (.selects RX11 yX11_free yX11_free) (List.mem_of_getElem? (i := 10) rfl)) (mw (.initialized RX11) (List.mem_of_getElem? (i := 11) rfl)) j_X11_free) rfl rfl rfl (by decide +kernel) ⟨Nat.le_of_ble_eq_true rfl, Nat.le_of_ble_eq_true rfl⟩) (hPV hK hTE hP hD hy20) rfl rfl hl.1 rfl (lv_room (Nat.le_of_ble_eq_true rfl)) dX11_reasonOfMove_412 ⟨Nat.le_of_ble_eq_true rfl, Nat.le_of_ble_eq_true rfl⟩) hP hD hS hA (fun r22 u21 H locs hv hP hD hS => ?_)
    rw [← hv] at hE hp
    dsimp only at hE hp
    unfold b_X11_reasonOfMove_a415 at hE
    unfold q_X11_reasonOfMove_a415 at hp
    refine lv_iconst (v := (-1)) hx hb dX11_reasonOfMove_415 (by decide) ?_
    refine lv_icmp_ne (tgt := 424) hx hb dX11_reasonOfMove_416 (by decide) (fun c23 => ?_) (fun c23 => ?_)
    · rw [if_neg c23] at hE hp
      exact B_424 u21 x1 x2 x3 x4 _ _ _ hE hp hP hD hS (lv_sub hl [0, 1, 2, 3, 4] rfl)
    · rw [if_pos c23] at hE hp
      refine lv_bipush (v := 10) hx hb dX11_reasonOfMove_419 (by decide) ?_
      refine lv_goto (tgt := 425) hx hb dX11_reasonOfMove_421 (by decide) ?_
      exact B_425 u21 x1 x2 x3 x4 10 _ _ _ hE hp hP hD hS (lv_sub hl [0, 1, 2, 3, 4] rfl)
  have B_395 : ∀ (S : HS) (x1 x2 x3 x4 : Int32) (H : Heap) (locs : List Loc) (ls : Array Slot), b_X11_reasonOfMove_395 S x1 x2 x3 x4 = X → q_X11_reasonOfMove_395 S x1 x2 x3 x4 → va_P G vwCl (hW K h g S) H → va_D A (hW K h g S) → va_S A s.heap H locs → lv_has ls 7 [(0, .ref h), (1, .int x1), (2, .int x2), (3, .int x3), (4, .int x4)] → W p l e ({ frames := 2, cells := 0, slots := 0, locals := 42 } : Room) s m #[Value.ref h, Value.int a1] below meth c H locs 0 0 Q (F0 m 395 ls []) := by
    intro S x1 x2 x3 x4 H locs ls hE hp hP hD hS hl
    unfold b_X11_reasonOfMove_395 at hE
    unfold q_X11_reasonOfMove_395 at hp
    refine lv_iload_n hx hb dX11_reasonOfMove_395 rfl (lv_at hl 3 rfl) ?_
    refine lv_iconst (v := 4) hx hb dX11_reasonOfMove_396 (by decide) ?_
    refine lv_icmp_eq (tgt := 411) hx hb dX11_reasonOfMove_397 (by decide) (fun c19 => ?_) (fun c19 => ?_)
    · rw [if_pos c19] at hE hp
      exact B_411 S x1 x2 x3 x4 _ _ _ hE hp hP hD hS (lv_sub hl [0, 1, 2, 3, 4] rfl)
    · rw [if_neg c19] at hE hp
      refine lv_iload_n hx hb dX11_reasonOfMove_400 rfl (lv_at hl 3 rfl) ?_
      refine lv_iconst (v := 5) hx hb dX11_reasonOfMove_401 (by decide) ?_
      refine lv_icmp_eq (tgt := 411) hx hb dX11_reasonOfMove_402 (by decide) (fun c25 => ?_) (fun c25 => ?_)
      · rw [if_pos c25] at hE hp
        exact B_411 S x1 x2 x3 x4 _ _ _ hE hp hP hD hS (lv_sub hl [0, 1, 2, 3, 4] rfl)
      · rw [if_neg c25] at hE hp
        refine lv_iload_n hx hb dX11_reasonOfMove_405 rfl (lv_at hl 3 rfl) ?_
        refine lv_bipush (v := 7) hx hb dX11_reasonOfMove_406 (by decide) ?_
        refine lv_icmp_ne (tgt := 424) hx hb dX11_reasonOfMove_408 (by decide) (fun c26 => ?_) (fun c26 => ?_)
        · rw [if_neg c26] at hE hp
          exact B_424 S x1 x2 x3 x4 _ _ _ hE hp hP hD hS (lv_sub hl [0, 1, 2, 3, 4] rfl)
        · rw [if_pos c26] at hE hp
          exact B_411 S x1 x2 x3 x4 _ _ _ hE hp hP hD hS (lv_sub hl [0, 1, 2, 3, 4] rfl)
  have B_348 : ∀ (S : HS) (x1 x2 x3 x4 x5 y0 : Int32) (H : Heap) (locs : List Loc) (ls : Array Slot), b_X11_reasonOfMove_348 S x1 x2 x3 x4 x5 y0 = X → q_X11_reasonOfMove_348 S x1 x2 x3 x4 x5 y0 → va_P G vwCl (hW K h g S) H → va_D A (hW K h g S) → va_S A s.heap H locs → lv_has ls 7 [(0, .ref h), (1, .int x1), (2, .int x2), (3, .int x3), (4, .int x4), (5, .int x5)] → W p l e ({ frames := 2, cells := 0, slots := 0, locals := 42 } : Room) s m #[Value.ref h, Value.int a1] below meth c H locs 0 0 Q (F0 m 348 ls [.int y0]) := by
    intro S x1 x2 x3 x4 x5 y0 H locs ls hE hp hP hD hS hl
    unfold b_X11_reasonOfMove_348 at hE
    unfold q_X11_reasonOfMove_348 at hp
    refine lv_istore (lv' := [(6, .int y0), (0, .ref h), (1, .int x1), (2, .int x2), (3, .int x3), (4, .int x4), (5, .int x5)]) hx hb dX11_reasonOfMove_348 hl (by decide) rfl (fun ls hl => ?_)
    refine lv_iload hx hb dX11_reasonOfMove_350 (lv_at hl 0 rfl) ?_
    refine lv_iconst (v := (-1)) hx hb dX11_reasonOfMove_352 (by decide) ?_
    refine lv_icmp_eq (tgt := 395) hx hb dX11_reasonOfMove_353 (by decide) (fun c36 => ?_) (fun c36 => ?_)
    · rw [if_pos c36] at hE hp
      exact B_395 S x1 x2 x3 x4 _ _ _ hE hp hP hD hS (lv_sub hl [1, 2, 3, 4, 5] rfl)
    · rw [if_neg c36] at hE hp
      refine lv_aload_n hx hb dX11_reasonOfMove_356 rfl (lv_at hl 1 rfl) ?_
      refine va_get (D := G) (ci := 8) (v := .ref (g 19)) (C := RX11) (T := TX11) (N := 42) hx hb hts iX11 hown hK hP 0 rfl rfl 19 (by decide) (hw (.fieldLink RX11 37 "MotionFloorModel$Hall" "words" "[I") (List.mem_of_getElem? (i := 12) rfl)) (fun _ h9 => h9) rfl dX11_reasonOfMove_357 ?_
      refine lv_iload hx hb dX11_reasonOfMove_360 (lv_at hl 0 rfl) ?_
      obtain ⟨hy37, hp⟩ := hp
      refine va_iald hx hb hK hP 9 0 rfl rfl hy37 dX11_reasonOfMove_362 ?_
      refine lv_iload hx hb dX11_reasonOfMove_363 (lv_at hl 6 rfl) ?_
      refine lv_iadd hx hb dX11_reasonOfMove_365 ?_
      refine lv_aload_n hx hb dX11_reasonOfMove_366 rfl (lv_at hl 1 rfl) ?_
      refine va_get (D := G) (ci := 8) (v := .ref (g 21)) (C := RX11) (T := TX11) (N := 42) hx hb hts iX11 hown hK hP 0 rfl rfl 21 (by decide) (hw (.fieldLink RX11 43 "MotionFloorModel$Hall" "to" "[I") (List.mem_of_getElem? (i := 16) rfl)) (fun _ h9 => h9) rfl dX11_reasonOfMove_367 ?_
      refine lv_aload_n hx hb dX11_reasonOfMove_370 rfl (lv_at hl 1 rfl) ?_
      obtain ⟨hy38, hp⟩ := hp
      refine hGoi (va_runV (As := []) (rest := [.ref (g 21), .int ((S.2 19 y0.toNatClampNeg) + x5)]) ⟨hx, hb, hml, hown, hts⟩ (c_X11_top l G K h g S _) (cwV 0 hts (wGV t_ (mw (.methodLink RX11 155 yX11_top) (List.mem_of_getElem? (i := 13) rfl)) (mw (.instanceMethod yX11_top) (List.mem_of_getElem? (i := 14) rfl)) (mw (.selects RX11 yX11_top yX11_top) (List.mem_of_getElem? (i := 15) rfl)) (mw (.initialized RX11) (List.mem_of_getElem? (i := 11) rfl)) j_X11_top) rfl rfl rfl (by decide +kernel) ⟨Nat.le_of_ble_eq_true rfl, Nat.le_of_ble_eq_true rfl⟩) (hPV hK hTE hP hD hy38) rfl rfl hl.1 rfl (lv_room (Nat.le_of_ble_eq_true rfl)) dX11_reasonOfMove_371 ⟨Nat.le_of_ble_eq_true rfl, Nat.le_of_ble_eq_true rfl⟩) hP hD hS hA (fun r40 u39 H locs hv hP hD hS => ?_)
      rw [← hv] at hE hp
      dsimp only at hE hp
      unfold b_X11_reasonOfMove_a374 at hE
      unfold q_X11_reasonOfMove_a374 at hp
      obtain ⟨hy41, hp⟩ := hp
      refine va_iald hx hb hK hP 11 0 rfl rfl hy41 dX11_reasonOfMove_374 ?_
      refine lv_aload_n hx hb dX11_reasonOfMove_375 rfl (lv_at hl 1 rfl) ?_
      refine va_get (D := G) (ci := 8) (v := .ref (g 20)) (C := RX11) (T := TX11) (N := 42) hx hb hts iX11 hown hK hP 0 rfl rfl 20 (by decide) (hw (.fieldLink RX11 40 "MotionFloorModel$Hall" "from" "[I") (List.mem_of_getElem? (i := 17) rfl)) (fun _ h9 => h9) rfl dX11_reasonOfMove_376 ?_
      refine lv_aload_n hx hb dX11_reasonOfMove_379 rfl (lv_at hl 1 rfl) ?_
      obtain ⟨hy42, hp⟩ := hp
      refine hGoi (va_runV (As := []) (rest := [.ref (g 20), .int (u39.2 21 r40.toNatClampNeg), .int ((S.2 19 y0.toNatClampNeg) + x5)]) ⟨hx, hb, hml, hown, hts⟩ (c_X11_top l G K h g u39 _) (cwV 0 hts (wGV t_ (mw (.methodLink RX11 155 yX11_top) (List.mem_of_getElem? (i := 13) rfl)) (mw (.instanceMethod yX11_top) (List.mem_of_getElem? (i := 14) rfl)) (mw (.selects RX11 yX11_top yX11_top) (List.mem_of_getElem? (i := 15) rfl)) (mw (.initialized RX11) (List.mem_of_getElem? (i := 11) rfl)) j_X11_top) rfl rfl rfl (by decide +kernel) ⟨Nat.le_of_ble_eq_true rfl, Nat.le_of_ble_eq_true rfl⟩) (hPV hK hTE hP hD hy42) rfl rfl hl.1 rfl (lv_room (Nat.le_of_ble_eq_true rfl)) dX11_reasonOfMove_380 ⟨Nat.le_of_ble_eq_true rfl, Nat.le_of_ble_eq_true rfl⟩) hP hD hS hA (fun r44 u43 H locs hv hP hD hS => ?_)
      rw [← hv] at hE hp
      dsimp only at hE hp
      unfold b_X11_reasonOfMove_a383 at hE
      unfold q_X11_reasonOfMove_a383 at hp
      obtain ⟨hy45, hp⟩ := hp
      refine va_iald hx hb hK hP 10 0 rfl rfl hy45 dX11_reasonOfMove_383 ?_
      refine lv_isub hx hb dX11_reasonOfMove_384 ?_
      refine lv_isub hx hb dX11_reasonOfMove_385 ?_
      refine lv_sipush (v := 400) hx hb dX11_reasonOfMove_386 (by decide) ?_
      refine lv_icmp_le (tgt := 395) hx hb dX11_reasonOfMove_389 (by decide) (fun c46 => ?_) (fun c46 => ?_)
      · rw [if_pos c46] at hE hp
        exact B_395 u43 x1 x2 x3 x4 _ _ _ hE hp hP hD hS (lv_sub hl [1, 2, 3, 4, 5] rfl)
      · rw [if_neg c46] at hE hp
        refine lv_bipush (v := 10) hx hb dX11_reasonOfMove_392 (by decide) ?_
        subst hQ
        exact W.iret (v := 10) hx hb hr (fun t ht hW => ⟨⟨10, u43, rfl, hE.trans hX.symm, by rw [ht]; exact hP, hD⟩, hS.F ht⟩) hS.2.2 dX11_reasonOfMove_394
  have B_259 : ∀ (S : HS) (x1 x2 x3 x4 : Int32) (H : Heap) (locs : List Loc) (ls : Array Slot), b_X11_reasonOfMove_259 S x1 x2 x3 x4 = X → q_X11_reasonOfMove_259 S x1 x2 x3 x4 → va_P G vwCl (hW K h g S) H → va_D A (hW K h g S) → va_S A s.heap H locs → lv_has ls 7 [(0, .ref h), (1, .int x1), (2, .int x2), (3, .int x3), (4, .int x4)] → W p l e ({ frames := 2, cells := 0, slots := 0, locals := 42 } : Room) s m #[Value.ref h, Value.int a1] below meth c H locs 0 0 Q (F0 m 259 ls []) := by
    intro S x1 x2 x3 x4 H locs ls hE hp hP hD hS hl
    unfold b_X11_reasonOfMove_259 at hE
    unfold q_X11_reasonOfMove_259 at hp
    refine lv_aload_n hx hb dX11_reasonOfMove_259 rfl (lv_at hl 0 rfl) ?_
    refine va_get (D := G) (ci := 8) (v := .int (S.1 36)) (C := RX11) (T := TX11) (N := 42) hx hb hts iX11 hown hK hP 0 rfl rfl 36 (by decide) (hw (.fieldLink RX11 151 "MotionFloorModel$Hall" "draftTabled" "Z") (List.mem_of_getElem? (i := 2) rfl)) (fun _ h9 => h9) rfl dX11_reasonOfMove_260 ?_
    refine lv_if_eq (tgt := 268) hx hb dX11_reasonOfMove_263 (by decide) (fun c16 => ?_) (fun c16 => ?_)
    · rw [if_pos c16] at hE hp
      refine lv_aload_n hx hb dX11_reasonOfMove_268 rfl (lv_at hl 0 rfl) ?_
      refine va_get (D := G) (ci := 8) (v := .int (S.1 6)) (C := RX11) (T := TX11) (N := 42) hx hb hts iX11 hown hK hP 0 rfl rfl 6 (by decide) (hw (.fieldLink RX11 115 "MotionFloorModel$Hall" "pending" "I") (List.mem_of_getElem? (i := 4) rfl)) (fun _ h9 => h9) rfl dX11_reasonOfMove_269 ?_
      refine lv_bipush (v := 9) hx hb dX11_reasonOfMove_272 (by decide) ?_
      refine lv_icmp_ne (tgt := 280) hx hb dX11_reasonOfMove_274 (by decide) (fun c17 => ?_) (fun c17 => ?_)
      · rw [if_neg c17] at hE hp
        refine lv_iload hx hb dX11_reasonOfMove_280 (lv_at hl 4 rfl) ?_
        refine lv_if_eq (tgt := 395) hx hb dX11_reasonOfMove_282 (by decide) (fun c18 => ?_) (fun c18 => ?_)
        · rw [if_pos c18] at hE hp
          exact B_395 S x1 x2 x3 x4 _ _ _ hE hp hP hD hS (lv_sub hl [0, 1, 2, 3, 4] rfl)
        · rw [if_neg c18] at hE hp
          refine lv_aload_n hx hb dX11_reasonOfMove_285 rfl (lv_at hl 0 rfl) ?_
          refine va_get (D := G) (ci := 8) (v := .ref (g 19)) (C := RX11) (T := TX11) (N := 42) hx hb hts iX11 hown hK hP 0 rfl rfl 19 (by decide) (hw (.fieldLink RX11 37 "MotionFloorModel$Hall" "words" "[I") (List.mem_of_getElem? (i := 12) rfl)) (fun _ h9 => h9) rfl dX11_reasonOfMove_286 ?_
          refine lv_aload_n hx hb dX11_reasonOfMove_289 rfl (lv_at hl 0 rfl) ?_
          obtain ⟨hy27, hp⟩ := hp
          refine hGoi (va_runV (As := []) (rest := [.ref (g 19)]) ⟨hx, hb, hml, hown, hts⟩ (c_X11_top l G K h g S _) (cwV 0 hts (wGV t_ (mw (.methodLink RX11 155 yX11_top) (List.mem_of_getElem? (i := 13) rfl)) (mw (.instanceMethod yX11_top) (List.mem_of_getElem? (i := 14) rfl)) (mw (.selects RX11 yX11_top yX11_top) (List.mem_of_getElem? (i := 15) rfl)) (mw (.initialized RX11) (List.mem_of_getElem? (i := 11) rfl)) j_X11_top) rfl rfl rfl (by decide +kernel) ⟨Nat.le_of_ble_eq_true rfl, Nat.le_of_ble_eq_true rfl⟩) (hPV hK hTE hP hD hy27) rfl rfl hl.1 rfl (lv_room (Nat.le_of_ble_eq_true rfl)) dX11_reasonOfMove_290 ⟨Nat.le_of_ble_eq_true rfl, Nat.le_of_ble_eq_true rfl⟩) hP hD hS hA (fun r29 u28 H locs hv hP hD hS => ?_)
          rw [← hv] at hE hp
          dsimp only at hE hp
          unfold b_X11_reasonOfMove_a293 at hE
          unfold q_X11_reasonOfMove_a293 at hp
          obtain ⟨hy30, hp⟩ := hp
          refine va_iald hx hb hK hP 9 0 rfl rfl hy30 dX11_reasonOfMove_293 ?_
          refine lv_aload_n hx hb dX11_reasonOfMove_294 rfl (lv_at hl 0 rfl) ?_
          refine va_get (D := G) (ci := 8) (v := .ref (g 19)) (C := RX11) (T := TX11) (N := 42) hx hb hts iX11 hown hK hP 0 rfl rfl 19 (by decide) (hw (.fieldLink RX11 37 "MotionFloorModel$Hall" "words" "[I") (List.mem_of_getElem? (i := 12) rfl)) (fun _ h9 => h9) rfl dX11_reasonOfMove_295 ?_
          refine lv_iload_n hx hb dX11_reasonOfMove_298 rfl (lv_at hl 2 rfl) ?_
          obtain ⟨hy31, hp⟩ := hp
          refine va_iald hx hb hK hP 9 0 rfl rfl hy31 dX11_reasonOfMove_299 ?_
          refine lv_iadd hx hb dX11_reasonOfMove_300 ?_
          refine lv_aload_n hx hb dX11_reasonOfMove_301 rfl (lv_at hl 0 rfl) ?_
          refine va_get (D := G) (ci := 8) (v := .ref (g 21)) (C := RX11) (T := TX11) (N := 42) hx hb hts iX11 hown hK hP 0 rfl rfl 21 (by decide) (hw (.fieldLink RX11 43 "MotionFloorModel$Hall" "to" "[I") (List.mem_of_getElem? (i := 16) rfl)) (fun _ h9 => h9) rfl dX11_reasonOfMove_302 ?_
          refine lv_iload_n hx hb dX11_reasonOfMove_305 rfl (lv_at hl 2 rfl) ?_
          obtain ⟨hy32, hp⟩ := hp
          refine va_iald hx hb hK hP 11 0 rfl rfl hy32 dX11_reasonOfMove_306 ?_
          refine lv_aload_n hx hb dX11_reasonOfMove_307 rfl (lv_at hl 0 rfl) ?_
          refine va_get (D := G) (ci := 8) (v := .ref (g 20)) (C := RX11) (T := TX11) (N := 42) hx hb hts iX11 hown hK hP 0 rfl rfl 20 (by decide) (hw (.fieldLink RX11 40 "MotionFloorModel$Hall" "from" "[I") (List.mem_of_getElem? (i := 17) rfl)) (fun _ h9 => h9) rfl dX11_reasonOfMove_308 ?_
          refine lv_iload_n hx hb dX11_reasonOfMove_311 rfl (lv_at hl 2 rfl) ?_
          obtain ⟨hy33, hp⟩ := hp
          refine va_iald hx hb hK hP 10 0 rfl rfl hy33 dX11_reasonOfMove_312 ?_
          refine lv_isub hx hb dX11_reasonOfMove_313 ?_
          refine lv_isub hx hb dX11_reasonOfMove_314 ?_
          refine lv_istore (lv' := [(5, .int (((u28.2 19 r29.toNatClampNeg) + (u28.2 19 x2.toNatClampNeg)) - ((u28.2 21 x2.toNatClampNeg) - (u28.2 20 x2.toNatClampNeg)))), (0, .ref h), (1, .int x1), (2, .int x2), (3, .int x3), (4, .int x4)]) hx hb dX11_reasonOfMove_315 hl (by decide) rfl (fun ls hl => ?_)
          refine lv_iload hx hb dX11_reasonOfMove_317 (lv_at hl 0 rfl) ?_
          refine lv_sipush (v := 400) hx hb dX11_reasonOfMove_319 (by decide) ?_
          refine lv_icmp_le (tgt := 328) hx hb dX11_reasonOfMove_322 (by decide) (fun c34 => ?_) (fun c34 => ?_)
          · rw [if_pos c34] at hE hp
            refine lv_iload_n hx hb dX11_reasonOfMove_328 rfl (lv_at hl 4 rfl) ?_
            refine lv_iconst (v := 3) hx hb dX11_reasonOfMove_329 (by decide) ?_
            refine lv_icmp_ne (tgt := 347) hx hb dX11_reasonOfMove_330 (by decide) (fun c35 => ?_) (fun c35 => ?_)
            · rw [if_neg c35] at hE hp
              refine lv_iconst (v := (-1)) hx hb dX11_reasonOfMove_347 (by decide) ?_
              exact B_348 u28 x1 x2 x3 x4 (((u28.2 19 r29.toNatClampNeg) + (u28.2 19 x2.toNatClampNeg)) - ((u28.2 21 x2.toNatClampNeg) - (u28.2 20 x2.toNatClampNeg))) (-1) _ _ _ hE hp hP hD hS (lv_sub hl [1, 2, 3, 4, 5, 0] rfl)
            · rw [if_pos c35] at hE hp
              refine lv_aload_n hx hb dX11_reasonOfMove_333 rfl (lv_at hl 1 rfl) ?_
              refine va_get (D := G) (ci := 8) (v := .ref (g 31)) (C := RX11) (T := TX11) (N := 42) hx hb hts iX11 hown hK hP 0 rfl rfl 31 (by decide) (hw (.fieldLink RX11 72 "MotionFloorModel$Hall" "row" "[I") (List.mem_of_getElem? (i := 18) rfl)) (fun _ h9 => h9) rfl dX11_reasonOfMove_334 ?_
              refine lv_aload_n hx hb dX11_reasonOfMove_337 rfl (lv_at hl 1 rfl) ?_
              refine va_get (D := G) (ci := 8) (v := .int (u28.1 6)) (C := RX11) (T := TX11) (N := 42) hx hb hts iX11 hown hK hP 0 rfl rfl 6 (by decide) (hw (.fieldLink RX11 115 "MotionFloorModel$Hall" "pending" "I") (List.mem_of_getElem? (i := 4) rfl)) (fun _ h9 => h9) rfl dX11_reasonOfMove_338 ?_
              refine lv_iconst (v := 2) hx hb dX11_reasonOfMove_341 (by decide) ?_
              refine lv_isub hx hb dX11_reasonOfMove_342 ?_
              obtain ⟨hy55, hp⟩ := hp
              refine va_iald hx hb hK hP 20 0 rfl rfl hy55 dX11_reasonOfMove_343 ?_
              refine lv_goto (tgt := 348) hx hb dX11_reasonOfMove_344 (by decide) ?_
              exact B_348 u28 x1 x2 x3 x4 (((u28.2 19 r29.toNatClampNeg) + (u28.2 19 x2.toNatClampNeg)) - ((u28.2 21 x2.toNatClampNeg) - (u28.2 20 x2.toNatClampNeg))) (u28.2 31 ((u28.1 6) - 2).toNatClampNeg) _ _ _ hE hp hP hD hS (lv_sub hl [1, 2, 3, 4, 5, 0] rfl)
          · rw [if_neg c34] at hE hp
            refine lv_bipush (v := 10) hx hb dX11_reasonOfMove_325 (by decide) ?_
            subst hQ
            exact W.iret (v := 10) hx hb hr (fun t ht hW => ⟨⟨10, u28, rfl, hE.trans hX.symm, by rw [ht]; exact hP, hD⟩, hS.F ht⟩) hS.2.2 dX11_reasonOfMove_327
      · rw [if_pos c17] at hE hp
        refine lv_bipush (v := 10) hx hb dX11_reasonOfMove_277 (by decide) ?_
        subst hQ
        exact W.iret (v := 10) hx hb hr (fun t ht hW => ⟨⟨10, S, rfl, hE.trans hX.symm, by rw [ht]; exact hP, hD⟩, hS.F ht⟩) hS.2.2 dX11_reasonOfMove_279
    · rw [if_neg c16] at hE hp
      refine lv_iconst (v := 0) hx hb dX11_reasonOfMove_266 (by decide) ?_
      subst hQ
      exact W.iret (v := 0) hx hb hr (fun t ht hW => ⟨⟨0, S, rfl, hE.trans hX.symm, by rw [ht]; exact hP, hD⟩, hS.F ht⟩) hS.2.2 dX11_reasonOfMove_267
  have B_257 : ∀ (S : HS) (x1 x2 x3 x4 : Int32) (H : Heap) (locs : List Loc) (ls : Array Slot), b_X11_reasonOfMove_257 S x1 x2 x3 x4 = X → q_X11_reasonOfMove_257 S x1 x2 x3 x4 → va_P G vwCl (hW K h g S) H → va_D A (hW K h g S) → va_S A s.heap H locs → lv_has ls 7 [(0, .ref h), (1, .int x1), (2, .int x2), (3, .int x3), (4, .int x4)] → W p l e ({ frames := 2, cells := 0, slots := 0, locals := 42 } : Room) s m #[Value.ref h, Value.int a1] below meth c H locs 0 0 Q (F0 m 257 ls []) := by
    intro S x1 x2 x3 x4 H locs ls hE hp hP hD hS hl
    unfold b_X11_reasonOfMove_257 at hE
    unfold q_X11_reasonOfMove_257 at hp
    refine lv_iconst (v := 5) hx hb dX11_reasonOfMove_257 (by decide) ?_
    subst hQ
    exact W.iret (v := 5) hx hb hr (fun t ht hW => ⟨⟨5, S, rfl, hE.trans hX.symm, by rw [ht]; exact hP, hD⟩, hS.F ht⟩) hS.2.2 dX11_reasonOfMove_258
  have B_239 : ∀ (S : HS) (x1 x2 x3 x4 : Int32) (H : Heap) (locs : List Loc) (ls : Array Slot), b_X11_reasonOfMove_239 S x1 x2 x3 x4 = X → q_X11_reasonOfMove_239 S x1 x2 x3 x4 → va_P G vwCl (hW K h g S) H → va_D A (hW K h g S) → va_S A s.heap H locs → lv_has ls 7 [(0, .ref h), (1, .int x1), (2, .int x2), (3, .int x3), (4, .int x4)] → W p l e ({ frames := 2, cells := 0, slots := 0, locals := 42 } : Room) s m #[Value.ref h, Value.int a1] below meth c H locs 0 0 Q (F0 m 239 ls []) := by
    intro S x1 x2 x3 x4 H locs ls hE hp hP hD hS hl
    unfold b_X11_reasonOfMove_239 at hE
    unfold q_X11_reasonOfMove_239 at hp
    refine lv_aload_n hx hb dX11_reasonOfMove_239 rfl (lv_at hl 0 rfl) ?_
    refine va_get (D := G) (ci := 8) (v := .ref (g 21)) (C := RX11) (T := TX11) (N := 42) hx hb hts iX11 hown hK hP 0 rfl rfl 21 (by decide) (hw (.fieldLink RX11 43 "MotionFloorModel$Hall" "to" "[I") (List.mem_of_getElem? (i := 16) rfl)) (fun _ h9 => h9) rfl dX11_reasonOfMove_240 ?_
    refine lv_iload_n hx hb dX11_reasonOfMove_243 rfl (lv_at hl 2 rfl) ?_
    obtain ⟨hy67, hp⟩ := hp
    refine va_iald hx hb hK hP 11 0 rfl rfl hy67 dX11_reasonOfMove_244 ?_
    refine lv_aload_n hx hb dX11_reasonOfMove_245 rfl (lv_at hl 0 rfl) ?_
    refine va_get (D := G) (ci := 8) (v := .ref (g 19)) (C := RX11) (T := TX11) (N := 42) hx hb hts iX11 hown hK hP 0 rfl rfl 19 (by decide) (hw (.fieldLink RX11 37 "MotionFloorModel$Hall" "words" "[I") (List.mem_of_getElem? (i := 12) rfl)) (fun _ h9 => h9) rfl dX11_reasonOfMove_246 ?_
    refine lv_aload_n hx hb dX11_reasonOfMove_249 rfl (lv_at hl 0 rfl) ?_
    obtain ⟨hy68, hp⟩ := hp
    refine hGoi (va_runV (As := []) (rest := [.ref (g 19), .int (S.2 21 x2.toNatClampNeg)]) ⟨hx, hb, hml, hown, hts⟩ (c_X11_top l G K h g S _) (cwV 0 hts (wGV t_ (mw (.methodLink RX11 155 yX11_top) (List.mem_of_getElem? (i := 13) rfl)) (mw (.instanceMethod yX11_top) (List.mem_of_getElem? (i := 14) rfl)) (mw (.selects RX11 yX11_top yX11_top) (List.mem_of_getElem? (i := 15) rfl)) (mw (.initialized RX11) (List.mem_of_getElem? (i := 11) rfl)) j_X11_top) rfl rfl rfl (by decide +kernel) ⟨Nat.le_of_ble_eq_true rfl, Nat.le_of_ble_eq_true rfl⟩) (hPV hK hTE hP hD hy68) rfl rfl hl.1 rfl (lv_room (Nat.le_of_ble_eq_true rfl)) dX11_reasonOfMove_250 ⟨Nat.le_of_ble_eq_true rfl, Nat.le_of_ble_eq_true rfl⟩) hP hD hS hA (fun r70 u69 H locs hv hP hD hS => ?_)
    rw [← hv] at hE hp
    dsimp only at hE hp
    unfold b_X11_reasonOfMove_a253 at hE
    unfold q_X11_reasonOfMove_a253 at hp
    obtain ⟨hy71, hp⟩ := hp
    refine va_iald hx hb hK hP 9 0 rfl rfl hy71 dX11_reasonOfMove_253 ?_
    refine lv_icmp_le (tgt := 259) hx hb dX11_reasonOfMove_254 (by decide) (fun c72 => ?_) (fun c72 => ?_)
    · rw [if_pos c72] at hE hp
      exact B_259 u69 x1 x2 x3 x4 _ _ _ hE hp hP hD hS (lv_sub hl [0, 1, 2, 3, 4] rfl)
    · rw [if_neg c72] at hE hp
      exact B_257 u69 x1 x2 x3 x4 _ _ _ hE hp hP hD hS (lv_sub hl [0, 1, 2, 3, 4] rfl)
  have B_196 : ∀ (S : HS) (x1 x2 x3 y0 : Int32) (H : Heap) (locs : List Loc) (ls : Array Slot), b_X11_reasonOfMove_196 S x1 x2 x3 y0 = X → q_X11_reasonOfMove_196 S x1 x2 x3 y0 → va_P G vwCl (hW K h g S) H → va_D A (hW K h g S) → va_S A s.heap H locs → lv_has ls 7 [(0, .ref h), (1, .int x1), (2, .int x2), (3, .int x3)] → W p l e ({ frames := 2, cells := 0, slots := 0, locals := 42 } : Room) s m #[Value.ref h, Value.int a1] below meth c H locs 0 0 Q (F0 m 196 ls [.int y0]) := by
    intro S x1 x2 x3 y0 H locs ls hE hp hP hD hS hl
    unfold b_X11_reasonOfMove_196 at hE
    unfold q_X11_reasonOfMove_196 at hp
    refine lv_istore (lv' := [(4, .int y0), (0, .ref h), (1, .int x1), (2, .int x2), (3, .int x3)]) hx hb dX11_reasonOfMove_196 hl (by decide) rfl (fun ls hl => ?_)
    refine lv_iload hx hb dX11_reasonOfMove_198 (lv_at hl 0 rfl) ?_
    refine lv_if_eq (tgt := 259) hx hb dX11_reasonOfMove_200 (by decide) (fun c15 => ?_) (fun c15 => ?_)
    · rw [if_pos c15] at hE hp
      exact B_259 S x1 x2 x3 y0 _ _ _ hE hp hP hD hS (lv_sub hl [1, 2, 3, 4, 0] rfl)
    · rw [if_neg c15] at hE hp
      refine lv_aload_n hx hb dX11_reasonOfMove_203 rfl (lv_at hl 1 rfl) ?_
      refine va_get (D := G) (ci := 8) (v := .ref (g 26)) (C := RX11) (T := TX11) (N := 42) hx hb hts iX11 hown hK hP 0 rfl rfl 26 (by decide) (hw (.fieldLink RX11 58 "MotionFloorModel$Hall" "outside" "[Z") (List.mem_of_getElem? (i := 19) rfl)) (fun _ h9 => h9) rfl dX11_reasonOfMove_204 ?_
      refine lv_iload_n hx hb dX11_reasonOfMove_207 rfl (lv_at hl 3 rfl) ?_
      obtain ⟨hy63, hp⟩ := hp
      refine va_zald hx hb hK hP 16 1 rfl rfl hy63 dX11_reasonOfMove_208 ?_
      refine lv_if_ne (tgt := 257) hx hb dX11_reasonOfMove_209 (by decide) (fun c64 => ?_) (fun c64 => ?_)
      · rw [if_neg c64] at hE hp
        exact B_257 S x1 x2 x3 y0 _ _ _ hE hp hP hD hS (lv_sub hl [1, 2, 3, 4, 0] rfl)
      · rw [if_pos c64] at hE hp
        refine lv_aload_n hx hb dX11_reasonOfMove_212 rfl (lv_at hl 1 rfl) ?_
        refine va_get (D := G) (ci := 8) (v := .ref (g 25)) (C := RX11) (T := TX11) (N := 42) hx hb hts iX11 hown hK hP 0 rfl rfl 25 (by decide) (hw (.fieldLink RX11 55 "MotionFloorModel$Hall" "laid" "[Z") (List.mem_of_getElem? (i := 20) rfl)) (fun _ h9 => h9) rfl dX11_reasonOfMove_213 ?_
        refine lv_iload_n hx hb dX11_reasonOfMove_216 rfl (lv_at hl 3 rfl) ?_
        obtain ⟨hy65, hp⟩ := hp
        refine va_zald hx hb hK hP 15 1 rfl rfl hy65 dX11_reasonOfMove_217 ?_
        refine lv_if_eq (tgt := 239) hx hb dX11_reasonOfMove_218 (by decide) (fun c66 => ?_) (fun c66 => ?_)
        · rw [if_pos c66] at hE hp
          exact B_239 S x1 x2 x3 y0 _ _ _ hE hp hP hD hS (lv_sub hl [1, 2, 3, 4, 0] rfl)
        · rw [if_neg c66] at hE hp
          refine lv_aload_n hx hb dX11_reasonOfMove_221 rfl (lv_at hl 1 rfl) ?_
          refine va_get (D := G) (ci := 8) (v := .ref (g 23)) (C := RX11) (T := TX11) (N := 42) hx hb hts iX11 hown hK hP 0 rfl rfl 23 (by decide) (hw (.fieldLink RX11 49 "MotionFloorModel$Hall" "subject" "[I") (List.mem_of_getElem? (i := 21) rfl)) (fun _ h9 => h9) rfl dX11_reasonOfMove_222 ?_
          refine lv_iload_n hx hb dX11_reasonOfMove_225 rfl (lv_at hl 3 rfl) ?_
          obtain ⟨hy75, hp⟩ := hp
          refine va_iald hx hb hK hP 13 0 rfl rfl hy75 dX11_reasonOfMove_226 ?_
          refine lv_aload_n hx hb dX11_reasonOfMove_227 rfl (lv_at hl 1 rfl) ?_
          refine va_get (D := G) (ci := 8) (v := .ref (g 22)) (C := RX11) (T := TX11) (N := 42) hx hb hts iX11 hown hK hP 0 rfl rfl 22 (by decide) (hw (.fieldLink RX11 46 "MotionFloorModel$Hall" "self" "[I") (List.mem_of_getElem? (i := 22) rfl)) (fun _ h9 => h9) rfl dX11_reasonOfMove_228 ?_
          refine lv_aload_n hx hb dX11_reasonOfMove_231 rfl (lv_at hl 1 rfl) ?_
          obtain ⟨hy76, hp⟩ := hp
          refine hGoi (va_runV (As := []) (rest := [.ref (g 22), .int (S.2 23 x2.toNatClampNeg)]) ⟨hx, hb, hml, hown, hts⟩ (c_X11_top l G K h g S _) (cwV 0 hts (wGV t_ (mw (.methodLink RX11 155 yX11_top) (List.mem_of_getElem? (i := 13) rfl)) (mw (.instanceMethod yX11_top) (List.mem_of_getElem? (i := 14) rfl)) (mw (.selects RX11 yX11_top yX11_top) (List.mem_of_getElem? (i := 15) rfl)) (mw (.initialized RX11) (List.mem_of_getElem? (i := 11) rfl)) j_X11_top) rfl rfl rfl (by decide +kernel) ⟨Nat.le_of_ble_eq_true rfl, Nat.le_of_ble_eq_true rfl⟩) (hPV hK hTE hP hD hy76) rfl rfl hl.1 rfl (lv_room (Nat.le_of_ble_eq_true rfl)) dX11_reasonOfMove_232 ⟨Nat.le_of_ble_eq_true rfl, Nat.le_of_ble_eq_true rfl⟩) hP hD hS hA (fun r78 u77 H locs hv hP hD hS => ?_)
          rw [← hv] at hE hp
          dsimp only at hE hp
          unfold b_X11_reasonOfMove_a235 at hE
          unfold q_X11_reasonOfMove_a235 at hp
          obtain ⟨hy79, hp⟩ := hp
          refine va_iald hx hb hK hP 12 0 rfl rfl hy79 dX11_reasonOfMove_235 ?_
          refine lv_icmp_ne (tgt := 257) hx hb dX11_reasonOfMove_236 (by decide) (fun c80 => ?_) (fun c80 => ?_)
          · rw [if_neg c80] at hE hp
            exact B_257 u77 x1 x2 x3 y0 _ _ _ hE hp hP hD hS (lv_sub hl [1, 2, 3, 4, 0] rfl)
          · rw [if_pos c80] at hE hp
            exact B_239 u77 x1 x2 x3 y0 _ _ _ hE hp hP hD hS (lv_sub hl [1, 2, 3, 4, 0] rfl)
  have B_195 : ∀ (S : HS) (x1 x2 x3 : Int32) (H : Heap) (locs : List Loc) (ls : Array Slot), b_X11_reasonOfMove_195 S x1 x2 x3 = X → q_X11_reasonOfMove_195 S x1 x2 x3 → va_P G vwCl (hW K h g S) H → va_D A (hW K h g S) → va_S A s.heap H locs → lv_has ls 7 [(0, .ref h), (1, .int x1), (2, .int x2), (3, .int x3)] → W p l e ({ frames := 2, cells := 0, slots := 0, locals := 42 } : Room) s m #[Value.ref h, Value.int a1] below meth c H locs 0 0 Q (F0 m 195 ls []) := by
    intro S x1 x2 x3 H locs ls hE hp hP hD hS hl
    unfold b_X11_reasonOfMove_195 at hE
    unfold q_X11_reasonOfMove_195 at hp
    refine lv_iconst (v := 0) hx hb dX11_reasonOfMove_195 (by decide) ?_
    exact B_196 S x1 x2 x3 0 _ _ _ hE hp hP hD hS (lv_sub hl [0, 1, 2, 3] rfl)
  have B_191 : ∀ (S : HS) (x1 x2 x3 : Int32) (H : Heap) (locs : List Loc) (ls : Array Slot), b_X11_reasonOfMove_191 S x1 x2 x3 = X → q_X11_reasonOfMove_191 S x1 x2 x3 → va_P G vwCl (hW K h g S) H → va_D A (hW K h g S) → va_S A s.heap H locs → lv_has ls 7 [(0, .ref h), (1, .int x1), (2, .int x2), (3, .int x3)] → W p l e ({ frames := 2, cells := 0, slots := 0, locals := 42 } : Room) s m #[Value.ref h, Value.int a1] below meth c H locs 0 0 Q (F0 m 191 ls []) := by
    intro S x1 x2 x3 H locs ls hE hp hP hD hS hl
    unfold b_X11_reasonOfMove_191 at hE
    unfold q_X11_reasonOfMove_191 at hp
    refine lv_iconst (v := 1) hx hb dX11_reasonOfMove_191 (by decide) ?_
    refine lv_goto (tgt := 196) hx hb dX11_reasonOfMove_192 (by decide) ?_
    exact B_196 S x1 x2 x3 1 _ _ _ hE hp hP hD hS (lv_sub hl [0, 1, 2, 3] rfl)
  have B_161 : ∀ (S : HS) (x1 x2 x3 : Int32) (H : Heap) (locs : List Loc) (ls : Array Slot), b_X11_reasonOfMove_161 S x1 x2 x3 = X → q_X11_reasonOfMove_161 S x1 x2 x3 → va_P G vwCl (hW K h g S) H → va_D A (hW K h g S) → va_S A s.heap H locs → lv_has ls 7 [(0, .ref h), (1, .int x1), (2, .int x2), (3, .int x3)] → W p l e ({ frames := 2, cells := 0, slots := 0, locals := 42 } : Room) s m #[Value.ref h, Value.int a1] below meth c H locs 0 0 Q (F0 m 161 ls []) := by
    intro S x1 x2 x3 H locs ls hE hp hP hD hS hl
    unfold b_X11_reasonOfMove_161 at hE
    unfold q_X11_reasonOfMove_161 at hp
    refine lv_aload_n hx hb dX11_reasonOfMove_161 rfl (lv_at hl 0 rfl) ?_
    refine va_get (D := G) (ci := 8) (v := .int (S.1 1)) (C := RX11) (T := TX11) (N := 42) hx hb hts iX11 hown hK hP 0 rfl rfl 1 (by decide) (hw (.fieldLink RX11 100 "MotionFloorModel$Hall" "there" "I") (List.mem_of_getElem? (i := 6) rfl)) (fun _ h9 => h9) rfl dX11_reasonOfMove_162 ?_
    refine lv_aload_n hx hb dX11_reasonOfMove_165 rfl (lv_at hl 0 rfl) ?_
    refine va_get (D := G) (ci := 8) (v := .int (S.1 3)) (C := RX11) (T := TX11) (N := 42) hx hb hts iX11 hown hK hP 0 rfl rfl 3 (by decide) (hw (.fieldLink RX11 106 "MotionFloorModel$Hall" "quorum" "I") (List.mem_of_getElem? (i := 7) rfl)) (fun _ h9 => h9) rfl dX11_reasonOfMove_166 ?_
    refine lv_icmp_ge (tgt := 174) hx hb dX11_reasonOfMove_169 (by decide) (fun c13 => ?_) (fun c13 => ?_)
    · rw [if_pos c13] at hE hp
      refine lv_aload_n hx hb dX11_reasonOfMove_174 rfl (lv_at hl 0 rfl) ?_
      refine va_get (D := G) (ci := 8) (v := .int (S.1 36)) (C := RX11) (T := TX11) (N := 42) hx hb hts iX11 hown hK hP 0 rfl rfl 36 (by decide) (hw (.fieldLink RX11 151 "MotionFloorModel$Hall" "draftTabled" "Z") (List.mem_of_getElem? (i := 2) rfl)) (fun _ h9 => h9) rfl dX11_reasonOfMove_175 ?_
      refine lv_if_ne (tgt := 195) hx hb dX11_reasonOfMove_178 (by decide) (fun c14 => ?_) (fun c14 => ?_)
      · rw [if_neg c14] at hE hp
        exact B_195 S x1 x2 x3 _ _ _ hE hp hP hD hS (lv_sub hl [0, 1, 2, 3] rfl)
      · rw [if_pos c14] at hE hp
        refine lv_iload_n hx hb dX11_reasonOfMove_181 rfl (lv_at hl 3 rfl) ?_
        refine lv_iconst (v := 2) hx hb dX11_reasonOfMove_182 (by decide) ?_
        refine lv_icmp_eq (tgt := 191) hx hb dX11_reasonOfMove_183 (by decide) (fun c83 => ?_) (fun c83 => ?_)
        · rw [if_pos c83] at hE hp
          exact B_191 S x1 x2 x3 _ _ _ hE hp hP hD hS (lv_sub hl [0, 1, 2, 3] rfl)
        · rw [if_neg c83] at hE hp
          refine lv_iload_n hx hb dX11_reasonOfMove_186 rfl (lv_at hl 3 rfl) ?_
          refine lv_iconst (v := 3) hx hb dX11_reasonOfMove_187 (by decide) ?_
          refine lv_icmp_ne (tgt := 195) hx hb dX11_reasonOfMove_188 (by decide) (fun c84 => ?_) (fun c84 => ?_)
          · rw [if_neg c84] at hE hp
            exact B_195 S x1 x2 x3 _ _ _ hE hp hP hD hS (lv_sub hl [0, 1, 2, 3] rfl)
          · rw [if_pos c84] at hE hp
            exact B_191 S x1 x2 x3 _ _ _ hE hp hP hD hS (lv_sub hl [0, 1, 2, 3] rfl)
    · rw [if_neg c13] at hE hp
      refine lv_iconst (v := 4) hx hb dX11_reasonOfMove_172 (by decide) ?_
      subst hQ
      exact W.iret (v := 4) hx hb hr (fun t ht hW => ⟨⟨4, S, rfl, hE.trans hX.symm, by rw [ht]; exact hP, hD⟩, hS.F ht⟩) hS.2.2 dX11_reasonOfMove_173
  have B_127 : ∀ (S : HS) (x1 x2 x3 : Int32) (H : Heap) (locs : List Loc) (ls : Array Slot), b_X11_reasonOfMove_127 S x1 x2 x3 = X → q_X11_reasonOfMove_127 S x1 x2 x3 → va_P G vwCl (hW K h g S) H → va_D A (hW K h g S) → va_S A s.heap H locs → lv_has ls 7 [(0, .ref h), (1, .int x1), (2, .int x2), (3, .int x3)] → W p l e ({ frames := 2, cells := 0, slots := 0, locals := 42 } : Room) s m #[Value.ref h, Value.int a1] below meth c H locs 0 0 Q (F0 m 127 ls []) := by
    intro S x1 x2 x3 H locs ls hE hp hP hD hS hl
    unfold b_X11_reasonOfMove_127 at hE
    unfold q_X11_reasonOfMove_127 at hp
    refine lv_aload_n hx hb dX11_reasonOfMove_127 rfl (lv_at hl 0 rfl) ?_
    refine va_get (D := G) (ci := 8) (v := .int (S.1 5)) (C := RX11) (T := TX11) (N := 42) hx hb hts iX11 hown hK hP 0 rfl rfl 5 (by decide) (hw (.fieldLink RX11 112 "MotionFloorModel$Hall" "floor" "I") (List.mem_of_getElem? (i := 5) rfl)) (fun _ h9 => h9) rfl dX11_reasonOfMove_128 ?_
    refine lv_iconst (v := (-1)) hx hb dX11_reasonOfMove_131 (by decide) ?_
    refine lv_icmp_eq (tgt := 143) hx hb dX11_reasonOfMove_132 (by decide) (fun c10 => ?_) (fun c10 => ?_)
    · rw [if_pos c10] at hE hp
      exact B_143 S x1 x2 x3 _ _ _ hE hp hP hD hS (lv_sub hl [0, 1, 2, 3] rfl)
    · rw [if_neg c10] at hE hp
      refine lv_aload_n hx hb dX11_reasonOfMove_135 rfl (lv_at hl 0 rfl) ?_
      refine va_get (D := G) (ci := 8) (v := .int (S.1 5)) (C := RX11) (T := TX11) (N := 42) hx hb hts iX11 hown hK hP 0 rfl rfl 5 (by decide) (hw (.fieldLink RX11 112 "MotionFloorModel$Hall" "floor" "I") (List.mem_of_getElem? (i := 5) rfl)) (fun _ h9 => h9) rfl dX11_reasonOfMove_136 ?_
      refine lv_iload_n hx hb dX11_reasonOfMove_139 rfl (lv_at hl 1 rfl) ?_
      refine lv_icmp_eq (tgt := 145) hx hb dX11_reasonOfMove_140 (by decide) (fun c11 => ?_) (fun c11 => ?_)
      · rw [if_pos c11] at hE hp
        refine lv_aload_n hx hb dX11_reasonOfMove_145 rfl (lv_at hl 0 rfl) ?_
        refine va_get (D := G) (ci := 8) (v := .int (S.1 6)) (C := RX11) (T := TX11) (N := 42) hx hb hts iX11 hown hK hP 0 rfl rfl 6 (by decide) (hw (.fieldLink RX11 115 "MotionFloorModel$Hall" "pending" "I") (List.mem_of_getElem? (i := 4) rfl)) (fun _ h9 => h9) rfl dX11_reasonOfMove_146 ?_
        refine lv_if_le (tgt := 161) hx hb dX11_reasonOfMove_149 (by decide) (fun c12 => ?_) (fun c12 => ?_)
        · rw [if_pos c12] at hE hp
          exact B_161 S x1 x2 x3 _ _ _ hE hp hP hD hS (lv_sub hl [0, 1, 2, 3] rfl)
        · rw [if_neg c12] at hE hp
          refine lv_aload_n hx hb dX11_reasonOfMove_152 rfl (lv_at hl 0 rfl) ?_
          obtain ⟨hy85, hp⟩ := hp
          refine hGoi (va_runV (As := []) (rest := []) ⟨hx, hb, hml, hown, hts⟩ (c_X11_hasSeconder l G K h g S _) (cwV 0 hts (wGV t_ (mw (.methodLink RX11 159 yX11_hasSeconder) (List.mem_of_getElem? (i := 23) rfl)) (mw (.instanceMethod yX11_hasSeconder) (List.mem_of_getElem? (i := 24) rfl)) (mw (.selects RX11 yX11_hasSeconder yX11_hasSeconder) (List.mem_of_getElem? (i := 25) rfl)) (mw (.initialized RX11) (List.mem_of_getElem? (i := 11) rfl)) j_X11_hasSeconder) rfl rfl rfl (by decide +kernel) ⟨Nat.le_of_ble_eq_true rfl, Nat.le_of_ble_eq_true rfl⟩) (hPV hK hTE hP hD hy85) rfl rfl hl.1 rfl (lv_room (Nat.le_of_ble_eq_true rfl)) dX11_reasonOfMove_153 ⟨Nat.le_of_ble_eq_true rfl, Nat.le_of_ble_eq_true rfl⟩) hP hD hS hA (fun r87 u86 H locs hv hP hD hS => ?_)
          rw [← hv] at hE hp
          dsimp only at hE hp
          unfold b_X11_reasonOfMove_a156 at hE
          unfold q_X11_reasonOfMove_a156 at hp
          refine lv_if_ne (tgt := 161) hx hb dX11_reasonOfMove_156 (by decide) (fun c88 => ?_) (fun c88 => ?_)
          · rw [if_neg c88] at hE hp
            exact B_161 u86 x1 x2 x3 _ _ _ hE hp hP hD hS (lv_sub hl [0, 1, 2, 3] rfl)
          · rw [if_pos c88] at hE hp
            refine lv_iconst (v := 3) hx hb dX11_reasonOfMove_159 (by decide) ?_
            subst hQ
            exact W.iret (v := 3) hx hb hr (fun t ht hW => ⟨⟨3, u86, rfl, hE.trans hX.symm, by rw [ht]; exact hP, hD⟩, hS.F ht⟩) hS.2.2 dX11_reasonOfMove_160
      · rw [if_neg c11] at hE hp
        exact B_143 S x1 x2 x3 _ _ _ hE hp hP hD hS (lv_sub hl [0, 1, 2, 3] rfl)
  have L_70 : ∀ (n : Nat) (S : HS) (x1 x2 x3 x4 x5 : Int32) (H : Heap) (locs : List Loc) (ls : Array Slot), lp_X11_reasonOfMove_70 n S x1 x2 x3 x4 x5 = X → lq_X11_reasonOfMove_70 n S x1 x2 x3 x4 x5 → va_P G vwCl (hW K h g S) H → va_D A (hW K h g S) → va_S A s.heap H locs → lv_has ls 7 [(0, .ref h), (1, .int x1), (2, .int x2), (3, .int x3), (4, .int x4), (5, .int x5)] → W p l e ({ frames := 2, cells := 0, slots := 0, locals := 42 } : Room) s m #[Value.ref h, Value.int a1] below meth c H locs 0 0 Q (F0 m 70 ls []) := by
    intro n1
    induction n1 with
    | zero => intro S x1 x2 x3 x4 x5 H locs ls hE hp; exact False.elim hp
    | succ n1 ih1 =>
      intro S x1 x2 x3 x4 x5 H locs ls hO1 hp hP hD hS hl
      rw [lp_X11_reasonOfMove_70] at hO1
      rw [lq_X11_reasonOfMove_70] at hp
      obtain ⟨hp, hq1⟩ := hp
      generalize hE : st_X11_reasonOfMove_70 S x1 x2 x3 x4 x5 = Y1 at hO1 hq1
      unfold st_X11_reasonOfMove_70 at hE
      unfold ps_X11_reasonOfMove_70 at hp
      have B_105 : ∀ (S : HS) (x1 x2 x3 x4 x5 y0 : Int32) (H : Heap) (locs : List Loc) (ls : Array Slot), b_X11_reasonOfMove_105 S x1 x2 x3 x4 x5 y0 = Y1 → q_X11_reasonOfMove_105 S x1 x2 x3 x4 x5 y0 → va_P G vwCl (hW K h g S) H → va_D A (hW K h g S) → va_S A s.heap H locs → lv_has ls 7 [(0, .ref h), (1, .int x1), (2, .int x2), (3, .int x3), (4, .int x4), (5, .int x5)] → W p l e ({ frames := 2, cells := 0, slots := 0, locals := 42 } : Room) s m #[Value.ref h, Value.int a1] below meth c H locs 0 0 Q (F0 m 105 ls [.int y0]) := by
        intro S x1 x2 x3 x4 x5 y0 H locs ls hE hp hP hD hS hl
        unfold b_X11_reasonOfMove_105 at hE
        unfold q_X11_reasonOfMove_105 at hp
        refine lv_istore (lv' := [(4, .int y0), (0, .ref h), (1, .int x1), (2, .int x2), (3, .int x3), (5, .int x5)]) hx hb dX11_reasonOfMove_105 hl (by decide) rfl (fun ls hl => ?_)
        refine lv_iinc (v := (x5 + 1)) (lv' := [(5, .int (x5 + 1)), (4, .int y0), (0, .ref h), (1, .int x1), (2, .int x2), (3, .int x3)]) hx hb dX11_reasonOfMove_107 hl (k := 5) rfl rfl (by decide) rfl (fun ls hl => ?_)
        refine lv_goto (tgt := 70) hx hb dX11_reasonOfMove_110 (by decide) ?_
        subst hE
        dsimp only at hO1 hq1
        exact ih1 S x1 x2 x3 y0 (x5 + 1) _ _ _ hO1 hq1 hP hD hS (lv_sub hl [2, 3, 4, 5, 1, 0] rfl)
      have B_100 : ∀ (S : HS) (x1 x2 x3 x4 x5 : Int32) (H : Heap) (locs : List Loc) (ls : Array Slot), b_X11_reasonOfMove_100 S x1 x2 x3 x4 x5 = Y1 → q_X11_reasonOfMove_100 S x1 x2 x3 x4 x5 → va_P G vwCl (hW K h g S) H → va_D A (hW K h g S) → va_S A s.heap H locs → lv_has ls 7 [(0, .ref h), (1, .int x1), (2, .int x2), (3, .int x3), (4, .int x4), (5, .int x5)] → W p l e ({ frames := 2, cells := 0, slots := 0, locals := 42 } : Room) s m #[Value.ref h, Value.int a1] below meth c H locs 0 0 Q (F0 m 100 ls []) := by
        intro S x1 x2 x3 x4 x5 H locs ls hE hp hP hD hS hl
        unfold b_X11_reasonOfMove_100 at hE
        unfold q_X11_reasonOfMove_100 at hp
        refine lv_iconst (v := 1) hx hb dX11_reasonOfMove_100 (by decide) ?_
        refine lv_goto (tgt := 105) hx hb dX11_reasonOfMove_101 (by decide) ?_
        exact B_105 S x1 x2 x3 x4 x5 1 _ _ _ hE hp hP hD hS (lv_sub hl [0, 1, 2, 3, 4, 5] rfl)
      refine lv_iload hx hb dX11_reasonOfMove_70 (lv_at hl 5 rfl) ?_
      refine lv_aload_n hx hb dX11_reasonOfMove_72 rfl (lv_at hl 0 rfl) ?_
      refine va_get (D := G) (ci := 8) (v := .int (S.1 6)) (C := RX11) (T := TX11) (N := 42) hx hb hts iX11 hown hK hP 0 rfl rfl 6 (by decide) (hw (.fieldLink RX11 115 "MotionFloorModel$Hall" "pending" "I") (List.mem_of_getElem? (i := 4) rfl)) (fun _ h9 => h9) rfl dX11_reasonOfMove_73 ?_
      refine lv_icmp_ge (tgt := 113) hx hb dX11_reasonOfMove_76 (by decide) (fun c7 => ?_) (fun c7 => ?_)
      · rw [if_pos c7] at hE hp
        subst hE
        have hE := hO1
        dsimp only at hE
        refine lv_aload_n hx hb dX11_reasonOfMove_113 rfl (lv_at hl 0 rfl) ?_
        refine va_get (D := G) (ci := 8) (v := .int (S.1 6)) (C := RX11) (T := TX11) (N := 42) hx hb hts iX11 hown hK hP 0 rfl rfl 6 (by decide) (hw (.fieldLink RX11 115 "MotionFloorModel$Hall" "pending" "I") (List.mem_of_getElem? (i := 4) rfl)) (fun _ h9 => h9) rfl dX11_reasonOfMove_114 ?_
        refine lv_if_eq (tgt := 125) hx hb dX11_reasonOfMove_117 (by decide) (fun c8 => ?_) (fun c8 => ?_)
        · rw [if_pos c8] at hE hp
          exact B_125 S x1 x2 x3 x4 x5 _ _ _ hE hp hP hD hS (lv_sub hl [0, 1, 2, 3, 4, 5] rfl)
        · rw [if_neg c8] at hE hp
          refine lv_iload hx hb dX11_reasonOfMove_120 (lv_at hl 4 rfl) ?_
          refine lv_if_eq (tgt := 127) hx hb dX11_reasonOfMove_122 (by decide) (fun c9 => ?_) (fun c9 => ?_)
          · rw [if_pos c9] at hE hp
            exact B_127 S x1 x2 x3 _ _ _ hE hp hP hD hS (lv_sub hl [0, 1, 2, 3] rfl)
          · rw [if_neg c9] at hE hp
            exact B_125 S x1 x2 x3 x4 x5 _ _ _ hE hp hP hD hS (lv_sub hl [0, 1, 2, 3, 4, 5] rfl)
      · rw [if_neg c7] at hE hp
        refine lv_iload hx hb dX11_reasonOfMove_79 (lv_at hl 4 rfl) ?_
        refine lv_if_ne (tgt := 100) hx hb dX11_reasonOfMove_81 (by decide) (fun c90 => ?_) (fun c90 => ?_)
        · rw [if_neg c90] at hE hp
          exact B_100 S x1 x2 x3 x4 x5 _ _ _ hE hp hP hD hS (lv_sub hl [0, 1, 2, 3, 4, 5] rfl)
        · rw [if_pos c90] at hE hp
          refine lv_aload_n hx hb dX11_reasonOfMove_84 rfl (lv_at hl 0 rfl) ?_
          refine va_get (D := G) (ci := 8) (v := .ref (g 14)) (C := RX11) (T := TX11) (N := 42) hx hb hts iX11 hown hK hP 0 rfl rfl 14 (by decide) (hw (.fieldLink RX11 22 "MotionFloorModel$Hall" "kind" "[I") (List.mem_of_getElem? (i := 3) rfl)) (fun _ h9 => h9) rfl dX11_reasonOfMove_85 ?_
          refine lv_aload_n hx hb dX11_reasonOfMove_88 rfl (lv_at hl 0 rfl) ?_
          refine va_get (D := G) (ci := 8) (v := .ref (g 31)) (C := RX11) (T := TX11) (N := 42) hx hb hts iX11 hown hK hP 0 rfl rfl 31 (by decide) (hw (.fieldLink RX11 72 "MotionFloorModel$Hall" "row" "[I") (List.mem_of_getElem? (i := 18) rfl)) (fun _ h9 => h9) rfl dX11_reasonOfMove_89 ?_
          refine lv_iload hx hb dX11_reasonOfMove_92 (lv_at hl 5 rfl) ?_
          obtain ⟨hy91, hp⟩ := hp
          refine va_iald hx hb hK hP 20 0 rfl rfl hy91 dX11_reasonOfMove_94 ?_
          obtain ⟨hy92, hp⟩ := hp
          refine va_iald hx hb hK hP 4 0 rfl rfl hy92 dX11_reasonOfMove_95 ?_
          refine lv_iload_n hx hb dX11_reasonOfMove_96 rfl (lv_at hl 3 rfl) ?_
          refine lv_icmp_lt (tgt := 104) hx hb dX11_reasonOfMove_97 (by decide) (fun c93 => ?_) (fun c93 => ?_)
          · rw [if_pos c93] at hE hp
            refine lv_iconst (v := 0) hx hb dX11_reasonOfMove_104 (by decide) ?_
            exact B_105 S x1 x2 x3 x4 x5 0 _ _ _ hE hp hP hD hS (lv_sub hl [0, 1, 2, 3, 4, 5] rfl)
          · rw [if_neg c93] at hE hp
            exact B_100 S x1 x2 x3 x4 x5 _ _ _ hE hp hP hD hS (lv_sub hl [0, 1, 2, 3, 4, 5] rfl)
  have B_34 : ∀ (S : HS) (x1 x2 y0 : Int32) (H : Heap) (locs : List Loc) (ls : Array Slot), b_X11_reasonOfMove_34 S x1 x2 y0 = X → q_X11_reasonOfMove_34 S x1 x2 y0 → va_P G vwCl (hW K h g S) H → va_D A (hW K h g S) → va_S A s.heap H locs → lv_has ls 7 [(0, .ref h), (1, .int x1), (2, .int x2)] → W p l e ({ frames := 2, cells := 0, slots := 0, locals := 42 } : Room) s m #[Value.ref h, Value.int a1] below meth c H locs 0 0 Q (F0 m 34 ls [.int y0]) := by
    intro S x1 x2 y0 H locs ls hE hp hP hD hS hl
    unfold b_X11_reasonOfMove_34 at hE
    unfold q_X11_reasonOfMove_34 at hp
    refine lv_istore_n (lv' := [(3, .int y0), (0, .ref h), (1, .int x1), (2, .int x2)]) hx hb dX11_reasonOfMove_34 rfl hl (by decide) rfl (fun ls hl => ?_)
    refine lv_iload_n hx hb dX11_reasonOfMove_35 rfl (lv_at hl 0 rfl) ?_
    refine lv_iconst (v := 1) hx hb dX11_reasonOfMove_36 (by decide) ?_
    refine lv_icmp_ne (tgt := 49) hx hb dX11_reasonOfMove_37 (by decide) (fun c5 => ?_) (fun c5 => ?_)
    · rw [if_neg c5] at hE hp
      refine lv_iload_n hx hb dX11_reasonOfMove_49 rfl (lv_at hl 0 rfl) ?_
      refine lv_iconst (v := 4) hx hb dX11_reasonOfMove_50 (by decide) ?_
      refine lv_icmp_ge (tgt := 64) hx hb dX11_reasonOfMove_51 (by decide) (fun c6 => ?_) (fun c6 => ?_)
      · rw [if_pos c6] at hE hp
        refine lv_iconst (v := 0) hx hb dX11_reasonOfMove_64 (by decide) ?_
        refine lv_istore (lv' := [(4, .int 0), (3, .int y0), (0, .ref h), (1, .int x1), (2, .int x2)]) hx hb dX11_reasonOfMove_65 hl (by decide) rfl (fun ls hl => ?_)
        refine lv_iconst (v := 0) hx hb dX11_reasonOfMove_67 (by decide) ?_
        refine lv_istore (lv' := [(5, .int 0), (4, .int 0), (3, .int y0), (0, .ref h), (1, .int x1), (2, .int x2)]) hx hb dX11_reasonOfMove_68 hl (by decide) rfl (fun ls hl => ?_)
        exact L_70 100000 S x1 x2 y0 0 0 _ _ _ hE hp hP hD hS (lv_sub hl [3, 4, 5, 2, 1, 0] rfl)
      · rw [if_neg c6] at hE hp
        refine lv_aload_n hx hb dX11_reasonOfMove_54 rfl (lv_at hl 1 rfl) ?_
        refine lv_iload_n hx hb dX11_reasonOfMove_55 rfl (lv_at hl 0 rfl) ?_
        obtain ⟨hy94, hp⟩ := hp
        refine hGoi (va_runV (As := [.int y0]) (rest := []) ⟨hx, hb, hml, hown, hts⟩ (c_X11_isAbout l G K h g S y0 _) (cwV 1 hts (wGV t_ (mw (.methodLink RX11 184 yX11_isAbout) (List.mem_of_getElem? (i := 26) rfl)) (mw (.instanceMethod yX11_isAbout) (List.mem_of_getElem? (i := 27) rfl)) (mw (.selects RX11 yX11_isAbout yX11_isAbout) (List.mem_of_getElem? (i := 28) rfl)) (mw (.initialized RX11) (List.mem_of_getElem? (i := 11) rfl)) j_X11_isAbout) rfl rfl rfl (by decide +kernel) ⟨Nat.le_of_ble_eq_true rfl, Nat.le_of_ble_eq_true rfl⟩) (hPV hK hTE hP hD hy94) rfl rfl hl.1 rfl (lv_room (Nat.le_of_ble_eq_true rfl)) dX11_reasonOfMove_56 ⟨Nat.le_of_ble_eq_true rfl, Nat.le_of_ble_eq_true rfl⟩) hP hD hS hA (fun r96 u95 H locs hv hP hD hS => ?_)
        rw [← hv] at hE hp
        dsimp only at hE hp
        unfold b_X11_reasonOfMove_a59 at hE
        unfold q_X11_reasonOfMove_a59 at hp
        refine lv_if_ne (tgt := 127) hx hb dX11_reasonOfMove_59 (by decide) (fun c97 => ?_) (fun c97 => ?_)
        · rw [if_neg c97] at hE hp
          exact B_127 u95 x1 x2 y0 _ _ _ hE hp hP hD hS (lv_sub hl [1, 2, 3, 0] rfl)
        · rw [if_pos c97] at hE hp
          refine lv_iconst (v := 1) hx hb dX11_reasonOfMove_62 (by decide) ?_
          subst hQ
          exact W.iret (v := 1) hx hb hr (fun t ht hW => ⟨⟨1, u95, rfl, hE.trans hX.symm, by rw [ht]; exact hP, hD⟩, hS.F ht⟩) hS.2.2 dX11_reasonOfMove_63
    · rw [if_pos c5] at hE hp
      refine lv_aload_n hx hb dX11_reasonOfMove_40 rfl (lv_at hl 1 rfl) ?_
      refine va_get (D := G) (ci := 8) (v := .int (S.1 6)) (C := RX11) (T := TX11) (N := 42) hx hb hts iX11 hown hK hP 0 rfl rfl 6 (by decide) (hw (.fieldLink RX11 115 "MotionFloorModel$Hall" "pending" "I") (List.mem_of_getElem? (i := 4) rfl)) (fun _ h9 => h9) rfl dX11_reasonOfMove_41 ?_
      refine lv_if_le (tgt := 127) hx hb dX11_reasonOfMove_44 (by decide) (fun c99 => ?_) (fun c99 => ?_)
      · rw [if_pos c99] at hE hp
        exact B_127 S x1 x2 y0 _ _ _ hE hp hP hD hS (lv_sub hl [1, 2, 3, 0] rfl)
      · rw [if_neg c99] at hE hp
        refine lv_iconst (v := 1) hx hb dX11_reasonOfMove_47 (by decide) ?_
        subst hQ
        exact W.iret (v := 1) hx hb hr (fun t ht hW => ⟨⟨1, S, rfl, hE.trans hX.symm, by rw [ht]; exact hP, hD⟩, hS.F ht⟩) hS.2.2 dX11_reasonOfMove_48
  have B_M : ∀ (S : HS) (x1 : Int32) (H : Heap) (locs : List Loc) (ls : Array Slot), f_X11_reasonOfMove S x1 = X → p_X11_reasonOfMove S x1 → va_P G vwCl (hW K h g S) H → va_D A (hW K h g S) → va_S A s.heap H locs → lv_has ls 7 [(0, .ref h), (1, .int x1)] → W p l e ({ frames := 2, cells := 0, slots := 0, locals := 42 } : Room) s m #[Value.ref h, Value.int a1] below meth c H locs 0 0 Q (F0 m 0 ls []) := by
    intro S x1 H locs ls hE hp hP hD hS hl
    unfold f_X11_reasonOfMove at hE
    unfold p_X11_reasonOfMove at hp
    refine lv_aload_n hx hb dX11_reasonOfMove_0 rfl (lv_at hl 0 rfl) ?_
    refine va_get (D := G) (ci := 8) (v := .int (S.1 35)) (C := RX11) (T := TX11) (N := 42) hx hb hts iX11 hown hK hP 0 rfl rfl 35 (by decide) (hw (.fieldLink RX11 130 "MotionFloorModel$Hall" "drafted" "I") (List.mem_of_getElem? (i := 0) rfl)) (fun _ h9 => h9) rfl dX11_reasonOfMove_1 ?_
    refine lv_if_ne (tgt := 10) hx hb dX11_reasonOfMove_4 (by decide) (fun c1 => ?_) (fun c1 => ?_)
    · rw [if_neg c1] at hE hp
      refine lv_aload_n hx hb dX11_reasonOfMove_10 rfl (lv_at hl 0 rfl) ?_
      refine va_get (D := G) (ci := 8) (v := .ref (g 32)) (C := RX11) (T := TX11) (N := 42) hx hb hts iX11 hown hK hP 0 rfl rfl 32 (by decide) (hw (.fieldLink RX11 75 "MotionFloorModel$Hall" "draft" "[I") (List.mem_of_getElem? (i := 1) rfl)) (fun _ h9 => h9) rfl dX11_reasonOfMove_11 ?_
      refine lv_iconst (v := 0) hx hb dX11_reasonOfMove_14 (by decide) ?_
      obtain ⟨hy2, hp⟩ := hp
      refine va_iald hx hb hK hP 21 0 rfl rfl hy2 dX11_reasonOfMove_15 ?_
      refine lv_istore_n (lv' := [(2, .int (S.2 32 (0 : Int32).toNatClampNeg)), (0, .ref h), (1, .int x1)]) hx hb dX11_reasonOfMove_16 rfl hl (by decide) rfl (fun ls hl => ?_)
      refine lv_aload_n hx hb dX11_reasonOfMove_17 rfl (lv_at hl 1 rfl) ?_
      refine va_get (D := G) (ci := 8) (v := .int (S.1 36)) (C := RX11) (T := TX11) (N := 42) hx hb hts iX11 hown hK hP 0 rfl rfl 36 (by decide) (hw (.fieldLink RX11 151 "MotionFloorModel$Hall" "draftTabled" "Z") (List.mem_of_getElem? (i := 2) rfl)) (fun _ h9 => h9) rfl dX11_reasonOfMove_18 ?_
      refine lv_if_eq (tgt := 28) hx hb dX11_reasonOfMove_21 (by decide) (fun c3 => ?_) (fun c3 => ?_)
      · rw [if_pos c3] at hE hp
        refine lv_aload_n hx hb dX11_reasonOfMove_28 rfl (lv_at hl 1 rfl) ?_
        refine va_get (D := G) (ci := 8) (v := .ref (g 14)) (C := RX11) (T := TX11) (N := 42) hx hb hts iX11 hown hK hP 0 rfl rfl 14 (by decide) (hw (.fieldLink RX11 22 "MotionFloorModel$Hall" "kind" "[I") (List.mem_of_getElem? (i := 3) rfl)) (fun _ h9 => h9) rfl dX11_reasonOfMove_29 ?_
        refine lv_iload_n hx hb dX11_reasonOfMove_32 rfl (lv_at hl 0 rfl) ?_
        obtain ⟨hy4, hp⟩ := hp
        refine va_iald hx hb hK hP 4 0 rfl rfl hy4 dX11_reasonOfMove_33 ?_
        exact B_34 S x1 (S.2 32 (0 : Int32).toNatClampNeg) (S.2 14 (S.2 32 (0 : Int32).toNatClampNeg).toNatClampNeg) _ _ _ hE hp hP hD hS (lv_sub hl [1, 2, 0] rfl)
      · rw [if_neg c3] at hE hp
        refine lv_iconst (v := 1) hx hb dX11_reasonOfMove_24 (by decide) ?_
        refine lv_goto (tgt := 34) hx hb dX11_reasonOfMove_25 (by decide) ?_
        exact B_34 S x1 (S.2 32 (0 : Int32).toNatClampNeg) 1 _ _ _ hE hp hP hD hS (lv_sub hl [1, 2, 0] rfl)
    · rw [if_pos c1] at hE hp
      refine lv_bipush (v := 11) hx hb dX11_reasonOfMove_7 (by decide) ?_
      subst hQ
      exact W.iret (v := 11) hx hb hr (fun t ht hW => ⟨⟨11, S, rfl, hE.trans hX.symm, by rw [ht]; exact hP, hD⟩, hS.F ht⟩) hS.2.2 dX11_reasonOfMove_9
  exact B_M S0 a1 _ _ _ hX hp hP hD hS hl
theorem dX11_reason_1 : decode cX11_reason 1 = .ok (.tableswitch 927 1 21 #[99, 128, 157, 128, 187, 225, 254, 360, 374, 437, 454, 516, 527, 533, 571, 577, 660, 715, 769, 826, 897], 99) := by decide +kernel
theorem gdX11_reason_0 : ckS (List.drop 0 cX11_reason.data.toList) 0 [(0, .iload_n 1, 1), (100, .aload_n 0, 1), (101, .iload_n 2, 1), (102, .invokevirtual 140, 3), (105, .ifCond .ne 8, 3), (108, .bipush 9, 2), (110, .goto 18, 3), (113, .aload_n 0, 1), (114, .getfield 9, 3), (117, .iload_n 2, 1), (118, .baload, 1), (119, .ifCond .eq 8, 3), (122, .bipush 11, 2), (124, .goto 4, 3), (127, .iconst 0, 1), (128, .ireturn, 1), (129, .aload_n 0, 1), (130, .iload_n 2, 1), (131, .invokevirtual 140, 3), (134, .ifCond .ne 8, 3), (137, .bipush 9, 2), (139, .goto 18, 3), (142, .aload_n 0, 1), (143, .getfield 9, 3), (146, .iload_n 2, 1), (147, .baload, 1), (148, .ifCond .ne 8, 3), (151, .bipush 8, 2), (153, .goto 4, 3), (156, .iconst 0, 1), (157, .ireturn, 1), (158, .iload_n 2, 1), (159, .iconst 0, 1), (160, .sipush 200, 3), (163, .invokestatic 136, 3), (166, .ifCond .ne 8, 3), (169, .bipush 9, 2), (171, .goto 16, 3), (174, .aload_n 0, 1), (175, .getfield 115, 3)] = true := by decide +kernel
theorem dX11_reason_0 : decode cX11_reason 0 = .ok (.iload_n 1, 1) := ckS_g gdX11_reason_0 0 rfl
theorem dX11_reason_100 : decode cX11_reason 100 = .ok (.aload_n 0, 1) := ckS_g gdX11_reason_0 1 rfl
theorem dX11_reason_101 : decode cX11_reason 101 = .ok (.iload_n 2, 1) := ckS_g gdX11_reason_0 2 rfl
theorem dX11_reason_102 : decode cX11_reason 102 = .ok (.invokevirtual 140, 3) := ckS_g gdX11_reason_0 3 rfl
theorem dX11_reason_105 : decode cX11_reason 105 = .ok (.ifCond .ne 8, 3) := ckS_g gdX11_reason_0 4 rfl
theorem dX11_reason_108 : decode cX11_reason 108 = .ok (.bipush 9, 2) := ckS_g gdX11_reason_0 5 rfl
theorem dX11_reason_110 : decode cX11_reason 110 = .ok (.goto 18, 3) := ckS_g gdX11_reason_0 6 rfl
theorem dX11_reason_113 : decode cX11_reason 113 = .ok (.aload_n 0, 1) := ckS_g gdX11_reason_0 7 rfl
theorem dX11_reason_114 : decode cX11_reason 114 = .ok (.getfield 9, 3) := ckS_g gdX11_reason_0 8 rfl
theorem dX11_reason_117 : decode cX11_reason 117 = .ok (.iload_n 2, 1) := ckS_g gdX11_reason_0 9 rfl
theorem dX11_reason_118 : decode cX11_reason 118 = .ok (.baload, 1) := ckS_g gdX11_reason_0 10 rfl
theorem dX11_reason_119 : decode cX11_reason 119 = .ok (.ifCond .eq 8, 3) := ckS_g gdX11_reason_0 11 rfl
theorem dX11_reason_122 : decode cX11_reason 122 = .ok (.bipush 11, 2) := ckS_g gdX11_reason_0 12 rfl
theorem dX11_reason_124 : decode cX11_reason 124 = .ok (.goto 4, 3) := ckS_g gdX11_reason_0 13 rfl
theorem dX11_reason_127 : decode cX11_reason 127 = .ok (.iconst 0, 1) := ckS_g gdX11_reason_0 14 rfl
theorem dX11_reason_128 : decode cX11_reason 128 = .ok (.ireturn, 1) := ckS_g gdX11_reason_0 15 rfl
theorem dX11_reason_129 : decode cX11_reason 129 = .ok (.aload_n 0, 1) := ckS_g gdX11_reason_0 16 rfl
theorem dX11_reason_130 : decode cX11_reason 130 = .ok (.iload_n 2, 1) := ckS_g gdX11_reason_0 17 rfl
theorem dX11_reason_131 : decode cX11_reason 131 = .ok (.invokevirtual 140, 3) := ckS_g gdX11_reason_0 18 rfl
theorem dX11_reason_134 : decode cX11_reason 134 = .ok (.ifCond .ne 8, 3) := ckS_g gdX11_reason_0 19 rfl
theorem dX11_reason_137 : decode cX11_reason 137 = .ok (.bipush 9, 2) := ckS_g gdX11_reason_0 20 rfl
theorem dX11_reason_139 : decode cX11_reason 139 = .ok (.goto 18, 3) := ckS_g gdX11_reason_0 21 rfl
theorem dX11_reason_142 : decode cX11_reason 142 = .ok (.aload_n 0, 1) := ckS_g gdX11_reason_0 22 rfl
theorem dX11_reason_143 : decode cX11_reason 143 = .ok (.getfield 9, 3) := ckS_g gdX11_reason_0 23 rfl
theorem dX11_reason_146 : decode cX11_reason 146 = .ok (.iload_n 2, 1) := ckS_g gdX11_reason_0 24 rfl
theorem dX11_reason_147 : decode cX11_reason 147 = .ok (.baload, 1) := ckS_g gdX11_reason_0 25 rfl
theorem dX11_reason_148 : decode cX11_reason 148 = .ok (.ifCond .ne 8, 3) := ckS_g gdX11_reason_0 26 rfl
theorem dX11_reason_151 : decode cX11_reason 151 = .ok (.bipush 8, 2) := ckS_g gdX11_reason_0 27 rfl
theorem dX11_reason_153 : decode cX11_reason 153 = .ok (.goto 4, 3) := ckS_g gdX11_reason_0 28 rfl
theorem dX11_reason_156 : decode cX11_reason 156 = .ok (.iconst 0, 1) := ckS_g gdX11_reason_0 29 rfl
theorem dX11_reason_157 : decode cX11_reason 157 = .ok (.ireturn, 1) := ckS_g gdX11_reason_0 30 rfl
theorem dX11_reason_158 : decode cX11_reason 158 = .ok (.iload_n 2, 1) := ckS_g gdX11_reason_0 31 rfl
theorem dX11_reason_159 : decode cX11_reason 159 = .ok (.iconst 0, 1) := ckS_g gdX11_reason_0 32 rfl
theorem dX11_reason_160 : decode cX11_reason 160 = .ok (.sipush 200, 3) := ckS_g gdX11_reason_0 33 rfl
theorem dX11_reason_163 : decode cX11_reason 163 = .ok (.invokestatic 136, 3) := ckS_g gdX11_reason_0 34 rfl
theorem dX11_reason_166 : decode cX11_reason 166 = .ok (.ifCond .ne 8, 3) := ckS_g gdX11_reason_0 35 rfl
theorem dX11_reason_169 : decode cX11_reason 169 = .ok (.bipush 9, 2) := ckS_g gdX11_reason_0 36 rfl
theorem dX11_reason_171 : decode cX11_reason 171 = .ok (.goto 16, 3) := ckS_g gdX11_reason_0 37 rfl
theorem dX11_reason_174 : decode cX11_reason 174 = .ok (.aload_n 0, 1) := ckS_g gdX11_reason_0 38 rfl
theorem dX11_reason_175 : decode cX11_reason 175 = .ok (.getfield 115, 3) := ckS_g gdX11_reason_0 39 rfl
theorem gdX11_reason_178 : ckS (List.drop 178 cX11_reason.data.toList) 178 [(178, .ifCond .le 8, 3), (181, .bipush 11, 2), (183, .goto 4, 3), (186, .iconst 0, 1), (187, .ireturn, 1), (188, .iload_n 2, 1), (189, .iconst 1, 1), (190, .bipush 8, 2), (192, .invokestatic 136, 3), (195, .ifCond .eq 12, 3), (198, .iload_n 3, 1), (199, .iconst 1, 1), (200, .iconst 3, 1), (201, .invokestatic 136, 3), (204, .ifCond .ne 8, 3), (207, .bipush 9, 2), (209, .goto 16, 3), (212, .aload_n 0, 1), (213, .getfield 115, 3), (216, .ifCond .le 8, 3), (219, .bipush 11, 2), (221, .goto 4, 3), (224, .iconst 0, 1), (225, .ireturn, 1), (226, .iload_n 2, 1), (227, .iconst 0, 1), (228, .bipush 99, 2), (230, .invokestatic 136, 3), (233, .ifCond .ne 8, 3), (236, .bipush 9, 2), (238, .goto 16, 3), (241, .aload_n 0, 1), (242, .getfield 115, 3), (245, .ifCond .le 8, 3), (248, .bipush 11, 2), (250, .goto 4, 3), (253, .iconst 0, 1), (254, .ireturn, 1), (255, .aload_n 0, 1), (256, .iload_n 2, 1)] = true := by decide +kernel
theorem dX11_reason_178 : decode cX11_reason 178 = .ok (.ifCond .le 8, 3) := ckS_g gdX11_reason_178 0 rfl
theorem dX11_reason_181 : decode cX11_reason 181 = .ok (.bipush 11, 2) := ckS_g gdX11_reason_178 1 rfl
theorem dX11_reason_183 : decode cX11_reason 183 = .ok (.goto 4, 3) := ckS_g gdX11_reason_178 2 rfl
theorem dX11_reason_186 : decode cX11_reason 186 = .ok (.iconst 0, 1) := ckS_g gdX11_reason_178 3 rfl
theorem dX11_reason_187 : decode cX11_reason 187 = .ok (.ireturn, 1) := ckS_g gdX11_reason_178 4 rfl
theorem dX11_reason_188 : decode cX11_reason 188 = .ok (.iload_n 2, 1) := ckS_g gdX11_reason_178 5 rfl
theorem dX11_reason_189 : decode cX11_reason 189 = .ok (.iconst 1, 1) := ckS_g gdX11_reason_178 6 rfl
theorem dX11_reason_190 : decode cX11_reason 190 = .ok (.bipush 8, 2) := ckS_g gdX11_reason_178 7 rfl
theorem dX11_reason_192 : decode cX11_reason 192 = .ok (.invokestatic 136, 3) := ckS_g gdX11_reason_178 8 rfl
theorem dX11_reason_195 : decode cX11_reason 195 = .ok (.ifCond .eq 12, 3) := ckS_g gdX11_reason_178 9 rfl
theorem dX11_reason_198 : decode cX11_reason 198 = .ok (.iload_n 3, 1) := ckS_g gdX11_reason_178 10 rfl
theorem dX11_reason_199 : decode cX11_reason 199 = .ok (.iconst 1, 1) := ckS_g gdX11_reason_178 11 rfl
theorem dX11_reason_200 : decode cX11_reason 200 = .ok (.iconst 3, 1) := ckS_g gdX11_reason_178 12 rfl
theorem dX11_reason_201 : decode cX11_reason 201 = .ok (.invokestatic 136, 3) := ckS_g gdX11_reason_178 13 rfl
theorem dX11_reason_204 : decode cX11_reason 204 = .ok (.ifCond .ne 8, 3) := ckS_g gdX11_reason_178 14 rfl
theorem dX11_reason_207 : decode cX11_reason 207 = .ok (.bipush 9, 2) := ckS_g gdX11_reason_178 15 rfl
theorem dX11_reason_209 : decode cX11_reason 209 = .ok (.goto 16, 3) := ckS_g gdX11_reason_178 16 rfl
theorem dX11_reason_212 : decode cX11_reason 212 = .ok (.aload_n 0, 1) := ckS_g gdX11_reason_178 17 rfl
theorem dX11_reason_213 : decode cX11_reason 213 = .ok (.getfield 115, 3) := ckS_g gdX11_reason_178 18 rfl
theorem dX11_reason_216 : decode cX11_reason 216 = .ok (.ifCond .le 8, 3) := ckS_g gdX11_reason_178 19 rfl
theorem dX11_reason_219 : decode cX11_reason 219 = .ok (.bipush 11, 2) := ckS_g gdX11_reason_178 20 rfl
theorem dX11_reason_221 : decode cX11_reason 221 = .ok (.goto 4, 3) := ckS_g gdX11_reason_178 21 rfl
theorem dX11_reason_224 : decode cX11_reason 224 = .ok (.iconst 0, 1) := ckS_g gdX11_reason_178 22 rfl
theorem dX11_reason_225 : decode cX11_reason 225 = .ok (.ireturn, 1) := ckS_g gdX11_reason_178 23 rfl
theorem dX11_reason_226 : decode cX11_reason 226 = .ok (.iload_n 2, 1) := ckS_g gdX11_reason_178 24 rfl
theorem dX11_reason_227 : decode cX11_reason 227 = .ok (.iconst 0, 1) := ckS_g gdX11_reason_178 25 rfl
theorem dX11_reason_228 : decode cX11_reason 228 = .ok (.bipush 99, 2) := ckS_g gdX11_reason_178 26 rfl
theorem dX11_reason_230 : decode cX11_reason 230 = .ok (.invokestatic 136, 3) := ckS_g gdX11_reason_178 27 rfl
theorem dX11_reason_233 : decode cX11_reason 233 = .ok (.ifCond .ne 8, 3) := ckS_g gdX11_reason_178 28 rfl
theorem dX11_reason_236 : decode cX11_reason 236 = .ok (.bipush 9, 2) := ckS_g gdX11_reason_178 29 rfl
theorem dX11_reason_238 : decode cX11_reason 238 = .ok (.goto 16, 3) := ckS_g gdX11_reason_178 30 rfl
theorem dX11_reason_241 : decode cX11_reason 241 = .ok (.aload_n 0, 1) := ckS_g gdX11_reason_178 31 rfl
theorem dX11_reason_242 : decode cX11_reason 242 = .ok (.getfield 115, 3) := ckS_g gdX11_reason_178 32 rfl
theorem dX11_reason_245 : decode cX11_reason 245 = .ok (.ifCond .le 8, 3) := ckS_g gdX11_reason_178 33 rfl
theorem dX11_reason_248 : decode cX11_reason 248 = .ok (.bipush 11, 2) := ckS_g gdX11_reason_178 34 rfl
theorem dX11_reason_250 : decode cX11_reason 250 = .ok (.goto 4, 3) := ckS_g gdX11_reason_178 35 rfl
theorem dX11_reason_253 : decode cX11_reason 253 = .ok (.iconst 0, 1) := ckS_g gdX11_reason_178 36 rfl
theorem dX11_reason_254 : decode cX11_reason 254 = .ok (.ireturn, 1) := ckS_g gdX11_reason_178 37 rfl
theorem dX11_reason_255 : decode cX11_reason 255 = .ok (.aload_n 0, 1) := ckS_g gdX11_reason_178 38 rfl
theorem dX11_reason_256 : decode cX11_reason 256 = .ok (.iload_n 2, 1) := ckS_g gdX11_reason_178 39 rfl
theorem gdX11_reason_257 : ckS (List.drop 257 cX11_reason.data.toList) 257 [(257, .invokevirtual 140, 3), (260, .ifCond .ne 6, 3), (263, .bipush 9, 2), (265, .ireturn, 1), (266, .aload_n 0, 1), (267, .getfield 9, 3), (270, .iload_n 2, 1), (271, .baload, 1), (272, .ifCond .ne 6, 3), (275, .bipush 8, 2), (277, .ireturn, 1), (278, .iload_n 2, 1), (279, .aload_n 0, 1), (280, .getfield 103, 3), (283, .if_icmp .eq 11, 3), (286, .aload_n 0, 1), (287, .getfield 112, 3), (290, .iconst (-1), 1), (291, .if_icmp .eq 5, 3), (294, .iconst 2, 1), (295, .ireturn, 1), (296, .aload_n 0, 1), (297, .getfield 115, 3), (300, .ifCond .ne 5, 3), (303, .iconst 0, 1), (304, .ireturn, 1), (305, .aload_n 0, 1), (306, .getfield 22, 3), (309, .aload_n 0, 1), (310, .invokevirtual 155, 3), (313, .iaload, 1), (314, .bipush 6, 2), (316, .if_icmp .eq 38, 3), (319, .aload_n 0, 1), (320, .getfield 52, 3), (323, .aload_n 0, 1), (324, .invokevirtual 155, 3), (327, .baload, 1), (328, .ifCond .ne 26, 3), (331, .aload_n 0, 1)] = true := by decide +kernel
theorem dX11_reason_257 : decode cX11_reason 257 = .ok (.invokevirtual 140, 3) := ckS_g gdX11_reason_257 0 rfl
theorem dX11_reason_260 : decode cX11_reason 260 = .ok (.ifCond .ne 6, 3) := ckS_g gdX11_reason_257 1 rfl
theorem dX11_reason_263 : decode cX11_reason 263 = .ok (.bipush 9, 2) := ckS_g gdX11_reason_257 2 rfl
theorem dX11_reason_265 : decode cX11_reason 265 = .ok (.ireturn, 1) := ckS_g gdX11_reason_257 3 rfl
theorem dX11_reason_266 : decode cX11_reason 266 = .ok (.aload_n 0, 1) := ckS_g gdX11_reason_257 4 rfl
theorem dX11_reason_267 : decode cX11_reason 267 = .ok (.getfield 9, 3) := ckS_g gdX11_reason_257 5 rfl
theorem dX11_reason_270 : decode cX11_reason 270 = .ok (.iload_n 2, 1) := ckS_g gdX11_reason_257 6 rfl
theorem dX11_reason_271 : decode cX11_reason 271 = .ok (.baload, 1) := ckS_g gdX11_reason_257 7 rfl
theorem dX11_reason_272 : decode cX11_reason 272 = .ok (.ifCond .ne 6, 3) := ckS_g gdX11_reason_257 8 rfl
theorem dX11_reason_275 : decode cX11_reason 275 = .ok (.bipush 8, 2) := ckS_g gdX11_reason_257 9 rfl
theorem dX11_reason_277 : decode cX11_reason 277 = .ok (.ireturn, 1) := ckS_g gdX11_reason_257 10 rfl
theorem dX11_reason_278 : decode cX11_reason 278 = .ok (.iload_n 2, 1) := ckS_g gdX11_reason_257 11 rfl
theorem dX11_reason_279 : decode cX11_reason 279 = .ok (.aload_n 0, 1) := ckS_g gdX11_reason_257 12 rfl
theorem dX11_reason_280 : decode cX11_reason 280 = .ok (.getfield 103, 3) := ckS_g gdX11_reason_257 13 rfl
theorem dX11_reason_283 : decode cX11_reason 283 = .ok (.if_icmp .eq 11, 3) := ckS_g gdX11_reason_257 14 rfl
theorem dX11_reason_286 : decode cX11_reason 286 = .ok (.aload_n 0, 1) := ckS_g gdX11_reason_257 15 rfl
theorem dX11_reason_287 : decode cX11_reason 287 = .ok (.getfield 112, 3) := ckS_g gdX11_reason_257 16 rfl
theorem dX11_reason_290 : decode cX11_reason 290 = .ok (.iconst (-1), 1) := ckS_g gdX11_reason_257 17 rfl
theorem dX11_reason_291 : decode cX11_reason 291 = .ok (.if_icmp .eq 5, 3) := ckS_g gdX11_reason_257 18 rfl
theorem dX11_reason_294 : decode cX11_reason 294 = .ok (.iconst 2, 1) := ckS_g gdX11_reason_257 19 rfl
theorem dX11_reason_295 : decode cX11_reason 295 = .ok (.ireturn, 1) := ckS_g gdX11_reason_257 20 rfl
theorem dX11_reason_296 : decode cX11_reason 296 = .ok (.aload_n 0, 1) := ckS_g gdX11_reason_257 21 rfl
theorem dX11_reason_297 : decode cX11_reason 297 = .ok (.getfield 115, 3) := ckS_g gdX11_reason_257 22 rfl
theorem dX11_reason_300 : decode cX11_reason 300 = .ok (.ifCond .ne 5, 3) := ckS_g gdX11_reason_257 23 rfl
theorem dX11_reason_303 : decode cX11_reason 303 = .ok (.iconst 0, 1) := ckS_g gdX11_reason_257 24 rfl
theorem dX11_reason_304 : decode cX11_reason 304 = .ok (.ireturn, 1) := ckS_g gdX11_reason_257 25 rfl
theorem dX11_reason_305 : decode cX11_reason 305 = .ok (.aload_n 0, 1) := ckS_g gdX11_reason_257 26 rfl
theorem dX11_reason_306 : decode cX11_reason 306 = .ok (.getfield 22, 3) := ckS_g gdX11_reason_257 27 rfl
theorem dX11_reason_309 : decode cX11_reason 309 = .ok (.aload_n 0, 1) := ckS_g gdX11_reason_257 28 rfl
theorem dX11_reason_310 : decode cX11_reason 310 = .ok (.invokevirtual 155, 3) := ckS_g gdX11_reason_257 29 rfl
theorem dX11_reason_313 : decode cX11_reason 313 = .ok (.iaload, 1) := ckS_g gdX11_reason_257 30 rfl
theorem dX11_reason_314 : decode cX11_reason 314 = .ok (.bipush 6, 2) := ckS_g gdX11_reason_257 31 rfl
theorem dX11_reason_316 : decode cX11_reason 316 = .ok (.if_icmp .eq 38, 3) := ckS_g gdX11_reason_257 32 rfl
theorem dX11_reason_319 : decode cX11_reason 319 = .ok (.aload_n 0, 1) := ckS_g gdX11_reason_257 33 rfl
theorem dX11_reason_320 : decode cX11_reason 320 = .ok (.getfield 52, 3) := ckS_g gdX11_reason_257 34 rfl
theorem dX11_reason_323 : decode cX11_reason 323 = .ok (.aload_n 0, 1) := ckS_g gdX11_reason_257 35 rfl
theorem dX11_reason_324 : decode cX11_reason 324 = .ok (.invokevirtual 155, 3) := ckS_g gdX11_reason_257 36 rfl
theorem dX11_reason_327 : decode cX11_reason 327 = .ok (.baload, 1) := ckS_g gdX11_reason_257 37 rfl
theorem dX11_reason_328 : decode cX11_reason 328 = .ok (.ifCond .ne 26, 3) := ckS_g gdX11_reason_257 38 rfl
theorem dX11_reason_331 : decode cX11_reason 331 = .ok (.aload_n 0, 1) := ckS_g gdX11_reason_257 39 rfl
theorem gdX11_reason_332 : ckS (List.drop 332 cX11_reason.data.toList) 332 [(332, .getfield 109, 3), (335, .ifCond .le 24, 3), (338, .aload_n 0, 1), (339, .getfield 31, 3), (342, .aload_n 0, 1), (343, .invokevirtual 155, 3), (346, .iaload, 1), (347, .aload_n 0, 1), (348, .getfield 109, 3), (351, .if_icmp .lt 8, 3), (354, .bipush 6, 2), (356, .goto 4, 3), (359, .iconst 0, 1), (360, .ireturn, 1), (361, .aload_n 0, 1), (362, .getfield 112, 3), (365, .iconst (-1), 1), (366, .if_icmp .ne 7, 3), (369, .iconst 2, 1), (370, .goto 4, 3), (373, .iconst 0, 1), (374, .ireturn, 1), (375, .aload_n 0, 1), (376, .getfield 115, 3), (379, .ifCond .ne 6, 3), (382, .bipush 7, 2), (384, .ireturn, 1), (385, .aload_n 0, 1), (386, .getfield 112, 3), (389, .iconst (-1), 1), (390, .if_icmp .eq 11, 3), (393, .aload_n 0, 1), (394, .getfield 112, 3), (397, .iload_n 2, 1), (398, .if_icmp .eq 5, 3), (401, .iconst 2, 1), (402, .ireturn, 1), (403, .aload_n 0, 1), (404, .invokevirtual 159, 3), (407, .ifCond .ne 5, 3)] = true := by decide +kernel
theorem dX11_reason_332 : decode cX11_reason 332 = .ok (.getfield 109, 3) := ckS_g gdX11_reason_332 0 rfl
theorem dX11_reason_335 : decode cX11_reason 335 = .ok (.ifCond .le 24, 3) := ckS_g gdX11_reason_332 1 rfl
theorem dX11_reason_338 : decode cX11_reason 338 = .ok (.aload_n 0, 1) := ckS_g gdX11_reason_332 2 rfl
theorem dX11_reason_339 : decode cX11_reason 339 = .ok (.getfield 31, 3) := ckS_g gdX11_reason_332 3 rfl
theorem dX11_reason_342 : decode cX11_reason 342 = .ok (.aload_n 0, 1) := ckS_g gdX11_reason_332 4 rfl
theorem dX11_reason_343 : decode cX11_reason 343 = .ok (.invokevirtual 155, 3) := ckS_g gdX11_reason_332 5 rfl
theorem dX11_reason_346 : decode cX11_reason 346 = .ok (.iaload, 1) := ckS_g gdX11_reason_332 6 rfl
theorem dX11_reason_347 : decode cX11_reason 347 = .ok (.aload_n 0, 1) := ckS_g gdX11_reason_332 7 rfl
theorem dX11_reason_348 : decode cX11_reason 348 = .ok (.getfield 109, 3) := ckS_g gdX11_reason_332 8 rfl
theorem dX11_reason_351 : decode cX11_reason 351 = .ok (.if_icmp .lt 8, 3) := ckS_g gdX11_reason_332 9 rfl
theorem dX11_reason_354 : decode cX11_reason 354 = .ok (.bipush 6, 2) := ckS_g gdX11_reason_332 10 rfl
theorem dX11_reason_356 : decode cX11_reason 356 = .ok (.goto 4, 3) := ckS_g gdX11_reason_332 11 rfl
theorem dX11_reason_359 : decode cX11_reason 359 = .ok (.iconst 0, 1) := ckS_g gdX11_reason_332 12 rfl
theorem dX11_reason_360 : decode cX11_reason 360 = .ok (.ireturn, 1) := ckS_g gdX11_reason_332 13 rfl
theorem dX11_reason_361 : decode cX11_reason 361 = .ok (.aload_n 0, 1) := ckS_g gdX11_reason_332 14 rfl
theorem dX11_reason_362 : decode cX11_reason 362 = .ok (.getfield 112, 3) := ckS_g gdX11_reason_332 15 rfl
theorem dX11_reason_365 : decode cX11_reason 365 = .ok (.iconst (-1), 1) := ckS_g gdX11_reason_332 16 rfl
theorem dX11_reason_366 : decode cX11_reason 366 = .ok (.if_icmp .ne 7, 3) := ckS_g gdX11_reason_332 17 rfl
theorem dX11_reason_369 : decode cX11_reason 369 = .ok (.iconst 2, 1) := ckS_g gdX11_reason_332 18 rfl
theorem dX11_reason_370 : decode cX11_reason 370 = .ok (.goto 4, 3) := ckS_g gdX11_reason_332 19 rfl
theorem dX11_reason_373 : decode cX11_reason 373 = .ok (.iconst 0, 1) := ckS_g gdX11_reason_332 20 rfl
theorem dX11_reason_374 : decode cX11_reason 374 = .ok (.ireturn, 1) := ckS_g gdX11_reason_332 21 rfl
theorem dX11_reason_375 : decode cX11_reason 375 = .ok (.aload_n 0, 1) := ckS_g gdX11_reason_332 22 rfl
theorem dX11_reason_376 : decode cX11_reason 376 = .ok (.getfield 115, 3) := ckS_g gdX11_reason_332 23 rfl
theorem dX11_reason_379 : decode cX11_reason 379 = .ok (.ifCond .ne 6, 3) := ckS_g gdX11_reason_332 24 rfl
theorem dX11_reason_382 : decode cX11_reason 382 = .ok (.bipush 7, 2) := ckS_g gdX11_reason_332 25 rfl
theorem dX11_reason_384 : decode cX11_reason 384 = .ok (.ireturn, 1) := ckS_g gdX11_reason_332 26 rfl
theorem dX11_reason_385 : decode cX11_reason 385 = .ok (.aload_n 0, 1) := ckS_g gdX11_reason_332 27 rfl
theorem dX11_reason_386 : decode cX11_reason 386 = .ok (.getfield 112, 3) := ckS_g gdX11_reason_332 28 rfl
theorem dX11_reason_389 : decode cX11_reason 389 = .ok (.iconst (-1), 1) := ckS_g gdX11_reason_332 29 rfl
theorem dX11_reason_390 : decode cX11_reason 390 = .ok (.if_icmp .eq 11, 3) := ckS_g gdX11_reason_332 30 rfl
theorem dX11_reason_393 : decode cX11_reason 393 = .ok (.aload_n 0, 1) := ckS_g gdX11_reason_332 31 rfl
theorem dX11_reason_394 : decode cX11_reason 394 = .ok (.getfield 112, 3) := ckS_g gdX11_reason_332 32 rfl
theorem dX11_reason_397 : decode cX11_reason 397 = .ok (.iload_n 2, 1) := ckS_g gdX11_reason_332 33 rfl
theorem dX11_reason_398 : decode cX11_reason 398 = .ok (.if_icmp .eq 5, 3) := ckS_g gdX11_reason_332 34 rfl
theorem dX11_reason_401 : decode cX11_reason 401 = .ok (.iconst 2, 1) := ckS_g gdX11_reason_332 35 rfl
theorem dX11_reason_402 : decode cX11_reason 402 = .ok (.ireturn, 1) := ckS_g gdX11_reason_332 36 rfl
theorem dX11_reason_403 : decode cX11_reason 403 = .ok (.aload_n 0, 1) := ckS_g gdX11_reason_332 37 rfl
theorem dX11_reason_404 : decode cX11_reason 404 = .ok (.invokevirtual 159, 3) := ckS_g gdX11_reason_332 38 rfl
theorem dX11_reason_407 : decode cX11_reason 407 = .ok (.ifCond .ne 5, 3) := ckS_g gdX11_reason_332 39 rfl
theorem gdX11_reason_410 : ckS (List.drop 410 cX11_reason.data.toList) 410 [(410, .iconst 3, 1), (411, .ireturn, 1), (412, .aload_n 0, 1), (413, .getfield 22, 3), (416, .aload_n 0, 1), (417, .invokevirtual 155, 3), (420, .iaload, 1), (421, .bipush 6, 2), (423, .bipush 8, 2), (425, .invokestatic 136, 3), (428, .ifCond .eq 8, 3), (431, .bipush 6, 2), (433, .goto 4, 3), (436, .iconst 0, 1), (437, .ireturn, 1), (438, .iload_n 2, 1), (439, .iconst 1, 1), (440, .bipush 8, 2), (442, .invokestatic 136, 3), (445, .ifCond .ne 8, 3), (448, .bipush 9, 2), (450, .goto 4, 3), (453, .iconst 0, 1), (454, .ireturn, 1), (455, .aload_n 0, 1), (456, .iconst 2, 1), (457, .iconst 3, 1), (458, .invokevirtual 163, 3), (461, .ifCond .eq 17, 3), (464, .aload_n 0, 1), (465, .getfield 55, 3), (468, .aload_n 0, 1), (469, .getfield 75, 3), (472, .iconst 0, 1), (473, .iaload, 1), (474, .baload, 1), (475, .ifCond .eq 8, 3), (478, .bipush 11, 2), (480, .goto 36, 3), (483, .iload_n 2, 1)] = true := by decide +kernel
theorem dX11_reason_410 : decode cX11_reason 410 = .ok (.iconst 3, 1) := ckS_g gdX11_reason_410 0 rfl
theorem dX11_reason_411 : decode cX11_reason 411 = .ok (.ireturn, 1) := ckS_g gdX11_reason_410 1 rfl
theorem dX11_reason_412 : decode cX11_reason 412 = .ok (.aload_n 0, 1) := ckS_g gdX11_reason_410 2 rfl
theorem dX11_reason_413 : decode cX11_reason 413 = .ok (.getfield 22, 3) := ckS_g gdX11_reason_410 3 rfl
theorem dX11_reason_416 : decode cX11_reason 416 = .ok (.aload_n 0, 1) := ckS_g gdX11_reason_410 4 rfl
theorem dX11_reason_417 : decode cX11_reason 417 = .ok (.invokevirtual 155, 3) := ckS_g gdX11_reason_410 5 rfl
theorem dX11_reason_420 : decode cX11_reason 420 = .ok (.iaload, 1) := ckS_g gdX11_reason_410 6 rfl
theorem dX11_reason_421 : decode cX11_reason 421 = .ok (.bipush 6, 2) := ckS_g gdX11_reason_410 7 rfl
theorem dX11_reason_423 : decode cX11_reason 423 = .ok (.bipush 8, 2) := ckS_g gdX11_reason_410 8 rfl
theorem dX11_reason_425 : decode cX11_reason 425 = .ok (.invokestatic 136, 3) := ckS_g gdX11_reason_410 9 rfl
theorem dX11_reason_428 : decode cX11_reason 428 = .ok (.ifCond .eq 8, 3) := ckS_g gdX11_reason_410 10 rfl
theorem dX11_reason_431 : decode cX11_reason 431 = .ok (.bipush 6, 2) := ckS_g gdX11_reason_410 11 rfl
theorem dX11_reason_433 : decode cX11_reason 433 = .ok (.goto 4, 3) := ckS_g gdX11_reason_410 12 rfl
theorem dX11_reason_436 : decode cX11_reason 436 = .ok (.iconst 0, 1) := ckS_g gdX11_reason_410 13 rfl
theorem dX11_reason_437 : decode cX11_reason 437 = .ok (.ireturn, 1) := ckS_g gdX11_reason_410 14 rfl
theorem dX11_reason_438 : decode cX11_reason 438 = .ok (.iload_n 2, 1) := ckS_g gdX11_reason_410 15 rfl
theorem dX11_reason_439 : decode cX11_reason 439 = .ok (.iconst 1, 1) := ckS_g gdX11_reason_410 16 rfl
theorem dX11_reason_440 : decode cX11_reason 440 = .ok (.bipush 8, 2) := ckS_g gdX11_reason_410 17 rfl
theorem dX11_reason_442 : decode cX11_reason 442 = .ok (.invokestatic 136, 3) := ckS_g gdX11_reason_410 18 rfl
theorem dX11_reason_445 : decode cX11_reason 445 = .ok (.ifCond .ne 8, 3) := ckS_g gdX11_reason_410 19 rfl
theorem dX11_reason_448 : decode cX11_reason 448 = .ok (.bipush 9, 2) := ckS_g gdX11_reason_410 20 rfl
theorem dX11_reason_450 : decode cX11_reason 450 = .ok (.goto 4, 3) := ckS_g gdX11_reason_410 21 rfl
theorem dX11_reason_453 : decode cX11_reason 453 = .ok (.iconst 0, 1) := ckS_g gdX11_reason_410 22 rfl
theorem dX11_reason_454 : decode cX11_reason 454 = .ok (.ireturn, 1) := ckS_g gdX11_reason_410 23 rfl
theorem dX11_reason_455 : decode cX11_reason 455 = .ok (.aload_n 0, 1) := ckS_g gdX11_reason_410 24 rfl
theorem dX11_reason_456 : decode cX11_reason 456 = .ok (.iconst 2, 1) := ckS_g gdX11_reason_410 25 rfl
theorem dX11_reason_457 : decode cX11_reason 457 = .ok (.iconst 3, 1) := ckS_g gdX11_reason_410 26 rfl
theorem dX11_reason_458 : decode cX11_reason 458 = .ok (.invokevirtual 163, 3) := ckS_g gdX11_reason_410 27 rfl
theorem dX11_reason_461 : decode cX11_reason 461 = .ok (.ifCond .eq 17, 3) := ckS_g gdX11_reason_410 28 rfl
theorem dX11_reason_464 : decode cX11_reason 464 = .ok (.aload_n 0, 1) := ckS_g gdX11_reason_410 29 rfl
theorem dX11_reason_465 : decode cX11_reason 465 = .ok (.getfield 55, 3) := ckS_g gdX11_reason_410 30 rfl
theorem dX11_reason_468 : decode cX11_reason 468 = .ok (.aload_n 0, 1) := ckS_g gdX11_reason_410 31 rfl
theorem dX11_reason_469 : decode cX11_reason 469 = .ok (.getfield 75, 3) := ckS_g gdX11_reason_410 32 rfl
theorem dX11_reason_472 : decode cX11_reason 472 = .ok (.iconst 0, 1) := ckS_g gdX11_reason_410 33 rfl
theorem dX11_reason_473 : decode cX11_reason 473 = .ok (.iaload, 1) := ckS_g gdX11_reason_410 34 rfl
theorem dX11_reason_474 : decode cX11_reason 474 = .ok (.baload, 1) := ckS_g gdX11_reason_410 35 rfl
theorem dX11_reason_475 : decode cX11_reason 475 = .ok (.ifCond .eq 8, 3) := ckS_g gdX11_reason_410 36 rfl
theorem dX11_reason_478 : decode cX11_reason 478 = .ok (.bipush 11, 2) := ckS_g gdX11_reason_410 37 rfl
theorem dX11_reason_480 : decode cX11_reason 480 = .ok (.goto 36, 3) := ckS_g gdX11_reason_410 38 rfl
theorem dX11_reason_483 : decode cX11_reason 483 = .ok (.iload_n 2, 1) := ckS_g gdX11_reason_410 39 rfl
theorem gdX11_reason_484 : ckS (List.drop 484 cX11_reason.data.toList) 484 [(484, .iconst 0, 1), (485, .sipush 400, 3), (488, .invokestatic 136, 3), (491, .ifCond .eq 19, 3), (494, .iload_n 3, 1), (495, .iconst 0, 1), (496, .sipush 400, 3), (499, .invokestatic 136, 3), (502, .ifCond .eq 8, 3), (505, .iload_n 3, 1), (506, .iload_n 2, 1), (507, .if_icmp .ge 8, 3), (510, .bipush 9, 2), (512, .goto 4, 3), (515, .iconst 0, 1), (516, .ireturn, 1), (517, .aload_n 0, 1), (518, .iload_n 2, 1), (519, .iload_n 3, 1), (520, .iload 4, 2), (522, .iload 5, 2), (524, .invokevirtual 167, 3), (527, .ireturn, 1), (528, .aload_n 0, 1), (529, .iload_n 2, 1), (530, .invokevirtual 171, 3), (533, .ireturn, 1), (534, .iload_n 2, 1), (535, .iconst 0, 1), (536, .bipush 7, 2), (538, .invokestatic 136, 3), (541, .ifCond .ne 8, 3), (544, .bipush 9, 2), (546, .goto 25, 3), (549, .aload_n 0, 1), (550, .getfield 130, 3), (553, .ifCond .gt 12, 3), (556, .aload_n 0, 1), (557, .getfield 81, 3), (560, .iload_n 2, 1)] = true := by decide +kernel
theorem dX11_reason_484 : decode cX11_reason 484 = .ok (.iconst 0, 1) := ckS_g gdX11_reason_484 0 rfl
theorem dX11_reason_485 : decode cX11_reason 485 = .ok (.sipush 400, 3) := ckS_g gdX11_reason_484 1 rfl
theorem dX11_reason_488 : decode cX11_reason 488 = .ok (.invokestatic 136, 3) := ckS_g gdX11_reason_484 2 rfl
theorem dX11_reason_491 : decode cX11_reason 491 = .ok (.ifCond .eq 19, 3) := ckS_g gdX11_reason_484 3 rfl
theorem dX11_reason_494 : decode cX11_reason 494 = .ok (.iload_n 3, 1) := ckS_g gdX11_reason_484 4 rfl
theorem dX11_reason_495 : decode cX11_reason 495 = .ok (.iconst 0, 1) := ckS_g gdX11_reason_484 5 rfl
theorem dX11_reason_496 : decode cX11_reason 496 = .ok (.sipush 400, 3) := ckS_g gdX11_reason_484 6 rfl
theorem dX11_reason_499 : decode cX11_reason 499 = .ok (.invokestatic 136, 3) := ckS_g gdX11_reason_484 7 rfl
theorem dX11_reason_502 : decode cX11_reason 502 = .ok (.ifCond .eq 8, 3) := ckS_g gdX11_reason_484 8 rfl
theorem dX11_reason_505 : decode cX11_reason 505 = .ok (.iload_n 3, 1) := ckS_g gdX11_reason_484 9 rfl
theorem dX11_reason_506 : decode cX11_reason 506 = .ok (.iload_n 2, 1) := ckS_g gdX11_reason_484 10 rfl
theorem dX11_reason_507 : decode cX11_reason 507 = .ok (.if_icmp .ge 8, 3) := ckS_g gdX11_reason_484 11 rfl
theorem dX11_reason_510 : decode cX11_reason 510 = .ok (.bipush 9, 2) := ckS_g gdX11_reason_484 12 rfl
theorem dX11_reason_512 : decode cX11_reason 512 = .ok (.goto 4, 3) := ckS_g gdX11_reason_484 13 rfl
theorem dX11_reason_515 : decode cX11_reason 515 = .ok (.iconst 0, 1) := ckS_g gdX11_reason_484 14 rfl
theorem dX11_reason_516 : decode cX11_reason 516 = .ok (.ireturn, 1) := ckS_g gdX11_reason_484 15 rfl
theorem dX11_reason_517 : decode cX11_reason 517 = .ok (.aload_n 0, 1) := ckS_g gdX11_reason_484 16 rfl
theorem dX11_reason_518 : decode cX11_reason 518 = .ok (.iload_n 2, 1) := ckS_g gdX11_reason_484 17 rfl
theorem dX11_reason_519 : decode cX11_reason 519 = .ok (.iload_n 3, 1) := ckS_g gdX11_reason_484 18 rfl
theorem dX11_reason_520 : decode cX11_reason 520 = .ok (.iload 4, 2) := ckS_g gdX11_reason_484 19 rfl
theorem dX11_reason_522 : decode cX11_reason 522 = .ok (.iload 5, 2) := ckS_g gdX11_reason_484 20 rfl
theorem dX11_reason_524 : decode cX11_reason 524 = .ok (.invokevirtual 167, 3) := ckS_g gdX11_reason_484 21 rfl
theorem dX11_reason_527 : decode cX11_reason 527 = .ok (.ireturn, 1) := ckS_g gdX11_reason_484 22 rfl
theorem dX11_reason_528 : decode cX11_reason 528 = .ok (.aload_n 0, 1) := ckS_g gdX11_reason_484 23 rfl
theorem dX11_reason_529 : decode cX11_reason 529 = .ok (.iload_n 2, 1) := ckS_g gdX11_reason_484 24 rfl
theorem dX11_reason_530 : decode cX11_reason 530 = .ok (.invokevirtual 171, 3) := ckS_g gdX11_reason_484 25 rfl
theorem dX11_reason_533 : decode cX11_reason 533 = .ok (.ireturn, 1) := ckS_g gdX11_reason_484 26 rfl
theorem dX11_reason_534 : decode cX11_reason 534 = .ok (.iload_n 2, 1) := ckS_g gdX11_reason_484 27 rfl
theorem dX11_reason_535 : decode cX11_reason 535 = .ok (.iconst 0, 1) := ckS_g gdX11_reason_484 28 rfl
theorem dX11_reason_536 : decode cX11_reason 536 = .ok (.bipush 7, 2) := ckS_g gdX11_reason_484 29 rfl
theorem dX11_reason_538 : decode cX11_reason 538 = .ok (.invokestatic 136, 3) := ckS_g gdX11_reason_484 30 rfl
theorem dX11_reason_541 : decode cX11_reason 541 = .ok (.ifCond .ne 8, 3) := ckS_g gdX11_reason_484 31 rfl
theorem dX11_reason_544 : decode cX11_reason 544 = .ok (.bipush 9, 2) := ckS_g gdX11_reason_484 32 rfl
theorem dX11_reason_546 : decode cX11_reason 546 = .ok (.goto 25, 3) := ckS_g gdX11_reason_484 33 rfl
theorem dX11_reason_549 : decode cX11_reason 549 = .ok (.aload_n 0, 1) := ckS_g gdX11_reason_484 34 rfl
theorem dX11_reason_550 : decode cX11_reason 550 = .ok (.getfield 130, 3) := ckS_g gdX11_reason_484 35 rfl
theorem dX11_reason_553 : decode cX11_reason 553 = .ok (.ifCond .gt 12, 3) := ckS_g gdX11_reason_484 36 rfl
theorem dX11_reason_556 : decode cX11_reason 556 = .ok (.aload_n 0, 1) := ckS_g gdX11_reason_484 37 rfl
theorem dX11_reason_557 : decode cX11_reason 557 = .ok (.getfield 81, 3) := ckS_g gdX11_reason_484 38 rfl
theorem dX11_reason_560 : decode cX11_reason 560 = .ok (.iload_n 2, 1) := ckS_g gdX11_reason_484 39 rfl
theorem gdX11_reason_561 : ckS (List.drop 561 cX11_reason.data.toList) 561 [(561, .iaload, 1), (562, .ifCond .ne 8, 3), (565, .bipush 11, 2), (567, .goto 4, 3), (570, .iconst 0, 1), (571, .ireturn, 1), (572, .aload_n 0, 1), (573, .iload_n 2, 1), (574, .invokevirtual 175, 3), (577, .ireturn, 1), (578, .aload_n 0, 1), (579, .getfield 115, 3), (582, .ifCond .ne 6, 3), (585, .bipush 7, 2), (587, .ireturn, 1), (588, .aload_n 0, 1), (589, .iload_n 2, 1), (590, .invokevirtual 140, 3), (593, .ifCond .ne 6, 3), (596, .bipush 9, 2), (598, .ireturn, 1), (599, .aload_n 0, 1), (600, .getfield 9, 3), (603, .iload_n 2, 1), (604, .baload, 1), (605, .ifCond .ne 6, 3), (608, .bipush 8, 2), (610, .ireturn, 1), (611, .aload_n 0, 1), (612, .invokevirtual 159, 3), (615, .ifCond .ne 17, 3), (618, .aload_n 0, 1), (619, .getfield 22, 3), (622, .aload_n 0, 1), (623, .invokevirtual 155, 3), (626, .iaload, 1), (627, .bipush 9, 2), (629, .if_icmp .ne 5, 3), (632, .iconst 3, 1), (633, .ireturn, 1)] = true := by decide +kernel
theorem dX11_reason_561 : decode cX11_reason 561 = .ok (.iaload, 1) := ckS_g gdX11_reason_561 0 rfl
theorem dX11_reason_562 : decode cX11_reason 562 = .ok (.ifCond .ne 8, 3) := ckS_g gdX11_reason_561 1 rfl
theorem dX11_reason_565 : decode cX11_reason 565 = .ok (.bipush 11, 2) := ckS_g gdX11_reason_561 2 rfl
theorem dX11_reason_567 : decode cX11_reason 567 = .ok (.goto 4, 3) := ckS_g gdX11_reason_561 3 rfl
theorem dX11_reason_570 : decode cX11_reason 570 = .ok (.iconst 0, 1) := ckS_g gdX11_reason_561 4 rfl
theorem dX11_reason_571 : decode cX11_reason 571 = .ok (.ireturn, 1) := ckS_g gdX11_reason_561 5 rfl
theorem dX11_reason_572 : decode cX11_reason 572 = .ok (.aload_n 0, 1) := ckS_g gdX11_reason_561 6 rfl
theorem dX11_reason_573 : decode cX11_reason 573 = .ok (.iload_n 2, 1) := ckS_g gdX11_reason_561 7 rfl
theorem dX11_reason_574 : decode cX11_reason 574 = .ok (.invokevirtual 175, 3) := ckS_g gdX11_reason_561 8 rfl
theorem dX11_reason_577 : decode cX11_reason 577 = .ok (.ireturn, 1) := ckS_g gdX11_reason_561 9 rfl
theorem dX11_reason_578 : decode cX11_reason 578 = .ok (.aload_n 0, 1) := ckS_g gdX11_reason_561 10 rfl
theorem dX11_reason_579 : decode cX11_reason 579 = .ok (.getfield 115, 3) := ckS_g gdX11_reason_561 11 rfl
theorem dX11_reason_582 : decode cX11_reason 582 = .ok (.ifCond .ne 6, 3) := ckS_g gdX11_reason_561 12 rfl
theorem dX11_reason_585 : decode cX11_reason 585 = .ok (.bipush 7, 2) := ckS_g gdX11_reason_561 13 rfl
theorem dX11_reason_587 : decode cX11_reason 587 = .ok (.ireturn, 1) := ckS_g gdX11_reason_561 14 rfl
theorem dX11_reason_588 : decode cX11_reason 588 = .ok (.aload_n 0, 1) := ckS_g gdX11_reason_561 15 rfl
theorem dX11_reason_589 : decode cX11_reason 589 = .ok (.iload_n 2, 1) := ckS_g gdX11_reason_561 16 rfl
theorem dX11_reason_590 : decode cX11_reason 590 = .ok (.invokevirtual 140, 3) := ckS_g gdX11_reason_561 17 rfl
theorem dX11_reason_593 : decode cX11_reason 593 = .ok (.ifCond .ne 6, 3) := ckS_g gdX11_reason_561 18 rfl
theorem dX11_reason_596 : decode cX11_reason 596 = .ok (.bipush 9, 2) := ckS_g gdX11_reason_561 19 rfl
theorem dX11_reason_598 : decode cX11_reason 598 = .ok (.ireturn, 1) := ckS_g gdX11_reason_561 20 rfl
theorem dX11_reason_599 : decode cX11_reason 599 = .ok (.aload_n 0, 1) := ckS_g gdX11_reason_561 21 rfl
theorem dX11_reason_600 : decode cX11_reason 600 = .ok (.getfield 9, 3) := ckS_g gdX11_reason_561 22 rfl
theorem dX11_reason_603 : decode cX11_reason 603 = .ok (.iload_n 2, 1) := ckS_g gdX11_reason_561 23 rfl
theorem dX11_reason_604 : decode cX11_reason 604 = .ok (.baload, 1) := ckS_g gdX11_reason_561 24 rfl
theorem dX11_reason_605 : decode cX11_reason 605 = .ok (.ifCond .ne 6, 3) := ckS_g gdX11_reason_561 25 rfl
theorem dX11_reason_608 : decode cX11_reason 608 = .ok (.bipush 8, 2) := ckS_g gdX11_reason_561 26 rfl
theorem dX11_reason_610 : decode cX11_reason 610 = .ok (.ireturn, 1) := ckS_g gdX11_reason_561 27 rfl
theorem dX11_reason_611 : decode cX11_reason 611 = .ok (.aload_n 0, 1) := ckS_g gdX11_reason_561 28 rfl
theorem dX11_reason_612 : decode cX11_reason 612 = .ok (.invokevirtual 159, 3) := ckS_g gdX11_reason_561 29 rfl
theorem dX11_reason_615 : decode cX11_reason 615 = .ok (.ifCond .ne 17, 3) := ckS_g gdX11_reason_561 30 rfl
theorem dX11_reason_618 : decode cX11_reason 618 = .ok (.aload_n 0, 1) := ckS_g gdX11_reason_561 31 rfl
theorem dX11_reason_619 : decode cX11_reason 619 = .ok (.getfield 22, 3) := ckS_g gdX11_reason_561 32 rfl
theorem dX11_reason_622 : decode cX11_reason 622 = .ok (.aload_n 0, 1) := ckS_g gdX11_reason_561 33 rfl
theorem dX11_reason_623 : decode cX11_reason 623 = .ok (.invokevirtual 155, 3) := ckS_g gdX11_reason_561 34 rfl
theorem dX11_reason_626 : decode cX11_reason 626 = .ok (.iaload, 1) := ckS_g gdX11_reason_561 35 rfl
theorem dX11_reason_627 : decode cX11_reason 627 = .ok (.bipush 9, 2) := ckS_g gdX11_reason_561 36 rfl
theorem dX11_reason_629 : decode cX11_reason 629 = .ok (.if_icmp .ne 5, 3) := ckS_g gdX11_reason_561 37 rfl
theorem dX11_reason_632 : decode cX11_reason 632 = .ok (.iconst 3, 1) := ckS_g gdX11_reason_561 38 rfl
theorem dX11_reason_633 : decode cX11_reason 633 = .ok (.ireturn, 1) := ckS_g gdX11_reason_561 39 rfl
theorem gdX11_reason_634 : ckS (List.drop 634 cX11_reason.data.toList) 634 [(634, .iload_n 2, 1), (635, .aload_n 0, 1), (636, .getfield 25, 3), (639, .aload_n 0, 1), (640, .invokevirtual 155, 3), (643, .iaload, 1), (644, .if_icmp .eq 11, 3), (647, .iload_n 2, 1), (648, .aload_n 0, 1), (649, .getfield 103, 3), (652, .if_icmp .ne 7, 3), (655, .iconst 2, 1), (656, .goto 4, 3), (659, .iconst 0, 1), (660, .ireturn, 1), (661, .aload_n 0, 1), (662, .getfield 115, 3), (665, .ifCond .ne 6, 3), (668, .bipush 7, 2), (670, .ireturn, 1), (671, .aload_n 0, 1), (672, .iload_n 2, 1), (673, .invokevirtual 140, 3), (676, .ifCond .eq 12, 3), (679, .iload_n 3, 1), (680, .iconst 0, 1), (681, .iconst 2, 1), (682, .invokestatic 136, 3), (685, .ifCond .ne 6, 3), (688, .bipush 9, 2), (690, .ireturn, 1), (691, .aload_n 0, 1), (692, .getfield 9, 3), (695, .iload_n 2, 1), (696, .baload, 1), (697, .ifCond .ne 6, 3), (700, .bipush 8, 2), (702, .ireturn, 1), (703, .aload_n 0, 1), (704, .invokevirtual 159, 3)] = true := by decide +kernel
theorem dX11_reason_634 : decode cX11_reason 634 = .ok (.iload_n 2, 1) := ckS_g gdX11_reason_634 0 rfl
theorem dX11_reason_635 : decode cX11_reason 635 = .ok (.aload_n 0, 1) := ckS_g gdX11_reason_634 1 rfl
theorem dX11_reason_636 : decode cX11_reason 636 = .ok (.getfield 25, 3) := ckS_g gdX11_reason_634 2 rfl
theorem dX11_reason_639 : decode cX11_reason 639 = .ok (.aload_n 0, 1) := ckS_g gdX11_reason_634 3 rfl
theorem dX11_reason_640 : decode cX11_reason 640 = .ok (.invokevirtual 155, 3) := ckS_g gdX11_reason_634 4 rfl
theorem dX11_reason_643 : decode cX11_reason 643 = .ok (.iaload, 1) := ckS_g gdX11_reason_634 5 rfl
theorem dX11_reason_644 : decode cX11_reason 644 = .ok (.if_icmp .eq 11, 3) := ckS_g gdX11_reason_634 6 rfl
theorem dX11_reason_647 : decode cX11_reason 647 = .ok (.iload_n 2, 1) := ckS_g gdX11_reason_634 7 rfl
theorem dX11_reason_648 : decode cX11_reason 648 = .ok (.aload_n 0, 1) := ckS_g gdX11_reason_634 8 rfl
theorem dX11_reason_649 : decode cX11_reason 649 = .ok (.getfield 103, 3) := ckS_g gdX11_reason_634 9 rfl
theorem dX11_reason_652 : decode cX11_reason 652 = .ok (.if_icmp .ne 7, 3) := ckS_g gdX11_reason_634 10 rfl
theorem dX11_reason_655 : decode cX11_reason 655 = .ok (.iconst 2, 1) := ckS_g gdX11_reason_634 11 rfl
theorem dX11_reason_656 : decode cX11_reason 656 = .ok (.goto 4, 3) := ckS_g gdX11_reason_634 12 rfl
theorem dX11_reason_659 : decode cX11_reason 659 = .ok (.iconst 0, 1) := ckS_g gdX11_reason_634 13 rfl
theorem dX11_reason_660 : decode cX11_reason 660 = .ok (.ireturn, 1) := ckS_g gdX11_reason_634 14 rfl
theorem dX11_reason_661 : decode cX11_reason 661 = .ok (.aload_n 0, 1) := ckS_g gdX11_reason_634 15 rfl
theorem dX11_reason_662 : decode cX11_reason 662 = .ok (.getfield 115, 3) := ckS_g gdX11_reason_634 16 rfl
theorem dX11_reason_665 : decode cX11_reason 665 = .ok (.ifCond .ne 6, 3) := ckS_g gdX11_reason_634 17 rfl
theorem dX11_reason_668 : decode cX11_reason 668 = .ok (.bipush 7, 2) := ckS_g gdX11_reason_634 18 rfl
theorem dX11_reason_670 : decode cX11_reason 670 = .ok (.ireturn, 1) := ckS_g gdX11_reason_634 19 rfl
theorem dX11_reason_671 : decode cX11_reason 671 = .ok (.aload_n 0, 1) := ckS_g gdX11_reason_634 20 rfl
theorem dX11_reason_672 : decode cX11_reason 672 = .ok (.iload_n 2, 1) := ckS_g gdX11_reason_634 21 rfl
theorem dX11_reason_673 : decode cX11_reason 673 = .ok (.invokevirtual 140, 3) := ckS_g gdX11_reason_634 22 rfl
theorem dX11_reason_676 : decode cX11_reason 676 = .ok (.ifCond .eq 12, 3) := ckS_g gdX11_reason_634 23 rfl
theorem dX11_reason_679 : decode cX11_reason 679 = .ok (.iload_n 3, 1) := ckS_g gdX11_reason_634 24 rfl
theorem dX11_reason_680 : decode cX11_reason 680 = .ok (.iconst 0, 1) := ckS_g gdX11_reason_634 25 rfl
theorem dX11_reason_681 : decode cX11_reason 681 = .ok (.iconst 2, 1) := ckS_g gdX11_reason_634 26 rfl
theorem dX11_reason_682 : decode cX11_reason 682 = .ok (.invokestatic 136, 3) := ckS_g gdX11_reason_634 27 rfl
theorem dX11_reason_685 : decode cX11_reason 685 = .ok (.ifCond .ne 6, 3) := ckS_g gdX11_reason_634 28 rfl
theorem dX11_reason_688 : decode cX11_reason 688 = .ok (.bipush 9, 2) := ckS_g gdX11_reason_634 29 rfl
theorem dX11_reason_690 : decode cX11_reason 690 = .ok (.ireturn, 1) := ckS_g gdX11_reason_634 30 rfl
theorem dX11_reason_691 : decode cX11_reason 691 = .ok (.aload_n 0, 1) := ckS_g gdX11_reason_634 31 rfl
theorem dX11_reason_692 : decode cX11_reason 692 = .ok (.getfield 9, 3) := ckS_g gdX11_reason_634 32 rfl
theorem dX11_reason_695 : decode cX11_reason 695 = .ok (.iload_n 2, 1) := ckS_g gdX11_reason_634 33 rfl
theorem dX11_reason_696 : decode cX11_reason 696 = .ok (.baload, 1) := ckS_g gdX11_reason_634 34 rfl
theorem dX11_reason_697 : decode cX11_reason 697 = .ok (.ifCond .ne 6, 3) := ckS_g gdX11_reason_634 35 rfl
theorem dX11_reason_700 : decode cX11_reason 700 = .ok (.bipush 8, 2) := ckS_g gdX11_reason_634 36 rfl
theorem dX11_reason_702 : decode cX11_reason 702 = .ok (.ireturn, 1) := ckS_g gdX11_reason_634 37 rfl
theorem dX11_reason_703 : decode cX11_reason 703 = .ok (.aload_n 0, 1) := ckS_g gdX11_reason_634 38 rfl
theorem dX11_reason_704 : decode cX11_reason 704 = .ok (.invokevirtual 159, 3) := ckS_g gdX11_reason_634 39 rfl
theorem gdX11_reason_707 : ckS (List.drop 707 cX11_reason.data.toList) 707 [(707, .ifCond .eq 7, 3), (710, .iconst 0, 1), (711, .goto 4, 3), (714, .iconst 3, 1), (715, .ireturn, 1), (716, .aload_n 0, 1), (717, .getfield 115, 3), (720, .ifCond .ne 6, 3), (723, .bipush 7, 2), (725, .ireturn, 1), (726, .aload_n 0, 1), (727, .getfield 22, 3), (730, .aload_n 0, 1), (731, .invokevirtual 155, 3), (734, .iaload, 1), (735, .bipush 9, 2), (737, .if_icmp .eq 16, 3), (740, .iload_n 2, 1), (741, .aload_n 0, 1), (742, .getfield 25, 3), (745, .aload_n 0, 1), (746, .invokevirtual 155, 3), (749, .iaload, 1), (750, .if_icmp .eq 5, 3), (753, .iconst 2, 1), (754, .ireturn, 1), (755, .aload_n 0, 1), (756, .iload_n 2, 1), (757, .invokevirtual 178, 3), (760, .ifCond .eq 7, 3), (763, .iconst 0, 1), (764, .goto 5, 3), (767, .bipush 8, 2), (769, .ireturn, 1), (770, .aload_n 0, 1), (771, .aload_n 0, 1), (772, .getfield 103, 3), (775, .invokevirtual 178, 3), (778, .ifCond .ne 6, 3), (781, .bipush 8, 2)] = true := by decide +kernel
theorem dX11_reason_707 : decode cX11_reason 707 = .ok (.ifCond .eq 7, 3) := ckS_g gdX11_reason_707 0 rfl
theorem dX11_reason_710 : decode cX11_reason 710 = .ok (.iconst 0, 1) := ckS_g gdX11_reason_707 1 rfl
theorem dX11_reason_711 : decode cX11_reason 711 = .ok (.goto 4, 3) := ckS_g gdX11_reason_707 2 rfl
theorem dX11_reason_714 : decode cX11_reason 714 = .ok (.iconst 3, 1) := ckS_g gdX11_reason_707 3 rfl
theorem dX11_reason_715 : decode cX11_reason 715 = .ok (.ireturn, 1) := ckS_g gdX11_reason_707 4 rfl
theorem dX11_reason_716 : decode cX11_reason 716 = .ok (.aload_n 0, 1) := ckS_g gdX11_reason_707 5 rfl
theorem dX11_reason_717 : decode cX11_reason 717 = .ok (.getfield 115, 3) := ckS_g gdX11_reason_707 6 rfl
theorem dX11_reason_720 : decode cX11_reason 720 = .ok (.ifCond .ne 6, 3) := ckS_g gdX11_reason_707 7 rfl
theorem dX11_reason_723 : decode cX11_reason 723 = .ok (.bipush 7, 2) := ckS_g gdX11_reason_707 8 rfl
theorem dX11_reason_725 : decode cX11_reason 725 = .ok (.ireturn, 1) := ckS_g gdX11_reason_707 9 rfl
theorem dX11_reason_726 : decode cX11_reason 726 = .ok (.aload_n 0, 1) := ckS_g gdX11_reason_707 10 rfl
theorem dX11_reason_727 : decode cX11_reason 727 = .ok (.getfield 22, 3) := ckS_g gdX11_reason_707 11 rfl
theorem dX11_reason_730 : decode cX11_reason 730 = .ok (.aload_n 0, 1) := ckS_g gdX11_reason_707 12 rfl
theorem dX11_reason_731 : decode cX11_reason 731 = .ok (.invokevirtual 155, 3) := ckS_g gdX11_reason_707 13 rfl
theorem dX11_reason_734 : decode cX11_reason 734 = .ok (.iaload, 1) := ckS_g gdX11_reason_707 14 rfl
theorem dX11_reason_735 : decode cX11_reason 735 = .ok (.bipush 9, 2) := ckS_g gdX11_reason_707 15 rfl
theorem dX11_reason_737 : decode cX11_reason 737 = .ok (.if_icmp .eq 16, 3) := ckS_g gdX11_reason_707 16 rfl
theorem dX11_reason_740 : decode cX11_reason 740 = .ok (.iload_n 2, 1) := ckS_g gdX11_reason_707 17 rfl
theorem dX11_reason_741 : decode cX11_reason 741 = .ok (.aload_n 0, 1) := ckS_g gdX11_reason_707 18 rfl
theorem dX11_reason_742 : decode cX11_reason 742 = .ok (.getfield 25, 3) := ckS_g gdX11_reason_707 19 rfl
theorem dX11_reason_745 : decode cX11_reason 745 = .ok (.aload_n 0, 1) := ckS_g gdX11_reason_707 20 rfl
theorem dX11_reason_746 : decode cX11_reason 746 = .ok (.invokevirtual 155, 3) := ckS_g gdX11_reason_707 21 rfl
theorem dX11_reason_749 : decode cX11_reason 749 = .ok (.iaload, 1) := ckS_g gdX11_reason_707 22 rfl
theorem dX11_reason_750 : decode cX11_reason 750 = .ok (.if_icmp .eq 5, 3) := ckS_g gdX11_reason_707 23 rfl
theorem dX11_reason_753 : decode cX11_reason 753 = .ok (.iconst 2, 1) := ckS_g gdX11_reason_707 24 rfl
theorem dX11_reason_754 : decode cX11_reason 754 = .ok (.ireturn, 1) := ckS_g gdX11_reason_707 25 rfl
theorem dX11_reason_755 : decode cX11_reason 755 = .ok (.aload_n 0, 1) := ckS_g gdX11_reason_707 26 rfl
theorem dX11_reason_756 : decode cX11_reason 756 = .ok (.iload_n 2, 1) := ckS_g gdX11_reason_707 27 rfl
theorem dX11_reason_757 : decode cX11_reason 757 = .ok (.invokevirtual 178, 3) := ckS_g gdX11_reason_707 28 rfl
theorem dX11_reason_760 : decode cX11_reason 760 = .ok (.ifCond .eq 7, 3) := ckS_g gdX11_reason_707 29 rfl
theorem dX11_reason_763 : decode cX11_reason 763 = .ok (.iconst 0, 1) := ckS_g gdX11_reason_707 30 rfl
theorem dX11_reason_764 : decode cX11_reason 764 = .ok (.goto 5, 3) := ckS_g gdX11_reason_707 31 rfl
theorem dX11_reason_767 : decode cX11_reason 767 = .ok (.bipush 8, 2) := ckS_g gdX11_reason_707 32 rfl
theorem dX11_reason_769 : decode cX11_reason 769 = .ok (.ireturn, 1) := ckS_g gdX11_reason_707 33 rfl
theorem dX11_reason_770 : decode cX11_reason 770 = .ok (.aload_n 0, 1) := ckS_g gdX11_reason_707 34 rfl
theorem dX11_reason_771 : decode cX11_reason 771 = .ok (.aload_n 0, 1) := ckS_g gdX11_reason_707 35 rfl
theorem dX11_reason_772 : decode cX11_reason 772 = .ok (.getfield 103, 3) := ckS_g gdX11_reason_707 36 rfl
theorem dX11_reason_775 : decode cX11_reason 775 = .ok (.invokevirtual 178, 3) := ckS_g gdX11_reason_707 37 rfl
theorem dX11_reason_778 : decode cX11_reason 778 = .ok (.ifCond .ne 6, 3) := ckS_g gdX11_reason_707 38 rfl
theorem dX11_reason_781 : decode cX11_reason 781 = .ok (.bipush 8, 2) := ckS_g gdX11_reason_707 39 rfl
theorem gdX11_reason_783 : ckS (List.drop 783 cX11_reason.data.toList) 783 [(783, .ireturn, 1), (784, .aload_n 0, 1), (785, .getfield 115, 3), (788, .ifCond .ne 6, 3), (791, .bipush 7, 2), (793, .ireturn, 1), (794, .aload_n 0, 1), (795, .getfield 22, 3), (798, .aload_n 0, 1), (799, .invokevirtual 155, 3), (802, .iaload, 1), (803, .bipush 9, 2), (805, .if_icmp .ne 6, 3), (808, .bipush 11, 2), (810, .ireturn, 1), (811, .aload_n 0, 1), (812, .getfield 115, 3), (815, .bipush 9, 2), (817, .if_icmp .ne 8, 3), (820, .bipush 10, 2), (822, .goto 4, 3), (825, .iconst 0, 1), (826, .ireturn, 1), (827, .aload_n 0, 1), (828, .getfield 115, 3), (831, .ifCond .ne 6, 3), (834, .bipush 7, 2), (836, .ireturn, 1), (837, .aload_n 0, 1), (838, .getfield 22, 3), (841, .aload_n 0, 1), (842, .invokevirtual 155, 3), (845, .iaload, 1), (846, .bipush 9, 2), (848, .if_icmp .ne 10, 3), (851, .aload_n 0, 1), (852, .invokevirtual 159, 3), (855, .ifCond .eq 6, 3), (858, .bipush 11, 2), (860, .ireturn, 1)] = true := by decide +kernel
theorem dX11_reason_783 : decode cX11_reason 783 = .ok (.ireturn, 1) := ckS_g gdX11_reason_783 0 rfl
theorem dX11_reason_784 : decode cX11_reason 784 = .ok (.aload_n 0, 1) := ckS_g gdX11_reason_783 1 rfl
theorem dX11_reason_785 : decode cX11_reason 785 = .ok (.getfield 115, 3) := ckS_g gdX11_reason_783 2 rfl
theorem dX11_reason_788 : decode cX11_reason 788 = .ok (.ifCond .ne 6, 3) := ckS_g gdX11_reason_783 3 rfl
theorem dX11_reason_791 : decode cX11_reason 791 = .ok (.bipush 7, 2) := ckS_g gdX11_reason_783 4 rfl
theorem dX11_reason_793 : decode cX11_reason 793 = .ok (.ireturn, 1) := ckS_g gdX11_reason_783 5 rfl
theorem dX11_reason_794 : decode cX11_reason 794 = .ok (.aload_n 0, 1) := ckS_g gdX11_reason_783 6 rfl
theorem dX11_reason_795 : decode cX11_reason 795 = .ok (.getfield 22, 3) := ckS_g gdX11_reason_783 7 rfl
theorem dX11_reason_798 : decode cX11_reason 798 = .ok (.aload_n 0, 1) := ckS_g gdX11_reason_783 8 rfl
theorem dX11_reason_799 : decode cX11_reason 799 = .ok (.invokevirtual 155, 3) := ckS_g gdX11_reason_783 9 rfl
theorem dX11_reason_802 : decode cX11_reason 802 = .ok (.iaload, 1) := ckS_g gdX11_reason_783 10 rfl
theorem dX11_reason_803 : decode cX11_reason 803 = .ok (.bipush 9, 2) := ckS_g gdX11_reason_783 11 rfl
theorem dX11_reason_805 : decode cX11_reason 805 = .ok (.if_icmp .ne 6, 3) := ckS_g gdX11_reason_783 12 rfl
theorem dX11_reason_808 : decode cX11_reason 808 = .ok (.bipush 11, 2) := ckS_g gdX11_reason_783 13 rfl
theorem dX11_reason_810 : decode cX11_reason 810 = .ok (.ireturn, 1) := ckS_g gdX11_reason_783 14 rfl
theorem dX11_reason_811 : decode cX11_reason 811 = .ok (.aload_n 0, 1) := ckS_g gdX11_reason_783 15 rfl
theorem dX11_reason_812 : decode cX11_reason 812 = .ok (.getfield 115, 3) := ckS_g gdX11_reason_783 16 rfl
theorem dX11_reason_815 : decode cX11_reason 815 = .ok (.bipush 9, 2) := ckS_g gdX11_reason_783 17 rfl
theorem dX11_reason_817 : decode cX11_reason 817 = .ok (.if_icmp .ne 8, 3) := ckS_g gdX11_reason_783 18 rfl
theorem dX11_reason_820 : decode cX11_reason 820 = .ok (.bipush 10, 2) := ckS_g gdX11_reason_783 19 rfl
theorem dX11_reason_822 : decode cX11_reason 822 = .ok (.goto 4, 3) := ckS_g gdX11_reason_783 20 rfl
theorem dX11_reason_825 : decode cX11_reason 825 = .ok (.iconst 0, 1) := ckS_g gdX11_reason_783 21 rfl
theorem dX11_reason_826 : decode cX11_reason 826 = .ok (.ireturn, 1) := ckS_g gdX11_reason_783 22 rfl
theorem dX11_reason_827 : decode cX11_reason 827 = .ok (.aload_n 0, 1) := ckS_g gdX11_reason_783 23 rfl
theorem dX11_reason_828 : decode cX11_reason 828 = .ok (.getfield 115, 3) := ckS_g gdX11_reason_783 24 rfl
theorem dX11_reason_831 : decode cX11_reason 831 = .ok (.ifCond .ne 6, 3) := ckS_g gdX11_reason_783 25 rfl
theorem dX11_reason_834 : decode cX11_reason 834 = .ok (.bipush 7, 2) := ckS_g gdX11_reason_783 26 rfl
theorem dX11_reason_836 : decode cX11_reason 836 = .ok (.ireturn, 1) := ckS_g gdX11_reason_783 27 rfl
theorem dX11_reason_837 : decode cX11_reason 837 = .ok (.aload_n 0, 1) := ckS_g gdX11_reason_783 28 rfl
theorem dX11_reason_838 : decode cX11_reason 838 = .ok (.getfield 22, 3) := ckS_g gdX11_reason_783 29 rfl
theorem dX11_reason_841 : decode cX11_reason 841 = .ok (.aload_n 0, 1) := ckS_g gdX11_reason_783 30 rfl
theorem dX11_reason_842 : decode cX11_reason 842 = .ok (.invokevirtual 155, 3) := ckS_g gdX11_reason_783 31 rfl
theorem dX11_reason_845 : decode cX11_reason 845 = .ok (.iaload, 1) := ckS_g gdX11_reason_783 32 rfl
theorem dX11_reason_846 : decode cX11_reason 846 = .ok (.bipush 9, 2) := ckS_g gdX11_reason_783 33 rfl
theorem dX11_reason_848 : decode cX11_reason 848 = .ok (.if_icmp .ne 10, 3) := ckS_g gdX11_reason_783 34 rfl
theorem dX11_reason_851 : decode cX11_reason 851 = .ok (.aload_n 0, 1) := ckS_g gdX11_reason_783 35 rfl
theorem dX11_reason_852 : decode cX11_reason 852 = .ok (.invokevirtual 159, 3) := ckS_g gdX11_reason_783 36 rfl
theorem dX11_reason_855 : decode cX11_reason 855 = .ok (.ifCond .eq 6, 3) := ckS_g gdX11_reason_783 37 rfl
theorem dX11_reason_858 : decode cX11_reason 858 = .ok (.bipush 11, 2) := ckS_g gdX11_reason_783 38 rfl
theorem dX11_reason_860 : decode cX11_reason 860 = .ok (.ireturn, 1) := ckS_g gdX11_reason_783 39 rfl
theorem gdX11_reason_861 : ckS (List.drop 861 cX11_reason.data.toList) 861 [(861, .aload_n 0, 1), (862, .iload_n 2, 1), (863, .invokevirtual 140, 3), (866, .ifCond .ne 6, 3), (869, .bipush 9, 2), (871, .ireturn, 1), (872, .aload_n 0, 1), (873, .getfield 9, 3), (876, .iload_n 2, 1), (877, .baload, 1), (878, .ifCond .ne 6, 3), (881, .bipush 8, 2), (883, .ireturn, 1), (884, .iload_n 2, 1), (885, .aload_n 0, 1), (886, .getfield 103, 3), (889, .if_icmp .ne 7, 3), (892, .iconst 2, 1), (893, .goto 4, 3), (896, .iconst 0, 1), (897, .ireturn, 1), (898, .aload_n 0, 1), (899, .aload_n 0, 1), (900, .getfield 103, 3), (903, .invokevirtual 178, 3), (906, .ifCond .ne 8, 3), (909, .bipush 8, 2), (911, .goto 16, 3), (914, .aload_n 0, 1), (915, .getfield 115, 3), (918, .ifCond .ne 8, 3), (921, .bipush 7, 2), (923, .goto 4, 3), (926, .iconst 0, 1), (927, .ireturn, 1), (928, .aload_n 0, 1), (929, .aload_n 0, 1), (930, .getfield 103, 3), (933, .invokevirtual 178, 3), (936, .ifCond .ne 8, 3)] = true := by decide +kernel
theorem dX11_reason_861 : decode cX11_reason 861 = .ok (.aload_n 0, 1) := ckS_g gdX11_reason_861 0 rfl
theorem dX11_reason_862 : decode cX11_reason 862 = .ok (.iload_n 2, 1) := ckS_g gdX11_reason_861 1 rfl
theorem dX11_reason_863 : decode cX11_reason 863 = .ok (.invokevirtual 140, 3) := ckS_g gdX11_reason_861 2 rfl
theorem dX11_reason_866 : decode cX11_reason 866 = .ok (.ifCond .ne 6, 3) := ckS_g gdX11_reason_861 3 rfl
theorem dX11_reason_869 : decode cX11_reason 869 = .ok (.bipush 9, 2) := ckS_g gdX11_reason_861 4 rfl
theorem dX11_reason_871 : decode cX11_reason 871 = .ok (.ireturn, 1) := ckS_g gdX11_reason_861 5 rfl
theorem dX11_reason_872 : decode cX11_reason 872 = .ok (.aload_n 0, 1) := ckS_g gdX11_reason_861 6 rfl
theorem dX11_reason_873 : decode cX11_reason 873 = .ok (.getfield 9, 3) := ckS_g gdX11_reason_861 7 rfl
theorem dX11_reason_876 : decode cX11_reason 876 = .ok (.iload_n 2, 1) := ckS_g gdX11_reason_861 8 rfl
theorem dX11_reason_877 : decode cX11_reason 877 = .ok (.baload, 1) := ckS_g gdX11_reason_861 9 rfl
theorem dX11_reason_878 : decode cX11_reason 878 = .ok (.ifCond .ne 6, 3) := ckS_g gdX11_reason_861 10 rfl
theorem dX11_reason_881 : decode cX11_reason 881 = .ok (.bipush 8, 2) := ckS_g gdX11_reason_861 11 rfl
theorem dX11_reason_883 : decode cX11_reason 883 = .ok (.ireturn, 1) := ckS_g gdX11_reason_861 12 rfl
theorem dX11_reason_884 : decode cX11_reason 884 = .ok (.iload_n 2, 1) := ckS_g gdX11_reason_861 13 rfl
theorem dX11_reason_885 : decode cX11_reason 885 = .ok (.aload_n 0, 1) := ckS_g gdX11_reason_861 14 rfl
theorem dX11_reason_886 : decode cX11_reason 886 = .ok (.getfield 103, 3) := ckS_g gdX11_reason_861 15 rfl
theorem dX11_reason_889 : decode cX11_reason 889 = .ok (.if_icmp .ne 7, 3) := ckS_g gdX11_reason_861 16 rfl
theorem dX11_reason_892 : decode cX11_reason 892 = .ok (.iconst 2, 1) := ckS_g gdX11_reason_861 17 rfl
theorem dX11_reason_893 : decode cX11_reason 893 = .ok (.goto 4, 3) := ckS_g gdX11_reason_861 18 rfl
theorem dX11_reason_896 : decode cX11_reason 896 = .ok (.iconst 0, 1) := ckS_g gdX11_reason_861 19 rfl
theorem dX11_reason_897 : decode cX11_reason 897 = .ok (.ireturn, 1) := ckS_g gdX11_reason_861 20 rfl
theorem dX11_reason_898 : decode cX11_reason 898 = .ok (.aload_n 0, 1) := ckS_g gdX11_reason_861 21 rfl
theorem dX11_reason_899 : decode cX11_reason 899 = .ok (.aload_n 0, 1) := ckS_g gdX11_reason_861 22 rfl
theorem dX11_reason_900 : decode cX11_reason 900 = .ok (.getfield 103, 3) := ckS_g gdX11_reason_861 23 rfl
theorem dX11_reason_903 : decode cX11_reason 903 = .ok (.invokevirtual 178, 3) := ckS_g gdX11_reason_861 24 rfl
theorem dX11_reason_906 : decode cX11_reason 906 = .ok (.ifCond .ne 8, 3) := ckS_g gdX11_reason_861 25 rfl
theorem dX11_reason_909 : decode cX11_reason 909 = .ok (.bipush 8, 2) := ckS_g gdX11_reason_861 26 rfl
theorem dX11_reason_911 : decode cX11_reason 911 = .ok (.goto 16, 3) := ckS_g gdX11_reason_861 27 rfl
theorem dX11_reason_914 : decode cX11_reason 914 = .ok (.aload_n 0, 1) := ckS_g gdX11_reason_861 28 rfl
theorem dX11_reason_915 : decode cX11_reason 915 = .ok (.getfield 115, 3) := ckS_g gdX11_reason_861 29 rfl
theorem dX11_reason_918 : decode cX11_reason 918 = .ok (.ifCond .ne 8, 3) := ckS_g gdX11_reason_861 30 rfl
theorem dX11_reason_921 : decode cX11_reason 921 = .ok (.bipush 7, 2) := ckS_g gdX11_reason_861 31 rfl
theorem dX11_reason_923 : decode cX11_reason 923 = .ok (.goto 4, 3) := ckS_g gdX11_reason_861 32 rfl
theorem dX11_reason_926 : decode cX11_reason 926 = .ok (.iconst 0, 1) := ckS_g gdX11_reason_861 33 rfl
theorem dX11_reason_927 : decode cX11_reason 927 = .ok (.ireturn, 1) := ckS_g gdX11_reason_861 34 rfl
theorem dX11_reason_928 : decode cX11_reason 928 = .ok (.aload_n 0, 1) := ckS_g gdX11_reason_861 35 rfl
theorem dX11_reason_929 : decode cX11_reason 929 = .ok (.aload_n 0, 1) := ckS_g gdX11_reason_861 36 rfl
theorem dX11_reason_930 : decode cX11_reason 930 = .ok (.getfield 103, 3) := ckS_g gdX11_reason_861 37 rfl
theorem dX11_reason_933 : decode cX11_reason 933 = .ok (.invokevirtual 178, 3) := ckS_g gdX11_reason_861 38 rfl
theorem dX11_reason_936 : decode cX11_reason 936 = .ok (.ifCond .ne 8, 3) := ckS_g gdX11_reason_861 39 rfl
theorem gdX11_reason_939 : ckS (List.drop 939 cX11_reason.data.toList) 939 [(939, .bipush 8, 2), (941, .goto 4, 3), (944, .iconst 0, 1), (945, .ireturn, 1)] = true := by decide +kernel
theorem dX11_reason_939 : decode cX11_reason 939 = .ok (.bipush 8, 2) := ckS_g gdX11_reason_939 0 rfl
theorem dX11_reason_941 : decode cX11_reason 941 = .ok (.goto 4, 3) := ckS_g gdX11_reason_939 1 rfl
theorem dX11_reason_944 : decode cX11_reason 944 = .ok (.iconst 0, 1) := ckS_g gdX11_reason_939 2 rfl
theorem dX11_reason_945 : decode cX11_reason 945 = .ok (.ireturn, 1) := ckS_g gdX11_reason_939 3 rfl
set_option maxRecDepth 100000 in
theorem z120 : wZ (.selects RX11 yX11_isHere yX11_isHere) := ⟨List.mem_append_left _ (List.mem_of_getElem? (i := 12) (by decide +kernel)), Or.inl rfl⟩
set_option maxRecDepth 100000 in
theorem z121 : wZ (.instanceMethod yX11_isHere) := ⟨wT6 (List.mem_of_getElem? (i := 51) (by decide +kernel)), Or.inl rfl⟩
set_option maxRecDepth 100000 in
theorem z122 : wZ (.methodLink RX11 178 yX11_isHere) := ⟨wT6 (List.mem_of_getElem? (i := 49) (by decide +kernel)), Or.inl rfl⟩
set_option maxRecDepth 100000 in
theorem z123 : wZ (.selects RX11 yX11_reasonOfMove yX11_reasonOfMove) := ⟨wT6 (List.mem_of_getElem? (i := 43) (by decide +kernel)), Or.inl rfl⟩
set_option maxRecDepth 100000 in
theorem z124 : wZ (.instanceMethod yX11_reasonOfMove) := ⟨wT6 (List.mem_of_getElem? (i := 42) (by decide +kernel)), Or.inl rfl⟩
set_option maxRecDepth 100000 in
theorem z125 : wZ (.methodLink RX11 175 yX11_reasonOfMove) := ⟨wT6 (List.mem_of_getElem? (i := 41) (by decide +kernel)), Or.inl rfl⟩
set_option maxRecDepth 100000 in
theorem z126 : wZ (.selects RX11 yX11_reasonOfLay yX11_reasonOfLay) := ⟨List.mem_append_left _ (List.mem_of_getElem? (i := 7) (by decide +kernel)), Or.inl rfl⟩
set_option maxRecDepth 100000 in
theorem z127 : wZ (.instanceMethod yX11_reasonOfLay) := ⟨wT6 (List.mem_of_getElem? (i := 27) (by decide +kernel)), Or.inl rfl⟩
set_option maxRecDepth 100000 in
theorem z128 : wZ (.methodLink RX11 171 yX11_reasonOfLay) := ⟨wT6 (List.mem_of_getElem? (i := 25) (by decide +kernel)), Or.inl rfl⟩
set_option maxRecDepth 100000 in
theorem z129 : wZ (.selects RX11 yX11_reasonOfWord yX11_reasonOfWord) := ⟨List.mem_append_left _ (List.mem_of_getElem? (i := 6) (by decide +kernel)), Or.inl rfl⟩
set_option maxRecDepth 100000 in
theorem z130 : wZ (.instanceMethod yX11_reasonOfWord) := ⟨wT6 (List.mem_of_getElem? (i := 20) (by decide +kernel)), Or.inl rfl⟩
set_option maxRecDepth 100000 in
theorem z131 : wZ (.methodLink RX11 167 yX11_reasonOfWord) := ⟨wT6 (List.mem_of_getElem? (i := 18) (by decide +kernel)), Or.inl rfl⟩
set_option maxRecDepth 100000 in
theorem z132 : wZ (.fieldLink RX11 109 "MotionFloorModel$Hall" "limit" "I") := ⟨wT5 (List.mem_of_getElem? (i := 42) (by decide +kernel)), Or.inl rfl⟩
set_option maxRecDepth 100000 in
theorem z133 : wZ (.fieldLink RX11 103 "MotionFloorModel$Hall" "chair" "I") := ⟨wT5 (List.mem_of_getElem? (i := 38) (by decide +kernel)), Or.inl rfl⟩
set_option maxRecDepth 100000 in
theorem z134 : wZ (.code yX11_reason cX11_reason 6 (some .int)) := ⟨wT6 (List.mem_of_getElem? (i := 0) rfl), Or.inl rfl⟩
def b_X11_reason_128 (S : HS) (x1 x2 x3 x4 x5 y0 : Int32) : Int32 × HS := (y0, S)
def q_X11_reason_128 (S : HS) (x1 x2 x3 x4 x5 y0 : Int32) : Prop := True
def b_X11_reason_a105 (S : HS) (x1 x2 x3 x4 x5 y0 : Int32) : Int32 × HS := if y0 = 0 then (b_X11_reason_128 S x1 x2 x3 x4 x5 9) else if (S.2 11 x2.toNatClampNeg) = 0 then (b_X11_reason_128 S x1 x2 x3 x4 x5 0) else (b_X11_reason_128 S x1 x2 x3 x4 x5 11)
def q_X11_reason_a105 (S : HS) (x1 x2 x3 x4 x5 y0 : Int32) : Prop := (if y0 = 0 then (q_X11_reason_128 S x1 x2 x3 x4 x5 9) else (vp_in x2 200) ∧ (if (S.2 11 x2.toNatClampNeg) = 0 then (q_X11_reason_128 S x1 x2 x3 x4 x5 0) else (q_X11_reason_128 S x1 x2 x3 x4 x5 11)))
def b_X11_reason_157 (S : HS) (x1 x2 x3 x4 x5 y0 : Int32) : Int32 × HS := (y0, S)
def q_X11_reason_157 (S : HS) (x1 x2 x3 x4 x5 y0 : Int32) : Prop := True
def b_X11_reason_a134 (S : HS) (x1 x2 x3 x4 x5 y0 : Int32) : Int32 × HS := if y0 = 0 then (b_X11_reason_157 S x1 x2 x3 x4 x5 9) else if (S.2 11 x2.toNatClampNeg) = 0 then (b_X11_reason_157 S x1 x2 x3 x4 x5 8) else (b_X11_reason_157 S x1 x2 x3 x4 x5 0)
def q_X11_reason_a134 (S : HS) (x1 x2 x3 x4 x5 y0 : Int32) : Prop := (if y0 = 0 then (q_X11_reason_157 S x1 x2 x3 x4 x5 9) else (vp_in x2 200) ∧ (if (S.2 11 x2.toNatClampNeg) = 0 then (q_X11_reason_157 S x1 x2 x3 x4 x5 8) else (q_X11_reason_157 S x1 x2 x3 x4 x5 0)))
def b_X11_reason_129 (S : HS) (x1 x2 x3 x4 x5 : Int32) : Int32 × HS := (b_X11_reason_a134 (f_X11_isSeat S x2).2 x1 x2 x3 x4 x5 (f_X11_isSeat S x2).1)
def q_X11_reason_129 (S : HS) (x1 x2 x3 x4 x5 : Int32) : Prop := (p_X11_isSeat S x2) ∧ (q_X11_reason_a134 (f_X11_isSeat S x2).2 x1 x2 x3 x4 x5 (f_X11_isSeat S x2).1)
def b_X11_reason_187 (S : HS) (x1 x2 x3 x4 x5 y0 : Int32) : Int32 × HS := (y0, S)
def q_X11_reason_187 (S : HS) (x1 x2 x3 x4 x5 y0 : Int32) : Prop := True
def b_X11_reason_225 (S : HS) (x1 x2 x3 x4 x5 y0 : Int32) : Int32 × HS := (y0, S)
def q_X11_reason_225 (S : HS) (x1 x2 x3 x4 x5 y0 : Int32) : Prop := True
def b_X11_reason_207 (S : HS) (x1 x2 x3 x4 x5 : Int32) : Int32 × HS := (b_X11_reason_225 S x1 x2 x3 x4 x5 9)
def q_X11_reason_207 (S : HS) (x1 x2 x3 x4 x5 : Int32) : Prop := (q_X11_reason_225 S x1 x2 x3 x4 x5 9)
def b_X11_reason_254 (S : HS) (x1 x2 x3 x4 x5 y0 : Int32) : Int32 × HS := (y0, S)
def q_X11_reason_254 (S : HS) (x1 x2 x3 x4 x5 y0 : Int32) : Prop := True
def b_X11_reason_294 (S : HS) (x1 x2 x3 x4 x5 : Int32) : Int32 × HS := (2, S)
def q_X11_reason_294 (S : HS) (x1 x2 x3 x4 x5 : Int32) : Prop := True
def b_X11_reason_360 (S : HS) (x1 x2 x3 x4 x5 y0 : Int32) : Int32 × HS := (y0, S)
def q_X11_reason_360 (S : HS) (x1 x2 x3 x4 x5 y0 : Int32) : Prop := True
def b_X11_reason_354 (S : HS) (x1 x2 x3 x4 x5 : Int32) : Int32 × HS := (b_X11_reason_360 S x1 x2 x3 x4 x5 6)
def q_X11_reason_354 (S : HS) (x1 x2 x3 x4 x5 : Int32) : Prop := (q_X11_reason_360 S x1 x2 x3 x4 x5 6)
def b_X11_reason_359 (S : HS) (x1 x2 x3 x4 x5 : Int32) : Int32 × HS := (b_X11_reason_360 S x1 x2 x3 x4 x5 0)
def q_X11_reason_359 (S : HS) (x1 x2 x3 x4 x5 : Int32) : Prop := (q_X11_reason_360 S x1 x2 x3 x4 x5 0)
def b_X11_reason_a346 (S : HS) (x1 x2 x3 x4 x5 y0 : Int32) : Int32 × HS := if (S.2 17 y0.toNatClampNeg) < (S.1 4) then (b_X11_reason_359 S x1 x2 x3 x4 x5) else (b_X11_reason_354 S x1 x2 x3 x4 x5)
def q_X11_reason_a346 (S : HS) (x1 x2 x3 x4 x5 y0 : Int32) : Prop := (vp_in y0 90) ∧ (if (S.2 17 y0.toNatClampNeg) < (S.1 4) then (q_X11_reason_359 S x1 x2 x3 x4 x5) else (q_X11_reason_354 S x1 x2 x3 x4 x5))
def b_X11_reason_a327 (S : HS) (x1 x2 x3 x4 x5 y0 : Int32) : Int32 × HS := if (S.2 24 y0.toNatClampNeg) = 0 then if (S.1 4) ≤ 0 then (b_X11_reason_359 S x1 x2 x3 x4 x5) else (b_X11_reason_a346 (f_X11_top S ).2 x1 x2 x3 x4 x5 (f_X11_top S ).1) else (b_X11_reason_354 S x1 x2 x3 x4 x5)
def q_X11_reason_a327 (S : HS) (x1 x2 x3 x4 x5 y0 : Int32) : Prop := (vp_in y0 90) ∧ (if (S.2 24 y0.toNatClampNeg) = 0 then (if (S.1 4) ≤ 0 then (q_X11_reason_359 S x1 x2 x3 x4 x5) else (p_X11_top S ) ∧ (q_X11_reason_a346 (f_X11_top S ).2 x1 x2 x3 x4 x5 (f_X11_top S ).1)) else (q_X11_reason_354 S x1 x2 x3 x4 x5))
def b_X11_reason_a313 (S : HS) (x1 x2 x3 x4 x5 y0 : Int32) : Int32 × HS := if (S.2 14 y0.toNatClampNeg) = 6 then (b_X11_reason_354 S x1 x2 x3 x4 x5) else (b_X11_reason_a327 (f_X11_top S ).2 x1 x2 x3 x4 x5 (f_X11_top S ).1)
def q_X11_reason_a313 (S : HS) (x1 x2 x3 x4 x5 y0 : Int32) : Prop := (vp_in y0 90) ∧ (if (S.2 14 y0.toNatClampNeg) = 6 then (q_X11_reason_354 S x1 x2 x3 x4 x5) else (p_X11_top S ) ∧ (q_X11_reason_a327 (f_X11_top S ).2 x1 x2 x3 x4 x5 (f_X11_top S ).1))
def b_X11_reason_a260 (S : HS) (x1 x2 x3 x4 x5 y0 : Int32) : Int32 × HS := if y0 = 0 then (9, S) else if (S.2 11 x2.toNatClampNeg) = 0 then (8, S) else if x2 = (S.1 2) then (b_X11_reason_294 S x1 x2 x3 x4 x5) else if (S.1 5) = (-1) then if (S.1 6) = 0 then (0, S) else (b_X11_reason_a313 (f_X11_top S ).2 x1 x2 x3 x4 x5 (f_X11_top S ).1) else (b_X11_reason_294 S x1 x2 x3 x4 x5)
def q_X11_reason_a260 (S : HS) (x1 x2 x3 x4 x5 y0 : Int32) : Prop := (if y0 = 0 then True else (vp_in x2 200) ∧ (if (S.2 11 x2.toNatClampNeg) = 0 then True else (if x2 = (S.1 2) then (q_X11_reason_294 S x1 x2 x3 x4 x5) else (if (S.1 5) = (-1) then (if (S.1 6) = 0 then True else (p_X11_top S ) ∧ (q_X11_reason_a313 (f_X11_top S ).2 x1 x2 x3 x4 x5 (f_X11_top S ).1)) else (q_X11_reason_294 S x1 x2 x3 x4 x5)))))
def b_X11_reason_374 (S : HS) (x1 x2 x3 x4 x5 y0 : Int32) : Int32 × HS := (y0, S)
def q_X11_reason_374 (S : HS) (x1 x2 x3 x4 x5 y0 : Int32) : Prop := True
def b_X11_reason_401 (S : HS) (x1 x2 x3 x4 x5 : Int32) : Int32 × HS := (2, S)
def q_X11_reason_401 (S : HS) (x1 x2 x3 x4 x5 : Int32) : Prop := True
def b_X11_reason_437 (S : HS) (x1 x2 x3 x4 x5 y0 : Int32) : Int32 × HS := (y0, S)
def q_X11_reason_437 (S : HS) (x1 x2 x3 x4 x5 y0 : Int32) : Prop := True
def b_X11_reason_a420 (S : HS) (x1 x2 x3 x4 x5 y0 : Int32) : Int32 × HS := if (f_X12_in (S.2 14 y0.toNatClampNeg) 6 8) = 0 then (b_X11_reason_437 S x1 x2 x3 x4 x5 0) else (b_X11_reason_437 S x1 x2 x3 x4 x5 6)
def q_X11_reason_a420 (S : HS) (x1 x2 x3 x4 x5 y0 : Int32) : Prop := (vp_in y0 90) ∧ (p_X12_in (S.2 14 y0.toNatClampNeg) 6 8) ∧ (if (f_X12_in (S.2 14 y0.toNatClampNeg) 6 8) = 0 then (q_X11_reason_437 S x1 x2 x3 x4 x5 0) else (q_X11_reason_437 S x1 x2 x3 x4 x5 6))
def b_X11_reason_a407 (S : HS) (x1 x2 x3 x4 x5 y0 : Int32) : Int32 × HS := if y0 = 0 then (3, S) else (b_X11_reason_a420 (f_X11_top S ).2 x1 x2 x3 x4 x5 (f_X11_top S ).1)
def q_X11_reason_a407 (S : HS) (x1 x2 x3 x4 x5 y0 : Int32) : Prop := (if y0 = 0 then True else (p_X11_top S ) ∧ (q_X11_reason_a420 (f_X11_top S ).2 x1 x2 x3 x4 x5 (f_X11_top S ).1))
def b_X11_reason_454 (S : HS) (x1 x2 x3 x4 x5 y0 : Int32) : Int32 × HS := (y0, S)
def q_X11_reason_454 (S : HS) (x1 x2 x3 x4 x5 y0 : Int32) : Prop := True
def b_X11_reason_516 (S : HS) (x1 x2 x3 x4 x5 y0 : Int32) : Int32 × HS := (y0, S)
def q_X11_reason_516 (S : HS) (x1 x2 x3 x4 x5 y0 : Int32) : Prop := True
def b_X11_reason_478 (S : HS) (x1 x2 x3 x4 x5 : Int32) : Int32 × HS := (b_X11_reason_516 S x1 x2 x3 x4 x5 11)
def q_X11_reason_478 (S : HS) (x1 x2 x3 x4 x5 : Int32) : Prop := (q_X11_reason_516 S x1 x2 x3 x4 x5 11)
def b_X11_reason_510 (S : HS) (x1 x2 x3 x4 x5 : Int32) : Int32 × HS := (b_X11_reason_516 S x1 x2 x3 x4 x5 9)
def q_X11_reason_510 (S : HS) (x1 x2 x3 x4 x5 : Int32) : Prop := (q_X11_reason_516 S x1 x2 x3 x4 x5 9)
def b_X11_reason_a461 (S : HS) (x1 x2 x3 x4 x5 y0 : Int32) : Int32 × HS := if y0 = 0 then (b_X11_reason_478 S x1 x2 x3 x4 x5) else if (S.2 25 (S.2 32 (0 : Int32).toNatClampNeg).toNatClampNeg) = 0 then if (f_X12_in x2 0 400) = 0 then (b_X11_reason_510 S x1 x2 x3 x4 x5) else if (f_X12_in x3 0 400) = 0 then (b_X11_reason_510 S x1 x2 x3 x4 x5) else if x2 ≤ x3 then (b_X11_reason_516 S x1 x2 x3 x4 x5 0) else (b_X11_reason_510 S x1 x2 x3 x4 x5) else (b_X11_reason_478 S x1 x2 x3 x4 x5)
def q_X11_reason_a461 (S : HS) (x1 x2 x3 x4 x5 y0 : Int32) : Prop := (if y0 = 0 then (q_X11_reason_478 S x1 x2 x3 x4 x5) else (vp_in 0 9) ∧ (vp_in (S.2 32 (0 : Int32).toNatClampNeg) 90) ∧ (if (S.2 25 (S.2 32 (0 : Int32).toNatClampNeg).toNatClampNeg) = 0 then (p_X12_in x2 0 400) ∧ (if (f_X12_in x2 0 400) = 0 then (q_X11_reason_510 S x1 x2 x3 x4 x5) else (p_X12_in x3 0 400) ∧ (if (f_X12_in x3 0 400) = 0 then (q_X11_reason_510 S x1 x2 x3 x4 x5) else (if x2 ≤ x3 then (q_X11_reason_516 S x1 x2 x3 x4 x5 0) else (q_X11_reason_510 S x1 x2 x3 x4 x5)))) else (q_X11_reason_478 S x1 x2 x3 x4 x5)))
def b_X11_reason_a527 (S : HS) (x1 x2 x3 x4 x5 y0 : Int32) : Int32 × HS := (y0, S)
def q_X11_reason_a527 (S : HS) (x1 x2 x3 x4 x5 y0 : Int32) : Prop := True
def b_X11_reason_a533 (S : HS) (x1 x2 x3 x4 x5 y0 : Int32) : Int32 × HS := (y0, S)
def q_X11_reason_a533 (S : HS) (x1 x2 x3 x4 x5 y0 : Int32) : Prop := True
def b_X11_reason_571 (S : HS) (x1 x2 x3 x4 x5 y0 : Int32) : Int32 × HS := (y0, S)
def q_X11_reason_571 (S : HS) (x1 x2 x3 x4 x5 y0 : Int32) : Prop := True
def b_X11_reason_565 (S : HS) (x1 x2 x3 x4 x5 : Int32) : Int32 × HS := (b_X11_reason_571 S x1 x2 x3 x4 x5 11)
def q_X11_reason_565 (S : HS) (x1 x2 x3 x4 x5 : Int32) : Prop := (q_X11_reason_571 S x1 x2 x3 x4 x5 11)
def b_X11_reason_a577 (S : HS) (x1 x2 x3 x4 x5 y0 : Int32) : Int32 × HS := (y0, S)
def q_X11_reason_a577 (S : HS) (x1 x2 x3 x4 x5 y0 : Int32) : Prop := True
def b_X11_reason_632 (S : HS) (x1 x2 x3 x4 x5 : Int32) : Int32 × HS := (3, S)
def q_X11_reason_632 (S : HS) (x1 x2 x3 x4 x5 : Int32) : Prop := True
def b_X11_reason_660 (S : HS) (x1 x2 x3 x4 x5 y0 : Int32) : Int32 × HS := (y0, S)
def q_X11_reason_660 (S : HS) (x1 x2 x3 x4 x5 y0 : Int32) : Prop := True
def b_X11_reason_655 (S : HS) (x1 x2 x3 x4 x5 : Int32) : Int32 × HS := (b_X11_reason_660 S x1 x2 x3 x4 x5 2)
def q_X11_reason_655 (S : HS) (x1 x2 x3 x4 x5 : Int32) : Prop := (q_X11_reason_660 S x1 x2 x3 x4 x5 2)
def b_X11_reason_a643 (S : HS) (x1 x2 x3 x4 x5 y0 y1 : Int32) : Int32 × HS := if y1 = (S.2 15 y0.toNatClampNeg) then (b_X11_reason_655 S x1 x2 x3 x4 x5) else if x2 = (S.1 2) then (b_X11_reason_655 S x1 x2 x3 x4 x5) else (b_X11_reason_660 S x1 x2 x3 x4 x5 0)
def q_X11_reason_a643 (S : HS) (x1 x2 x3 x4 x5 y0 y1 : Int32) : Prop := (vp_in y0 90) ∧ (if y1 = (S.2 15 y0.toNatClampNeg) then (q_X11_reason_655 S x1 x2 x3 x4 x5) else (if x2 = (S.1 2) then (q_X11_reason_655 S x1 x2 x3 x4 x5) else (q_X11_reason_660 S x1 x2 x3 x4 x5 0)))
def b_X11_reason_a626 (S : HS) (x1 x2 x3 x4 x5 y0 : Int32) : Int32 × HS := if (S.2 14 y0.toNatClampNeg) = 9 then (b_X11_reason_632 S x1 x2 x3 x4 x5) else (b_X11_reason_a643 (f_X11_top S ).2 x1 x2 x3 x4 x5 (f_X11_top S ).1 x2)
def q_X11_reason_a626 (S : HS) (x1 x2 x3 x4 x5 y0 : Int32) : Prop := (vp_in y0 90) ∧ (if (S.2 14 y0.toNatClampNeg) = 9 then (q_X11_reason_632 S x1 x2 x3 x4 x5) else (p_X11_top S ) ∧ (q_X11_reason_a643 (f_X11_top S ).2 x1 x2 x3 x4 x5 (f_X11_top S ).1 x2))
def b_X11_reason_a615 (S : HS) (x1 x2 x3 x4 x5 y0 : Int32) : Int32 × HS := if y0 = 0 then (b_X11_reason_a626 (f_X11_top S ).2 x1 x2 x3 x4 x5 (f_X11_top S ).1) else (b_X11_reason_632 S x1 x2 x3 x4 x5)
def q_X11_reason_a615 (S : HS) (x1 x2 x3 x4 x5 y0 : Int32) : Prop := (if y0 = 0 then (p_X11_top S ) ∧ (q_X11_reason_a626 (f_X11_top S ).2 x1 x2 x3 x4 x5 (f_X11_top S ).1) else (q_X11_reason_632 S x1 x2 x3 x4 x5))
def b_X11_reason_a593 (S : HS) (x1 x2 x3 x4 x5 y0 : Int32) : Int32 × HS := if y0 = 0 then (9, S) else if (S.2 11 x2.toNatClampNeg) = 0 then (8, S) else (b_X11_reason_a615 (f_X11_hasSeconder S ).2 x1 x2 x3 x4 x5 (f_X11_hasSeconder S ).1)
def q_X11_reason_a593 (S : HS) (x1 x2 x3 x4 x5 y0 : Int32) : Prop := (if y0 = 0 then True else (vp_in x2 200) ∧ (if (S.2 11 x2.toNatClampNeg) = 0 then True else (p_X11_hasSeconder S ) ∧ (q_X11_reason_a615 (f_X11_hasSeconder S ).2 x1 x2 x3 x4 x5 (f_X11_hasSeconder S ).1)))
def b_X11_reason_688 (S : HS) (x1 x2 x3 x4 x5 : Int32) : Int32 × HS := (9, S)
def q_X11_reason_688 (S : HS) (x1 x2 x3 x4 x5 : Int32) : Prop := True
def b_X11_reason_715 (S : HS) (x1 x2 x3 x4 x5 y0 : Int32) : Int32 × HS := (y0, S)
def q_X11_reason_715 (S : HS) (x1 x2 x3 x4 x5 y0 : Int32) : Prop := True
def b_X11_reason_a707 (S : HS) (x1 x2 x3 x4 x5 y0 : Int32) : Int32 × HS := if y0 = 0 then (b_X11_reason_715 S x1 x2 x3 x4 x5 3) else (b_X11_reason_715 S x1 x2 x3 x4 x5 0)
def q_X11_reason_a707 (S : HS) (x1 x2 x3 x4 x5 y0 : Int32) : Prop := (if y0 = 0 then (q_X11_reason_715 S x1 x2 x3 x4 x5 3) else (q_X11_reason_715 S x1 x2 x3 x4 x5 0))
def b_X11_reason_a676 (S : HS) (x1 x2 x3 x4 x5 y0 : Int32) : Int32 × HS := if y0 = 0 then (b_X11_reason_688 S x1 x2 x3 x4 x5) else if (f_X12_in x3 0 2) = 0 then (b_X11_reason_688 S x1 x2 x3 x4 x5) else if (S.2 11 x2.toNatClampNeg) = 0 then (8, S) else (b_X11_reason_a707 (f_X11_hasSeconder S ).2 x1 x2 x3 x4 x5 (f_X11_hasSeconder S ).1)
def q_X11_reason_a676 (S : HS) (x1 x2 x3 x4 x5 y0 : Int32) : Prop := (if y0 = 0 then (q_X11_reason_688 S x1 x2 x3 x4 x5) else (p_X12_in x3 0 2) ∧ (if (f_X12_in x3 0 2) = 0 then (q_X11_reason_688 S x1 x2 x3 x4 x5) else (vp_in x2 200) ∧ (if (S.2 11 x2.toNatClampNeg) = 0 then True else (p_X11_hasSeconder S ) ∧ (q_X11_reason_a707 (f_X11_hasSeconder S ).2 x1 x2 x3 x4 x5 (f_X11_hasSeconder S ).1))))
def b_X11_reason_753 (S : HS) (x1 x2 x3 x4 x5 : Int32) : Int32 × HS := (2, S)
def q_X11_reason_753 (S : HS) (x1 x2 x3 x4 x5 : Int32) : Prop := True
def b_X11_reason_769 (S : HS) (x1 x2 x3 x4 x5 y0 : Int32) : Int32 × HS := (y0, S)
def q_X11_reason_769 (S : HS) (x1 x2 x3 x4 x5 y0 : Int32) : Prop := True
def b_X11_reason_a760 (S : HS) (x1 x2 x3 x4 x5 y0 : Int32) : Int32 × HS := if y0 = 0 then (b_X11_reason_769 S x1 x2 x3 x4 x5 8) else (b_X11_reason_769 S x1 x2 x3 x4 x5 0)
def q_X11_reason_a760 (S : HS) (x1 x2 x3 x4 x5 y0 : Int32) : Prop := (if y0 = 0 then (q_X11_reason_769 S x1 x2 x3 x4 x5 8) else (q_X11_reason_769 S x1 x2 x3 x4 x5 0))
def b_X11_reason_a749 (S : HS) (x1 x2 x3 x4 x5 y0 y1 : Int32) : Int32 × HS := if y1 = (S.2 15 y0.toNatClampNeg) then (b_X11_reason_a760 (f_X11_isHere S x2).2 x1 x2 x3 x4 x5 (f_X11_isHere S x2).1) else (b_X11_reason_753 S x1 x2 x3 x4 x5)
def q_X11_reason_a749 (S : HS) (x1 x2 x3 x4 x5 y0 y1 : Int32) : Prop := (vp_in y0 90) ∧ (if y1 = (S.2 15 y0.toNatClampNeg) then (p_X11_isHere S x2) ∧ (q_X11_reason_a760 (f_X11_isHere S x2).2 x1 x2 x3 x4 x5 (f_X11_isHere S x2).1) else (q_X11_reason_753 S x1 x2 x3 x4 x5))
def b_X11_reason_a734 (S : HS) (x1 x2 x3 x4 x5 y0 : Int32) : Int32 × HS := if (S.2 14 y0.toNatClampNeg) = 9 then (b_X11_reason_753 S x1 x2 x3 x4 x5) else (b_X11_reason_a749 (f_X11_top S ).2 x1 x2 x3 x4 x5 (f_X11_top S ).1 x2)
def q_X11_reason_a734 (S : HS) (x1 x2 x3 x4 x5 y0 : Int32) : Prop := (vp_in y0 90) ∧ (if (S.2 14 y0.toNatClampNeg) = 9 then (q_X11_reason_753 S x1 x2 x3 x4 x5) else (p_X11_top S ) ∧ (q_X11_reason_a749 (f_X11_top S ).2 x1 x2 x3 x4 x5 (f_X11_top S ).1 x2))
def b_X11_reason_826 (S : HS) (x1 x2 x3 x4 x5 y0 : Int32) : Int32 × HS := (y0, S)
def q_X11_reason_826 (S : HS) (x1 x2 x3 x4 x5 y0 : Int32) : Prop := True
def b_X11_reason_a802 (S : HS) (x1 x2 x3 x4 x5 y0 : Int32) : Int32 × HS := if (S.2 14 y0.toNatClampNeg) = 9 then (11, S) else if (S.1 6) = 9 then (b_X11_reason_826 S x1 x2 x3 x4 x5 10) else (b_X11_reason_826 S x1 x2 x3 x4 x5 0)
def q_X11_reason_a802 (S : HS) (x1 x2 x3 x4 x5 y0 : Int32) : Prop := (vp_in y0 90) ∧ (if (S.2 14 y0.toNatClampNeg) = 9 then True else (if (S.1 6) = 9 then (q_X11_reason_826 S x1 x2 x3 x4 x5 10) else (q_X11_reason_826 S x1 x2 x3 x4 x5 0)))
def b_X11_reason_a778 (S : HS) (x1 x2 x3 x4 x5 y0 : Int32) : Int32 × HS := if y0 = 0 then (8, S) else if (S.1 6) = 0 then (7, S) else (b_X11_reason_a802 (f_X11_top S ).2 x1 x2 x3 x4 x5 (f_X11_top S ).1)
def q_X11_reason_a778 (S : HS) (x1 x2 x3 x4 x5 y0 : Int32) : Prop := (if y0 = 0 then True else (if (S.1 6) = 0 then True else (p_X11_top S ) ∧ (q_X11_reason_a802 (f_X11_top S ).2 x1 x2 x3 x4 x5 (f_X11_top S ).1)))
def b_X11_reason_858 (S : HS) (x1 x2 x3 x4 x5 : Int32) : Int32 × HS := (11, S)
def q_X11_reason_858 (S : HS) (x1 x2 x3 x4 x5 : Int32) : Prop := True
def b_X11_reason_897 (S : HS) (x1 x2 x3 x4 x5 y0 : Int32) : Int32 × HS := (y0, S)
def q_X11_reason_897 (S : HS) (x1 x2 x3 x4 x5 y0 : Int32) : Prop := True
def b_X11_reason_a866 (S : HS) (x1 x2 x3 x4 x5 y0 : Int32) : Int32 × HS := if y0 = 0 then (9, S) else if (S.2 11 x2.toNatClampNeg) = 0 then (8, S) else if x2 = (S.1 2) then (b_X11_reason_897 S x1 x2 x3 x4 x5 2) else (b_X11_reason_897 S x1 x2 x3 x4 x5 0)
def q_X11_reason_a866 (S : HS) (x1 x2 x3 x4 x5 y0 : Int32) : Prop := (if y0 = 0 then True else (vp_in x2 200) ∧ (if (S.2 11 x2.toNatClampNeg) = 0 then True else (if x2 = (S.1 2) then (q_X11_reason_897 S x1 x2 x3 x4 x5 2) else (q_X11_reason_897 S x1 x2 x3 x4 x5 0))))
def b_X11_reason_a855 (S : HS) (x1 x2 x3 x4 x5 y0 : Int32) : Int32 × HS := if y0 = 0 then (b_X11_reason_a866 (f_X11_isSeat S x2).2 x1 x2 x3 x4 x5 (f_X11_isSeat S x2).1) else (b_X11_reason_858 S x1 x2 x3 x4 x5)
def q_X11_reason_a855 (S : HS) (x1 x2 x3 x4 x5 y0 : Int32) : Prop := (if y0 = 0 then (p_X11_isSeat S x2) ∧ (q_X11_reason_a866 (f_X11_isSeat S x2).2 x1 x2 x3 x4 x5 (f_X11_isSeat S x2).1) else (q_X11_reason_858 S x1 x2 x3 x4 x5))
def b_X11_reason_a845 (S : HS) (x1 x2 x3 x4 x5 y0 : Int32) : Int32 × HS := if (S.2 14 y0.toNatClampNeg) = 9 then (b_X11_reason_a855 (f_X11_hasSeconder S ).2 x1 x2 x3 x4 x5 (f_X11_hasSeconder S ).1) else (b_X11_reason_858 S x1 x2 x3 x4 x5)
def q_X11_reason_a845 (S : HS) (x1 x2 x3 x4 x5 y0 : Int32) : Prop := (vp_in y0 90) ∧ (if (S.2 14 y0.toNatClampNeg) = 9 then (p_X11_hasSeconder S ) ∧ (q_X11_reason_a855 (f_X11_hasSeconder S ).2 x1 x2 x3 x4 x5 (f_X11_hasSeconder S ).1) else (q_X11_reason_858 S x1 x2 x3 x4 x5))
def b_X11_reason_927 (S : HS) (x1 x2 x3 x4 x5 y0 : Int32) : Int32 × HS := (y0, S)
def q_X11_reason_927 (S : HS) (x1 x2 x3 x4 x5 y0 : Int32) : Prop := True
def b_X11_reason_a906 (S : HS) (x1 x2 x3 x4 x5 y0 : Int32) : Int32 × HS := if y0 = 0 then (b_X11_reason_927 S x1 x2 x3 x4 x5 8) else if (S.1 6) = 0 then (b_X11_reason_927 S x1 x2 x3 x4 x5 7) else (b_X11_reason_927 S x1 x2 x3 x4 x5 0)
def q_X11_reason_a906 (S : HS) (x1 x2 x3 x4 x5 y0 : Int32) : Prop := (if y0 = 0 then (q_X11_reason_927 S x1 x2 x3 x4 x5 8) else (if (S.1 6) = 0 then (q_X11_reason_927 S x1 x2 x3 x4 x5 7) else (q_X11_reason_927 S x1 x2 x3 x4 x5 0)))
def b_X11_reason_945 (S : HS) (x1 x2 x3 x4 x5 y0 : Int32) : Int32 × HS := (y0, S)
def q_X11_reason_945 (S : HS) (x1 x2 x3 x4 x5 y0 : Int32) : Prop := True
def b_X11_reason_a936 (S : HS) (x1 x2 x3 x4 x5 y0 : Int32) : Int32 × HS := if y0 = 0 then (b_X11_reason_945 S x1 x2 x3 x4 x5 8) else (b_X11_reason_945 S x1 x2 x3 x4 x5 0)
def q_X11_reason_a936 (S : HS) (x1 x2 x3 x4 x5 y0 : Int32) : Prop := (if y0 = 0 then (q_X11_reason_945 S x1 x2 x3 x4 x5 8) else (q_X11_reason_945 S x1 x2 x3 x4 x5 0))
def f_X11_reason (S : HS) (x1 x2 x3 x4 x5 : Int32) : Int32 × HS := if x1 = 1 then (b_X11_reason_a105 (f_X11_isSeat S x2).2 x1 x2 x3 x4 x5 (f_X11_isSeat S x2).1) else if x1 = 2 then (b_X11_reason_129 S x1 x2 x3 x4 x5) else if x1 = 3 then if (f_X12_in x2 0 200) = 0 then (b_X11_reason_187 S x1 x2 x3 x4 x5 9) else if (S.1 6) ≤ 0 then (b_X11_reason_187 S x1 x2 x3 x4 x5 0) else (b_X11_reason_187 S x1 x2 x3 x4 x5 11) else if x1 = 4 then (b_X11_reason_129 S x1 x2 x3 x4 x5) else if x1 = 5 then if (f_X12_in x2 1 8) = 0 then (b_X11_reason_207 S x1 x2 x3 x4 x5) else if (f_X12_in x3 1 3) = 0 then (b_X11_reason_207 S x1 x2 x3 x4 x5) else if (S.1 6) ≤ 0 then (b_X11_reason_225 S x1 x2 x3 x4 x5 0) else (b_X11_reason_225 S x1 x2 x3 x4 x5 11) else if x1 = 6 then if (f_X12_in x2 0 99) = 0 then (b_X11_reason_254 S x1 x2 x3 x4 x5 9) else if (S.1 6) ≤ 0 then (b_X11_reason_254 S x1 x2 x3 x4 x5 0) else (b_X11_reason_254 S x1 x2 x3 x4 x5 11) else if x1 = 7 then (b_X11_reason_a260 (f_X11_isSeat S x2).2 x1 x2 x3 x4 x5 (f_X11_isSeat S x2).1) else if x1 = 8 then if (S.1 5) = (-1) then (b_X11_reason_374 S x1 x2 x3 x4 x5 2) else (b_X11_reason_374 S x1 x2 x3 x4 x5 0) else if x1 = 9 then if (S.1 6) = 0 then (7, S) else if (S.1 5) = (-1) then (b_X11_reason_401 S x1 x2 x3 x4 x5) else if (S.1 5) = x2 then (b_X11_reason_a407 (f_X11_hasSeconder S ).2 x1 x2 x3 x4 x5 (f_X11_hasSeconder S ).1) else (b_X11_reason_401 S x1 x2 x3 x4 x5) else if x1 = 10 then if (f_X12_in x2 1 8) = 0 then (b_X11_reason_454 S x1 x2 x3 x4 x5 9) else (b_X11_reason_454 S x1 x2 x3 x4 x5 0) else if x1 = 11 then (b_X11_reason_a461 (f_X11_hasDraft S 2 3).2 x1 x2 x3 x4 x5 (f_X11_hasDraft S 2 3).1) else if x1 = 12 then (b_X11_reason_a527 (f_X11_reasonOfWord S x2 x3 x4 x5).2 x1 x2 x3 x4 x5 (f_X11_reasonOfWord S x2 x3 x4 x5).1) else if x1 = 13 then (b_X11_reason_a533 (f_X11_reasonOfLay S x2).2 x1 x2 x3 x4 x5 (f_X11_reasonOfLay S x2).1) else if x1 = 14 then if (f_X12_in x2 0 7) = 0 then (b_X11_reason_571 S x1 x2 x3 x4 x5 9) else if 0 < (S.1 35) then (b_X11_reason_565 S x1 x2 x3 x4 x5) else if (S.2 34 x2.toNatClampNeg) = 0 then (b_X11_reason_565 S x1 x2 x3 x4 x5) else (b_X11_reason_571 S x1 x2 x3 x4 x5 0) else if x1 = 15 then (b_X11_reason_a577 (f_X11_reasonOfMove S x2).2 x1 x2 x3 x4 x5 (f_X11_reasonOfMove S x2).1) else if x1 = 16 then if (S.1 6) = 0 then (7, S) else (b_X11_reason_a593 (f_X11_isSeat S x2).2 x1 x2 x3 x4 x5 (f_X11_isSeat S x2).1) else if x1 = 17 then if (S.1 6) = 0 then (7, S) else (b_X11_reason_a676 (f_X11_isSeat S x2).2 x1 x2 x3 x4 x5 (f_X11_isSeat S x2).1) else if x1 = 18 then if (S.1 6) = 0 then (7, S) else (b_X11_reason_a734 (f_X11_top S ).2 x1 x2 x3 x4 x5 (f_X11_top S ).1) else if x1 = 19 then (b_X11_reason_a778 (f_X11_isHere S (S.1 2)).2 x1 x2 x3 x4 x5 (f_X11_isHere S (S.1 2)).1) else if x1 = 20 then if (S.1 6) = 0 then (7, S) else (b_X11_reason_a845 (f_X11_top S ).2 x1 x2 x3 x4 x5 (f_X11_top S ).1) else if x1 = 21 then (b_X11_reason_a906 (f_X11_isHere S (S.1 2)).2 x1 x2 x3 x4 x5 (f_X11_isHere S (S.1 2)).1) else (b_X11_reason_a936 (f_X11_isHere S (S.1 2)).2 x1 x2 x3 x4 x5 (f_X11_isHere S (S.1 2)).1)
def p_X11_reason (S : HS) (x1 x2 x3 x4 x5 : Int32) : Prop := (if x1 = 1 then (p_X11_isSeat S x2) ∧ (q_X11_reason_a105 (f_X11_isSeat S x2).2 x1 x2 x3 x4 x5 (f_X11_isSeat S x2).1) else (if x1 = 2 then (q_X11_reason_129 S x1 x2 x3 x4 x5) else (if x1 = 3 then (p_X12_in x2 0 200) ∧ (if (f_X12_in x2 0 200) = 0 then (q_X11_reason_187 S x1 x2 x3 x4 x5 9) else (if (S.1 6) ≤ 0 then (q_X11_reason_187 S x1 x2 x3 x4 x5 0) else (q_X11_reason_187 S x1 x2 x3 x4 x5 11))) else (if x1 = 4 then (q_X11_reason_129 S x1 x2 x3 x4 x5) else (if x1 = 5 then (p_X12_in x2 1 8) ∧ (if (f_X12_in x2 1 8) = 0 then (q_X11_reason_207 S x1 x2 x3 x4 x5) else (p_X12_in x3 1 3) ∧ (if (f_X12_in x3 1 3) = 0 then (q_X11_reason_207 S x1 x2 x3 x4 x5) else (if (S.1 6) ≤ 0 then (q_X11_reason_225 S x1 x2 x3 x4 x5 0) else (q_X11_reason_225 S x1 x2 x3 x4 x5 11)))) else (if x1 = 6 then (p_X12_in x2 0 99) ∧ (if (f_X12_in x2 0 99) = 0 then (q_X11_reason_254 S x1 x2 x3 x4 x5 9) else (if (S.1 6) ≤ 0 then (q_X11_reason_254 S x1 x2 x3 x4 x5 0) else (q_X11_reason_254 S x1 x2 x3 x4 x5 11))) else (if x1 = 7 then (p_X11_isSeat S x2) ∧ (q_X11_reason_a260 (f_X11_isSeat S x2).2 x1 x2 x3 x4 x5 (f_X11_isSeat S x2).1) else (if x1 = 8 then (if (S.1 5) = (-1) then (q_X11_reason_374 S x1 x2 x3 x4 x5 2) else (q_X11_reason_374 S x1 x2 x3 x4 x5 0)) else (if x1 = 9 then (if (S.1 6) = 0 then True else (if (S.1 5) = (-1) then (q_X11_reason_401 S x1 x2 x3 x4 x5) else (if (S.1 5) = x2 then (p_X11_hasSeconder S ) ∧ (q_X11_reason_a407 (f_X11_hasSeconder S ).2 x1 x2 x3 x4 x5 (f_X11_hasSeconder S ).1) else (q_X11_reason_401 S x1 x2 x3 x4 x5)))) else (if x1 = 10 then (p_X12_in x2 1 8) ∧ (if (f_X12_in x2 1 8) = 0 then (q_X11_reason_454 S x1 x2 x3 x4 x5 9) else (q_X11_reason_454 S x1 x2 x3 x4 x5 0)) else (if x1 = 11 then (p_X11_hasDraft S 2 3) ∧ (q_X11_reason_a461 (f_X11_hasDraft S 2 3).2 x1 x2 x3 x4 x5 (f_X11_hasDraft S 2 3).1) else (if x1 = 12 then (p_X11_reasonOfWord S x2 x3 x4 x5) ∧ (q_X11_reason_a527 (f_X11_reasonOfWord S x2 x3 x4 x5).2 x1 x2 x3 x4 x5 (f_X11_reasonOfWord S x2 x3 x4 x5).1) else (if x1 = 13 then (p_X11_reasonOfLay S x2) ∧ (q_X11_reason_a533 (f_X11_reasonOfLay S x2).2 x1 x2 x3 x4 x5 (f_X11_reasonOfLay S x2).1) else (if x1 = 14 then (p_X12_in x2 0 7) ∧ (if (f_X12_in x2 0 7) = 0 then (q_X11_reason_571 S x1 x2 x3 x4 x5 9) else (if 0 < (S.1 35) then (q_X11_reason_565 S x1 x2 x3 x4 x5) else (vp_in x2 8) ∧ (if (S.2 34 x2.toNatClampNeg) = 0 then (q_X11_reason_565 S x1 x2 x3 x4 x5) else (q_X11_reason_571 S x1 x2 x3 x4 x5 0)))) else (if x1 = 15 then (p_X11_reasonOfMove S x2) ∧ (q_X11_reason_a577 (f_X11_reasonOfMove S x2).2 x1 x2 x3 x4 x5 (f_X11_reasonOfMove S x2).1) else (if x1 = 16 then (if (S.1 6) = 0 then True else (p_X11_isSeat S x2) ∧ (q_X11_reason_a593 (f_X11_isSeat S x2).2 x1 x2 x3 x4 x5 (f_X11_isSeat S x2).1)) else (if x1 = 17 then (if (S.1 6) = 0 then True else (p_X11_isSeat S x2) ∧ (q_X11_reason_a676 (f_X11_isSeat S x2).2 x1 x2 x3 x4 x5 (f_X11_isSeat S x2).1)) else (if x1 = 18 then (if (S.1 6) = 0 then True else (p_X11_top S ) ∧ (q_X11_reason_a734 (f_X11_top S ).2 x1 x2 x3 x4 x5 (f_X11_top S ).1)) else (if x1 = 19 then (p_X11_isHere S (S.1 2)) ∧ (q_X11_reason_a778 (f_X11_isHere S (S.1 2)).2 x1 x2 x3 x4 x5 (f_X11_isHere S (S.1 2)).1) else (if x1 = 20 then (if (S.1 6) = 0 then True else (p_X11_top S ) ∧ (q_X11_reason_a845 (f_X11_top S ).2 x1 x2 x3 x4 x5 (f_X11_top S ).1)) else (if x1 = 21 then (p_X11_isHere S (S.1 2)) ∧ (q_X11_reason_a906 (f_X11_isHere S (S.1 2)).2 x1 x2 x3 x4 x5 (f_X11_isHere S (S.1 2)).1) else (p_X11_isHere S (S.1 2)) ∧ (q_X11_reason_a936 (f_X11_isHere S (S.1 2)).2 x1 x2 x3 x4 x5 (f_X11_isHere S (S.1 2)).1))))))))))))))))))))))
def e_X11_reason : List Cond := [.methodLink RX11 140 yX11_isSeat, .instanceMethod yX11_isSeat, .selects RX11 yX11_isSeat yX11_isSeat, .initialized RX11, .fieldLink RX11 9 "MotionFloorModel$Hall" "isThere" "[Z", .initialized RX12, .static yX12_in, .fieldLink RX11 115 "MotionFloorModel$Hall" "pending" "I", .fieldLink RX11 103 "MotionFloorModel$Hall" "chair" "I", .fieldLink RX11 112 "MotionFloorModel$Hall" "floor" "I", .fieldLink RX11 22 "MotionFloorModel$Hall" "kind" "[I", .methodLink RX11 155 yX11_top, .instanceMethod yX11_top, .selects RX11 yX11_top yX11_top, .fieldLink RX11 52 "MotionFloorModel$Hall" "closed" "[Z", .fieldLink RX11 109 "MotionFloorModel$Hall" "limit" "I", .fieldLink RX11 31 "MotionFloorModel$Hall" "floors" "[I", .methodLink RX11 159 yX11_hasSeconder, .instanceMethod yX11_hasSeconder, .selects RX11 yX11_hasSeconder yX11_hasSeconder, .methodLink RX11 163 yX11_hasDraft, .instanceMethod yX11_hasDraft, .selects RX11 yX11_hasDraft yX11_hasDraft, .fieldLink RX11 55 "MotionFloorModel$Hall" "laid" "[Z", .fieldLink RX11 75 "MotionFloorModel$Hall" "draft" "[I", .methodLink RX11 167 yX11_reasonOfWord, .instanceMethod yX11_reasonOfWord, .selects RX11 yX11_reasonOfWord yX11_reasonOfWord, .methodLink RX11 171 yX11_reasonOfLay, .instanceMethod yX11_reasonOfLay, .selects RX11 yX11_reasonOfLay yX11_reasonOfLay, .fieldLink RX11 130 "MotionFloorModel$Hall" "drafted" "I", .fieldLink RX11 81 "MotionFloorModel$Hall" "lying" "[I", .methodLink RX11 175 yX11_reasonOfMove, .instanceMethod yX11_reasonOfMove, .selects RX11 yX11_reasonOfMove yX11_reasonOfMove, .fieldLink RX11 25 "MotionFloorModel$Hall" "mover" "[I", .methodLink RX11 178 yX11_isHere, .instanceMethod yX11_isHere, .selects RX11 yX11_isHere yX11_isHere]
def v_X11_reason : List Cond := .code yX11_reason cX11_reason 6 (some .int) :: (e_X11_reason ++ (wsX110 ++ (v_X11_isSeat ++ (v_X12_in ++ (v_X11_top ++ (v_X11_hasSeconder ++ (v_X11_hasDraft ++ (v_X11_reasonOfWord ++ (v_X11_reasonOfLay ++ (v_X11_reasonOfMove ++ (v_X11_isHere ++ [])))))))))))
theorem te_X11_reason : GoodIn lw_tbl e_X11_reason := wGc z54 (wGc z53 (wGc z52 (wGc z51 (wGc z50 (wGc z1 (wGc z2 (wGc z56 (wGc z133 (wGc z118 (wGc z78 (wGc z91 (wGc z90 (wGc z89 (wGc z60 (wGc z132 (wGc z62 (wGc z112 (wGc z111 (wGc z110 (wGc z98 (wGc z97 (wGc z96 (wGc z72 (wGc z84 (wGc z131 (wGc z130 (wGc z129 (wGc z128 (wGc z127 (wGc z126 (wGc z86 (wGc z81 (wGc z125 (wGc z124 (wGc z123 (wGc z77 (wGc z122 (wGc z121 (wGc z120 (wG0))))))))))))))))))))))))))))))))))))))))
theorem t_X11_reason : GoodIn lw_tbl v_X11_reason := wGc z134 (wGa te_X11_reason (wGa zcX11 (wGa t_X11_isSeat (wGa t_X12_in (wGa t_X11_top (wGa t_X11_hasSeconder (wGa t_X11_hasDraft (wGa t_X11_reasonOfWord (wGa t_X11_reasonOfLay (wGa t_X11_reasonOfMove (wGa t_X11_isHere (wG0))))))))))))
set_option maxHeartbeats 4000000 in
set_option maxRecDepth 100000 in
theorem c_X11_reason (l : Launch) (G : va_G) (K : Nat → ClassId) (h : Nat) (g : Nat → Nat) (S0 : HS) (a1 a2 a3 a4 a5 : Int32) (sz : Nat) : Met l yX11_reason v_X11_reason ({ frames := 3, cells := 0, slots := 0, locals := 69 }) (va_Pc [.ref h, .int a1, .int a2, .int a3, .int a4, .int a5] (hS G K h g sz S0 (p_X11_reason S0 a1 a2 a3 a4 a5))) (va_Qi (fun (r : Int32) (u : HS) => (r, u) = f_X11_reason S0 a1 a2 a3 a4 a5) (hB G K h g (va_A (hW K h g S0) sz)) (va_A (hW K h g S0) sz)) 0 0 (va_A (hW K h g S0) sz) := by
  refine Met.ofW (cc := cX11_reason) (maxL := 6) (ret := (some .int)) (by decide) rfl ?_
  intro p e s m args below meth c s₁ B hml hv
  obtain ⟨rfl, ⟨hsz, hP, hK, hD0, hTE⟩, hp⟩ := hv
  have hx := B.exec
  have hb := B.bytes
  have hr := B.returns
  have hts := atoms_spec (ws := v_X11_reason) B.pre
  have t_ := t_X11_reason
  have mw : ∀ w ∈ e_X11_reason, w ∈ v_X11_reason := fun w h => List.mem_cons_of_mem _ (List.mem_append_left _ h)
  have hw := fun w (h : w ∈ e_X11_reason) => hts w (mw w h)
  have iX11 : ∀ w ∈ wsX110, w ∈ v_X11_reason := fun w h => List.mem_cons_of_mem _ (List.mem_append_right _ (List.mem_append_left _ h))
  have j_X11_isSeat : ∀ w ∈ v_X11_isSeat, w ∈ v_X11_reason := fun w h => List.mem_cons_of_mem _ (List.mem_append_right _ (List.mem_append_right _ (List.mem_append_left _ h)))
  have j_X12_in : ∀ w ∈ v_X12_in, w ∈ v_X11_reason := fun w h => List.mem_cons_of_mem _ (List.mem_append_right _ (List.mem_append_right _ (List.mem_append_right _ (List.mem_append_left _ h))))
  have j_X11_top : ∀ w ∈ v_X11_top, w ∈ v_X11_reason := fun w h => List.mem_cons_of_mem _ (List.mem_append_right _ (List.mem_append_right _ (List.mem_append_right _ (List.mem_append_right _ (List.mem_append_left _ h)))))
  have j_X11_hasSeconder : ∀ w ∈ v_X11_hasSeconder, w ∈ v_X11_reason := fun w h => List.mem_cons_of_mem _ (List.mem_append_right _ (List.mem_append_right _ (List.mem_append_right _ (List.mem_append_right _ (List.mem_append_right _ (List.mem_append_left _ h))))))
  have j_X11_hasDraft : ∀ w ∈ v_X11_hasDraft, w ∈ v_X11_reason := fun w h => List.mem_cons_of_mem _ (List.mem_append_right _ (List.mem_append_right _ (List.mem_append_right _ (List.mem_append_right _ (List.mem_append_right _ (List.mem_append_right _ (List.mem_append_left _ h)))))))
  have j_X11_reasonOfWord : ∀ w ∈ v_X11_reasonOfWord, w ∈ v_X11_reason := fun w h => List.mem_cons_of_mem _ (List.mem_append_right _ (List.mem_append_right _ (List.mem_append_right _ (List.mem_append_right _ (List.mem_append_right _ (List.mem_append_right _ (List.mem_append_right _ (List.mem_append_left _ h))))))))
  have j_X11_reasonOfLay : ∀ w ∈ v_X11_reasonOfLay, w ∈ v_X11_reason := fun w h => List.mem_cons_of_mem _ (List.mem_append_right _ (List.mem_append_right _ (List.mem_append_right _ (List.mem_append_right _ (List.mem_append_right _ (List.mem_append_right _ (List.mem_append_right _ (List.mem_append_right _ (List.mem_append_left _ h)))))))))
  have j_X11_reasonOfMove : ∀ w ∈ v_X11_reasonOfMove, w ∈ v_X11_reason := fun w h => List.mem_cons_of_mem _ (List.mem_append_right _ (List.mem_append_right _ (List.mem_append_right _ (List.mem_append_right _ (List.mem_append_right _ (List.mem_append_right _ (List.mem_append_right _ (List.mem_append_right _ (List.mem_append_right _ (List.mem_append_left _ h))))))))))
  have j_X11_isHere : ∀ w ∈ v_X11_isHere, w ∈ v_X11_reason := fun w h => List.mem_cons_of_mem _ (List.mem_append_right _ (List.mem_append_right _ (List.mem_append_right _ (List.mem_append_right _ (List.mem_append_right _ (List.mem_append_right _ (List.mem_append_right _ (List.mem_append_right _ (List.mem_append_right _ (List.mem_append_right _ (List.mem_append_left _ h)))))))))))
  have hown : s.vm.findClass RX11 = some m.cls := findClass_of_methodNamed B.named
  have hlocks := B.notSynchronized
  subst hsz
  have hD := hD0.self (sz := s.heap.size)
  generalize hAe : va_A (hW K h g S0) s.heap.size = A at hD ⊢
  have hA : ∀ q : Nat, s.heap.size ≤ q → A q := fun q h => by rw [← hAe]; exact Or.inr h
  have hS : va_S A s.heap s.heap [] := va_S.rf
  have hl := lv_entry ([.ref h, .int a1, .int a2, .int a3, .int a4, .int a5]) (n := 6) (Nat.le_of_ble_eq_true rfl)
  rw [lg_entry_eq]
  generalize (lg_sl ([.ref h, .int a1, .int a2, .int a3, .int a4, .int a5]) ++ List.replicate (6 - (lg_sl ([.ref h, .int a1, .int a2, .int a3, .int a4, .int a5])).length) Slot.unset).toArray = ls at hl ⊢
  have hl : lv_has ls 6 [(0, .ref h), (1, .int a1), (2, .int a2), (3, .int a3), (4, .int a4), (5, .int a5)] := hl
  refine wGen (fun Q hQ => ?_)
  obtain ⟨X, hX⟩ : ∃ X, f_X11_reason S0 a1 a2 a3 a4 a5 = X := ⟨_, rfl⟩
  have B_128 : ∀ (S : HS) (x1 x2 x3 x4 x5 y0 : Int32) (H : Heap) (locs : List Loc) (ls : Array Slot), b_X11_reason_128 S x1 x2 x3 x4 x5 y0 = X → q_X11_reason_128 S x1 x2 x3 x4 x5 y0 → va_P G vwCl (hW K h g S) H → va_D A (hW K h g S) → va_S A s.heap H locs → lv_has ls 6 [(0, .ref h), (1, .int x1), (2, .int x2), (3, .int x3), (4, .int x4), (5, .int x5)] → W p l e ({ frames := 3, cells := 0, slots := 0, locals := 69 } : Room) s m #[Value.ref h, Value.int a1, Value.int a2, Value.int a3, Value.int a4, Value.int a5] below meth c H locs 0 0 Q (F0 m 128 ls [.int y0]) := by
    intro S x1 x2 x3 x4 x5 y0 H locs ls hE hp hP hD hS hl
    unfold b_X11_reason_128 at hE
    unfold q_X11_reason_128 at hp
    subst hQ
    exact W.iret (v := y0) hx hb hr (fun t ht hW => ⟨⟨y0, S, rfl, hE.trans hX.symm, by rw [ht]; exact hP, hD⟩, hS.F ht⟩) hS.2.2 dX11_reason_128
  have B_157 : ∀ (S : HS) (x1 x2 x3 x4 x5 y0 : Int32) (H : Heap) (locs : List Loc) (ls : Array Slot), b_X11_reason_157 S x1 x2 x3 x4 x5 y0 = X → q_X11_reason_157 S x1 x2 x3 x4 x5 y0 → va_P G vwCl (hW K h g S) H → va_D A (hW K h g S) → va_S A s.heap H locs → lv_has ls 6 [(0, .ref h), (1, .int x1), (2, .int x2), (3, .int x3), (4, .int x4), (5, .int x5)] → W p l e ({ frames := 3, cells := 0, slots := 0, locals := 69 } : Room) s m #[Value.ref h, Value.int a1, Value.int a2, Value.int a3, Value.int a4, Value.int a5] below meth c H locs 0 0 Q (F0 m 157 ls [.int y0]) := by
    intro S x1 x2 x3 x4 x5 y0 H locs ls hE hp hP hD hS hl
    unfold b_X11_reason_157 at hE
    unfold q_X11_reason_157 at hp
    subst hQ
    exact W.iret (v := y0) hx hb hr (fun t ht hW => ⟨⟨y0, S, rfl, hE.trans hX.symm, by rw [ht]; exact hP, hD⟩, hS.F ht⟩) hS.2.2 dX11_reason_157
  have B_129 : ∀ (S : HS) (x1 x2 x3 x4 x5 : Int32) (H : Heap) (locs : List Loc) (ls : Array Slot), b_X11_reason_129 S x1 x2 x3 x4 x5 = X → q_X11_reason_129 S x1 x2 x3 x4 x5 → va_P G vwCl (hW K h g S) H → va_D A (hW K h g S) → va_S A s.heap H locs → lv_has ls 6 [(0, .ref h), (1, .int x1), (2, .int x2), (3, .int x3), (4, .int x4), (5, .int x5)] → W p l e ({ frames := 3, cells := 0, slots := 0, locals := 69 } : Room) s m #[Value.ref h, Value.int a1, Value.int a2, Value.int a3, Value.int a4, Value.int a5] below meth c H locs 0 0 Q (F0 m 129 ls []) := by
    intro S x1 x2 x3 x4 x5 H locs ls hE hp hP hD hS hl
    unfold b_X11_reason_129 at hE
    unfold q_X11_reason_129 at hp
    refine lv_aload_n hx hb dX11_reason_129 rfl (lv_at hl 0 rfl) ?_
    refine lv_iload_n hx hb dX11_reason_130 rfl (lv_at hl 2 rfl) ?_
    obtain ⟨hy10, hp⟩ := hp
    refine hGoi (va_runV (As := [.int x2]) (rest := []) ⟨hx, hb, hml, hown, hts⟩ (c_X11_isSeat l G K h g S x2 _) (cwV 1 hts (wGV t_ (mw (.methodLink RX11 140 yX11_isSeat) (List.mem_of_getElem? (i := 0) rfl)) (mw (.instanceMethod yX11_isSeat) (List.mem_of_getElem? (i := 1) rfl)) (mw (.selects RX11 yX11_isSeat yX11_isSeat) (List.mem_of_getElem? (i := 2) rfl)) (mw (.initialized RX11) (List.mem_of_getElem? (i := 3) rfl)) j_X11_isSeat) rfl rfl rfl (by decide +kernel) ⟨Nat.le_of_ble_eq_true rfl, Nat.le_of_ble_eq_true rfl⟩) (hPV hK hTE hP hD hy10) rfl rfl hl.1 rfl (lv_room (Nat.le_of_ble_eq_true rfl)) dX11_reason_131 ⟨Nat.le_of_ble_eq_true rfl, Nat.le_of_ble_eq_true rfl⟩) hP hD hS hA (fun r12 u11 H locs hv hP hD hS => ?_)
    rw [← hv] at hE hp
    dsimp only at hE hp
    unfold b_X11_reason_a134 at hE
    unfold q_X11_reason_a134 at hp
    refine lv_if_ne (tgt := 142) hx hb dX11_reason_134 (by decide) (fun c13 => ?_) (fun c13 => ?_)
    · rw [if_neg c13] at hE hp
      refine lv_aload_n hx hb dX11_reason_142 rfl (lv_at hl 0 rfl) ?_
      refine va_get (D := G) (ci := 8) (v := .ref (g 11)) (C := RX11) (T := TX11) (N := 42) hx hb hts iX11 hown hK hP 0 rfl rfl 11 (by decide) (hw (.fieldLink RX11 9 "MotionFloorModel$Hall" "isThere" "[Z") (List.mem_of_getElem? (i := 4) rfl)) (fun _ h9 => h9) rfl dX11_reason_143 ?_
      refine lv_iload_n hx hb dX11_reason_146 rfl (lv_at hl 2 rfl) ?_
      obtain ⟨hy14, hp⟩ := hp
      refine va_zald hx hb hK hP 1 1 rfl rfl hy14 dX11_reason_147 ?_
      refine lv_if_ne (tgt := 156) hx hb dX11_reason_148 (by decide) (fun c15 => ?_) (fun c15 => ?_)
      · rw [if_neg c15] at hE hp
        refine lv_iconst (v := 0) hx hb dX11_reason_156 (by decide) ?_
        exact B_157 u11 x1 x2 x3 x4 x5 0 _ _ _ hE hp hP hD hS (lv_sub hl [0, 1, 2, 3, 4, 5] rfl)
      · rw [if_pos c15] at hE hp
        refine lv_bipush (v := 8) hx hb dX11_reason_151 (by decide) ?_
        refine lv_goto (tgt := 157) hx hb dX11_reason_153 (by decide) ?_
        exact B_157 u11 x1 x2 x3 x4 x5 8 _ _ _ hE hp hP hD hS (lv_sub hl [0, 1, 2, 3, 4, 5] rfl)
    · rw [if_pos c13] at hE hp
      refine lv_bipush (v := 9) hx hb dX11_reason_137 (by decide) ?_
      refine lv_goto (tgt := 157) hx hb dX11_reason_139 (by decide) ?_
      exact B_157 u11 x1 x2 x3 x4 x5 9 _ _ _ hE hp hP hD hS (lv_sub hl [0, 1, 2, 3, 4, 5] rfl)
  have B_187 : ∀ (S : HS) (x1 x2 x3 x4 x5 y0 : Int32) (H : Heap) (locs : List Loc) (ls : Array Slot), b_X11_reason_187 S x1 x2 x3 x4 x5 y0 = X → q_X11_reason_187 S x1 x2 x3 x4 x5 y0 → va_P G vwCl (hW K h g S) H → va_D A (hW K h g S) → va_S A s.heap H locs → lv_has ls 6 [(0, .ref h), (1, .int x1), (2, .int x2), (3, .int x3), (4, .int x4), (5, .int x5)] → W p l e ({ frames := 3, cells := 0, slots := 0, locals := 69 } : Room) s m #[Value.ref h, Value.int a1, Value.int a2, Value.int a3, Value.int a4, Value.int a5] below meth c H locs 0 0 Q (F0 m 187 ls [.int y0]) := by
    intro S x1 x2 x3 x4 x5 y0 H locs ls hE hp hP hD hS hl
    unfold b_X11_reason_187 at hE
    unfold q_X11_reason_187 at hp
    subst hQ
    exact W.iret (v := y0) hx hb hr (fun t ht hW => ⟨⟨y0, S, rfl, hE.trans hX.symm, by rw [ht]; exact hP, hD⟩, hS.F ht⟩) hS.2.2 dX11_reason_187
  have B_225 : ∀ (S : HS) (x1 x2 x3 x4 x5 y0 : Int32) (H : Heap) (locs : List Loc) (ls : Array Slot), b_X11_reason_225 S x1 x2 x3 x4 x5 y0 = X → q_X11_reason_225 S x1 x2 x3 x4 x5 y0 → va_P G vwCl (hW K h g S) H → va_D A (hW K h g S) → va_S A s.heap H locs → lv_has ls 6 [(0, .ref h), (1, .int x1), (2, .int x2), (3, .int x3), (4, .int x4), (5, .int x5)] → W p l e ({ frames := 3, cells := 0, slots := 0, locals := 69 } : Room) s m #[Value.ref h, Value.int a1, Value.int a2, Value.int a3, Value.int a4, Value.int a5] below meth c H locs 0 0 Q (F0 m 225 ls [.int y0]) := by
    intro S x1 x2 x3 x4 x5 y0 H locs ls hE hp hP hD hS hl
    unfold b_X11_reason_225 at hE
    unfold q_X11_reason_225 at hp
    subst hQ
    exact W.iret (v := y0) hx hb hr (fun t ht hW => ⟨⟨y0, S, rfl, hE.trans hX.symm, by rw [ht]; exact hP, hD⟩, hS.F ht⟩) hS.2.2 dX11_reason_225
  have B_207 : ∀ (S : HS) (x1 x2 x3 x4 x5 : Int32) (H : Heap) (locs : List Loc) (ls : Array Slot), b_X11_reason_207 S x1 x2 x3 x4 x5 = X → q_X11_reason_207 S x1 x2 x3 x4 x5 → va_P G vwCl (hW K h g S) H → va_D A (hW K h g S) → va_S A s.heap H locs → lv_has ls 6 [(0, .ref h), (1, .int x1), (2, .int x2), (3, .int x3), (4, .int x4), (5, .int x5)] → W p l e ({ frames := 3, cells := 0, slots := 0, locals := 69 } : Room) s m #[Value.ref h, Value.int a1, Value.int a2, Value.int a3, Value.int a4, Value.int a5] below meth c H locs 0 0 Q (F0 m 207 ls []) := by
    intro S x1 x2 x3 x4 x5 H locs ls hE hp hP hD hS hl
    unfold b_X11_reason_207 at hE
    unfold q_X11_reason_207 at hp
    refine lv_bipush (v := 9) hx hb dX11_reason_207 (by decide) ?_
    refine lv_goto (tgt := 225) hx hb dX11_reason_209 (by decide) ?_
    exact B_225 S x1 x2 x3 x4 x5 9 _ _ _ hE hp hP hD hS (lv_sub hl [0, 1, 2, 3, 4, 5] rfl)
  have B_254 : ∀ (S : HS) (x1 x2 x3 x4 x5 y0 : Int32) (H : Heap) (locs : List Loc) (ls : Array Slot), b_X11_reason_254 S x1 x2 x3 x4 x5 y0 = X → q_X11_reason_254 S x1 x2 x3 x4 x5 y0 → va_P G vwCl (hW K h g S) H → va_D A (hW K h g S) → va_S A s.heap H locs → lv_has ls 6 [(0, .ref h), (1, .int x1), (2, .int x2), (3, .int x3), (4, .int x4), (5, .int x5)] → W p l e ({ frames := 3, cells := 0, slots := 0, locals := 69 } : Room) s m #[Value.ref h, Value.int a1, Value.int a2, Value.int a3, Value.int a4, Value.int a5] below meth c H locs 0 0 Q (F0 m 254 ls [.int y0]) := by
    intro S x1 x2 x3 x4 x5 y0 H locs ls hE hp hP hD hS hl
    unfold b_X11_reason_254 at hE
    unfold q_X11_reason_254 at hp
    subst hQ
    exact W.iret (v := y0) hx hb hr (fun t ht hW => ⟨⟨y0, S, rfl, hE.trans hX.symm, by rw [ht]; exact hP, hD⟩, hS.F ht⟩) hS.2.2 dX11_reason_254
  have B_294 : ∀ (S : HS) (x1 x2 x3 x4 x5 : Int32) (H : Heap) (locs : List Loc) (ls : Array Slot), b_X11_reason_294 S x1 x2 x3 x4 x5 = X → q_X11_reason_294 S x1 x2 x3 x4 x5 → va_P G vwCl (hW K h g S) H → va_D A (hW K h g S) → va_S A s.heap H locs → lv_has ls 6 [(0, .ref h), (1, .int x1), (2, .int x2), (3, .int x3), (4, .int x4), (5, .int x5)] → W p l e ({ frames := 3, cells := 0, slots := 0, locals := 69 } : Room) s m #[Value.ref h, Value.int a1, Value.int a2, Value.int a3, Value.int a4, Value.int a5] below meth c H locs 0 0 Q (F0 m 294 ls []) := by
    intro S x1 x2 x3 x4 x5 H locs ls hE hp hP hD hS hl
    unfold b_X11_reason_294 at hE
    unfold q_X11_reason_294 at hp
    refine lv_iconst (v := 2) hx hb dX11_reason_294 (by decide) ?_
    subst hQ
    exact W.iret (v := 2) hx hb hr (fun t ht hW => ⟨⟨2, S, rfl, hE.trans hX.symm, by rw [ht]; exact hP, hD⟩, hS.F ht⟩) hS.2.2 dX11_reason_295
  have B_360 : ∀ (S : HS) (x1 x2 x3 x4 x5 y0 : Int32) (H : Heap) (locs : List Loc) (ls : Array Slot), b_X11_reason_360 S x1 x2 x3 x4 x5 y0 = X → q_X11_reason_360 S x1 x2 x3 x4 x5 y0 → va_P G vwCl (hW K h g S) H → va_D A (hW K h g S) → va_S A s.heap H locs → lv_has ls 6 [(0, .ref h), (1, .int x1), (2, .int x2), (3, .int x3), (4, .int x4), (5, .int x5)] → W p l e ({ frames := 3, cells := 0, slots := 0, locals := 69 } : Room) s m #[Value.ref h, Value.int a1, Value.int a2, Value.int a3, Value.int a4, Value.int a5] below meth c H locs 0 0 Q (F0 m 360 ls [.int y0]) := by
    intro S x1 x2 x3 x4 x5 y0 H locs ls hE hp hP hD hS hl
    unfold b_X11_reason_360 at hE
    unfold q_X11_reason_360 at hp
    subst hQ
    exact W.iret (v := y0) hx hb hr (fun t ht hW => ⟨⟨y0, S, rfl, hE.trans hX.symm, by rw [ht]; exact hP, hD⟩, hS.F ht⟩) hS.2.2 dX11_reason_360
  have B_354 : ∀ (S : HS) (x1 x2 x3 x4 x5 : Int32) (H : Heap) (locs : List Loc) (ls : Array Slot), b_X11_reason_354 S x1 x2 x3 x4 x5 = X → q_X11_reason_354 S x1 x2 x3 x4 x5 → va_P G vwCl (hW K h g S) H → va_D A (hW K h g S) → va_S A s.heap H locs → lv_has ls 6 [(0, .ref h), (1, .int x1), (2, .int x2), (3, .int x3), (4, .int x4), (5, .int x5)] → W p l e ({ frames := 3, cells := 0, slots := 0, locals := 69 } : Room) s m #[Value.ref h, Value.int a1, Value.int a2, Value.int a3, Value.int a4, Value.int a5] below meth c H locs 0 0 Q (F0 m 354 ls []) := by
    intro S x1 x2 x3 x4 x5 H locs ls hE hp hP hD hS hl
    unfold b_X11_reason_354 at hE
    unfold q_X11_reason_354 at hp
    refine lv_bipush (v := 6) hx hb dX11_reason_354 (by decide) ?_
    refine lv_goto (tgt := 360) hx hb dX11_reason_356 (by decide) ?_
    exact B_360 S x1 x2 x3 x4 x5 6 _ _ _ hE hp hP hD hS (lv_sub hl [0, 1, 2, 3, 4, 5] rfl)
  have B_359 : ∀ (S : HS) (x1 x2 x3 x4 x5 : Int32) (H : Heap) (locs : List Loc) (ls : Array Slot), b_X11_reason_359 S x1 x2 x3 x4 x5 = X → q_X11_reason_359 S x1 x2 x3 x4 x5 → va_P G vwCl (hW K h g S) H → va_D A (hW K h g S) → va_S A s.heap H locs → lv_has ls 6 [(0, .ref h), (1, .int x1), (2, .int x2), (3, .int x3), (4, .int x4), (5, .int x5)] → W p l e ({ frames := 3, cells := 0, slots := 0, locals := 69 } : Room) s m #[Value.ref h, Value.int a1, Value.int a2, Value.int a3, Value.int a4, Value.int a5] below meth c H locs 0 0 Q (F0 m 359 ls []) := by
    intro S x1 x2 x3 x4 x5 H locs ls hE hp hP hD hS hl
    unfold b_X11_reason_359 at hE
    unfold q_X11_reason_359 at hp
    refine lv_iconst (v := 0) hx hb dX11_reason_359 (by decide) ?_
    exact B_360 S x1 x2 x3 x4 x5 0 _ _ _ hE hp hP hD hS (lv_sub hl [0, 1, 2, 3, 4, 5] rfl)
  have B_374 : ∀ (S : HS) (x1 x2 x3 x4 x5 y0 : Int32) (H : Heap) (locs : List Loc) (ls : Array Slot), b_X11_reason_374 S x1 x2 x3 x4 x5 y0 = X → q_X11_reason_374 S x1 x2 x3 x4 x5 y0 → va_P G vwCl (hW K h g S) H → va_D A (hW K h g S) → va_S A s.heap H locs → lv_has ls 6 [(0, .ref h), (1, .int x1), (2, .int x2), (3, .int x3), (4, .int x4), (5, .int x5)] → W p l e ({ frames := 3, cells := 0, slots := 0, locals := 69 } : Room) s m #[Value.ref h, Value.int a1, Value.int a2, Value.int a3, Value.int a4, Value.int a5] below meth c H locs 0 0 Q (F0 m 374 ls [.int y0]) := by
    intro S x1 x2 x3 x4 x5 y0 H locs ls hE hp hP hD hS hl
    unfold b_X11_reason_374 at hE
    unfold q_X11_reason_374 at hp
    subst hQ
    exact W.iret (v := y0) hx hb hr (fun t ht hW => ⟨⟨y0, S, rfl, hE.trans hX.symm, by rw [ht]; exact hP, hD⟩, hS.F ht⟩) hS.2.2 dX11_reason_374
  have B_401 : ∀ (S : HS) (x1 x2 x3 x4 x5 : Int32) (H : Heap) (locs : List Loc) (ls : Array Slot), b_X11_reason_401 S x1 x2 x3 x4 x5 = X → q_X11_reason_401 S x1 x2 x3 x4 x5 → va_P G vwCl (hW K h g S) H → va_D A (hW K h g S) → va_S A s.heap H locs → lv_has ls 6 [(0, .ref h), (1, .int x1), (2, .int x2), (3, .int x3), (4, .int x4), (5, .int x5)] → W p l e ({ frames := 3, cells := 0, slots := 0, locals := 69 } : Room) s m #[Value.ref h, Value.int a1, Value.int a2, Value.int a3, Value.int a4, Value.int a5] below meth c H locs 0 0 Q (F0 m 401 ls []) := by
    intro S x1 x2 x3 x4 x5 H locs ls hE hp hP hD hS hl
    unfold b_X11_reason_401 at hE
    unfold q_X11_reason_401 at hp
    refine lv_iconst (v := 2) hx hb dX11_reason_401 (by decide) ?_
    subst hQ
    exact W.iret (v := 2) hx hb hr (fun t ht hW => ⟨⟨2, S, rfl, hE.trans hX.symm, by rw [ht]; exact hP, hD⟩, hS.F ht⟩) hS.2.2 dX11_reason_402
  have B_437 : ∀ (S : HS) (x1 x2 x3 x4 x5 y0 : Int32) (H : Heap) (locs : List Loc) (ls : Array Slot), b_X11_reason_437 S x1 x2 x3 x4 x5 y0 = X → q_X11_reason_437 S x1 x2 x3 x4 x5 y0 → va_P G vwCl (hW K h g S) H → va_D A (hW K h g S) → va_S A s.heap H locs → lv_has ls 6 [(0, .ref h), (1, .int x1), (2, .int x2), (3, .int x3), (4, .int x4), (5, .int x5)] → W p l e ({ frames := 3, cells := 0, slots := 0, locals := 69 } : Room) s m #[Value.ref h, Value.int a1, Value.int a2, Value.int a3, Value.int a4, Value.int a5] below meth c H locs 0 0 Q (F0 m 437 ls [.int y0]) := by
    intro S x1 x2 x3 x4 x5 y0 H locs ls hE hp hP hD hS hl
    unfold b_X11_reason_437 at hE
    unfold q_X11_reason_437 at hp
    subst hQ
    exact W.iret (v := y0) hx hb hr (fun t ht hW => ⟨⟨y0, S, rfl, hE.trans hX.symm, by rw [ht]; exact hP, hD⟩, hS.F ht⟩) hS.2.2 dX11_reason_437
  have B_454 : ∀ (S : HS) (x1 x2 x3 x4 x5 y0 : Int32) (H : Heap) (locs : List Loc) (ls : Array Slot), b_X11_reason_454 S x1 x2 x3 x4 x5 y0 = X → q_X11_reason_454 S x1 x2 x3 x4 x5 y0 → va_P G vwCl (hW K h g S) H → va_D A (hW K h g S) → va_S A s.heap H locs → lv_has ls 6 [(0, .ref h), (1, .int x1), (2, .int x2), (3, .int x3), (4, .int x4), (5, .int x5)] → W p l e ({ frames := 3, cells := 0, slots := 0, locals := 69 } : Room) s m #[Value.ref h, Value.int a1, Value.int a2, Value.int a3, Value.int a4, Value.int a5] below meth c H locs 0 0 Q (F0 m 454 ls [.int y0]) := by
    intro S x1 x2 x3 x4 x5 y0 H locs ls hE hp hP hD hS hl
    unfold b_X11_reason_454 at hE
    unfold q_X11_reason_454 at hp
    subst hQ
    exact W.iret (v := y0) hx hb hr (fun t ht hW => ⟨⟨y0, S, rfl, hE.trans hX.symm, by rw [ht]; exact hP, hD⟩, hS.F ht⟩) hS.2.2 dX11_reason_454
  have B_516 : ∀ (S : HS) (x1 x2 x3 x4 x5 y0 : Int32) (H : Heap) (locs : List Loc) (ls : Array Slot), b_X11_reason_516 S x1 x2 x3 x4 x5 y0 = X → q_X11_reason_516 S x1 x2 x3 x4 x5 y0 → va_P G vwCl (hW K h g S) H → va_D A (hW K h g S) → va_S A s.heap H locs → lv_has ls 6 [(0, .ref h), (1, .int x1), (2, .int x2), (3, .int x3), (4, .int x4), (5, .int x5)] → W p l e ({ frames := 3, cells := 0, slots := 0, locals := 69 } : Room) s m #[Value.ref h, Value.int a1, Value.int a2, Value.int a3, Value.int a4, Value.int a5] below meth c H locs 0 0 Q (F0 m 516 ls [.int y0]) := by
    intro S x1 x2 x3 x4 x5 y0 H locs ls hE hp hP hD hS hl
    unfold b_X11_reason_516 at hE
    unfold q_X11_reason_516 at hp
    subst hQ
    exact W.iret (v := y0) hx hb hr (fun t ht hW => ⟨⟨y0, S, rfl, hE.trans hX.symm, by rw [ht]; exact hP, hD⟩, hS.F ht⟩) hS.2.2 dX11_reason_516
  have B_478 : ∀ (S : HS) (x1 x2 x3 x4 x5 : Int32) (H : Heap) (locs : List Loc) (ls : Array Slot), b_X11_reason_478 S x1 x2 x3 x4 x5 = X → q_X11_reason_478 S x1 x2 x3 x4 x5 → va_P G vwCl (hW K h g S) H → va_D A (hW K h g S) → va_S A s.heap H locs → lv_has ls 6 [(0, .ref h), (1, .int x1), (2, .int x2), (3, .int x3), (4, .int x4), (5, .int x5)] → W p l e ({ frames := 3, cells := 0, slots := 0, locals := 69 } : Room) s m #[Value.ref h, Value.int a1, Value.int a2, Value.int a3, Value.int a4, Value.int a5] below meth c H locs 0 0 Q (F0 m 478 ls []) := by
    intro S x1 x2 x3 x4 x5 H locs ls hE hp hP hD hS hl
    unfold b_X11_reason_478 at hE
    unfold q_X11_reason_478 at hp
    refine lv_bipush (v := 11) hx hb dX11_reason_478 (by decide) ?_
    refine lv_goto (tgt := 516) hx hb dX11_reason_480 (by decide) ?_
    exact B_516 S x1 x2 x3 x4 x5 11 _ _ _ hE hp hP hD hS (lv_sub hl [0, 1, 2, 3, 4, 5] rfl)
  have B_510 : ∀ (S : HS) (x1 x2 x3 x4 x5 : Int32) (H : Heap) (locs : List Loc) (ls : Array Slot), b_X11_reason_510 S x1 x2 x3 x4 x5 = X → q_X11_reason_510 S x1 x2 x3 x4 x5 → va_P G vwCl (hW K h g S) H → va_D A (hW K h g S) → va_S A s.heap H locs → lv_has ls 6 [(0, .ref h), (1, .int x1), (2, .int x2), (3, .int x3), (4, .int x4), (5, .int x5)] → W p l e ({ frames := 3, cells := 0, slots := 0, locals := 69 } : Room) s m #[Value.ref h, Value.int a1, Value.int a2, Value.int a3, Value.int a4, Value.int a5] below meth c H locs 0 0 Q (F0 m 510 ls []) := by
    intro S x1 x2 x3 x4 x5 H locs ls hE hp hP hD hS hl
    unfold b_X11_reason_510 at hE
    unfold q_X11_reason_510 at hp
    refine lv_bipush (v := 9) hx hb dX11_reason_510 (by decide) ?_
    refine lv_goto (tgt := 516) hx hb dX11_reason_512 (by decide) ?_
    exact B_516 S x1 x2 x3 x4 x5 9 _ _ _ hE hp hP hD hS (lv_sub hl [0, 1, 2, 3, 4, 5] rfl)
  have B_571 : ∀ (S : HS) (x1 x2 x3 x4 x5 y0 : Int32) (H : Heap) (locs : List Loc) (ls : Array Slot), b_X11_reason_571 S x1 x2 x3 x4 x5 y0 = X → q_X11_reason_571 S x1 x2 x3 x4 x5 y0 → va_P G vwCl (hW K h g S) H → va_D A (hW K h g S) → va_S A s.heap H locs → lv_has ls 6 [(0, .ref h), (1, .int x1), (2, .int x2), (3, .int x3), (4, .int x4), (5, .int x5)] → W p l e ({ frames := 3, cells := 0, slots := 0, locals := 69 } : Room) s m #[Value.ref h, Value.int a1, Value.int a2, Value.int a3, Value.int a4, Value.int a5] below meth c H locs 0 0 Q (F0 m 571 ls [.int y0]) := by
    intro S x1 x2 x3 x4 x5 y0 H locs ls hE hp hP hD hS hl
    unfold b_X11_reason_571 at hE
    unfold q_X11_reason_571 at hp
    subst hQ
    exact W.iret (v := y0) hx hb hr (fun t ht hW => ⟨⟨y0, S, rfl, hE.trans hX.symm, by rw [ht]; exact hP, hD⟩, hS.F ht⟩) hS.2.2 dX11_reason_571
  have B_565 : ∀ (S : HS) (x1 x2 x3 x4 x5 : Int32) (H : Heap) (locs : List Loc) (ls : Array Slot), b_X11_reason_565 S x1 x2 x3 x4 x5 = X → q_X11_reason_565 S x1 x2 x3 x4 x5 → va_P G vwCl (hW K h g S) H → va_D A (hW K h g S) → va_S A s.heap H locs → lv_has ls 6 [(0, .ref h), (1, .int x1), (2, .int x2), (3, .int x3), (4, .int x4), (5, .int x5)] → W p l e ({ frames := 3, cells := 0, slots := 0, locals := 69 } : Room) s m #[Value.ref h, Value.int a1, Value.int a2, Value.int a3, Value.int a4, Value.int a5] below meth c H locs 0 0 Q (F0 m 565 ls []) := by
    intro S x1 x2 x3 x4 x5 H locs ls hE hp hP hD hS hl
    unfold b_X11_reason_565 at hE
    unfold q_X11_reason_565 at hp
    refine lv_bipush (v := 11) hx hb dX11_reason_565 (by decide) ?_
    refine lv_goto (tgt := 571) hx hb dX11_reason_567 (by decide) ?_
    exact B_571 S x1 x2 x3 x4 x5 11 _ _ _ hE hp hP hD hS (lv_sub hl [0, 1, 2, 3, 4, 5] rfl)
  have B_632 : ∀ (S : HS) (x1 x2 x3 x4 x5 : Int32) (H : Heap) (locs : List Loc) (ls : Array Slot), b_X11_reason_632 S x1 x2 x3 x4 x5 = X → q_X11_reason_632 S x1 x2 x3 x4 x5 → va_P G vwCl (hW K h g S) H → va_D A (hW K h g S) → va_S A s.heap H locs → lv_has ls 6 [(0, .ref h), (1, .int x1), (2, .int x2), (3, .int x3), (4, .int x4), (5, .int x5)] → W p l e ({ frames := 3, cells := 0, slots := 0, locals := 69 } : Room) s m #[Value.ref h, Value.int a1, Value.int a2, Value.int a3, Value.int a4, Value.int a5] below meth c H locs 0 0 Q (F0 m 632 ls []) := by
    intro S x1 x2 x3 x4 x5 H locs ls hE hp hP hD hS hl
    unfold b_X11_reason_632 at hE
    unfold q_X11_reason_632 at hp
    refine lv_iconst (v := 3) hx hb dX11_reason_632 (by decide) ?_
    subst hQ
    exact W.iret (v := 3) hx hb hr (fun t ht hW => ⟨⟨3, S, rfl, hE.trans hX.symm, by rw [ht]; exact hP, hD⟩, hS.F ht⟩) hS.2.2 dX11_reason_633
  have B_660 : ∀ (S : HS) (x1 x2 x3 x4 x5 y0 : Int32) (H : Heap) (locs : List Loc) (ls : Array Slot), b_X11_reason_660 S x1 x2 x3 x4 x5 y0 = X → q_X11_reason_660 S x1 x2 x3 x4 x5 y0 → va_P G vwCl (hW K h g S) H → va_D A (hW K h g S) → va_S A s.heap H locs → lv_has ls 6 [(0, .ref h), (1, .int x1), (2, .int x2), (3, .int x3), (4, .int x4), (5, .int x5)] → W p l e ({ frames := 3, cells := 0, slots := 0, locals := 69 } : Room) s m #[Value.ref h, Value.int a1, Value.int a2, Value.int a3, Value.int a4, Value.int a5] below meth c H locs 0 0 Q (F0 m 660 ls [.int y0]) := by
    intro S x1 x2 x3 x4 x5 y0 H locs ls hE hp hP hD hS hl
    unfold b_X11_reason_660 at hE
    unfold q_X11_reason_660 at hp
    subst hQ
    exact W.iret (v := y0) hx hb hr (fun t ht hW => ⟨⟨y0, S, rfl, hE.trans hX.symm, by rw [ht]; exact hP, hD⟩, hS.F ht⟩) hS.2.2 dX11_reason_660
  have B_655 : ∀ (S : HS) (x1 x2 x3 x4 x5 : Int32) (H : Heap) (locs : List Loc) (ls : Array Slot), b_X11_reason_655 S x1 x2 x3 x4 x5 = X → q_X11_reason_655 S x1 x2 x3 x4 x5 → va_P G vwCl (hW K h g S) H → va_D A (hW K h g S) → va_S A s.heap H locs → lv_has ls 6 [(0, .ref h), (1, .int x1), (2, .int x2), (3, .int x3), (4, .int x4), (5, .int x5)] → W p l e ({ frames := 3, cells := 0, slots := 0, locals := 69 } : Room) s m #[Value.ref h, Value.int a1, Value.int a2, Value.int a3, Value.int a4, Value.int a5] below meth c H locs 0 0 Q (F0 m 655 ls []) := by
    intro S x1 x2 x3 x4 x5 H locs ls hE hp hP hD hS hl
    unfold b_X11_reason_655 at hE
    unfold q_X11_reason_655 at hp
    refine lv_iconst (v := 2) hx hb dX11_reason_655 (by decide) ?_
    refine lv_goto (tgt := 660) hx hb dX11_reason_656 (by decide) ?_
    exact B_660 S x1 x2 x3 x4 x5 2 _ _ _ hE hp hP hD hS (lv_sub hl [0, 1, 2, 3, 4, 5] rfl)
  have B_688 : ∀ (S : HS) (x1 x2 x3 x4 x5 : Int32) (H : Heap) (locs : List Loc) (ls : Array Slot), b_X11_reason_688 S x1 x2 x3 x4 x5 = X → q_X11_reason_688 S x1 x2 x3 x4 x5 → va_P G vwCl (hW K h g S) H → va_D A (hW K h g S) → va_S A s.heap H locs → lv_has ls 6 [(0, .ref h), (1, .int x1), (2, .int x2), (3, .int x3), (4, .int x4), (5, .int x5)] → W p l e ({ frames := 3, cells := 0, slots := 0, locals := 69 } : Room) s m #[Value.ref h, Value.int a1, Value.int a2, Value.int a3, Value.int a4, Value.int a5] below meth c H locs 0 0 Q (F0 m 688 ls []) := by
    intro S x1 x2 x3 x4 x5 H locs ls hE hp hP hD hS hl
    unfold b_X11_reason_688 at hE
    unfold q_X11_reason_688 at hp
    refine lv_bipush (v := 9) hx hb dX11_reason_688 (by decide) ?_
    subst hQ
    exact W.iret (v := 9) hx hb hr (fun t ht hW => ⟨⟨9, S, rfl, hE.trans hX.symm, by rw [ht]; exact hP, hD⟩, hS.F ht⟩) hS.2.2 dX11_reason_690
  have B_715 : ∀ (S : HS) (x1 x2 x3 x4 x5 y0 : Int32) (H : Heap) (locs : List Loc) (ls : Array Slot), b_X11_reason_715 S x1 x2 x3 x4 x5 y0 = X → q_X11_reason_715 S x1 x2 x3 x4 x5 y0 → va_P G vwCl (hW K h g S) H → va_D A (hW K h g S) → va_S A s.heap H locs → lv_has ls 6 [(0, .ref h), (1, .int x1), (2, .int x2), (3, .int x3), (4, .int x4), (5, .int x5)] → W p l e ({ frames := 3, cells := 0, slots := 0, locals := 69 } : Room) s m #[Value.ref h, Value.int a1, Value.int a2, Value.int a3, Value.int a4, Value.int a5] below meth c H locs 0 0 Q (F0 m 715 ls [.int y0]) := by
    intro S x1 x2 x3 x4 x5 y0 H locs ls hE hp hP hD hS hl
    unfold b_X11_reason_715 at hE
    unfold q_X11_reason_715 at hp
    subst hQ
    exact W.iret (v := y0) hx hb hr (fun t ht hW => ⟨⟨y0, S, rfl, hE.trans hX.symm, by rw [ht]; exact hP, hD⟩, hS.F ht⟩) hS.2.2 dX11_reason_715
  have B_753 : ∀ (S : HS) (x1 x2 x3 x4 x5 : Int32) (H : Heap) (locs : List Loc) (ls : Array Slot), b_X11_reason_753 S x1 x2 x3 x4 x5 = X → q_X11_reason_753 S x1 x2 x3 x4 x5 → va_P G vwCl (hW K h g S) H → va_D A (hW K h g S) → va_S A s.heap H locs → lv_has ls 6 [(0, .ref h), (1, .int x1), (2, .int x2), (3, .int x3), (4, .int x4), (5, .int x5)] → W p l e ({ frames := 3, cells := 0, slots := 0, locals := 69 } : Room) s m #[Value.ref h, Value.int a1, Value.int a2, Value.int a3, Value.int a4, Value.int a5] below meth c H locs 0 0 Q (F0 m 753 ls []) := by
    intro S x1 x2 x3 x4 x5 H locs ls hE hp hP hD hS hl
    unfold b_X11_reason_753 at hE
    unfold q_X11_reason_753 at hp
    refine lv_iconst (v := 2) hx hb dX11_reason_753 (by decide) ?_
    subst hQ
    exact W.iret (v := 2) hx hb hr (fun t ht hW => ⟨⟨2, S, rfl, hE.trans hX.symm, by rw [ht]; exact hP, hD⟩, hS.F ht⟩) hS.2.2 dX11_reason_754
  have B_769 : ∀ (S : HS) (x1 x2 x3 x4 x5 y0 : Int32) (H : Heap) (locs : List Loc) (ls : Array Slot), b_X11_reason_769 S x1 x2 x3 x4 x5 y0 = X → q_X11_reason_769 S x1 x2 x3 x4 x5 y0 → va_P G vwCl (hW K h g S) H → va_D A (hW K h g S) → va_S A s.heap H locs → lv_has ls 6 [(0, .ref h), (1, .int x1), (2, .int x2), (3, .int x3), (4, .int x4), (5, .int x5)] → W p l e ({ frames := 3, cells := 0, slots := 0, locals := 69 } : Room) s m #[Value.ref h, Value.int a1, Value.int a2, Value.int a3, Value.int a4, Value.int a5] below meth c H locs 0 0 Q (F0 m 769 ls [.int y0]) := by
    intro S x1 x2 x3 x4 x5 y0 H locs ls hE hp hP hD hS hl
    unfold b_X11_reason_769 at hE
    unfold q_X11_reason_769 at hp
    subst hQ
    exact W.iret (v := y0) hx hb hr (fun t ht hW => ⟨⟨y0, S, rfl, hE.trans hX.symm, by rw [ht]; exact hP, hD⟩, hS.F ht⟩) hS.2.2 dX11_reason_769
  have B_826 : ∀ (S : HS) (x1 x2 x3 x4 x5 y0 : Int32) (H : Heap) (locs : List Loc) (ls : Array Slot), b_X11_reason_826 S x1 x2 x3 x4 x5 y0 = X → q_X11_reason_826 S x1 x2 x3 x4 x5 y0 → va_P G vwCl (hW K h g S) H → va_D A (hW K h g S) → va_S A s.heap H locs → lv_has ls 6 [(0, .ref h), (1, .int x1), (2, .int x2), (3, .int x3), (4, .int x4), (5, .int x5)] → W p l e ({ frames := 3, cells := 0, slots := 0, locals := 69 } : Room) s m #[Value.ref h, Value.int a1, Value.int a2, Value.int a3, Value.int a4, Value.int a5] below meth c H locs 0 0 Q (F0 m 826 ls [.int y0]) := by
    intro S x1 x2 x3 x4 x5 y0 H locs ls hE hp hP hD hS hl
    unfold b_X11_reason_826 at hE
    unfold q_X11_reason_826 at hp
    subst hQ
    exact W.iret (v := y0) hx hb hr (fun t ht hW => ⟨⟨y0, S, rfl, hE.trans hX.symm, by rw [ht]; exact hP, hD⟩, hS.F ht⟩) hS.2.2 dX11_reason_826
  have B_858 : ∀ (S : HS) (x1 x2 x3 x4 x5 : Int32) (H : Heap) (locs : List Loc) (ls : Array Slot), b_X11_reason_858 S x1 x2 x3 x4 x5 = X → q_X11_reason_858 S x1 x2 x3 x4 x5 → va_P G vwCl (hW K h g S) H → va_D A (hW K h g S) → va_S A s.heap H locs → lv_has ls 6 [(0, .ref h), (1, .int x1), (2, .int x2), (3, .int x3), (4, .int x4), (5, .int x5)] → W p l e ({ frames := 3, cells := 0, slots := 0, locals := 69 } : Room) s m #[Value.ref h, Value.int a1, Value.int a2, Value.int a3, Value.int a4, Value.int a5] below meth c H locs 0 0 Q (F0 m 858 ls []) := by
    intro S x1 x2 x3 x4 x5 H locs ls hE hp hP hD hS hl
    unfold b_X11_reason_858 at hE
    unfold q_X11_reason_858 at hp
    refine lv_bipush (v := 11) hx hb dX11_reason_858 (by decide) ?_
    subst hQ
    exact W.iret (v := 11) hx hb hr (fun t ht hW => ⟨⟨11, S, rfl, hE.trans hX.symm, by rw [ht]; exact hP, hD⟩, hS.F ht⟩) hS.2.2 dX11_reason_860
  have B_897 : ∀ (S : HS) (x1 x2 x3 x4 x5 y0 : Int32) (H : Heap) (locs : List Loc) (ls : Array Slot), b_X11_reason_897 S x1 x2 x3 x4 x5 y0 = X → q_X11_reason_897 S x1 x2 x3 x4 x5 y0 → va_P G vwCl (hW K h g S) H → va_D A (hW K h g S) → va_S A s.heap H locs → lv_has ls 6 [(0, .ref h), (1, .int x1), (2, .int x2), (3, .int x3), (4, .int x4), (5, .int x5)] → W p l e ({ frames := 3, cells := 0, slots := 0, locals := 69 } : Room) s m #[Value.ref h, Value.int a1, Value.int a2, Value.int a3, Value.int a4, Value.int a5] below meth c H locs 0 0 Q (F0 m 897 ls [.int y0]) := by
    intro S x1 x2 x3 x4 x5 y0 H locs ls hE hp hP hD hS hl
    unfold b_X11_reason_897 at hE
    unfold q_X11_reason_897 at hp
    subst hQ
    exact W.iret (v := y0) hx hb hr (fun t ht hW => ⟨⟨y0, S, rfl, hE.trans hX.symm, by rw [ht]; exact hP, hD⟩, hS.F ht⟩) hS.2.2 dX11_reason_897
  have B_927 : ∀ (S : HS) (x1 x2 x3 x4 x5 y0 : Int32) (H : Heap) (locs : List Loc) (ls : Array Slot), b_X11_reason_927 S x1 x2 x3 x4 x5 y0 = X → q_X11_reason_927 S x1 x2 x3 x4 x5 y0 → va_P G vwCl (hW K h g S) H → va_D A (hW K h g S) → va_S A s.heap H locs → lv_has ls 6 [(0, .ref h), (1, .int x1), (2, .int x2), (3, .int x3), (4, .int x4), (5, .int x5)] → W p l e ({ frames := 3, cells := 0, slots := 0, locals := 69 } : Room) s m #[Value.ref h, Value.int a1, Value.int a2, Value.int a3, Value.int a4, Value.int a5] below meth c H locs 0 0 Q (F0 m 927 ls [.int y0]) := by
    intro S x1 x2 x3 x4 x5 y0 H locs ls hE hp hP hD hS hl
    unfold b_X11_reason_927 at hE
    unfold q_X11_reason_927 at hp
    subst hQ
    exact W.iret (v := y0) hx hb hr (fun t ht hW => ⟨⟨y0, S, rfl, hE.trans hX.symm, by rw [ht]; exact hP, hD⟩, hS.F ht⟩) hS.2.2 dX11_reason_927
  have B_945 : ∀ (S : HS) (x1 x2 x3 x4 x5 y0 : Int32) (H : Heap) (locs : List Loc) (ls : Array Slot), b_X11_reason_945 S x1 x2 x3 x4 x5 y0 = X → q_X11_reason_945 S x1 x2 x3 x4 x5 y0 → va_P G vwCl (hW K h g S) H → va_D A (hW K h g S) → va_S A s.heap H locs → lv_has ls 6 [(0, .ref h), (1, .int x1), (2, .int x2), (3, .int x3), (4, .int x4), (5, .int x5)] → W p l e ({ frames := 3, cells := 0, slots := 0, locals := 69 } : Room) s m #[Value.ref h, Value.int a1, Value.int a2, Value.int a3, Value.int a4, Value.int a5] below meth c H locs 0 0 Q (F0 m 945 ls [.int y0]) := by
    intro S x1 x2 x3 x4 x5 y0 H locs ls hE hp hP hD hS hl
    unfold b_X11_reason_945 at hE
    unfold q_X11_reason_945 at hp
    subst hQ
    exact W.iret (v := y0) hx hb hr (fun t ht hW => ⟨⟨y0, S, rfl, hE.trans hX.symm, by rw [ht]; exact hP, hD⟩, hS.F ht⟩) hS.2.2 dX11_reason_945
  have B_M : ∀ (S : HS) (x1 x2 x3 x4 x5 : Int32) (H : Heap) (locs : List Loc) (ls : Array Slot), f_X11_reason S x1 x2 x3 x4 x5 = X → p_X11_reason S x1 x2 x3 x4 x5 → va_P G vwCl (hW K h g S) H → va_D A (hW K h g S) → va_S A s.heap H locs → lv_has ls 6 [(0, .ref h), (1, .int x1), (2, .int x2), (3, .int x3), (4, .int x4), (5, .int x5)] → W p l e ({ frames := 3, cells := 0, slots := 0, locals := 69 } : Room) s m #[Value.ref h, Value.int a1, Value.int a2, Value.int a3, Value.int a4, Value.int a5] below meth c H locs 0 0 Q (F0 m 0 ls []) := by
    intro S x1 x2 x3 x4 x5 H locs ls hE hp hP hD hS hl
    unfold f_X11_reason at hE
    unfold p_X11_reason at hp
    refine lv_iload_n hx hb dX11_reason_0 rfl (lv_at hl 1 rfl) ?_
    by_cases s1 : x1 = 1
    · rw [if_pos s1] at hE hp
      refine lv_tableIn (off := 99) (tgt := 100) hx hb dX11_reason_1 (by rw [s1]; decide) (by rw [s1]; decide) (by rw [s1]; decide) (by decide) ?_
      refine lv_aload_n hx hb dX11_reason_100 rfl (lv_at hl 0 rfl) ?_
      refine lv_iload_n hx hb dX11_reason_101 rfl (lv_at hl 2 rfl) ?_
      obtain ⟨hy1, hp⟩ := hp
      refine hGoi (va_runV (As := [.int x2]) (rest := []) ⟨hx, hb, hml, hown, hts⟩ (c_X11_isSeat l G K h g S x2 _) (cwV 1 hts (wGV t_ (mw (.methodLink RX11 140 yX11_isSeat) (List.mem_of_getElem? (i := 0) rfl)) (mw (.instanceMethod yX11_isSeat) (List.mem_of_getElem? (i := 1) rfl)) (mw (.selects RX11 yX11_isSeat yX11_isSeat) (List.mem_of_getElem? (i := 2) rfl)) (mw (.initialized RX11) (List.mem_of_getElem? (i := 3) rfl)) j_X11_isSeat) rfl rfl rfl (by decide +kernel) ⟨Nat.le_of_ble_eq_true rfl, Nat.le_of_ble_eq_true rfl⟩) (hPV hK hTE hP hD hy1) rfl rfl hl.1 rfl (lv_room (Nat.le_of_ble_eq_true rfl)) dX11_reason_102 ⟨Nat.le_of_ble_eq_true rfl, Nat.le_of_ble_eq_true rfl⟩) hP hD hS hA (fun r3 u2 H locs hv hP hD hS => ?_)
      rw [← hv] at hE hp
      dsimp only at hE hp
      unfold b_X11_reason_a105 at hE
      unfold q_X11_reason_a105 at hp
      refine lv_if_ne (tgt := 113) hx hb dX11_reason_105 (by decide) (fun c4 => ?_) (fun c4 => ?_)
      · rw [if_neg c4] at hE hp
        refine lv_aload_n hx hb dX11_reason_113 rfl (lv_at hl 0 rfl) ?_
        refine va_get (D := G) (ci := 8) (v := .ref (g 11)) (C := RX11) (T := TX11) (N := 42) hx hb hts iX11 hown hK hP 0 rfl rfl 11 (by decide) (hw (.fieldLink RX11 9 "MotionFloorModel$Hall" "isThere" "[Z") (List.mem_of_getElem? (i := 4) rfl)) (fun _ h9 => h9) rfl dX11_reason_114 ?_
        refine lv_iload_n hx hb dX11_reason_117 rfl (lv_at hl 2 rfl) ?_
        obtain ⟨hy5, hp⟩ := hp
        refine va_zald hx hb hK hP 1 1 rfl rfl hy5 dX11_reason_118 ?_
        refine lv_if_eq (tgt := 127) hx hb dX11_reason_119 (by decide) (fun c6 => ?_) (fun c6 => ?_)
        · rw [if_pos c6] at hE hp
          refine lv_iconst (v := 0) hx hb dX11_reason_127 (by decide) ?_
          exact B_128 u2 x1 x2 x3 x4 x5 0 _ _ _ hE hp hP hD hS (lv_sub hl [0, 1, 2, 3, 4, 5] rfl)
        · rw [if_neg c6] at hE hp
          refine lv_bipush (v := 11) hx hb dX11_reason_122 (by decide) ?_
          refine lv_goto (tgt := 128) hx hb dX11_reason_124 (by decide) ?_
          exact B_128 u2 x1 x2 x3 x4 x5 11 _ _ _ hE hp hP hD hS (lv_sub hl [0, 1, 2, 3, 4, 5] rfl)
      · rw [if_pos c4] at hE hp
        refine lv_bipush (v := 9) hx hb dX11_reason_108 (by decide) ?_
        refine lv_goto (tgt := 128) hx hb dX11_reason_110 (by decide) ?_
        exact B_128 u2 x1 x2 x3 x4 x5 9 _ _ _ hE hp hP hD hS (lv_sub hl [0, 1, 2, 3, 4, 5] rfl)
    rw [if_neg s1] at hE hp
    have s1 := wNe (b := 1) rfl (by decide) s1
    by_cases s2 : x1 = 2
    · rw [if_pos s2] at hE hp
      refine lv_tableIn (off := 128) (tgt := 129) hx hb dX11_reason_1 (by rw [s2]; decide) (by rw [s2]; decide) (by rw [s2]; decide) (by decide) ?_
      exact B_129 S x1 x2 x3 x4 x5 _ _ _ hE hp hP hD hS (lv_sub hl [0, 1, 2, 3, 4, 5] rfl)
    rw [if_neg s2] at hE hp
    have s2 := wNe (b := 2) rfl (by decide) s2
    by_cases s3 : x1 = 3
    · rw [if_pos s3] at hE hp
      refine lv_tableIn (off := 157) (tgt := 158) hx hb dX11_reason_1 (by rw [s3]; decide) (by rw [s3]; decide) (by rw [s3]; decide) (by decide) ?_
      refine lv_iload_n hx hb dX11_reason_158 rfl (lv_at hl 2 rfl) ?_
      refine lv_iconst (v := 0) hx hb dX11_reason_159 (by decide) ?_
      refine lv_sipush (v := 200) hx hb dX11_reason_160 (by decide) ?_
      obtain ⟨hy19, hp⟩ := hp
      refine nGoi (va_runSN (As := [.int x2, .int 0, .int 200]) (rest := []) ⟨hx, hb, hml, hown, hts⟩ (c_X12_in l G K x2 0 200 _) ⟨va_cnB (host := "MotionFloorModel") 3 hts (wGP t_ j_X12_in) rfl rfl rfl hTE.2.2.2.2.2.2.2.2.2.1 (hw (.initialized RX12) (List.mem_of_getElem? (i := 5) rfl)) (by decide +kernel) ⟨Nat.le_of_ble_eq_true rfl, Nat.le_of_ble_eq_true rfl⟩, (hw (.static yX12_in) (List.mem_of_getElem? (i := 6) rfl)), trivial⟩ (nPS hK hTE hy19) rfl rfl hl.1 rfl (lv_room (Nat.le_of_ble_eq_true rfl)) dX11_reason_163 ⟨Nat.le_of_ble_eq_true rfl, Nat.le_of_ble_eq_true rfl⟩) hP hS hA (fun r H locs hv hP hS => ?_)
      subst hv
      refine lv_if_ne (tgt := 174) hx hb dX11_reason_166 (by decide) (fun c20 => ?_) (fun c20 => ?_)
      · rw [if_neg c20] at hE hp
        refine lv_aload_n hx hb dX11_reason_174 rfl (lv_at hl 0 rfl) ?_
        refine va_get (D := G) (ci := 8) (v := .int (S.1 6)) (C := RX11) (T := TX11) (N := 42) hx hb hts iX11 hown hK hP 0 rfl rfl 6 (by decide) (hw (.fieldLink RX11 115 "MotionFloorModel$Hall" "pending" "I") (List.mem_of_getElem? (i := 7) rfl)) (fun _ h9 => h9) rfl dX11_reason_175 ?_
        refine lv_if_le (tgt := 186) hx hb dX11_reason_178 (by decide) (fun c21 => ?_) (fun c21 => ?_)
        · rw [if_pos c21] at hE hp
          refine lv_iconst (v := 0) hx hb dX11_reason_186 (by decide) ?_
          exact B_187 S x1 x2 x3 x4 x5 0 _ _ _ hE hp hP hD hS (lv_sub hl [0, 1, 2, 3, 4, 5] rfl)
        · rw [if_neg c21] at hE hp
          refine lv_bipush (v := 11) hx hb dX11_reason_181 (by decide) ?_
          refine lv_goto (tgt := 187) hx hb dX11_reason_183 (by decide) ?_
          exact B_187 S x1 x2 x3 x4 x5 11 _ _ _ hE hp hP hD hS (lv_sub hl [0, 1, 2, 3, 4, 5] rfl)
      · rw [if_pos c20] at hE hp
        refine lv_bipush (v := 9) hx hb dX11_reason_169 (by decide) ?_
        refine lv_goto (tgt := 187) hx hb dX11_reason_171 (by decide) ?_
        exact B_187 S x1 x2 x3 x4 x5 9 _ _ _ hE hp hP hD hS (lv_sub hl [0, 1, 2, 3, 4, 5] rfl)
    rw [if_neg s3] at hE hp
    have s3 := wNe (b := 3) rfl (by decide) s3
    by_cases s4 : x1 = 4
    · rw [if_pos s4] at hE hp
      refine lv_tableIn (off := 128) (tgt := 129) hx hb dX11_reason_1 (by rw [s4]; decide) (by rw [s4]; decide) (by rw [s4]; decide) (by decide) ?_
      exact B_129 S x1 x2 x3 x4 x5 _ _ _ hE hp hP hD hS (lv_sub hl [0, 1, 2, 3, 4, 5] rfl)
    rw [if_neg s4] at hE hp
    have s4 := wNe (b := 4) rfl (by decide) s4
    by_cases s5 : x1 = 5
    · rw [if_pos s5] at hE hp
      refine lv_tableIn (off := 187) (tgt := 188) hx hb dX11_reason_1 (by rw [s5]; decide) (by rw [s5]; decide) (by rw [s5]; decide) (by decide) ?_
      refine lv_iload_n hx hb dX11_reason_188 rfl (lv_at hl 2 rfl) ?_
      refine lv_iconst (v := 1) hx hb dX11_reason_189 (by decide) ?_
      refine lv_bipush (v := 8) hx hb dX11_reason_190 (by decide) ?_
      obtain ⟨hy22, hp⟩ := hp
      refine nGoi (va_runSN (As := [.int x2, .int 1, .int 8]) (rest := []) ⟨hx, hb, hml, hown, hts⟩ (c_X12_in l G K x2 1 8 _) ⟨va_cnB (host := "MotionFloorModel") 3 hts (wGP t_ j_X12_in) rfl rfl rfl hTE.2.2.2.2.2.2.2.2.2.1 (hw (.initialized RX12) (List.mem_of_getElem? (i := 5) rfl)) (by decide +kernel) ⟨Nat.le_of_ble_eq_true rfl, Nat.le_of_ble_eq_true rfl⟩, (hw (.static yX12_in) (List.mem_of_getElem? (i := 6) rfl)), trivial⟩ (nPS hK hTE hy22) rfl rfl hl.1 rfl (lv_room (Nat.le_of_ble_eq_true rfl)) dX11_reason_192 ⟨Nat.le_of_ble_eq_true rfl, Nat.le_of_ble_eq_true rfl⟩) hP hS hA (fun r H locs hv hP hS => ?_)
      subst hv
      refine lv_if_eq (tgt := 207) hx hb dX11_reason_195 (by decide) (fun c23 => ?_) (fun c23 => ?_)
      · rw [if_pos c23] at hE hp
        exact B_207 S x1 x2 x3 x4 x5 _ _ _ hE hp hP hD hS (lv_sub hl [0, 1, 2, 3, 4, 5] rfl)
      · rw [if_neg c23] at hE hp
        refine lv_iload_n hx hb dX11_reason_198 rfl (lv_at hl 3 rfl) ?_
        refine lv_iconst (v := 1) hx hb dX11_reason_199 (by decide) ?_
        refine lv_iconst (v := 3) hx hb dX11_reason_200 (by decide) ?_
        obtain ⟨hy24, hp⟩ := hp
        refine nGoi (va_runSN (As := [.int x3, .int 1, .int 3]) (rest := []) ⟨hx, hb, hml, hown, hts⟩ (c_X12_in l G K x3 1 3 _) ⟨va_cnB (host := "MotionFloorModel") 3 hts (wGP t_ j_X12_in) rfl rfl rfl hTE.2.2.2.2.2.2.2.2.2.1 (hw (.initialized RX12) (List.mem_of_getElem? (i := 5) rfl)) (by decide +kernel) ⟨Nat.le_of_ble_eq_true rfl, Nat.le_of_ble_eq_true rfl⟩, (hw (.static yX12_in) (List.mem_of_getElem? (i := 6) rfl)), trivial⟩ (nPS hK hTE hy24) rfl rfl hl.1 rfl (lv_room (Nat.le_of_ble_eq_true rfl)) dX11_reason_201 ⟨Nat.le_of_ble_eq_true rfl, Nat.le_of_ble_eq_true rfl⟩) hP hS hA (fun r H locs hv hP hS => ?_)
        subst hv
        refine lv_if_ne (tgt := 212) hx hb dX11_reason_204 (by decide) (fun c25 => ?_) (fun c25 => ?_)
        · rw [if_neg c25] at hE hp
          refine lv_aload_n hx hb dX11_reason_212 rfl (lv_at hl 0 rfl) ?_
          refine va_get (D := G) (ci := 8) (v := .int (S.1 6)) (C := RX11) (T := TX11) (N := 42) hx hb hts iX11 hown hK hP 0 rfl rfl 6 (by decide) (hw (.fieldLink RX11 115 "MotionFloorModel$Hall" "pending" "I") (List.mem_of_getElem? (i := 7) rfl)) (fun _ h9 => h9) rfl dX11_reason_213 ?_
          refine lv_if_le (tgt := 224) hx hb dX11_reason_216 (by decide) (fun c26 => ?_) (fun c26 => ?_)
          · rw [if_pos c26] at hE hp
            refine lv_iconst (v := 0) hx hb dX11_reason_224 (by decide) ?_
            exact B_225 S x1 x2 x3 x4 x5 0 _ _ _ hE hp hP hD hS (lv_sub hl [0, 1, 2, 3, 4, 5] rfl)
          · rw [if_neg c26] at hE hp
            refine lv_bipush (v := 11) hx hb dX11_reason_219 (by decide) ?_
            refine lv_goto (tgt := 225) hx hb dX11_reason_221 (by decide) ?_
            exact B_225 S x1 x2 x3 x4 x5 11 _ _ _ hE hp hP hD hS (lv_sub hl [0, 1, 2, 3, 4, 5] rfl)
        · rw [if_pos c25] at hE hp
          exact B_207 S x1 x2 x3 x4 x5 _ _ _ hE hp hP hD hS (lv_sub hl [0, 1, 2, 3, 4, 5] rfl)
    rw [if_neg s5] at hE hp
    have s5 := wNe (b := 5) rfl (by decide) s5
    by_cases s6 : x1 = 6
    · rw [if_pos s6] at hE hp
      refine lv_tableIn (off := 225) (tgt := 226) hx hb dX11_reason_1 (by rw [s6]; decide) (by rw [s6]; decide) (by rw [s6]; decide) (by decide) ?_
      refine lv_iload_n hx hb dX11_reason_226 rfl (lv_at hl 2 rfl) ?_
      refine lv_iconst (v := 0) hx hb dX11_reason_227 (by decide) ?_
      refine lv_bipush (v := 99) hx hb dX11_reason_228 (by decide) ?_
      obtain ⟨hy27, hp⟩ := hp
      refine nGoi (va_runSN (As := [.int x2, .int 0, .int 99]) (rest := []) ⟨hx, hb, hml, hown, hts⟩ (c_X12_in l G K x2 0 99 _) ⟨va_cnB (host := "MotionFloorModel") 3 hts (wGP t_ j_X12_in) rfl rfl rfl hTE.2.2.2.2.2.2.2.2.2.1 (hw (.initialized RX12) (List.mem_of_getElem? (i := 5) rfl)) (by decide +kernel) ⟨Nat.le_of_ble_eq_true rfl, Nat.le_of_ble_eq_true rfl⟩, (hw (.static yX12_in) (List.mem_of_getElem? (i := 6) rfl)), trivial⟩ (nPS hK hTE hy27) rfl rfl hl.1 rfl (lv_room (Nat.le_of_ble_eq_true rfl)) dX11_reason_230 ⟨Nat.le_of_ble_eq_true rfl, Nat.le_of_ble_eq_true rfl⟩) hP hS hA (fun r H locs hv hP hS => ?_)
      subst hv
      refine lv_if_ne (tgt := 241) hx hb dX11_reason_233 (by decide) (fun c28 => ?_) (fun c28 => ?_)
      · rw [if_neg c28] at hE hp
        refine lv_aload_n hx hb dX11_reason_241 rfl (lv_at hl 0 rfl) ?_
        refine va_get (D := G) (ci := 8) (v := .int (S.1 6)) (C := RX11) (T := TX11) (N := 42) hx hb hts iX11 hown hK hP 0 rfl rfl 6 (by decide) (hw (.fieldLink RX11 115 "MotionFloorModel$Hall" "pending" "I") (List.mem_of_getElem? (i := 7) rfl)) (fun _ h9 => h9) rfl dX11_reason_242 ?_
        refine lv_if_le (tgt := 253) hx hb dX11_reason_245 (by decide) (fun c29 => ?_) (fun c29 => ?_)
        · rw [if_pos c29] at hE hp
          refine lv_iconst (v := 0) hx hb dX11_reason_253 (by decide) ?_
          exact B_254 S x1 x2 x3 x4 x5 0 _ _ _ hE hp hP hD hS (lv_sub hl [0, 1, 2, 3, 4, 5] rfl)
        · rw [if_neg c29] at hE hp
          refine lv_bipush (v := 11) hx hb dX11_reason_248 (by decide) ?_
          refine lv_goto (tgt := 254) hx hb dX11_reason_250 (by decide) ?_
          exact B_254 S x1 x2 x3 x4 x5 11 _ _ _ hE hp hP hD hS (lv_sub hl [0, 1, 2, 3, 4, 5] rfl)
      · rw [if_pos c28] at hE hp
        refine lv_bipush (v := 9) hx hb dX11_reason_236 (by decide) ?_
        refine lv_goto (tgt := 254) hx hb dX11_reason_238 (by decide) ?_
        exact B_254 S x1 x2 x3 x4 x5 9 _ _ _ hE hp hP hD hS (lv_sub hl [0, 1, 2, 3, 4, 5] rfl)
    rw [if_neg s6] at hE hp
    have s6 := wNe (b := 6) rfl (by decide) s6
    by_cases s7 : x1 = 7
    · rw [if_pos s7] at hE hp
      refine lv_tableIn (off := 254) (tgt := 255) hx hb dX11_reason_1 (by rw [s7]; decide) (by rw [s7]; decide) (by rw [s7]; decide) (by decide) ?_
      refine lv_aload_n hx hb dX11_reason_255 rfl (lv_at hl 0 rfl) ?_
      refine lv_iload_n hx hb dX11_reason_256 rfl (lv_at hl 2 rfl) ?_
      obtain ⟨hy30, hp⟩ := hp
      refine hGoi (va_runV (As := [.int x2]) (rest := []) ⟨hx, hb, hml, hown, hts⟩ (c_X11_isSeat l G K h g S x2 _) (cwV 1 hts (wGV t_ (mw (.methodLink RX11 140 yX11_isSeat) (List.mem_of_getElem? (i := 0) rfl)) (mw (.instanceMethod yX11_isSeat) (List.mem_of_getElem? (i := 1) rfl)) (mw (.selects RX11 yX11_isSeat yX11_isSeat) (List.mem_of_getElem? (i := 2) rfl)) (mw (.initialized RX11) (List.mem_of_getElem? (i := 3) rfl)) j_X11_isSeat) rfl rfl rfl (by decide +kernel) ⟨Nat.le_of_ble_eq_true rfl, Nat.le_of_ble_eq_true rfl⟩) (hPV hK hTE hP hD hy30) rfl rfl hl.1 rfl (lv_room (Nat.le_of_ble_eq_true rfl)) dX11_reason_257 ⟨Nat.le_of_ble_eq_true rfl, Nat.le_of_ble_eq_true rfl⟩) hP hD hS hA (fun r32 u31 H locs hv hP hD hS => ?_)
      rw [← hv] at hE hp
      dsimp only at hE hp
      unfold b_X11_reason_a260 at hE
      unfold q_X11_reason_a260 at hp
      refine lv_if_ne (tgt := 266) hx hb dX11_reason_260 (by decide) (fun c33 => ?_) (fun c33 => ?_)
      · rw [if_neg c33] at hE hp
        refine lv_aload_n hx hb dX11_reason_266 rfl (lv_at hl 0 rfl) ?_
        refine va_get (D := G) (ci := 8) (v := .ref (g 11)) (C := RX11) (T := TX11) (N := 42) hx hb hts iX11 hown hK hP 0 rfl rfl 11 (by decide) (hw (.fieldLink RX11 9 "MotionFloorModel$Hall" "isThere" "[Z") (List.mem_of_getElem? (i := 4) rfl)) (fun _ h9 => h9) rfl dX11_reason_267 ?_
        refine lv_iload_n hx hb dX11_reason_270 rfl (lv_at hl 2 rfl) ?_
        obtain ⟨hy34, hp⟩ := hp
        refine va_zald hx hb hK hP 1 1 rfl rfl hy34 dX11_reason_271 ?_
        refine lv_if_ne (tgt := 278) hx hb dX11_reason_272 (by decide) (fun c35 => ?_) (fun c35 => ?_)
        · rw [if_neg c35] at hE hp
          refine lv_iload_n hx hb dX11_reason_278 rfl (lv_at hl 2 rfl) ?_
          refine lv_aload_n hx hb dX11_reason_279 rfl (lv_at hl 0 rfl) ?_
          refine va_get (D := G) (ci := 8) (v := .int (u31.1 2)) (C := RX11) (T := TX11) (N := 42) hx hb hts iX11 hown hK hP 0 rfl rfl 2 (by decide) (hw (.fieldLink RX11 103 "MotionFloorModel$Hall" "chair" "I") (List.mem_of_getElem? (i := 8) rfl)) (fun _ h9 => h9) rfl dX11_reason_280 ?_
          refine lv_icmp_eq (tgt := 294) hx hb dX11_reason_283 (by decide) (fun c36 => ?_) (fun c36 => ?_)
          · rw [if_pos c36] at hE hp
            exact B_294 u31 x1 x2 x3 x4 x5 _ _ _ hE hp hP hD hS (lv_sub hl [0, 1, 2, 3, 4, 5] rfl)
          · rw [if_neg c36] at hE hp
            refine lv_aload_n hx hb dX11_reason_286 rfl (lv_at hl 0 rfl) ?_
            refine va_get (D := G) (ci := 8) (v := .int (u31.1 5)) (C := RX11) (T := TX11) (N := 42) hx hb hts iX11 hown hK hP 0 rfl rfl 5 (by decide) (hw (.fieldLink RX11 112 "MotionFloorModel$Hall" "floor" "I") (List.mem_of_getElem? (i := 9) rfl)) (fun _ h9 => h9) rfl dX11_reason_287 ?_
            refine lv_iconst (v := (-1)) hx hb dX11_reason_290 (by decide) ?_
            refine lv_icmp_eq (tgt := 296) hx hb dX11_reason_291 (by decide) (fun c37 => ?_) (fun c37 => ?_)
            · rw [if_pos c37] at hE hp
              refine lv_aload_n hx hb dX11_reason_296 rfl (lv_at hl 0 rfl) ?_
              refine va_get (D := G) (ci := 8) (v := .int (u31.1 6)) (C := RX11) (T := TX11) (N := 42) hx hb hts iX11 hown hK hP 0 rfl rfl 6 (by decide) (hw (.fieldLink RX11 115 "MotionFloorModel$Hall" "pending" "I") (List.mem_of_getElem? (i := 7) rfl)) (fun _ h9 => h9) rfl dX11_reason_297 ?_
              refine lv_if_ne (tgt := 305) hx hb dX11_reason_300 (by decide) (fun c38 => ?_) (fun c38 => ?_)
              · rw [if_neg c38] at hE hp
                refine lv_aload_n hx hb dX11_reason_305 rfl (lv_at hl 0 rfl) ?_
                refine va_get (D := G) (ci := 8) (v := .ref (g 14)) (C := RX11) (T := TX11) (N := 42) hx hb hts iX11 hown hK hP 0 rfl rfl 14 (by decide) (hw (.fieldLink RX11 22 "MotionFloorModel$Hall" "kind" "[I") (List.mem_of_getElem? (i := 10) rfl)) (fun _ h9 => h9) rfl dX11_reason_306 ?_
                refine lv_aload_n hx hb dX11_reason_309 rfl (lv_at hl 0 rfl) ?_
                obtain ⟨hy39, hp⟩ := hp
                refine hGoi (va_runV (As := []) (rest := [.ref (g 14)]) ⟨hx, hb, hml, hown, hts⟩ (c_X11_top l G K h g u31 _) (cwV 0 hts (wGV t_ (mw (.methodLink RX11 155 yX11_top) (List.mem_of_getElem? (i := 11) rfl)) (mw (.instanceMethod yX11_top) (List.mem_of_getElem? (i := 12) rfl)) (mw (.selects RX11 yX11_top yX11_top) (List.mem_of_getElem? (i := 13) rfl)) (mw (.initialized RX11) (List.mem_of_getElem? (i := 3) rfl)) j_X11_top) rfl rfl rfl (by decide +kernel) ⟨Nat.le_of_ble_eq_true rfl, Nat.le_of_ble_eq_true rfl⟩) (hPV hK hTE hP hD hy39) rfl rfl hl.1 rfl (lv_room (Nat.le_of_ble_eq_true rfl)) dX11_reason_310 ⟨Nat.le_of_ble_eq_true rfl, Nat.le_of_ble_eq_true rfl⟩) hP hD hS hA (fun r41 u40 H locs hv hP hD hS => ?_)
                rw [← hv] at hE hp
                dsimp only at hE hp
                unfold b_X11_reason_a313 at hE
                unfold q_X11_reason_a313 at hp
                obtain ⟨hy42, hp⟩ := hp
                refine va_iald hx hb hK hP 4 0 rfl rfl hy42 dX11_reason_313 ?_
                refine lv_bipush (v := 6) hx hb dX11_reason_314 (by decide) ?_
                refine lv_icmp_eq (tgt := 354) hx hb dX11_reason_316 (by decide) (fun c43 => ?_) (fun c43 => ?_)
                · rw [if_pos c43] at hE hp
                  exact B_354 u40 x1 x2 x3 x4 x5 _ _ _ hE hp hP hD hS (lv_sub hl [0, 1, 2, 3, 4, 5] rfl)
                · rw [if_neg c43] at hE hp
                  refine lv_aload_n hx hb dX11_reason_319 rfl (lv_at hl 0 rfl) ?_
                  refine va_get (D := G) (ci := 8) (v := .ref (g 24)) (C := RX11) (T := TX11) (N := 42) hx hb hts iX11 hown hK hP 0 rfl rfl 24 (by decide) (hw (.fieldLink RX11 52 "MotionFloorModel$Hall" "closed" "[Z") (List.mem_of_getElem? (i := 14) rfl)) (fun _ h9 => h9) rfl dX11_reason_320 ?_
                  refine lv_aload_n hx hb dX11_reason_323 rfl (lv_at hl 0 rfl) ?_
                  obtain ⟨hy44, hp⟩ := hp
                  refine hGoi (va_runV (As := []) (rest := [.ref (g 24)]) ⟨hx, hb, hml, hown, hts⟩ (c_X11_top l G K h g u40 _) (cwV 0 hts (wGV t_ (mw (.methodLink RX11 155 yX11_top) (List.mem_of_getElem? (i := 11) rfl)) (mw (.instanceMethod yX11_top) (List.mem_of_getElem? (i := 12) rfl)) (mw (.selects RX11 yX11_top yX11_top) (List.mem_of_getElem? (i := 13) rfl)) (mw (.initialized RX11) (List.mem_of_getElem? (i := 3) rfl)) j_X11_top) rfl rfl rfl (by decide +kernel) ⟨Nat.le_of_ble_eq_true rfl, Nat.le_of_ble_eq_true rfl⟩) (hPV hK hTE hP hD hy44) rfl rfl hl.1 rfl (lv_room (Nat.le_of_ble_eq_true rfl)) dX11_reason_324 ⟨Nat.le_of_ble_eq_true rfl, Nat.le_of_ble_eq_true rfl⟩) hP hD hS hA (fun r46 u45 H locs hv hP hD hS => ?_)
                  rw [← hv] at hE hp
                  dsimp only at hE hp
                  unfold b_X11_reason_a327 at hE
                  unfold q_X11_reason_a327 at hp
                  obtain ⟨hy47, hp⟩ := hp
                  refine va_zald hx hb hK hP 14 1 rfl rfl hy47 dX11_reason_327 ?_
                  refine lv_if_ne (tgt := 354) hx hb dX11_reason_328 (by decide) (fun c48 => ?_) (fun c48 => ?_)
                  · rw [if_neg c48] at hE hp
                    exact B_354 u45 x1 x2 x3 x4 x5 _ _ _ hE hp hP hD hS (lv_sub hl [0, 1, 2, 3, 4, 5] rfl)
                  · rw [if_pos c48] at hE hp
                    refine lv_aload_n hx hb dX11_reason_331 rfl (lv_at hl 0 rfl) ?_
                    refine va_get (D := G) (ci := 8) (v := .int (u45.1 4)) (C := RX11) (T := TX11) (N := 42) hx hb hts iX11 hown hK hP 0 rfl rfl 4 (by decide) (hw (.fieldLink RX11 109 "MotionFloorModel$Hall" "limit" "I") (List.mem_of_getElem? (i := 15) rfl)) (fun _ h9 => h9) rfl dX11_reason_332 ?_
                    refine lv_if_le (tgt := 359) hx hb dX11_reason_335 (by decide) (fun c49 => ?_) (fun c49 => ?_)
                    · rw [if_pos c49] at hE hp
                      exact B_359 u45 x1 x2 x3 x4 x5 _ _ _ hE hp hP hD hS (lv_sub hl [0, 1, 2, 3, 4, 5] rfl)
                    · rw [if_neg c49] at hE hp
                      refine lv_aload_n hx hb dX11_reason_338 rfl (lv_at hl 0 rfl) ?_
                      refine va_get (D := G) (ci := 8) (v := .ref (g 17)) (C := RX11) (T := TX11) (N := 42) hx hb hts iX11 hown hK hP 0 rfl rfl 17 (by decide) (hw (.fieldLink RX11 31 "MotionFloorModel$Hall" "floors" "[I") (List.mem_of_getElem? (i := 16) rfl)) (fun _ h9 => h9) rfl dX11_reason_339 ?_
                      refine lv_aload_n hx hb dX11_reason_342 rfl (lv_at hl 0 rfl) ?_
                      obtain ⟨hy50, hp⟩ := hp
                      refine hGoi (va_runV (As := []) (rest := [.ref (g 17)]) ⟨hx, hb, hml, hown, hts⟩ (c_X11_top l G K h g u45 _) (cwV 0 hts (wGV t_ (mw (.methodLink RX11 155 yX11_top) (List.mem_of_getElem? (i := 11) rfl)) (mw (.instanceMethod yX11_top) (List.mem_of_getElem? (i := 12) rfl)) (mw (.selects RX11 yX11_top yX11_top) (List.mem_of_getElem? (i := 13) rfl)) (mw (.initialized RX11) (List.mem_of_getElem? (i := 3) rfl)) j_X11_top) rfl rfl rfl (by decide +kernel) ⟨Nat.le_of_ble_eq_true rfl, Nat.le_of_ble_eq_true rfl⟩) (hPV hK hTE hP hD hy50) rfl rfl hl.1 rfl (lv_room (Nat.le_of_ble_eq_true rfl)) dX11_reason_343 ⟨Nat.le_of_ble_eq_true rfl, Nat.le_of_ble_eq_true rfl⟩) hP hD hS hA (fun r52 u51 H locs hv hP hD hS => ?_)
                      rw [← hv] at hE hp
                      dsimp only at hE hp
                      unfold b_X11_reason_a346 at hE
                      unfold q_X11_reason_a346 at hp
                      obtain ⟨hy53, hp⟩ := hp
                      refine va_iald hx hb hK hP 7 0 rfl rfl hy53 dX11_reason_346 ?_
                      refine lv_aload_n hx hb dX11_reason_347 rfl (lv_at hl 0 rfl) ?_
                      refine va_get (D := G) (ci := 8) (v := .int (u51.1 4)) (C := RX11) (T := TX11) (N := 42) hx hb hts iX11 hown hK hP 0 rfl rfl 4 (by decide) (hw (.fieldLink RX11 109 "MotionFloorModel$Hall" "limit" "I") (List.mem_of_getElem? (i := 15) rfl)) (fun _ h9 => h9) rfl dX11_reason_348 ?_
                      refine lv_icmp_lt (tgt := 359) hx hb dX11_reason_351 (by decide) (fun c54 => ?_) (fun c54 => ?_)
                      · rw [if_pos c54] at hE hp
                        exact B_359 u51 x1 x2 x3 x4 x5 _ _ _ hE hp hP hD hS (lv_sub hl [0, 1, 2, 3, 4, 5] rfl)
                      · rw [if_neg c54] at hE hp
                        exact B_354 u51 x1 x2 x3 x4 x5 _ _ _ hE hp hP hD hS (lv_sub hl [0, 1, 2, 3, 4, 5] rfl)
              · rw [if_pos c38] at hE hp
                refine lv_iconst (v := 0) hx hb dX11_reason_303 (by decide) ?_
                subst hQ
                exact W.iret (v := 0) hx hb hr (fun t ht hW => ⟨⟨0, u31, rfl, hE.trans hX.symm, by rw [ht]; exact hP, hD⟩, hS.F ht⟩) hS.2.2 dX11_reason_304
            · rw [if_neg c37] at hE hp
              exact B_294 u31 x1 x2 x3 x4 x5 _ _ _ hE hp hP hD hS (lv_sub hl [0, 1, 2, 3, 4, 5] rfl)
        · rw [if_pos c35] at hE hp
          refine lv_bipush (v := 8) hx hb dX11_reason_275 (by decide) ?_
          subst hQ
          exact W.iret (v := 8) hx hb hr (fun t ht hW => ⟨⟨8, u31, rfl, hE.trans hX.symm, by rw [ht]; exact hP, hD⟩, hS.F ht⟩) hS.2.2 dX11_reason_277
      · rw [if_pos c33] at hE hp
        refine lv_bipush (v := 9) hx hb dX11_reason_263 (by decide) ?_
        subst hQ
        exact W.iret (v := 9) hx hb hr (fun t ht hW => ⟨⟨9, u31, rfl, hE.trans hX.symm, by rw [ht]; exact hP, hD⟩, hS.F ht⟩) hS.2.2 dX11_reason_265
    rw [if_neg s7] at hE hp
    have s7 := wNe (b := 7) rfl (by decide) s7
    by_cases s8 : x1 = 8
    · rw [if_pos s8] at hE hp
      refine lv_tableIn (off := 360) (tgt := 361) hx hb dX11_reason_1 (by rw [s8]; decide) (by rw [s8]; decide) (by rw [s8]; decide) (by decide) ?_
      refine lv_aload_n hx hb dX11_reason_361 rfl (lv_at hl 0 rfl) ?_
      refine va_get (D := G) (ci := 8) (v := .int (S.1 5)) (C := RX11) (T := TX11) (N := 42) hx hb hts iX11 hown hK hP 0 rfl rfl 5 (by decide) (hw (.fieldLink RX11 112 "MotionFloorModel$Hall" "floor" "I") (List.mem_of_getElem? (i := 9) rfl)) (fun _ h9 => h9) rfl dX11_reason_362 ?_
      refine lv_iconst (v := (-1)) hx hb dX11_reason_365 (by decide) ?_
      refine lv_icmp_ne (tgt := 373) hx hb dX11_reason_366 (by decide) (fun c100 => ?_) (fun c100 => ?_)
      · rw [if_neg c100] at hE hp
        refine lv_iconst (v := 0) hx hb dX11_reason_373 (by decide) ?_
        exact B_374 S x1 x2 x3 x4 x5 0 _ _ _ hE hp hP hD hS (lv_sub hl [0, 1, 2, 3, 4, 5] rfl)
      · rw [if_pos c100] at hE hp
        refine lv_iconst (v := 2) hx hb dX11_reason_369 (by decide) ?_
        refine lv_goto (tgt := 374) hx hb dX11_reason_370 (by decide) ?_
        exact B_374 S x1 x2 x3 x4 x5 2 _ _ _ hE hp hP hD hS (lv_sub hl [0, 1, 2, 3, 4, 5] rfl)
    rw [if_neg s8] at hE hp
    have s8 := wNe (b := 8) rfl (by decide) s8
    by_cases s9 : x1 = 9
    · rw [if_pos s9] at hE hp
      refine lv_tableIn (off := 374) (tgt := 375) hx hb dX11_reason_1 (by rw [s9]; decide) (by rw [s9]; decide) (by rw [s9]; decide) (by decide) ?_
      refine lv_aload_n hx hb dX11_reason_375 rfl (lv_at hl 0 rfl) ?_
      refine va_get (D := G) (ci := 8) (v := .int (S.1 6)) (C := RX11) (T := TX11) (N := 42) hx hb hts iX11 hown hK hP 0 rfl rfl 6 (by decide) (hw (.fieldLink RX11 115 "MotionFloorModel$Hall" "pending" "I") (List.mem_of_getElem? (i := 7) rfl)) (fun _ h9 => h9) rfl dX11_reason_376 ?_
      refine lv_if_ne (tgt := 385) hx hb dX11_reason_379 (by decide) (fun c101 => ?_) (fun c101 => ?_)
      · rw [if_neg c101] at hE hp
        refine lv_aload_n hx hb dX11_reason_385 rfl (lv_at hl 0 rfl) ?_
        refine va_get (D := G) (ci := 8) (v := .int (S.1 5)) (C := RX11) (T := TX11) (N := 42) hx hb hts iX11 hown hK hP 0 rfl rfl 5 (by decide) (hw (.fieldLink RX11 112 "MotionFloorModel$Hall" "floor" "I") (List.mem_of_getElem? (i := 9) rfl)) (fun _ h9 => h9) rfl dX11_reason_386 ?_
        refine lv_iconst (v := (-1)) hx hb dX11_reason_389 (by decide) ?_
        refine lv_icmp_eq (tgt := 401) hx hb dX11_reason_390 (by decide) (fun c102 => ?_) (fun c102 => ?_)
        · rw [if_pos c102] at hE hp
          exact B_401 S x1 x2 x3 x4 x5 _ _ _ hE hp hP hD hS (lv_sub hl [0, 1, 2, 3, 4, 5] rfl)
        · rw [if_neg c102] at hE hp
          refine lv_aload_n hx hb dX11_reason_393 rfl (lv_at hl 0 rfl) ?_
          refine va_get (D := G) (ci := 8) (v := .int (S.1 5)) (C := RX11) (T := TX11) (N := 42) hx hb hts iX11 hown hK hP 0 rfl rfl 5 (by decide) (hw (.fieldLink RX11 112 "MotionFloorModel$Hall" "floor" "I") (List.mem_of_getElem? (i := 9) rfl)) (fun _ h9 => h9) rfl dX11_reason_394 ?_
          refine lv_iload_n hx hb dX11_reason_397 rfl (lv_at hl 2 rfl) ?_
          refine lv_icmp_eq (tgt := 403) hx hb dX11_reason_398 (by decide) (fun c103 => ?_) (fun c103 => ?_)
          · rw [if_pos c103] at hE hp
            refine lv_aload_n hx hb dX11_reason_403 rfl (lv_at hl 0 rfl) ?_
            obtain ⟨hy104, hp⟩ := hp
            refine hGoi (va_runV (As := []) (rest := []) ⟨hx, hb, hml, hown, hts⟩ (c_X11_hasSeconder l G K h g S _) (cwV 0 hts (wGV t_ (mw (.methodLink RX11 159 yX11_hasSeconder) (List.mem_of_getElem? (i := 17) rfl)) (mw (.instanceMethod yX11_hasSeconder) (List.mem_of_getElem? (i := 18) rfl)) (mw (.selects RX11 yX11_hasSeconder yX11_hasSeconder) (List.mem_of_getElem? (i := 19) rfl)) (mw (.initialized RX11) (List.mem_of_getElem? (i := 3) rfl)) j_X11_hasSeconder) rfl rfl rfl (by decide +kernel) ⟨Nat.le_of_ble_eq_true rfl, Nat.le_of_ble_eq_true rfl⟩) (hPV hK hTE hP hD hy104) rfl rfl hl.1 rfl (lv_room (Nat.le_of_ble_eq_true rfl)) dX11_reason_404 ⟨Nat.le_of_ble_eq_true rfl, Nat.le_of_ble_eq_true rfl⟩) hP hD hS hA (fun r106 u105 H locs hv hP hD hS => ?_)
            rw [← hv] at hE hp
            dsimp only at hE hp
            unfold b_X11_reason_a407 at hE
            unfold q_X11_reason_a407 at hp
            refine lv_if_ne (tgt := 412) hx hb dX11_reason_407 (by decide) (fun c107 => ?_) (fun c107 => ?_)
            · rw [if_neg c107] at hE hp
              refine lv_aload_n hx hb dX11_reason_412 rfl (lv_at hl 0 rfl) ?_
              refine va_get (D := G) (ci := 8) (v := .ref (g 14)) (C := RX11) (T := TX11) (N := 42) hx hb hts iX11 hown hK hP 0 rfl rfl 14 (by decide) (hw (.fieldLink RX11 22 "MotionFloorModel$Hall" "kind" "[I") (List.mem_of_getElem? (i := 10) rfl)) (fun _ h9 => h9) rfl dX11_reason_413 ?_
              refine lv_aload_n hx hb dX11_reason_416 rfl (lv_at hl 0 rfl) ?_
              obtain ⟨hy108, hp⟩ := hp
              refine hGoi (va_runV (As := []) (rest := [.ref (g 14)]) ⟨hx, hb, hml, hown, hts⟩ (c_X11_top l G K h g u105 _) (cwV 0 hts (wGV t_ (mw (.methodLink RX11 155 yX11_top) (List.mem_of_getElem? (i := 11) rfl)) (mw (.instanceMethod yX11_top) (List.mem_of_getElem? (i := 12) rfl)) (mw (.selects RX11 yX11_top yX11_top) (List.mem_of_getElem? (i := 13) rfl)) (mw (.initialized RX11) (List.mem_of_getElem? (i := 3) rfl)) j_X11_top) rfl rfl rfl (by decide +kernel) ⟨Nat.le_of_ble_eq_true rfl, Nat.le_of_ble_eq_true rfl⟩) (hPV hK hTE hP hD hy108) rfl rfl hl.1 rfl (lv_room (Nat.le_of_ble_eq_true rfl)) dX11_reason_417 ⟨Nat.le_of_ble_eq_true rfl, Nat.le_of_ble_eq_true rfl⟩) hP hD hS hA (fun r110 u109 H locs hv hP hD hS => ?_)
              rw [← hv] at hE hp
              dsimp only at hE hp
              unfold b_X11_reason_a420 at hE
              unfold q_X11_reason_a420 at hp
              obtain ⟨hy111, hp⟩ := hp
              refine va_iald hx hb hK hP 4 0 rfl rfl hy111 dX11_reason_420 ?_
              refine lv_bipush (v := 6) hx hb dX11_reason_421 (by decide) ?_
              refine lv_bipush (v := 8) hx hb dX11_reason_423 (by decide) ?_
              obtain ⟨hy112, hp⟩ := hp
              refine nGoi (va_runSN (As := [.int (u109.2 14 r110.toNatClampNeg), .int 6, .int 8]) (rest := []) ⟨hx, hb, hml, hown, hts⟩ (c_X12_in l G K (u109.2 14 r110.toNatClampNeg) 6 8 _) ⟨va_cnB (host := "MotionFloorModel") 3 hts (wGP t_ j_X12_in) rfl rfl rfl hTE.2.2.2.2.2.2.2.2.2.1 (hw (.initialized RX12) (List.mem_of_getElem? (i := 5) rfl)) (by decide +kernel) ⟨Nat.le_of_ble_eq_true rfl, Nat.le_of_ble_eq_true rfl⟩, (hw (.static yX12_in) (List.mem_of_getElem? (i := 6) rfl)), trivial⟩ (nPS hK hTE hy112) rfl rfl hl.1 rfl (lv_room (Nat.le_of_ble_eq_true rfl)) dX11_reason_425 ⟨Nat.le_of_ble_eq_true rfl, Nat.le_of_ble_eq_true rfl⟩) hP hS hA (fun r H locs hv hP hS => ?_)
              subst hv
              refine lv_if_eq (tgt := 436) hx hb dX11_reason_428 (by decide) (fun c113 => ?_) (fun c113 => ?_)
              · rw [if_pos c113] at hE hp
                refine lv_iconst (v := 0) hx hb dX11_reason_436 (by decide) ?_
                exact B_437 u109 x1 x2 x3 x4 x5 0 _ _ _ hE hp hP hD hS (lv_sub hl [0, 1, 2, 3, 4, 5] rfl)
              · rw [if_neg c113] at hE hp
                refine lv_bipush (v := 6) hx hb dX11_reason_431 (by decide) ?_
                refine lv_goto (tgt := 437) hx hb dX11_reason_433 (by decide) ?_
                exact B_437 u109 x1 x2 x3 x4 x5 6 _ _ _ hE hp hP hD hS (lv_sub hl [0, 1, 2, 3, 4, 5] rfl)
            · rw [if_pos c107] at hE hp
              refine lv_iconst (v := 3) hx hb dX11_reason_410 (by decide) ?_
              subst hQ
              exact W.iret (v := 3) hx hb hr (fun t ht hW => ⟨⟨3, u105, rfl, hE.trans hX.symm, by rw [ht]; exact hP, hD⟩, hS.F ht⟩) hS.2.2 dX11_reason_411
          · rw [if_neg c103] at hE hp
            exact B_401 S x1 x2 x3 x4 x5 _ _ _ hE hp hP hD hS (lv_sub hl [0, 1, 2, 3, 4, 5] rfl)
      · rw [if_pos c101] at hE hp
        refine lv_bipush (v := 7) hx hb dX11_reason_382 (by decide) ?_
        subst hQ
        exact W.iret (v := 7) hx hb hr (fun t ht hW => ⟨⟨7, S, rfl, hE.trans hX.symm, by rw [ht]; exact hP, hD⟩, hS.F ht⟩) hS.2.2 dX11_reason_384
    rw [if_neg s9] at hE hp
    have s9 := wNe (b := 9) rfl (by decide) s9
    by_cases s10 : x1 = 10
    · rw [if_pos s10] at hE hp
      refine lv_tableIn (off := 437) (tgt := 438) hx hb dX11_reason_1 (by rw [s10]; decide) (by rw [s10]; decide) (by rw [s10]; decide) (by decide) ?_
      refine lv_iload_n hx hb dX11_reason_438 rfl (lv_at hl 2 rfl) ?_
      refine lv_iconst (v := 1) hx hb dX11_reason_439 (by decide) ?_
      refine lv_bipush (v := 8) hx hb dX11_reason_440 (by decide) ?_
      obtain ⟨hy124, hp⟩ := hp
      refine nGoi (va_runSN (As := [.int x2, .int 1, .int 8]) (rest := []) ⟨hx, hb, hml, hown, hts⟩ (c_X12_in l G K x2 1 8 _) ⟨va_cnB (host := "MotionFloorModel") 3 hts (wGP t_ j_X12_in) rfl rfl rfl hTE.2.2.2.2.2.2.2.2.2.1 (hw (.initialized RX12) (List.mem_of_getElem? (i := 5) rfl)) (by decide +kernel) ⟨Nat.le_of_ble_eq_true rfl, Nat.le_of_ble_eq_true rfl⟩, (hw (.static yX12_in) (List.mem_of_getElem? (i := 6) rfl)), trivial⟩ (nPS hK hTE hy124) rfl rfl hl.1 rfl (lv_room (Nat.le_of_ble_eq_true rfl)) dX11_reason_442 ⟨Nat.le_of_ble_eq_true rfl, Nat.le_of_ble_eq_true rfl⟩) hP hS hA (fun r H locs hv hP hS => ?_)
      subst hv
      refine lv_if_ne (tgt := 453) hx hb dX11_reason_445 (by decide) (fun c125 => ?_) (fun c125 => ?_)
      · rw [if_neg c125] at hE hp
        refine lv_iconst (v := 0) hx hb dX11_reason_453 (by decide) ?_
        exact B_454 S x1 x2 x3 x4 x5 0 _ _ _ hE hp hP hD hS (lv_sub hl [0, 1, 2, 3, 4, 5] rfl)
      · rw [if_pos c125] at hE hp
        refine lv_bipush (v := 9) hx hb dX11_reason_448 (by decide) ?_
        refine lv_goto (tgt := 454) hx hb dX11_reason_450 (by decide) ?_
        exact B_454 S x1 x2 x3 x4 x5 9 _ _ _ hE hp hP hD hS (lv_sub hl [0, 1, 2, 3, 4, 5] rfl)
    rw [if_neg s10] at hE hp
    have s10 := wNe (b := 10) rfl (by decide) s10
    by_cases s11 : x1 = 11
    · rw [if_pos s11] at hE hp
      refine lv_tableIn (off := 454) (tgt := 455) hx hb dX11_reason_1 (by rw [s11]; decide) (by rw [s11]; decide) (by rw [s11]; decide) (by decide) ?_
      refine lv_aload_n hx hb dX11_reason_455 rfl (lv_at hl 0 rfl) ?_
      refine lv_iconst (v := 2) hx hb dX11_reason_456 (by decide) ?_
      refine lv_iconst (v := 3) hx hb dX11_reason_457 (by decide) ?_
      obtain ⟨hy126, hp⟩ := hp
      refine hGoi (va_runV (As := [.int 2, .int 3]) (rest := []) ⟨hx, hb, hml, hown, hts⟩ (c_X11_hasDraft l G K h g S 2 3 _) (cwV 2 hts (wGV t_ (mw (.methodLink RX11 163 yX11_hasDraft) (List.mem_of_getElem? (i := 20) rfl)) (mw (.instanceMethod yX11_hasDraft) (List.mem_of_getElem? (i := 21) rfl)) (mw (.selects RX11 yX11_hasDraft yX11_hasDraft) (List.mem_of_getElem? (i := 22) rfl)) (mw (.initialized RX11) (List.mem_of_getElem? (i := 3) rfl)) j_X11_hasDraft) rfl rfl rfl (by decide +kernel) ⟨Nat.le_of_ble_eq_true rfl, Nat.le_of_ble_eq_true rfl⟩) (hPV hK hTE hP hD hy126) rfl rfl hl.1 rfl (lv_room (Nat.le_of_ble_eq_true rfl)) dX11_reason_458 ⟨Nat.le_of_ble_eq_true rfl, Nat.le_of_ble_eq_true rfl⟩) hP hD hS hA (fun r128 u127 H locs hv hP hD hS => ?_)
      rw [← hv] at hE hp
      dsimp only at hE hp
      unfold b_X11_reason_a461 at hE
      unfold q_X11_reason_a461 at hp
      refine lv_if_eq (tgt := 478) hx hb dX11_reason_461 (by decide) (fun c129 => ?_) (fun c129 => ?_)
      · rw [if_pos c129] at hE hp
        exact B_478 u127 x1 x2 x3 x4 x5 _ _ _ hE hp hP hD hS (lv_sub hl [0, 1, 2, 3, 4, 5] rfl)
      · rw [if_neg c129] at hE hp
        refine lv_aload_n hx hb dX11_reason_464 rfl (lv_at hl 0 rfl) ?_
        refine va_get (D := G) (ci := 8) (v := .ref (g 25)) (C := RX11) (T := TX11) (N := 42) hx hb hts iX11 hown hK hP 0 rfl rfl 25 (by decide) (hw (.fieldLink RX11 55 "MotionFloorModel$Hall" "laid" "[Z") (List.mem_of_getElem? (i := 23) rfl)) (fun _ h9 => h9) rfl dX11_reason_465 ?_
        refine lv_aload_n hx hb dX11_reason_468 rfl (lv_at hl 0 rfl) ?_
        refine va_get (D := G) (ci := 8) (v := .ref (g 32)) (C := RX11) (T := TX11) (N := 42) hx hb hts iX11 hown hK hP 0 rfl rfl 32 (by decide) (hw (.fieldLink RX11 75 "MotionFloorModel$Hall" "draft" "[I") (List.mem_of_getElem? (i := 24) rfl)) (fun _ h9 => h9) rfl dX11_reason_469 ?_
        refine lv_iconst (v := 0) hx hb dX11_reason_472 (by decide) ?_
        obtain ⟨hy130, hp⟩ := hp
        refine va_iald hx hb hK hP 21 0 rfl rfl hy130 dX11_reason_473 ?_
        obtain ⟨hy131, hp⟩ := hp
        refine va_zald hx hb hK hP 15 1 rfl rfl hy131 dX11_reason_474 ?_
        refine lv_if_eq (tgt := 483) hx hb dX11_reason_475 (by decide) (fun c132 => ?_) (fun c132 => ?_)
        · rw [if_pos c132] at hE hp
          refine lv_iload_n hx hb dX11_reason_483 rfl (lv_at hl 2 rfl) ?_
          refine lv_iconst (v := 0) hx hb dX11_reason_484 (by decide) ?_
          refine lv_sipush (v := 400) hx hb dX11_reason_485 (by decide) ?_
          obtain ⟨hy133, hp⟩ := hp
          refine nGoi (va_runSN (As := [.int x2, .int 0, .int 400]) (rest := []) ⟨hx, hb, hml, hown, hts⟩ (c_X12_in l G K x2 0 400 _) ⟨va_cnB (host := "MotionFloorModel") 3 hts (wGP t_ j_X12_in) rfl rfl rfl hTE.2.2.2.2.2.2.2.2.2.1 (hw (.initialized RX12) (List.mem_of_getElem? (i := 5) rfl)) (by decide +kernel) ⟨Nat.le_of_ble_eq_true rfl, Nat.le_of_ble_eq_true rfl⟩, (hw (.static yX12_in) (List.mem_of_getElem? (i := 6) rfl)), trivial⟩ (nPS hK hTE hy133) rfl rfl hl.1 rfl (lv_room (Nat.le_of_ble_eq_true rfl)) dX11_reason_488 ⟨Nat.le_of_ble_eq_true rfl, Nat.le_of_ble_eq_true rfl⟩) hP hS hA (fun r H locs hv hP hS => ?_)
          subst hv
          refine lv_if_eq (tgt := 510) hx hb dX11_reason_491 (by decide) (fun c134 => ?_) (fun c134 => ?_)
          · rw [if_pos c134] at hE hp
            exact B_510 u127 x1 x2 x3 x4 x5 _ _ _ hE hp hP hD hS (lv_sub hl [0, 1, 2, 3, 4, 5] rfl)
          · rw [if_neg c134] at hE hp
            refine lv_iload_n hx hb dX11_reason_494 rfl (lv_at hl 3 rfl) ?_
            refine lv_iconst (v := 0) hx hb dX11_reason_495 (by decide) ?_
            refine lv_sipush (v := 400) hx hb dX11_reason_496 (by decide) ?_
            obtain ⟨hy135, hp⟩ := hp
            refine nGoi (va_runSN (As := [.int x3, .int 0, .int 400]) (rest := []) ⟨hx, hb, hml, hown, hts⟩ (c_X12_in l G K x3 0 400 _) ⟨va_cnB (host := "MotionFloorModel") 3 hts (wGP t_ j_X12_in) rfl rfl rfl hTE.2.2.2.2.2.2.2.2.2.1 (hw (.initialized RX12) (List.mem_of_getElem? (i := 5) rfl)) (by decide +kernel) ⟨Nat.le_of_ble_eq_true rfl, Nat.le_of_ble_eq_true rfl⟩, (hw (.static yX12_in) (List.mem_of_getElem? (i := 6) rfl)), trivial⟩ (nPS hK hTE hy135) rfl rfl hl.1 rfl (lv_room (Nat.le_of_ble_eq_true rfl)) dX11_reason_499 ⟨Nat.le_of_ble_eq_true rfl, Nat.le_of_ble_eq_true rfl⟩) hP hS hA (fun r H locs hv hP hS => ?_)
            subst hv
            refine lv_if_eq (tgt := 510) hx hb dX11_reason_502 (by decide) (fun c136 => ?_) (fun c136 => ?_)
            · rw [if_pos c136] at hE hp
              exact B_510 u127 x1 x2 x3 x4 x5 _ _ _ hE hp hP hD hS (lv_sub hl [0, 1, 2, 3, 4, 5] rfl)
            · rw [if_neg c136] at hE hp
              refine lv_iload_n hx hb dX11_reason_505 rfl (lv_at hl 3 rfl) ?_
              refine lv_iload_n hx hb dX11_reason_506 rfl (lv_at hl 2 rfl) ?_
              refine lv_icmp_ge (tgt := 515) hx hb dX11_reason_507 (by decide) (fun c137 => ?_) (fun c137 => ?_)
              · rw [if_pos c137] at hE hp
                refine lv_iconst (v := 0) hx hb dX11_reason_515 (by decide) ?_
                exact B_516 u127 x1 x2 x3 x4 x5 0 _ _ _ hE hp hP hD hS (lv_sub hl [0, 1, 2, 3, 4, 5] rfl)
              · rw [if_neg c137] at hE hp
                exact B_510 u127 x1 x2 x3 x4 x5 _ _ _ hE hp hP hD hS (lv_sub hl [0, 1, 2, 3, 4, 5] rfl)
        · rw [if_neg c132] at hE hp
          exact B_478 u127 x1 x2 x3 x4 x5 _ _ _ hE hp hP hD hS (lv_sub hl [0, 1, 2, 3, 4, 5] rfl)
    rw [if_neg s11] at hE hp
    have s11 := wNe (b := 11) rfl (by decide) s11
    by_cases s12 : x1 = 12
    · rw [if_pos s12] at hE hp
      refine lv_tableIn (off := 516) (tgt := 517) hx hb dX11_reason_1 (by rw [s12]; decide) (by rw [s12]; decide) (by rw [s12]; decide) (by decide) ?_
      refine lv_aload_n hx hb dX11_reason_517 rfl (lv_at hl 0 rfl) ?_
      refine lv_iload_n hx hb dX11_reason_518 rfl (lv_at hl 2 rfl) ?_
      refine lv_iload_n hx hb dX11_reason_519 rfl (lv_at hl 3 rfl) ?_
      refine lv_iload hx hb dX11_reason_520 (lv_at hl 4 rfl) ?_
      refine lv_iload hx hb dX11_reason_522 (lv_at hl 5 rfl) ?_
      obtain ⟨hy147, hp⟩ := hp
      refine hGoi (va_runV (As := [.int x2, .int x3, .int x4, .int x5]) (rest := []) ⟨hx, hb, hml, hown, hts⟩ (c_X11_reasonOfWord l G K h g S x2 x3 x4 x5 _) (cwV 4 hts (wGV t_ (mw (.methodLink RX11 167 yX11_reasonOfWord) (List.mem_of_getElem? (i := 25) rfl)) (mw (.instanceMethod yX11_reasonOfWord) (List.mem_of_getElem? (i := 26) rfl)) (mw (.selects RX11 yX11_reasonOfWord yX11_reasonOfWord) (List.mem_of_getElem? (i := 27) rfl)) (mw (.initialized RX11) (List.mem_of_getElem? (i := 3) rfl)) j_X11_reasonOfWord) rfl rfl rfl (by decide +kernel) ⟨Nat.le_of_ble_eq_true rfl, Nat.le_of_ble_eq_true rfl⟩) (hPV hK hTE hP hD hy147) rfl rfl hl.1 rfl (lv_room (Nat.le_of_ble_eq_true rfl)) dX11_reason_524 ⟨Nat.le_of_ble_eq_true rfl, Nat.le_of_ble_eq_true rfl⟩) hP hD hS hA (fun r149 u148 H locs hv hP hD hS => ?_)
      rw [← hv] at hE hp
      dsimp only at hE hp
      unfold b_X11_reason_a527 at hE
      unfold q_X11_reason_a527 at hp
      subst hQ
      exact W.iret (v := r149) hx hb hr (fun t ht hW => ⟨⟨r149, u148, rfl, hE.trans hX.symm, by rw [ht]; exact hP, hD⟩, hS.F ht⟩) hS.2.2 dX11_reason_527
    rw [if_neg s12] at hE hp
    have s12 := wNe (b := 12) rfl (by decide) s12
    by_cases s13 : x1 = 13
    · rw [if_pos s13] at hE hp
      refine lv_tableIn (off := 527) (tgt := 528) hx hb dX11_reason_1 (by rw [s13]; decide) (by rw [s13]; decide) (by rw [s13]; decide) (by decide) ?_
      refine lv_aload_n hx hb dX11_reason_528 rfl (lv_at hl 0 rfl) ?_
      refine lv_iload_n hx hb dX11_reason_529 rfl (lv_at hl 2 rfl) ?_
      obtain ⟨hy150, hp⟩ := hp
      refine hGoi (va_runV (As := [.int x2]) (rest := []) ⟨hx, hb, hml, hown, hts⟩ (c_X11_reasonOfLay l G K h g S x2 _) (cwV 1 hts (wGV t_ (mw (.methodLink RX11 171 yX11_reasonOfLay) (List.mem_of_getElem? (i := 28) rfl)) (mw (.instanceMethod yX11_reasonOfLay) (List.mem_of_getElem? (i := 29) rfl)) (mw (.selects RX11 yX11_reasonOfLay yX11_reasonOfLay) (List.mem_of_getElem? (i := 30) rfl)) (mw (.initialized RX11) (List.mem_of_getElem? (i := 3) rfl)) j_X11_reasonOfLay) rfl rfl rfl (by decide +kernel) ⟨Nat.le_of_ble_eq_true rfl, Nat.le_of_ble_eq_true rfl⟩) (hPV hK hTE hP hD hy150) rfl rfl hl.1 rfl (lv_room (Nat.le_of_ble_eq_true rfl)) dX11_reason_530 ⟨Nat.le_of_ble_eq_true rfl, Nat.le_of_ble_eq_true rfl⟩) hP hD hS hA (fun r152 u151 H locs hv hP hD hS => ?_)
      rw [← hv] at hE hp
      dsimp only at hE hp
      unfold b_X11_reason_a533 at hE
      unfold q_X11_reason_a533 at hp
      subst hQ
      exact W.iret (v := r152) hx hb hr (fun t ht hW => ⟨⟨r152, u151, rfl, hE.trans hX.symm, by rw [ht]; exact hP, hD⟩, hS.F ht⟩) hS.2.2 dX11_reason_533
    rw [if_neg s13] at hE hp
    have s13 := wNe (b := 13) rfl (by decide) s13
    by_cases s14 : x1 = 14
    · rw [if_pos s14] at hE hp
      refine lv_tableIn (off := 533) (tgt := 534) hx hb dX11_reason_1 (by rw [s14]; decide) (by rw [s14]; decide) (by rw [s14]; decide) (by decide) ?_
      refine lv_iload_n hx hb dX11_reason_534 rfl (lv_at hl 2 rfl) ?_
      refine lv_iconst (v := 0) hx hb dX11_reason_535 (by decide) ?_
      refine lv_bipush (v := 7) hx hb dX11_reason_536 (by decide) ?_
      obtain ⟨hy153, hp⟩ := hp
      refine nGoi (va_runSN (As := [.int x2, .int 0, .int 7]) (rest := []) ⟨hx, hb, hml, hown, hts⟩ (c_X12_in l G K x2 0 7 _) ⟨va_cnB (host := "MotionFloorModel") 3 hts (wGP t_ j_X12_in) rfl rfl rfl hTE.2.2.2.2.2.2.2.2.2.1 (hw (.initialized RX12) (List.mem_of_getElem? (i := 5) rfl)) (by decide +kernel) ⟨Nat.le_of_ble_eq_true rfl, Nat.le_of_ble_eq_true rfl⟩, (hw (.static yX12_in) (List.mem_of_getElem? (i := 6) rfl)), trivial⟩ (nPS hK hTE hy153) rfl rfl hl.1 rfl (lv_room (Nat.le_of_ble_eq_true rfl)) dX11_reason_538 ⟨Nat.le_of_ble_eq_true rfl, Nat.le_of_ble_eq_true rfl⟩) hP hS hA (fun r H locs hv hP hS => ?_)
      subst hv
      refine lv_if_ne (tgt := 549) hx hb dX11_reason_541 (by decide) (fun c154 => ?_) (fun c154 => ?_)
      · rw [if_neg c154] at hE hp
        refine lv_aload_n hx hb dX11_reason_549 rfl (lv_at hl 0 rfl) ?_
        refine va_get (D := G) (ci := 8) (v := .int (S.1 35)) (C := RX11) (T := TX11) (N := 42) hx hb hts iX11 hown hK hP 0 rfl rfl 35 (by decide) (hw (.fieldLink RX11 130 "MotionFloorModel$Hall" "drafted" "I") (List.mem_of_getElem? (i := 31) rfl)) (fun _ h9 => h9) rfl dX11_reason_550 ?_
        refine lv_if_gt (tgt := 565) hx hb dX11_reason_553 (by decide) (fun c155 => ?_) (fun c155 => ?_)
        · rw [if_pos c155] at hE hp
          exact B_565 S x1 x2 x3 x4 x5 _ _ _ hE hp hP hD hS (lv_sub hl [0, 1, 2, 3, 4, 5] rfl)
        · rw [if_neg c155] at hE hp
          refine lv_aload_n hx hb dX11_reason_556 rfl (lv_at hl 0 rfl) ?_
          refine va_get (D := G) (ci := 8) (v := .ref (g 34)) (C := RX11) (T := TX11) (N := 42) hx hb hts iX11 hown hK hP 0 rfl rfl 34 (by decide) (hw (.fieldLink RX11 81 "MotionFloorModel$Hall" "lying" "[I") (List.mem_of_getElem? (i := 32) rfl)) (fun _ h9 => h9) rfl dX11_reason_557 ?_
          refine lv_iload_n hx hb dX11_reason_560 rfl (lv_at hl 2 rfl) ?_
          obtain ⟨hy156, hp⟩ := hp
          refine va_iald hx hb hK hP 23 0 rfl rfl hy156 dX11_reason_561 ?_
          refine lv_if_ne (tgt := 570) hx hb dX11_reason_562 (by decide) (fun c157 => ?_) (fun c157 => ?_)
          · rw [if_neg c157] at hE hp
            refine lv_iconst (v := 0) hx hb dX11_reason_570 (by decide) ?_
            exact B_571 S x1 x2 x3 x4 x5 0 _ _ _ hE hp hP hD hS (lv_sub hl [0, 1, 2, 3, 4, 5] rfl)
          · rw [if_pos c157] at hE hp
            exact B_565 S x1 x2 x3 x4 x5 _ _ _ hE hp hP hD hS (lv_sub hl [0, 1, 2, 3, 4, 5] rfl)
      · rw [if_pos c154] at hE hp
        refine lv_bipush (v := 9) hx hb dX11_reason_544 (by decide) ?_
        refine lv_goto (tgt := 571) hx hb dX11_reason_546 (by decide) ?_
        exact B_571 S x1 x2 x3 x4 x5 9 _ _ _ hE hp hP hD hS (lv_sub hl [0, 1, 2, 3, 4, 5] rfl)
    rw [if_neg s14] at hE hp
    have s14 := wNe (b := 14) rfl (by decide) s14
    by_cases s15 : x1 = 15
    · rw [if_pos s15] at hE hp
      refine lv_tableIn (off := 571) (tgt := 572) hx hb dX11_reason_1 (by rw [s15]; decide) (by rw [s15]; decide) (by rw [s15]; decide) (by decide) ?_
      refine lv_aload_n hx hb dX11_reason_572 rfl (lv_at hl 0 rfl) ?_
      refine lv_iload_n hx hb dX11_reason_573 rfl (lv_at hl 2 rfl) ?_
      obtain ⟨hy158, hp⟩ := hp
      refine hGoi (va_runV (As := [.int x2]) (rest := []) ⟨hx, hb, hml, hown, hts⟩ (c_X11_reasonOfMove l G K h g S x2 _) (cwV 1 hts (wGV t_ (mw (.methodLink RX11 175 yX11_reasonOfMove) (List.mem_of_getElem? (i := 33) rfl)) (mw (.instanceMethod yX11_reasonOfMove) (List.mem_of_getElem? (i := 34) rfl)) (mw (.selects RX11 yX11_reasonOfMove yX11_reasonOfMove) (List.mem_of_getElem? (i := 35) rfl)) (mw (.initialized RX11) (List.mem_of_getElem? (i := 3) rfl)) j_X11_reasonOfMove) rfl rfl rfl (by decide +kernel) ⟨Nat.le_of_ble_eq_true rfl, Nat.le_of_ble_eq_true rfl⟩) (hPV hK hTE hP hD hy158) rfl rfl hl.1 rfl (lv_room (Nat.le_of_ble_eq_true rfl)) dX11_reason_574 ⟨Nat.le_of_ble_eq_true rfl, Nat.le_of_ble_eq_true rfl⟩) hP hD hS hA (fun r160 u159 H locs hv hP hD hS => ?_)
      rw [← hv] at hE hp
      dsimp only at hE hp
      unfold b_X11_reason_a577 at hE
      unfold q_X11_reason_a577 at hp
      subst hQ
      exact W.iret (v := r160) hx hb hr (fun t ht hW => ⟨⟨r160, u159, rfl, hE.trans hX.symm, by rw [ht]; exact hP, hD⟩, hS.F ht⟩) hS.2.2 dX11_reason_577
    rw [if_neg s15] at hE hp
    have s15 := wNe (b := 15) rfl (by decide) s15
    by_cases s16 : x1 = 16
    · rw [if_pos s16] at hE hp
      refine lv_tableIn (off := 577) (tgt := 578) hx hb dX11_reason_1 (by rw [s16]; decide) (by rw [s16]; decide) (by rw [s16]; decide) (by decide) ?_
      refine lv_aload_n hx hb dX11_reason_578 rfl (lv_at hl 0 rfl) ?_
      refine va_get (D := G) (ci := 8) (v := .int (S.1 6)) (C := RX11) (T := TX11) (N := 42) hx hb hts iX11 hown hK hP 0 rfl rfl 6 (by decide) (hw (.fieldLink RX11 115 "MotionFloorModel$Hall" "pending" "I") (List.mem_of_getElem? (i := 7) rfl)) (fun _ h9 => h9) rfl dX11_reason_579 ?_
      refine lv_if_ne (tgt := 588) hx hb dX11_reason_582 (by decide) (fun c161 => ?_) (fun c161 => ?_)
      · rw [if_neg c161] at hE hp
        refine lv_aload_n hx hb dX11_reason_588 rfl (lv_at hl 0 rfl) ?_
        refine lv_iload_n hx hb dX11_reason_589 rfl (lv_at hl 2 rfl) ?_
        obtain ⟨hy162, hp⟩ := hp
        refine hGoi (va_runV (As := [.int x2]) (rest := []) ⟨hx, hb, hml, hown, hts⟩ (c_X11_isSeat l G K h g S x2 _) (cwV 1 hts (wGV t_ (mw (.methodLink RX11 140 yX11_isSeat) (List.mem_of_getElem? (i := 0) rfl)) (mw (.instanceMethod yX11_isSeat) (List.mem_of_getElem? (i := 1) rfl)) (mw (.selects RX11 yX11_isSeat yX11_isSeat) (List.mem_of_getElem? (i := 2) rfl)) (mw (.initialized RX11) (List.mem_of_getElem? (i := 3) rfl)) j_X11_isSeat) rfl rfl rfl (by decide +kernel) ⟨Nat.le_of_ble_eq_true rfl, Nat.le_of_ble_eq_true rfl⟩) (hPV hK hTE hP hD hy162) rfl rfl hl.1 rfl (lv_room (Nat.le_of_ble_eq_true rfl)) dX11_reason_590 ⟨Nat.le_of_ble_eq_true rfl, Nat.le_of_ble_eq_true rfl⟩) hP hD hS hA (fun r164 u163 H locs hv hP hD hS => ?_)
        rw [← hv] at hE hp
        dsimp only at hE hp
        unfold b_X11_reason_a593 at hE
        unfold q_X11_reason_a593 at hp
        refine lv_if_ne (tgt := 599) hx hb dX11_reason_593 (by decide) (fun c165 => ?_) (fun c165 => ?_)
        · rw [if_neg c165] at hE hp
          refine lv_aload_n hx hb dX11_reason_599 rfl (lv_at hl 0 rfl) ?_
          refine va_get (D := G) (ci := 8) (v := .ref (g 11)) (C := RX11) (T := TX11) (N := 42) hx hb hts iX11 hown hK hP 0 rfl rfl 11 (by decide) (hw (.fieldLink RX11 9 "MotionFloorModel$Hall" "isThere" "[Z") (List.mem_of_getElem? (i := 4) rfl)) (fun _ h9 => h9) rfl dX11_reason_600 ?_
          refine lv_iload_n hx hb dX11_reason_603 rfl (lv_at hl 2 rfl) ?_
          obtain ⟨hy166, hp⟩ := hp
          refine va_zald hx hb hK hP 1 1 rfl rfl hy166 dX11_reason_604 ?_
          refine lv_if_ne (tgt := 611) hx hb dX11_reason_605 (by decide) (fun c167 => ?_) (fun c167 => ?_)
          · rw [if_neg c167] at hE hp
            refine lv_aload_n hx hb dX11_reason_611 rfl (lv_at hl 0 rfl) ?_
            obtain ⟨hy168, hp⟩ := hp
            refine hGoi (va_runV (As := []) (rest := []) ⟨hx, hb, hml, hown, hts⟩ (c_X11_hasSeconder l G K h g u163 _) (cwV 0 hts (wGV t_ (mw (.methodLink RX11 159 yX11_hasSeconder) (List.mem_of_getElem? (i := 17) rfl)) (mw (.instanceMethod yX11_hasSeconder) (List.mem_of_getElem? (i := 18) rfl)) (mw (.selects RX11 yX11_hasSeconder yX11_hasSeconder) (List.mem_of_getElem? (i := 19) rfl)) (mw (.initialized RX11) (List.mem_of_getElem? (i := 3) rfl)) j_X11_hasSeconder) rfl rfl rfl (by decide +kernel) ⟨Nat.le_of_ble_eq_true rfl, Nat.le_of_ble_eq_true rfl⟩) (hPV hK hTE hP hD hy168) rfl rfl hl.1 rfl (lv_room (Nat.le_of_ble_eq_true rfl)) dX11_reason_612 ⟨Nat.le_of_ble_eq_true rfl, Nat.le_of_ble_eq_true rfl⟩) hP hD hS hA (fun r170 u169 H locs hv hP hD hS => ?_)
            rw [← hv] at hE hp
            dsimp only at hE hp
            unfold b_X11_reason_a615 at hE
            unfold q_X11_reason_a615 at hp
            refine lv_if_ne (tgt := 632) hx hb dX11_reason_615 (by decide) (fun c171 => ?_) (fun c171 => ?_)
            · rw [if_neg c171] at hE hp
              exact B_632 u169 x1 x2 x3 x4 x5 _ _ _ hE hp hP hD hS (lv_sub hl [0, 1, 2, 3, 4, 5] rfl)
            · rw [if_pos c171] at hE hp
              refine lv_aload_n hx hb dX11_reason_618 rfl (lv_at hl 0 rfl) ?_
              refine va_get (D := G) (ci := 8) (v := .ref (g 14)) (C := RX11) (T := TX11) (N := 42) hx hb hts iX11 hown hK hP 0 rfl rfl 14 (by decide) (hw (.fieldLink RX11 22 "MotionFloorModel$Hall" "kind" "[I") (List.mem_of_getElem? (i := 10) rfl)) (fun _ h9 => h9) rfl dX11_reason_619 ?_
              refine lv_aload_n hx hb dX11_reason_622 rfl (lv_at hl 0 rfl) ?_
              obtain ⟨hy172, hp⟩ := hp
              refine hGoi (va_runV (As := []) (rest := [.ref (g 14)]) ⟨hx, hb, hml, hown, hts⟩ (c_X11_top l G K h g u169 _) (cwV 0 hts (wGV t_ (mw (.methodLink RX11 155 yX11_top) (List.mem_of_getElem? (i := 11) rfl)) (mw (.instanceMethod yX11_top) (List.mem_of_getElem? (i := 12) rfl)) (mw (.selects RX11 yX11_top yX11_top) (List.mem_of_getElem? (i := 13) rfl)) (mw (.initialized RX11) (List.mem_of_getElem? (i := 3) rfl)) j_X11_top) rfl rfl rfl (by decide +kernel) ⟨Nat.le_of_ble_eq_true rfl, Nat.le_of_ble_eq_true rfl⟩) (hPV hK hTE hP hD hy172) rfl rfl hl.1 rfl (lv_room (Nat.le_of_ble_eq_true rfl)) dX11_reason_623 ⟨Nat.le_of_ble_eq_true rfl, Nat.le_of_ble_eq_true rfl⟩) hP hD hS hA (fun r174 u173 H locs hv hP hD hS => ?_)
              rw [← hv] at hE hp
              dsimp only at hE hp
              unfold b_X11_reason_a626 at hE
              unfold q_X11_reason_a626 at hp
              obtain ⟨hy175, hp⟩ := hp
              refine va_iald hx hb hK hP 4 0 rfl rfl hy175 dX11_reason_626 ?_
              refine lv_bipush (v := 9) hx hb dX11_reason_627 (by decide) ?_
              refine lv_icmp_ne (tgt := 634) hx hb dX11_reason_629 (by decide) (fun c176 => ?_) (fun c176 => ?_)
              · rw [if_neg c176] at hE hp
                refine lv_iload_n hx hb dX11_reason_634 rfl (lv_at hl 2 rfl) ?_
                refine lv_aload_n hx hb dX11_reason_635 rfl (lv_at hl 0 rfl) ?_
                refine va_get (D := G) (ci := 8) (v := .ref (g 15)) (C := RX11) (T := TX11) (N := 42) hx hb hts iX11 hown hK hP 0 rfl rfl 15 (by decide) (hw (.fieldLink RX11 25 "MotionFloorModel$Hall" "mover" "[I") (List.mem_of_getElem? (i := 36) rfl)) (fun _ h9 => h9) rfl dX11_reason_636 ?_
                refine lv_aload_n hx hb dX11_reason_639 rfl (lv_at hl 0 rfl) ?_
                obtain ⟨hy177, hp⟩ := hp
                refine hGoi (va_runV (As := []) (rest := [.ref (g 15), .int x2]) ⟨hx, hb, hml, hown, hts⟩ (c_X11_top l G K h g u173 _) (cwV 0 hts (wGV t_ (mw (.methodLink RX11 155 yX11_top) (List.mem_of_getElem? (i := 11) rfl)) (mw (.instanceMethod yX11_top) (List.mem_of_getElem? (i := 12) rfl)) (mw (.selects RX11 yX11_top yX11_top) (List.mem_of_getElem? (i := 13) rfl)) (mw (.initialized RX11) (List.mem_of_getElem? (i := 3) rfl)) j_X11_top) rfl rfl rfl (by decide +kernel) ⟨Nat.le_of_ble_eq_true rfl, Nat.le_of_ble_eq_true rfl⟩) (hPV hK hTE hP hD hy177) rfl rfl hl.1 rfl (lv_room (Nat.le_of_ble_eq_true rfl)) dX11_reason_640 ⟨Nat.le_of_ble_eq_true rfl, Nat.le_of_ble_eq_true rfl⟩) hP hD hS hA (fun r179 u178 H locs hv hP hD hS => ?_)
                rw [← hv] at hE hp
                dsimp only at hE hp
                unfold b_X11_reason_a643 at hE
                unfold q_X11_reason_a643 at hp
                obtain ⟨hy180, hp⟩ := hp
                refine va_iald hx hb hK hP 5 0 rfl rfl hy180 dX11_reason_643 ?_
                refine lv_icmp_eq (tgt := 655) hx hb dX11_reason_644 (by decide) (fun c181 => ?_) (fun c181 => ?_)
                · rw [if_pos c181] at hE hp
                  exact B_655 u178 x1 x2 x3 x4 x5 _ _ _ hE hp hP hD hS (lv_sub hl [0, 1, 2, 3, 4, 5] rfl)
                · rw [if_neg c181] at hE hp
                  refine lv_iload_n hx hb dX11_reason_647 rfl (lv_at hl 2 rfl) ?_
                  refine lv_aload_n hx hb dX11_reason_648 rfl (lv_at hl 0 rfl) ?_
                  refine va_get (D := G) (ci := 8) (v := .int (u178.1 2)) (C := RX11) (T := TX11) (N := 42) hx hb hts iX11 hown hK hP 0 rfl rfl 2 (by decide) (hw (.fieldLink RX11 103 "MotionFloorModel$Hall" "chair" "I") (List.mem_of_getElem? (i := 8) rfl)) (fun _ h9 => h9) rfl dX11_reason_649 ?_
                  refine lv_icmp_ne (tgt := 659) hx hb dX11_reason_652 (by decide) (fun c182 => ?_) (fun c182 => ?_)
                  · rw [if_neg c182] at hE hp
                    refine lv_iconst (v := 0) hx hb dX11_reason_659 (by decide) ?_
                    exact B_660 u178 x1 x2 x3 x4 x5 0 _ _ _ hE hp hP hD hS (lv_sub hl [0, 1, 2, 3, 4, 5] rfl)
                  · rw [if_pos c182] at hE hp
                    exact B_655 u178 x1 x2 x3 x4 x5 _ _ _ hE hp hP hD hS (lv_sub hl [0, 1, 2, 3, 4, 5] rfl)
              · rw [if_pos c176] at hE hp
                exact B_632 u173 x1 x2 x3 x4 x5 _ _ _ hE hp hP hD hS (lv_sub hl [0, 1, 2, 3, 4, 5] rfl)
          · rw [if_pos c167] at hE hp
            refine lv_bipush (v := 8) hx hb dX11_reason_608 (by decide) ?_
            subst hQ
            exact W.iret (v := 8) hx hb hr (fun t ht hW => ⟨⟨8, u163, rfl, hE.trans hX.symm, by rw [ht]; exact hP, hD⟩, hS.F ht⟩) hS.2.2 dX11_reason_610
        · rw [if_pos c165] at hE hp
          refine lv_bipush (v := 9) hx hb dX11_reason_596 (by decide) ?_
          subst hQ
          exact W.iret (v := 9) hx hb hr (fun t ht hW => ⟨⟨9, u163, rfl, hE.trans hX.symm, by rw [ht]; exact hP, hD⟩, hS.F ht⟩) hS.2.2 dX11_reason_598
      · rw [if_pos c161] at hE hp
        refine lv_bipush (v := 7) hx hb dX11_reason_585 (by decide) ?_
        subst hQ
        exact W.iret (v := 7) hx hb hr (fun t ht hW => ⟨⟨7, S, rfl, hE.trans hX.symm, by rw [ht]; exact hP, hD⟩, hS.F ht⟩) hS.2.2 dX11_reason_587
    rw [if_neg s16] at hE hp
    have s16 := wNe (b := 16) rfl (by decide) s16
    by_cases s17 : x1 = 17
    · rw [if_pos s17] at hE hp
      refine lv_tableIn (off := 660) (tgt := 661) hx hb dX11_reason_1 (by rw [s17]; decide) (by rw [s17]; decide) (by rw [s17]; decide) (by decide) ?_
      refine lv_aload_n hx hb dX11_reason_661 rfl (lv_at hl 0 rfl) ?_
      refine va_get (D := G) (ci := 8) (v := .int (S.1 6)) (C := RX11) (T := TX11) (N := 42) hx hb hts iX11 hown hK hP 0 rfl rfl 6 (by decide) (hw (.fieldLink RX11 115 "MotionFloorModel$Hall" "pending" "I") (List.mem_of_getElem? (i := 7) rfl)) (fun _ h9 => h9) rfl dX11_reason_662 ?_
      refine lv_if_ne (tgt := 671) hx hb dX11_reason_665 (by decide) (fun c224 => ?_) (fun c224 => ?_)
      · rw [if_neg c224] at hE hp
        refine lv_aload_n hx hb dX11_reason_671 rfl (lv_at hl 0 rfl) ?_
        refine lv_iload_n hx hb dX11_reason_672 rfl (lv_at hl 2 rfl) ?_
        obtain ⟨hy225, hp⟩ := hp
        refine hGoi (va_runV (As := [.int x2]) (rest := []) ⟨hx, hb, hml, hown, hts⟩ (c_X11_isSeat l G K h g S x2 _) (cwV 1 hts (wGV t_ (mw (.methodLink RX11 140 yX11_isSeat) (List.mem_of_getElem? (i := 0) rfl)) (mw (.instanceMethod yX11_isSeat) (List.mem_of_getElem? (i := 1) rfl)) (mw (.selects RX11 yX11_isSeat yX11_isSeat) (List.mem_of_getElem? (i := 2) rfl)) (mw (.initialized RX11) (List.mem_of_getElem? (i := 3) rfl)) j_X11_isSeat) rfl rfl rfl (by decide +kernel) ⟨Nat.le_of_ble_eq_true rfl, Nat.le_of_ble_eq_true rfl⟩) (hPV hK hTE hP hD hy225) rfl rfl hl.1 rfl (lv_room (Nat.le_of_ble_eq_true rfl)) dX11_reason_673 ⟨Nat.le_of_ble_eq_true rfl, Nat.le_of_ble_eq_true rfl⟩) hP hD hS hA (fun r227 u226 H locs hv hP hD hS => ?_)
        rw [← hv] at hE hp
        dsimp only at hE hp
        unfold b_X11_reason_a676 at hE
        unfold q_X11_reason_a676 at hp
        refine lv_if_eq (tgt := 688) hx hb dX11_reason_676 (by decide) (fun c228 => ?_) (fun c228 => ?_)
        · rw [if_pos c228] at hE hp
          exact B_688 u226 x1 x2 x3 x4 x5 _ _ _ hE hp hP hD hS (lv_sub hl [0, 1, 2, 3, 4, 5] rfl)
        · rw [if_neg c228] at hE hp
          refine lv_iload_n hx hb dX11_reason_679 rfl (lv_at hl 3 rfl) ?_
          refine lv_iconst (v := 0) hx hb dX11_reason_680 (by decide) ?_
          refine lv_iconst (v := 2) hx hb dX11_reason_681 (by decide) ?_
          obtain ⟨hy229, hp⟩ := hp
          refine nGoi (va_runSN (As := [.int x3, .int 0, .int 2]) (rest := []) ⟨hx, hb, hml, hown, hts⟩ (c_X12_in l G K x3 0 2 _) ⟨va_cnB (host := "MotionFloorModel") 3 hts (wGP t_ j_X12_in) rfl rfl rfl hTE.2.2.2.2.2.2.2.2.2.1 (hw (.initialized RX12) (List.mem_of_getElem? (i := 5) rfl)) (by decide +kernel) ⟨Nat.le_of_ble_eq_true rfl, Nat.le_of_ble_eq_true rfl⟩, (hw (.static yX12_in) (List.mem_of_getElem? (i := 6) rfl)), trivial⟩ (nPS hK hTE hy229) rfl rfl hl.1 rfl (lv_room (Nat.le_of_ble_eq_true rfl)) dX11_reason_682 ⟨Nat.le_of_ble_eq_true rfl, Nat.le_of_ble_eq_true rfl⟩) hP hS hA (fun r H locs hv hP hS => ?_)
          subst hv
          refine lv_if_ne (tgt := 691) hx hb dX11_reason_685 (by decide) (fun c230 => ?_) (fun c230 => ?_)
          · rw [if_neg c230] at hE hp
            refine lv_aload_n hx hb dX11_reason_691 rfl (lv_at hl 0 rfl) ?_
            refine va_get (D := G) (ci := 8) (v := .ref (g 11)) (C := RX11) (T := TX11) (N := 42) hx hb hts iX11 hown hK hP 0 rfl rfl 11 (by decide) (hw (.fieldLink RX11 9 "MotionFloorModel$Hall" "isThere" "[Z") (List.mem_of_getElem? (i := 4) rfl)) (fun _ h9 => h9) rfl dX11_reason_692 ?_
            refine lv_iload_n hx hb dX11_reason_695 rfl (lv_at hl 2 rfl) ?_
            obtain ⟨hy231, hp⟩ := hp
            refine va_zald hx hb hK hP 1 1 rfl rfl hy231 dX11_reason_696 ?_
            refine lv_if_ne (tgt := 703) hx hb dX11_reason_697 (by decide) (fun c232 => ?_) (fun c232 => ?_)
            · rw [if_neg c232] at hE hp
              refine lv_aload_n hx hb dX11_reason_703 rfl (lv_at hl 0 rfl) ?_
              obtain ⟨hy233, hp⟩ := hp
              refine hGoi (va_runV (As := []) (rest := []) ⟨hx, hb, hml, hown, hts⟩ (c_X11_hasSeconder l G K h g u226 _) (cwV 0 hts (wGV t_ (mw (.methodLink RX11 159 yX11_hasSeconder) (List.mem_of_getElem? (i := 17) rfl)) (mw (.instanceMethod yX11_hasSeconder) (List.mem_of_getElem? (i := 18) rfl)) (mw (.selects RX11 yX11_hasSeconder yX11_hasSeconder) (List.mem_of_getElem? (i := 19) rfl)) (mw (.initialized RX11) (List.mem_of_getElem? (i := 3) rfl)) j_X11_hasSeconder) rfl rfl rfl (by decide +kernel) ⟨Nat.le_of_ble_eq_true rfl, Nat.le_of_ble_eq_true rfl⟩) (hPV hK hTE hP hD hy233) rfl rfl hl.1 rfl (lv_room (Nat.le_of_ble_eq_true rfl)) dX11_reason_704 ⟨Nat.le_of_ble_eq_true rfl, Nat.le_of_ble_eq_true rfl⟩) hP hD hS hA (fun r235 u234 H locs hv hP hD hS => ?_)
              rw [← hv] at hE hp
              dsimp only at hE hp
              unfold b_X11_reason_a707 at hE
              unfold q_X11_reason_a707 at hp
              refine lv_if_eq (tgt := 714) hx hb dX11_reason_707 (by decide) (fun c236 => ?_) (fun c236 => ?_)
              · rw [if_pos c236] at hE hp
                refine lv_iconst (v := 3) hx hb dX11_reason_714 (by decide) ?_
                exact B_715 u234 x1 x2 x3 x4 x5 3 _ _ _ hE hp hP hD hS (lv_sub hl [0, 1, 2, 3, 4, 5] rfl)
              · rw [if_neg c236] at hE hp
                refine lv_iconst (v := 0) hx hb dX11_reason_710 (by decide) ?_
                refine lv_goto (tgt := 715) hx hb dX11_reason_711 (by decide) ?_
                exact B_715 u234 x1 x2 x3 x4 x5 0 _ _ _ hE hp hP hD hS (lv_sub hl [0, 1, 2, 3, 4, 5] rfl)
            · rw [if_pos c232] at hE hp
              refine lv_bipush (v := 8) hx hb dX11_reason_700 (by decide) ?_
              subst hQ
              exact W.iret (v := 8) hx hb hr (fun t ht hW => ⟨⟨8, u226, rfl, hE.trans hX.symm, by rw [ht]; exact hP, hD⟩, hS.F ht⟩) hS.2.2 dX11_reason_702
          · rw [if_pos c230] at hE hp
            exact B_688 u226 x1 x2 x3 x4 x5 _ _ _ hE hp hP hD hS (lv_sub hl [0, 1, 2, 3, 4, 5] rfl)
      · rw [if_pos c224] at hE hp
        refine lv_bipush (v := 7) hx hb dX11_reason_668 (by decide) ?_
        subst hQ
        exact W.iret (v := 7) hx hb hr (fun t ht hW => ⟨⟨7, S, rfl, hE.trans hX.symm, by rw [ht]; exact hP, hD⟩, hS.F ht⟩) hS.2.2 dX11_reason_670
    rw [if_neg s17] at hE hp
    have s17 := wNe (b := 17) rfl (by decide) s17
    by_cases s18 : x1 = 18
    · rw [if_pos s18] at hE hp
      refine lv_tableIn (off := 715) (tgt := 716) hx hb dX11_reason_1 (by rw [s18]; decide) (by rw [s18]; decide) (by rw [s18]; decide) (by decide) ?_
      refine lv_aload_n hx hb dX11_reason_716 rfl (lv_at hl 0 rfl) ?_
      refine va_get (D := G) (ci := 8) (v := .int (S.1 6)) (C := RX11) (T := TX11) (N := 42) hx hb hts iX11 hown hK hP 0 rfl rfl 6 (by decide) (hw (.fieldLink RX11 115 "MotionFloorModel$Hall" "pending" "I") (List.mem_of_getElem? (i := 7) rfl)) (fun _ h9 => h9) rfl dX11_reason_717 ?_
      refine lv_if_ne (tgt := 726) hx hb dX11_reason_720 (by decide) (fun c247 => ?_) (fun c247 => ?_)
      · rw [if_neg c247] at hE hp
        refine lv_aload_n hx hb dX11_reason_726 rfl (lv_at hl 0 rfl) ?_
        refine va_get (D := G) (ci := 8) (v := .ref (g 14)) (C := RX11) (T := TX11) (N := 42) hx hb hts iX11 hown hK hP 0 rfl rfl 14 (by decide) (hw (.fieldLink RX11 22 "MotionFloorModel$Hall" "kind" "[I") (List.mem_of_getElem? (i := 10) rfl)) (fun _ h9 => h9) rfl dX11_reason_727 ?_
        refine lv_aload_n hx hb dX11_reason_730 rfl (lv_at hl 0 rfl) ?_
        obtain ⟨hy248, hp⟩ := hp
        refine hGoi (va_runV (As := []) (rest := [.ref (g 14)]) ⟨hx, hb, hml, hown, hts⟩ (c_X11_top l G K h g S _) (cwV 0 hts (wGV t_ (mw (.methodLink RX11 155 yX11_top) (List.mem_of_getElem? (i := 11) rfl)) (mw (.instanceMethod yX11_top) (List.mem_of_getElem? (i := 12) rfl)) (mw (.selects RX11 yX11_top yX11_top) (List.mem_of_getElem? (i := 13) rfl)) (mw (.initialized RX11) (List.mem_of_getElem? (i := 3) rfl)) j_X11_top) rfl rfl rfl (by decide +kernel) ⟨Nat.le_of_ble_eq_true rfl, Nat.le_of_ble_eq_true rfl⟩) (hPV hK hTE hP hD hy248) rfl rfl hl.1 rfl (lv_room (Nat.le_of_ble_eq_true rfl)) dX11_reason_731 ⟨Nat.le_of_ble_eq_true rfl, Nat.le_of_ble_eq_true rfl⟩) hP hD hS hA (fun r250 u249 H locs hv hP hD hS => ?_)
        rw [← hv] at hE hp
        dsimp only at hE hp
        unfold b_X11_reason_a734 at hE
        unfold q_X11_reason_a734 at hp
        obtain ⟨hy251, hp⟩ := hp
        refine va_iald hx hb hK hP 4 0 rfl rfl hy251 dX11_reason_734 ?_
        refine lv_bipush (v := 9) hx hb dX11_reason_735 (by decide) ?_
        refine lv_icmp_eq (tgt := 753) hx hb dX11_reason_737 (by decide) (fun c252 => ?_) (fun c252 => ?_)
        · rw [if_pos c252] at hE hp
          exact B_753 u249 x1 x2 x3 x4 x5 _ _ _ hE hp hP hD hS (lv_sub hl [0, 1, 2, 3, 4, 5] rfl)
        · rw [if_neg c252] at hE hp
          refine lv_iload_n hx hb dX11_reason_740 rfl (lv_at hl 2 rfl) ?_
          refine lv_aload_n hx hb dX11_reason_741 rfl (lv_at hl 0 rfl) ?_
          refine va_get (D := G) (ci := 8) (v := .ref (g 15)) (C := RX11) (T := TX11) (N := 42) hx hb hts iX11 hown hK hP 0 rfl rfl 15 (by decide) (hw (.fieldLink RX11 25 "MotionFloorModel$Hall" "mover" "[I") (List.mem_of_getElem? (i := 36) rfl)) (fun _ h9 => h9) rfl dX11_reason_742 ?_
          refine lv_aload_n hx hb dX11_reason_745 rfl (lv_at hl 0 rfl) ?_
          obtain ⟨hy253, hp⟩ := hp
          refine hGoi (va_runV (As := []) (rest := [.ref (g 15), .int x2]) ⟨hx, hb, hml, hown, hts⟩ (c_X11_top l G K h g u249 _) (cwV 0 hts (wGV t_ (mw (.methodLink RX11 155 yX11_top) (List.mem_of_getElem? (i := 11) rfl)) (mw (.instanceMethod yX11_top) (List.mem_of_getElem? (i := 12) rfl)) (mw (.selects RX11 yX11_top yX11_top) (List.mem_of_getElem? (i := 13) rfl)) (mw (.initialized RX11) (List.mem_of_getElem? (i := 3) rfl)) j_X11_top) rfl rfl rfl (by decide +kernel) ⟨Nat.le_of_ble_eq_true rfl, Nat.le_of_ble_eq_true rfl⟩) (hPV hK hTE hP hD hy253) rfl rfl hl.1 rfl (lv_room (Nat.le_of_ble_eq_true rfl)) dX11_reason_746 ⟨Nat.le_of_ble_eq_true rfl, Nat.le_of_ble_eq_true rfl⟩) hP hD hS hA (fun r255 u254 H locs hv hP hD hS => ?_)
          rw [← hv] at hE hp
          dsimp only at hE hp
          unfold b_X11_reason_a749 at hE
          unfold q_X11_reason_a749 at hp
          obtain ⟨hy256, hp⟩ := hp
          refine va_iald hx hb hK hP 5 0 rfl rfl hy256 dX11_reason_749 ?_
          refine lv_icmp_eq (tgt := 755) hx hb dX11_reason_750 (by decide) (fun c257 => ?_) (fun c257 => ?_)
          · rw [if_pos c257] at hE hp
            refine lv_aload_n hx hb dX11_reason_755 rfl (lv_at hl 0 rfl) ?_
            refine lv_iload_n hx hb dX11_reason_756 rfl (lv_at hl 2 rfl) ?_
            obtain ⟨hy258, hp⟩ := hp
            refine hGoi (va_runV (As := [.int x2]) (rest := []) ⟨hx, hb, hml, hown, hts⟩ (c_X11_isHere l G K h g u254 x2 _) (cwV 1 hts (wGV t_ (mw (.methodLink RX11 178 yX11_isHere) (List.mem_of_getElem? (i := 37) rfl)) (mw (.instanceMethod yX11_isHere) (List.mem_of_getElem? (i := 38) rfl)) (mw (.selects RX11 yX11_isHere yX11_isHere) (List.mem_of_getElem? (i := 39) rfl)) (mw (.initialized RX11) (List.mem_of_getElem? (i := 3) rfl)) j_X11_isHere) rfl rfl rfl (by decide +kernel) ⟨Nat.le_of_ble_eq_true rfl, Nat.le_of_ble_eq_true rfl⟩) (hPV hK hTE hP hD hy258) rfl rfl hl.1 rfl (lv_room (Nat.le_of_ble_eq_true rfl)) dX11_reason_757 ⟨Nat.le_of_ble_eq_true rfl, Nat.le_of_ble_eq_true rfl⟩) hP hD hS hA (fun r260 u259 H locs hv hP hD hS => ?_)
            rw [← hv] at hE hp
            dsimp only at hE hp
            unfold b_X11_reason_a760 at hE
            unfold q_X11_reason_a760 at hp
            refine lv_if_eq (tgt := 767) hx hb dX11_reason_760 (by decide) (fun c261 => ?_) (fun c261 => ?_)
            · rw [if_pos c261] at hE hp
              refine lv_bipush (v := 8) hx hb dX11_reason_767 (by decide) ?_
              exact B_769 u259 x1 x2 x3 x4 x5 8 _ _ _ hE hp hP hD hS (lv_sub hl [0, 1, 2, 3, 4, 5] rfl)
            · rw [if_neg c261] at hE hp
              refine lv_iconst (v := 0) hx hb dX11_reason_763 (by decide) ?_
              refine lv_goto (tgt := 769) hx hb dX11_reason_764 (by decide) ?_
              exact B_769 u259 x1 x2 x3 x4 x5 0 _ _ _ hE hp hP hD hS (lv_sub hl [0, 1, 2, 3, 4, 5] rfl)
          · rw [if_neg c257] at hE hp
            exact B_753 u254 x1 x2 x3 x4 x5 _ _ _ hE hp hP hD hS (lv_sub hl [0, 1, 2, 3, 4, 5] rfl)
      · rw [if_pos c247] at hE hp
        refine lv_bipush (v := 7) hx hb dX11_reason_723 (by decide) ?_
        subst hQ
        exact W.iret (v := 7) hx hb hr (fun t ht hW => ⟨⟨7, S, rfl, hE.trans hX.symm, by rw [ht]; exact hP, hD⟩, hS.F ht⟩) hS.2.2 dX11_reason_725
    rw [if_neg s18] at hE hp
    have s18 := wNe (b := 18) rfl (by decide) s18
    by_cases s19 : x1 = 19
    · rw [if_pos s19] at hE hp
      refine lv_tableIn (off := 769) (tgt := 770) hx hb dX11_reason_1 (by rw [s19]; decide) (by rw [s19]; decide) (by rw [s19]; decide) (by decide) ?_
      refine lv_aload_n hx hb dX11_reason_770 rfl (lv_at hl 0 rfl) ?_
      refine lv_aload_n hx hb dX11_reason_771 rfl (lv_at hl 0 rfl) ?_
      refine va_get (D := G) (ci := 8) (v := .int (S.1 2)) (C := RX11) (T := TX11) (N := 42) hx hb hts iX11 hown hK hP 0 rfl rfl 2 (by decide) (hw (.fieldLink RX11 103 "MotionFloorModel$Hall" "chair" "I") (List.mem_of_getElem? (i := 8) rfl)) (fun _ h9 => h9) rfl dX11_reason_772 ?_
      obtain ⟨hy280, hp⟩ := hp
      refine hGoi (va_runV (As := [.int (S.1 2)]) (rest := []) ⟨hx, hb, hml, hown, hts⟩ (c_X11_isHere l G K h g S (S.1 2) _) (cwV 1 hts (wGV t_ (mw (.methodLink RX11 178 yX11_isHere) (List.mem_of_getElem? (i := 37) rfl)) (mw (.instanceMethod yX11_isHere) (List.mem_of_getElem? (i := 38) rfl)) (mw (.selects RX11 yX11_isHere yX11_isHere) (List.mem_of_getElem? (i := 39) rfl)) (mw (.initialized RX11) (List.mem_of_getElem? (i := 3) rfl)) j_X11_isHere) rfl rfl rfl (by decide +kernel) ⟨Nat.le_of_ble_eq_true rfl, Nat.le_of_ble_eq_true rfl⟩) (hPV hK hTE hP hD hy280) rfl rfl hl.1 rfl (lv_room (Nat.le_of_ble_eq_true rfl)) dX11_reason_775 ⟨Nat.le_of_ble_eq_true rfl, Nat.le_of_ble_eq_true rfl⟩) hP hD hS hA (fun r282 u281 H locs hv hP hD hS => ?_)
      rw [← hv] at hE hp
      dsimp only at hE hp
      unfold b_X11_reason_a778 at hE
      unfold q_X11_reason_a778 at hp
      refine lv_if_ne (tgt := 784) hx hb dX11_reason_778 (by decide) (fun c283 => ?_) (fun c283 => ?_)
      · rw [if_neg c283] at hE hp
        refine lv_aload_n hx hb dX11_reason_784 rfl (lv_at hl 0 rfl) ?_
        refine va_get (D := G) (ci := 8) (v := .int (u281.1 6)) (C := RX11) (T := TX11) (N := 42) hx hb hts iX11 hown hK hP 0 rfl rfl 6 (by decide) (hw (.fieldLink RX11 115 "MotionFloorModel$Hall" "pending" "I") (List.mem_of_getElem? (i := 7) rfl)) (fun _ h9 => h9) rfl dX11_reason_785 ?_
        refine lv_if_ne (tgt := 794) hx hb dX11_reason_788 (by decide) (fun c284 => ?_) (fun c284 => ?_)
        · rw [if_neg c284] at hE hp
          refine lv_aload_n hx hb dX11_reason_794 rfl (lv_at hl 0 rfl) ?_
          refine va_get (D := G) (ci := 8) (v := .ref (g 14)) (C := RX11) (T := TX11) (N := 42) hx hb hts iX11 hown hK hP 0 rfl rfl 14 (by decide) (hw (.fieldLink RX11 22 "MotionFloorModel$Hall" "kind" "[I") (List.mem_of_getElem? (i := 10) rfl)) (fun _ h9 => h9) rfl dX11_reason_795 ?_
          refine lv_aload_n hx hb dX11_reason_798 rfl (lv_at hl 0 rfl) ?_
          obtain ⟨hy285, hp⟩ := hp
          refine hGoi (va_runV (As := []) (rest := [.ref (g 14)]) ⟨hx, hb, hml, hown, hts⟩ (c_X11_top l G K h g u281 _) (cwV 0 hts (wGV t_ (mw (.methodLink RX11 155 yX11_top) (List.mem_of_getElem? (i := 11) rfl)) (mw (.instanceMethod yX11_top) (List.mem_of_getElem? (i := 12) rfl)) (mw (.selects RX11 yX11_top yX11_top) (List.mem_of_getElem? (i := 13) rfl)) (mw (.initialized RX11) (List.mem_of_getElem? (i := 3) rfl)) j_X11_top) rfl rfl rfl (by decide +kernel) ⟨Nat.le_of_ble_eq_true rfl, Nat.le_of_ble_eq_true rfl⟩) (hPV hK hTE hP hD hy285) rfl rfl hl.1 rfl (lv_room (Nat.le_of_ble_eq_true rfl)) dX11_reason_799 ⟨Nat.le_of_ble_eq_true rfl, Nat.le_of_ble_eq_true rfl⟩) hP hD hS hA (fun r287 u286 H locs hv hP hD hS => ?_)
          rw [← hv] at hE hp
          dsimp only at hE hp
          unfold b_X11_reason_a802 at hE
          unfold q_X11_reason_a802 at hp
          obtain ⟨hy288, hp⟩ := hp
          refine va_iald hx hb hK hP 4 0 rfl rfl hy288 dX11_reason_802 ?_
          refine lv_bipush (v := 9) hx hb dX11_reason_803 (by decide) ?_
          refine lv_icmp_ne (tgt := 811) hx hb dX11_reason_805 (by decide) (fun c289 => ?_) (fun c289 => ?_)
          · rw [if_neg c289] at hE hp
            refine lv_aload_n hx hb dX11_reason_811 rfl (lv_at hl 0 rfl) ?_
            refine va_get (D := G) (ci := 8) (v := .int (u286.1 6)) (C := RX11) (T := TX11) (N := 42) hx hb hts iX11 hown hK hP 0 rfl rfl 6 (by decide) (hw (.fieldLink RX11 115 "MotionFloorModel$Hall" "pending" "I") (List.mem_of_getElem? (i := 7) rfl)) (fun _ h9 => h9) rfl dX11_reason_812 ?_
            refine lv_bipush (v := 9) hx hb dX11_reason_815 (by decide) ?_
            refine lv_icmp_ne (tgt := 825) hx hb dX11_reason_817 (by decide) (fun c290 => ?_) (fun c290 => ?_)
            · rw [if_neg c290] at hE hp
              refine lv_iconst (v := 0) hx hb dX11_reason_825 (by decide) ?_
              exact B_826 u286 x1 x2 x3 x4 x5 0 _ _ _ hE hp hP hD hS (lv_sub hl [0, 1, 2, 3, 4, 5] rfl)
            · rw [if_pos c290] at hE hp
              refine lv_bipush (v := 10) hx hb dX11_reason_820 (by decide) ?_
              refine lv_goto (tgt := 826) hx hb dX11_reason_822 (by decide) ?_
              exact B_826 u286 x1 x2 x3 x4 x5 10 _ _ _ hE hp hP hD hS (lv_sub hl [0, 1, 2, 3, 4, 5] rfl)
          · rw [if_pos c289] at hE hp
            refine lv_bipush (v := 11) hx hb dX11_reason_808 (by decide) ?_
            subst hQ
            exact W.iret (v := 11) hx hb hr (fun t ht hW => ⟨⟨11, u286, rfl, hE.trans hX.symm, by rw [ht]; exact hP, hD⟩, hS.F ht⟩) hS.2.2 dX11_reason_810
        · rw [if_pos c284] at hE hp
          refine lv_bipush (v := 7) hx hb dX11_reason_791 (by decide) ?_
          subst hQ
          exact W.iret (v := 7) hx hb hr (fun t ht hW => ⟨⟨7, u281, rfl, hE.trans hX.symm, by rw [ht]; exact hP, hD⟩, hS.F ht⟩) hS.2.2 dX11_reason_793
      · rw [if_pos c283] at hE hp
        refine lv_bipush (v := 8) hx hb dX11_reason_781 (by decide) ?_
        subst hQ
        exact W.iret (v := 8) hx hb hr (fun t ht hW => ⟨⟨8, u281, rfl, hE.trans hX.symm, by rw [ht]; exact hP, hD⟩, hS.F ht⟩) hS.2.2 dX11_reason_783
    rw [if_neg s19] at hE hp
    have s19 := wNe (b := 19) rfl (by decide) s19
    by_cases s20 : x1 = 20
    · rw [if_pos s20] at hE hp
      refine lv_tableIn (off := 826) (tgt := 827) hx hb dX11_reason_1 (by rw [s20]; decide) (by rw [s20]; decide) (by rw [s20]; decide) (by decide) ?_
      refine lv_aload_n hx hb dX11_reason_827 rfl (lv_at hl 0 rfl) ?_
      refine va_get (D := G) (ci := 8) (v := .int (S.1 6)) (C := RX11) (T := TX11) (N := 42) hx hb hts iX11 hown hK hP 0 rfl rfl 6 (by decide) (hw (.fieldLink RX11 115 "MotionFloorModel$Hall" "pending" "I") (List.mem_of_getElem? (i := 7) rfl)) (fun _ h9 => h9) rfl dX11_reason_828 ?_
      refine lv_if_ne (tgt := 837) hx hb dX11_reason_831 (by decide) (fun c302 => ?_) (fun c302 => ?_)
      · rw [if_neg c302] at hE hp
        refine lv_aload_n hx hb dX11_reason_837 rfl (lv_at hl 0 rfl) ?_
        refine va_get (D := G) (ci := 8) (v := .ref (g 14)) (C := RX11) (T := TX11) (N := 42) hx hb hts iX11 hown hK hP 0 rfl rfl 14 (by decide) (hw (.fieldLink RX11 22 "MotionFloorModel$Hall" "kind" "[I") (List.mem_of_getElem? (i := 10) rfl)) (fun _ h9 => h9) rfl dX11_reason_838 ?_
        refine lv_aload_n hx hb dX11_reason_841 rfl (lv_at hl 0 rfl) ?_
        obtain ⟨hy303, hp⟩ := hp
        refine hGoi (va_runV (As := []) (rest := [.ref (g 14)]) ⟨hx, hb, hml, hown, hts⟩ (c_X11_top l G K h g S _) (cwV 0 hts (wGV t_ (mw (.methodLink RX11 155 yX11_top) (List.mem_of_getElem? (i := 11) rfl)) (mw (.instanceMethod yX11_top) (List.mem_of_getElem? (i := 12) rfl)) (mw (.selects RX11 yX11_top yX11_top) (List.mem_of_getElem? (i := 13) rfl)) (mw (.initialized RX11) (List.mem_of_getElem? (i := 3) rfl)) j_X11_top) rfl rfl rfl (by decide +kernel) ⟨Nat.le_of_ble_eq_true rfl, Nat.le_of_ble_eq_true rfl⟩) (hPV hK hTE hP hD hy303) rfl rfl hl.1 rfl (lv_room (Nat.le_of_ble_eq_true rfl)) dX11_reason_842 ⟨Nat.le_of_ble_eq_true rfl, Nat.le_of_ble_eq_true rfl⟩) hP hD hS hA (fun r305 u304 H locs hv hP hD hS => ?_)
        rw [← hv] at hE hp
        dsimp only at hE hp
        unfold b_X11_reason_a845 at hE
        unfold q_X11_reason_a845 at hp
        obtain ⟨hy306, hp⟩ := hp
        refine va_iald hx hb hK hP 4 0 rfl rfl hy306 dX11_reason_845 ?_
        refine lv_bipush (v := 9) hx hb dX11_reason_846 (by decide) ?_
        refine lv_icmp_ne (tgt := 858) hx hb dX11_reason_848 (by decide) (fun c307 => ?_) (fun c307 => ?_)
        · rw [if_neg c307] at hE hp
          exact B_858 u304 x1 x2 x3 x4 x5 _ _ _ hE hp hP hD hS (lv_sub hl [0, 1, 2, 3, 4, 5] rfl)
        · rw [if_pos c307] at hE hp
          refine lv_aload_n hx hb dX11_reason_851 rfl (lv_at hl 0 rfl) ?_
          obtain ⟨hy308, hp⟩ := hp
          refine hGoi (va_runV (As := []) (rest := []) ⟨hx, hb, hml, hown, hts⟩ (c_X11_hasSeconder l G K h g u304 _) (cwV 0 hts (wGV t_ (mw (.methodLink RX11 159 yX11_hasSeconder) (List.mem_of_getElem? (i := 17) rfl)) (mw (.instanceMethod yX11_hasSeconder) (List.mem_of_getElem? (i := 18) rfl)) (mw (.selects RX11 yX11_hasSeconder yX11_hasSeconder) (List.mem_of_getElem? (i := 19) rfl)) (mw (.initialized RX11) (List.mem_of_getElem? (i := 3) rfl)) j_X11_hasSeconder) rfl rfl rfl (by decide +kernel) ⟨Nat.le_of_ble_eq_true rfl, Nat.le_of_ble_eq_true rfl⟩) (hPV hK hTE hP hD hy308) rfl rfl hl.1 rfl (lv_room (Nat.le_of_ble_eq_true rfl)) dX11_reason_852 ⟨Nat.le_of_ble_eq_true rfl, Nat.le_of_ble_eq_true rfl⟩) hP hD hS hA (fun r310 u309 H locs hv hP hD hS => ?_)
          rw [← hv] at hE hp
          dsimp only at hE hp
          unfold b_X11_reason_a855 at hE
          unfold q_X11_reason_a855 at hp
          refine lv_if_eq (tgt := 861) hx hb dX11_reason_855 (by decide) (fun c311 => ?_) (fun c311 => ?_)
          · rw [if_pos c311] at hE hp
            refine lv_aload_n hx hb dX11_reason_861 rfl (lv_at hl 0 rfl) ?_
            refine lv_iload_n hx hb dX11_reason_862 rfl (lv_at hl 2 rfl) ?_
            obtain ⟨hy312, hp⟩ := hp
            refine hGoi (va_runV (As := [.int x2]) (rest := []) ⟨hx, hb, hml, hown, hts⟩ (c_X11_isSeat l G K h g u309 x2 _) (cwV 1 hts (wGV t_ (mw (.methodLink RX11 140 yX11_isSeat) (List.mem_of_getElem? (i := 0) rfl)) (mw (.instanceMethod yX11_isSeat) (List.mem_of_getElem? (i := 1) rfl)) (mw (.selects RX11 yX11_isSeat yX11_isSeat) (List.mem_of_getElem? (i := 2) rfl)) (mw (.initialized RX11) (List.mem_of_getElem? (i := 3) rfl)) j_X11_isSeat) rfl rfl rfl (by decide +kernel) ⟨Nat.le_of_ble_eq_true rfl, Nat.le_of_ble_eq_true rfl⟩) (hPV hK hTE hP hD hy312) rfl rfl hl.1 rfl (lv_room (Nat.le_of_ble_eq_true rfl)) dX11_reason_863 ⟨Nat.le_of_ble_eq_true rfl, Nat.le_of_ble_eq_true rfl⟩) hP hD hS hA (fun r314 u313 H locs hv hP hD hS => ?_)
            rw [← hv] at hE hp
            dsimp only at hE hp
            unfold b_X11_reason_a866 at hE
            unfold q_X11_reason_a866 at hp
            refine lv_if_ne (tgt := 872) hx hb dX11_reason_866 (by decide) (fun c315 => ?_) (fun c315 => ?_)
            · rw [if_neg c315] at hE hp
              refine lv_aload_n hx hb dX11_reason_872 rfl (lv_at hl 0 rfl) ?_
              refine va_get (D := G) (ci := 8) (v := .ref (g 11)) (C := RX11) (T := TX11) (N := 42) hx hb hts iX11 hown hK hP 0 rfl rfl 11 (by decide) (hw (.fieldLink RX11 9 "MotionFloorModel$Hall" "isThere" "[Z") (List.mem_of_getElem? (i := 4) rfl)) (fun _ h9 => h9) rfl dX11_reason_873 ?_
              refine lv_iload_n hx hb dX11_reason_876 rfl (lv_at hl 2 rfl) ?_
              obtain ⟨hy316, hp⟩ := hp
              refine va_zald hx hb hK hP 1 1 rfl rfl hy316 dX11_reason_877 ?_
              refine lv_if_ne (tgt := 884) hx hb dX11_reason_878 (by decide) (fun c317 => ?_) (fun c317 => ?_)
              · rw [if_neg c317] at hE hp
                refine lv_iload_n hx hb dX11_reason_884 rfl (lv_at hl 2 rfl) ?_
                refine lv_aload_n hx hb dX11_reason_885 rfl (lv_at hl 0 rfl) ?_
                refine va_get (D := G) (ci := 8) (v := .int (u313.1 2)) (C := RX11) (T := TX11) (N := 42) hx hb hts iX11 hown hK hP 0 rfl rfl 2 (by decide) (hw (.fieldLink RX11 103 "MotionFloorModel$Hall" "chair" "I") (List.mem_of_getElem? (i := 8) rfl)) (fun _ h9 => h9) rfl dX11_reason_886 ?_
                refine lv_icmp_ne (tgt := 896) hx hb dX11_reason_889 (by decide) (fun c318 => ?_) (fun c318 => ?_)
                · rw [if_neg c318] at hE hp
                  refine lv_iconst (v := 0) hx hb dX11_reason_896 (by decide) ?_
                  exact B_897 u313 x1 x2 x3 x4 x5 0 _ _ _ hE hp hP hD hS (lv_sub hl [0, 1, 2, 3, 4, 5] rfl)
                · rw [if_pos c318] at hE hp
                  refine lv_iconst (v := 2) hx hb dX11_reason_892 (by decide) ?_
                  refine lv_goto (tgt := 897) hx hb dX11_reason_893 (by decide) ?_
                  exact B_897 u313 x1 x2 x3 x4 x5 2 _ _ _ hE hp hP hD hS (lv_sub hl [0, 1, 2, 3, 4, 5] rfl)
              · rw [if_pos c317] at hE hp
                refine lv_bipush (v := 8) hx hb dX11_reason_881 (by decide) ?_
                subst hQ
                exact W.iret (v := 8) hx hb hr (fun t ht hW => ⟨⟨8, u313, rfl, hE.trans hX.symm, by rw [ht]; exact hP, hD⟩, hS.F ht⟩) hS.2.2 dX11_reason_883
            · rw [if_pos c315] at hE hp
              refine lv_bipush (v := 9) hx hb dX11_reason_869 (by decide) ?_
              subst hQ
              exact W.iret (v := 9) hx hb hr (fun t ht hW => ⟨⟨9, u313, rfl, hE.trans hX.symm, by rw [ht]; exact hP, hD⟩, hS.F ht⟩) hS.2.2 dX11_reason_871
          · rw [if_neg c311] at hE hp
            exact B_858 u309 x1 x2 x3 x4 x5 _ _ _ hE hp hP hD hS (lv_sub hl [0, 1, 2, 3, 4, 5] rfl)
      · rw [if_pos c302] at hE hp
        refine lv_bipush (v := 7) hx hb dX11_reason_834 (by decide) ?_
        subst hQ
        exact W.iret (v := 7) hx hb hr (fun t ht hW => ⟨⟨7, S, rfl, hE.trans hX.symm, by rw [ht]; exact hP, hD⟩, hS.F ht⟩) hS.2.2 dX11_reason_836
    rw [if_neg s20] at hE hp
    have s20 := wNe (b := 20) rfl (by decide) s20
    by_cases s21 : x1 = 21
    · rw [if_pos s21] at hE hp
      refine lv_tableIn (off := 897) (tgt := 898) hx hb dX11_reason_1 (by rw [s21]; decide) (by rw [s21]; decide) (by rw [s21]; decide) (by decide) ?_
      refine lv_aload_n hx hb dX11_reason_898 rfl (lv_at hl 0 rfl) ?_
      refine lv_aload_n hx hb dX11_reason_899 rfl (lv_at hl 0 rfl) ?_
      refine va_get (D := G) (ci := 8) (v := .int (S.1 2)) (C := RX11) (T := TX11) (N := 42) hx hb hts iX11 hown hK hP 0 rfl rfl 2 (by decide) (hw (.fieldLink RX11 103 "MotionFloorModel$Hall" "chair" "I") (List.mem_of_getElem? (i := 8) rfl)) (fun _ h9 => h9) rfl dX11_reason_900 ?_
      obtain ⟨hy344, hp⟩ := hp
      refine hGoi (va_runV (As := [.int (S.1 2)]) (rest := []) ⟨hx, hb, hml, hown, hts⟩ (c_X11_isHere l G K h g S (S.1 2) _) (cwV 1 hts (wGV t_ (mw (.methodLink RX11 178 yX11_isHere) (List.mem_of_getElem? (i := 37) rfl)) (mw (.instanceMethod yX11_isHere) (List.mem_of_getElem? (i := 38) rfl)) (mw (.selects RX11 yX11_isHere yX11_isHere) (List.mem_of_getElem? (i := 39) rfl)) (mw (.initialized RX11) (List.mem_of_getElem? (i := 3) rfl)) j_X11_isHere) rfl rfl rfl (by decide +kernel) ⟨Nat.le_of_ble_eq_true rfl, Nat.le_of_ble_eq_true rfl⟩) (hPV hK hTE hP hD hy344) rfl rfl hl.1 rfl (lv_room (Nat.le_of_ble_eq_true rfl)) dX11_reason_903 ⟨Nat.le_of_ble_eq_true rfl, Nat.le_of_ble_eq_true rfl⟩) hP hD hS hA (fun r346 u345 H locs hv hP hD hS => ?_)
      rw [← hv] at hE hp
      dsimp only at hE hp
      unfold b_X11_reason_a906 at hE
      unfold q_X11_reason_a906 at hp
      refine lv_if_ne (tgt := 914) hx hb dX11_reason_906 (by decide) (fun c347 => ?_) (fun c347 => ?_)
      · rw [if_neg c347] at hE hp
        refine lv_aload_n hx hb dX11_reason_914 rfl (lv_at hl 0 rfl) ?_
        refine va_get (D := G) (ci := 8) (v := .int (u345.1 6)) (C := RX11) (T := TX11) (N := 42) hx hb hts iX11 hown hK hP 0 rfl rfl 6 (by decide) (hw (.fieldLink RX11 115 "MotionFloorModel$Hall" "pending" "I") (List.mem_of_getElem? (i := 7) rfl)) (fun _ h9 => h9) rfl dX11_reason_915 ?_
        refine lv_if_ne (tgt := 926) hx hb dX11_reason_918 (by decide) (fun c348 => ?_) (fun c348 => ?_)
        · rw [if_neg c348] at hE hp
          refine lv_iconst (v := 0) hx hb dX11_reason_926 (by decide) ?_
          exact B_927 u345 x1 x2 x3 x4 x5 0 _ _ _ hE hp hP hD hS (lv_sub hl [0, 1, 2, 3, 4, 5] rfl)
        · rw [if_pos c348] at hE hp
          refine lv_bipush (v := 7) hx hb dX11_reason_921 (by decide) ?_
          refine lv_goto (tgt := 927) hx hb dX11_reason_923 (by decide) ?_
          exact B_927 u345 x1 x2 x3 x4 x5 7 _ _ _ hE hp hP hD hS (lv_sub hl [0, 1, 2, 3, 4, 5] rfl)
      · rw [if_pos c347] at hE hp
        refine lv_bipush (v := 8) hx hb dX11_reason_909 (by decide) ?_
        refine lv_goto (tgt := 927) hx hb dX11_reason_911 (by decide) ?_
        exact B_927 u345 x1 x2 x3 x4 x5 8 _ _ _ hE hp hP hD hS (lv_sub hl [0, 1, 2, 3, 4, 5] rfl)
    rw [if_neg s21] at hE hp
    have s21 := wNe (b := 21) rfl (by decide) s21
    refine lv_tableOut (tgt := 928) hx hb dX11_reason_1 (by omega) (by decide) ?_
    refine lv_aload_n hx hb dX11_reason_928 rfl (lv_at hl 0 rfl) ?_
    refine lv_aload_n hx hb dX11_reason_929 rfl (lv_at hl 0 rfl) ?_
    refine va_get (D := G) (ci := 8) (v := .int (S.1 2)) (C := RX11) (T := TX11) (N := 42) hx hb hts iX11 hown hK hP 0 rfl rfl 2 (by decide) (hw (.fieldLink RX11 103 "MotionFloorModel$Hall" "chair" "I") (List.mem_of_getElem? (i := 8) rfl)) (fun _ h9 => h9) rfl dX11_reason_930 ?_
    obtain ⟨hy351, hp⟩ := hp
    refine hGoi (va_runV (As := [.int (S.1 2)]) (rest := []) ⟨hx, hb, hml, hown, hts⟩ (c_X11_isHere l G K h g S (S.1 2) _) (cwV 1 hts (wGV t_ (mw (.methodLink RX11 178 yX11_isHere) (List.mem_of_getElem? (i := 37) rfl)) (mw (.instanceMethod yX11_isHere) (List.mem_of_getElem? (i := 38) rfl)) (mw (.selects RX11 yX11_isHere yX11_isHere) (List.mem_of_getElem? (i := 39) rfl)) (mw (.initialized RX11) (List.mem_of_getElem? (i := 3) rfl)) j_X11_isHere) rfl rfl rfl (by decide +kernel) ⟨Nat.le_of_ble_eq_true rfl, Nat.le_of_ble_eq_true rfl⟩) (hPV hK hTE hP hD hy351) rfl rfl hl.1 rfl (lv_room (Nat.le_of_ble_eq_true rfl)) dX11_reason_933 ⟨Nat.le_of_ble_eq_true rfl, Nat.le_of_ble_eq_true rfl⟩) hP hD hS hA (fun r353 u352 H locs hv hP hD hS => ?_)
    rw [← hv] at hE hp
    dsimp only at hE hp
    unfold b_X11_reason_a936 at hE
    unfold q_X11_reason_a936 at hp
    refine lv_if_ne (tgt := 944) hx hb dX11_reason_936 (by decide) (fun c354 => ?_) (fun c354 => ?_)
    · rw [if_neg c354] at hE hp
      refine lv_iconst (v := 0) hx hb dX11_reason_944 (by decide) ?_
      exact B_945 u352 x1 x2 x3 x4 x5 0 _ _ _ hE hp hP hD hS (lv_sub hl [0, 1, 2, 3, 4, 5] rfl)
    · rw [if_pos c354] at hE hp
      refine lv_bipush (v := 8) hx hb dX11_reason_939 (by decide) ?_
      refine lv_goto (tgt := 945) hx hb dX11_reason_941 (by decide) ?_
      exact B_945 u352 x1 x2 x3 x4 x5 8 _ _ _ hE hp hP hD hS (lv_sub hl [0, 1, 2, 3, 4, 5] rfl)
  exact B_M S0 a1 a2 a3 a4 a5 _ _ _ hX hp hP hD hS hl
