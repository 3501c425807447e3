theorem dX11_act_0 : decode cX11_act 0 = .ok (.aload_n 0, 1) := by decide +kernel
theorem dX11_act_1 : decode cX11_act 1 = .ok (.iload_n 1, 1) := by decide +kernel
theorem dX11_act_2 : decode cX11_act 2 = .ok (.iload_n 2, 1) := by decide +kernel
theorem dX11_act_3 : decode cX11_act 3 = .ok (.iload_n 3, 1) := by decide +kernel
theorem dX11_act_4 : decode cX11_act 4 = .ok (.iload 4, 2) := by decide +kernel
theorem dX11_act_6 : decode cX11_act 6 = .ok (.iload 5, 2) := by decide +kernel
theorem dX11_act_8 : decode cX11_act 8 = .ok (.invokevirtual 196, 3) := by decide +kernel
theorem dX11_act_11 : decode cX11_act 11 = .ok (.istore 6, 2) := by decide +kernel
theorem dX11_act_13 : decode cX11_act 13 = .ok (.iload 6, 2) := by decide +kernel
theorem dX11_act_15 : decode cX11_act 15 = .ok (.ifCond .ne 17, 3) := by decide +kernel
theorem dX11_act_18 : decode cX11_act 18 = .ok (.aload_n 0, 1) := by decide +kernel
theorem dX11_act_19 : decode cX11_act 19 = .ok (.getfield 118, 3) := by decide +kernel
theorem dX11_act_22 : decode cX11_act 22 = .ok (.sipush 600, 3) := by decide +kernel
theorem dX11_act_25 : decode cX11_act 25 = .ok (.if_icmp .ne 7, 3) := by decide +kernel
theorem dX11_act_28 : decode cX11_act 28 = .ok (.bipush 10, 2) := by decide +kernel
theorem dX11_act_30 : decode cX11_act 30 = .ok (.istore 6, 2) := by decide +kernel
theorem dX11_act_32 : decode cX11_act 32 = .ok (.aload_n 0, 1) := by decide +kernel
theorem dX11_act_33 : decode cX11_act 33 = .ok (.iload 6, 2) := by decide +kernel
theorem dX11_act_35 : decode cX11_act 35 = .ok (.putfield 127, 3) := by decide +kernel
theorem dX11_act_38 : decode cX11_act 38 = .ok (.iload 6, 2) := by decide +kernel
theorem dX11_act_40 : decode cX11_act 40 = .ok (.ifCond .le 7, 3) := by decide +kernel
theorem dX11_act_43 : decode cX11_act 43 = .ok (.iload 6, 2) := by decide +kernel
theorem dX11_act_45 : decode cX11_act 45 = .ok (.ineg, 1) := by decide +kernel
theorem dX11_act_46 : decode cX11_act 46 = .ok (.ireturn, 1) := by decide +kernel
theorem dX11_act_47 : decode cX11_act 47 = .ok (.aload_n 0, 1) := by decide +kernel
theorem dX11_act_48 : decode cX11_act 48 = .ok (.iload_n 1, 1) := by decide +kernel
theorem dX11_act_49 : decode cX11_act 49 = .ok (.iload_n 2, 1) := by decide +kernel
theorem dX11_act_50 : decode cX11_act 50 = .ok (.iload_n 3, 1) := by decide +kernel
theorem dX11_act_51 : decode cX11_act 51 = .ok (.iload 4, 2) := by decide +kernel
theorem dX11_act_53 : decode cX11_act 53 = .ok (.iload 5, 2) := by decide +kernel
theorem dX11_act_55 : decode cX11_act 55 = .ok (.invokevirtual 200, 3) := by decide +kernel
theorem dX11_act_58 : decode cX11_act 58 = .ok (.istore 7, 2) := by decide +kernel
theorem dX11_act_60 : decode cX11_act 60 = .ok (.bipush 6, 2) := by decide +kernel
theorem dX11_act_62 : decode cX11_act 62 = .ok (.aload_n 0, 1) := by decide +kernel
theorem dX11_act_63 : decode cX11_act 63 = .ok (.getfield 118, 3) := by decide +kernel
theorem dX11_act_66 : decode cX11_act 66 = .ok (.imul, 1) := by decide +kernel
theorem dX11_act_67 : decode cX11_act 67 = .ok (.istore 8, 2) := by decide +kernel
theorem dX11_act_69 : decode cX11_act 69 = .ok (.iload_n 1, 1) := by decide +kernel
theorem dX11_act_70 : decode cX11_act 70 = .ok (.invokestatic 203, 3) := by decide +kernel
theorem dX11_act_73 : decode cX11_act 73 = .ok (.istore 9, 2) := by decide +kernel
theorem dX11_act_75 : decode cX11_act 75 = .ok (.aload_n 0, 1) := by decide +kernel
theorem dX11_act_76 : decode cX11_act 76 = .ok (.getfield 90, 3) := by decide +kernel
theorem dX11_act_79 : decode cX11_act 79 = .ok (.iload 8, 2) := by decide +kernel
theorem dX11_act_81 : decode cX11_act 81 = .ok (.iload_n 1, 1) := by decide +kernel
theorem dX11_act_82 : decode cX11_act 82 = .ok (.iastore, 1) := by decide +kernel
theorem dX11_act_83 : decode cX11_act 83 = .ok (.aload_n 0, 1) := by decide +kernel
theorem dX11_act_84 : decode cX11_act 84 = .ok (.getfield 90, 3) := by decide +kernel
theorem dX11_act_87 : decode cX11_act 87 = .ok (.iload 8, 2) := by decide +kernel
theorem dX11_act_89 : decode cX11_act 89 = .ok (.iconst 1, 1) := by decide +kernel
theorem dX11_act_90 : decode cX11_act 90 = .ok (.iadd, 1) := by decide +kernel
theorem dX11_act_91 : decode cX11_act 91 = .ok (.iload 9, 2) := by decide +kernel
theorem dX11_act_93 : decode cX11_act 93 = .ok (.ifCond .le 7, 3) := by decide +kernel
theorem dX11_act_96 : decode cX11_act 96 = .ok (.iload_n 2, 1) := by decide +kernel
theorem dX11_act_97 : decode cX11_act 97 = .ok (.goto 4, 3) := by decide +kernel
theorem dX11_act_100 : decode cX11_act 100 = .ok (.iconst 0, 1) := by decide +kernel
theorem dX11_act_101 : decode cX11_act 101 = .ok (.iastore, 1) := by decide +kernel
theorem dX11_act_102 : decode cX11_act 102 = .ok (.aload_n 0, 1) := by decide +kernel
theorem dX11_act_103 : decode cX11_act 103 = .ok (.getfield 90, 3) := by decide +kernel
theorem dX11_act_106 : decode cX11_act 106 = .ok (.iload 8, 2) := by decide +kernel
theorem dX11_act_108 : decode cX11_act 108 = .ok (.iconst 2, 1) := by decide +kernel
theorem dX11_act_109 : decode cX11_act 109 = .ok (.iadd, 1) := by decide +kernel
theorem dX11_act_110 : decode cX11_act 110 = .ok (.iload 9, 2) := by decide +kernel
theorem dX11_act_112 : decode cX11_act 112 = .ok (.iconst 1, 1) := by decide +kernel
theorem dX11_act_113 : decode cX11_act 113 = .ok (.if_icmp .le 7, 3) := by decide +kernel
theorem dX11_act_116 : decode cX11_act 116 = .ok (.iload_n 3, 1) := by decide +kernel
theorem dX11_act_117 : decode cX11_act 117 = .ok (.goto 4, 3) := by decide +kernel
theorem dX11_act_120 : decode cX11_act 120 = .ok (.iconst 0, 1) := by decide +kernel
theorem dX11_act_121 : decode cX11_act 121 = .ok (.iastore, 1) := by decide +kernel
theorem dX11_act_122 : decode cX11_act 122 = .ok (.aload_n 0, 1) := by decide +kernel
theorem dX11_act_123 : decode cX11_act 123 = .ok (.getfield 90, 3) := by decide +kernel
theorem dX11_act_126 : decode cX11_act 126 = .ok (.iload 8, 2) := by decide +kernel
theorem dX11_act_128 : decode cX11_act 128 = .ok (.iconst 3, 1) := by decide +kernel
theorem dX11_act_129 : decode cX11_act 129 = .ok (.iadd, 1) := by decide +kernel
theorem dX11_act_130 : decode cX11_act 130 = .ok (.iload 9, 2) := by decide +kernel
theorem dX11_act_132 : decode cX11_act 132 = .ok (.iconst 2, 1) := by decide +kernel
theorem dX11_act_133 : decode cX11_act 133 = .ok (.if_icmp .le 8, 3) := by decide +kernel
theorem dX11_act_136 : decode cX11_act 136 = .ok (.iload 4, 2) := by decide +kernel
theorem dX11_act_138 : decode cX11_act 138 = .ok (.goto 4, 3) := by decide +kernel
theorem dX11_act_141 : decode cX11_act 141 = .ok (.iconst 0, 1) := by decide +kernel
theorem dX11_act_142 : decode cX11_act 142 = .ok (.iastore, 1) := by decide +kernel
theorem dX11_act_143 : decode cX11_act 143 = .ok (.aload_n 0, 1) := by decide +kernel
theorem dX11_act_144 : decode cX11_act 144 = .ok (.getfield 90, 3) := by decide +kernel
theorem dX11_act_147 : decode cX11_act 147 = .ok (.iload 8, 2) := by decide +kernel
theorem dX11_act_149 : decode cX11_act 149 = .ok (.iconst 4, 1) := by decide +kernel
theorem dX11_act_150 : decode cX11_act 150 = .ok (.iadd, 1) := by decide +kernel
theorem dX11_act_151 : decode cX11_act 151 = .ok (.iload 9, 2) := by decide +kernel
theorem dX11_act_153 : decode cX11_act 153 = .ok (.iconst 3, 1) := by decide +kernel
theorem dX11_act_154 : decode cX11_act 154 = .ok (.if_icmp .le 8, 3) := by decide +kernel
theorem dX11_act_157 : decode cX11_act 157 = .ok (.iload 5, 2) := by decide +kernel
theorem dX11_act_159 : decode cX11_act 159 = .ok (.goto 4, 3) := by decide +kernel
theorem dX11_act_162 : decode cX11_act 162 = .ok (.iconst 0, 1) := by decide +kernel
theorem dX11_act_163 : decode cX11_act 163 = .ok (.iastore, 1) := by decide +kernel
theorem dX11_act_164 : decode cX11_act 164 = .ok (.aload_n 0, 1) := by decide +kernel
theorem dX11_act_165 : decode cX11_act 165 = .ok (.getfield 90, 3) := by decide +kernel
theorem dX11_act_168 : decode cX11_act 168 = .ok (.iload 8, 2) := by decide +kernel
theorem dX11_act_170 : decode cX11_act 170 = .ok (.iconst 5, 1) := by decide +kernel
theorem dX11_act_171 : decode cX11_act 171 = .ok (.iadd, 1) := by decide +kernel
theorem dX11_act_172 : decode cX11_act 172 = .ok (.iload 7, 2) := by decide +kernel
theorem dX11_act_174 : decode cX11_act 174 = .ok (.iastore, 1) := by decide +kernel
theorem dX11_act_175 : decode cX11_act 175 = .ok (.aload_n 0, 1) := by decide +kernel
theorem dX11_act_176 : decode cX11_act 176 = .ok (.dup, 1) := by decide +kernel
theorem dX11_act_177 : decode cX11_act 177 = .ok (.getfield 118, 3) := by decide +kernel
theorem dX11_act_180 : decode cX11_act 180 = .ok (.iconst 1, 1) := by decide +kernel
theorem dX11_act_181 : decode cX11_act 181 = .ok (.iadd, 1) := by decide +kernel
theorem dX11_act_182 : decode cX11_act 182 = .ok (.putfield 118, 3) := by decide +kernel
theorem dX11_act_185 : decode cX11_act 185 = .ok (.iload 7, 2) := by decide +kernel
theorem dX11_act_187 : decode cX11_act 187 = .ok (.ireturn, 1) := by decide +kernel
theorem dX11_addWord_0 : decode cX11_addWord 0 = .ok (.iload_n 1, 1) := by decide +kernel
theorem dX11_addWord_1 : decode cX11_addWord 1 = .ok (.ifCond .ne 4, 3) := by decide +kernel
theorem dX11_addWord_4 : decode cX11_addWord 4 = .ok (.return_, 1) := by decide +kernel
theorem dX11_addWord_5 : decode cX11_addWord 5 = .ok (.aload_n 0, 1) := by decide +kernel
theorem dX11_addWord_6 : decode cX11_addWord 6 = .ok (.getfield 75, 3) := by decide +kernel
theorem dX11_addWord_9 : decode cX11_addWord 9 = .ok (.iconst 0, 1) := by decide +kernel
theorem dX11_addWord_10 : decode cX11_addWord 10 = .ok (.iaload, 1) := by decide +kernel
theorem dX11_addWord_11 : decode cX11_addWord 11 = .ok (.istore_n 2, 1) := by decide +kernel
theorem dX11_addWord_12 : decode cX11_addWord 12 = .ok (.aload_n 0, 1) := by decide +kernel
theorem dX11_addWord_13 : decode cX11_addWord 13 = .ok (.getfield 65, 3) := by decide +kernel
theorem dX11_addWord_16 : decode cX11_addWord 16 = .ok (.sipush 400, 3) := by decide +kernel
theorem dX11_addWord_19 : decode cX11_addWord 19 = .ok (.iload_n 2, 1) := by decide +kernel
theorem dX11_addWord_20 : decode cX11_addWord 20 = .ok (.imul, 1) := by decide +kernel
theorem dX11_addWord_21 : decode cX11_addWord 21 = .ok (.aload_n 0, 1) := by decide +kernel
theorem dX11_addWord_22 : decode cX11_addWord 22 = .ok (.getfield 37, 3) := by decide +kernel
theorem dX11_addWord_25 : decode cX11_addWord 25 = .ok (.iload_n 2, 1) := by decide +kernel
theorem dX11_addWord_26 : decode cX11_addWord 26 = .ok (.iaload, 1) := by decide +kernel
theorem dX11_addWord_27 : decode cX11_addWord 27 = .ok (.iadd, 1) := by decide +kernel
theorem dX11_addWord_28 : decode cX11_addWord 28 = .ok (.iload_n 1, 1) := by decide +kernel
theorem dX11_addWord_29 : decode cX11_addWord 29 = .ok (.iastore, 1) := by decide +kernel
theorem dX11_addWord_30 : decode cX11_addWord 30 = .ok (.aload_n 0, 1) := by decide +kernel
theorem dX11_addWord_31 : decode cX11_addWord 31 = .ok (.getfield 37, 3) := by decide +kernel
theorem dX11_addWord_34 : decode cX11_addWord 34 = .ok (.iload_n 2, 1) := by decide +kernel
theorem dX11_addWord_35 : decode cX11_addWord 35 = .ok (.dup2, 1) := by decide +kernel
theorem dX11_addWord_36 : decode cX11_addWord 36 = .ok (.iaload, 1) := by decide +kernel
theorem dX11_addWord_37 : decode cX11_addWord 37 = .ok (.iconst 1, 1) := by decide +kernel
theorem dX11_addWord_38 : decode cX11_addWord 38 = .ok (.iadd, 1) := by decide +kernel
theorem dX11_addWord_39 : decode cX11_addWord 39 = .ok (.iastore, 1) := by decide +kernel
theorem dX11_addWord_40 : decode cX11_addWord 40 = .ok (.return_, 1) := by decide +kernel
theorem dX11_anew_0 : decode cX11_anew 0 = .ok (.aload_n 0, 1) := by decide +kernel
theorem dX11_anew_1 : decode cX11_anew 1 = .ok (.dup, 1) := by decide +kernel
theorem dX11_anew_2 : decode cX11_anew 2 = .ok (.getfield 148, 3) := by decide +kernel
theorem dX11_anew_5 : decode cX11_anew 5 = .ok (.iconst 1, 1) := by decide +kernel
theorem dX11_anew_6 : decode cX11_anew 6 = .ok (.iadd, 1) := by decide +kernel
theorem dX11_anew_7 : decode cX11_anew 7 = .ok (.putfield 148, 3) := by decide +kernel
theorem dX11_anew_10 : decode cX11_anew 10 = .ok (.aload_n 0, 1) := by decide +kernel
theorem dX11_anew_11 : decode cX11_anew 11 = .ok (.getfield 46, 3) := by decide +kernel
theorem dX11_anew_14 : decode cX11_anew 14 = .ok (.iload_n 1, 1) := by decide +kernel
theorem dX11_anew_15 : decode cX11_anew 15 = .ok (.aload_n 0, 1) := by decide +kernel
theorem dX11_anew_16 : decode cX11_anew 16 = .ok (.getfield 148, 3) := by decide +kernel
theorem dX11_anew_19 : decode cX11_anew 19 = .ok (.iastore, 1) := by decide +kernel
theorem dX11_anew_20 : decode cX11_anew 20 = .ok (.aload_n 0, 1) := by decide +kernel
theorem dX11_anew_21 : decode cX11_anew 21 = .ok (.getfield 31, 3) := by decide +kernel
theorem dX11_anew_24 : decode cX11_anew 24 = .ok (.iload_n 1, 1) := by decide +kernel
theorem dX11_anew_25 : decode cX11_anew 25 = .ok (.iconst 0, 1) := by decide +kernel
theorem dX11_anew_26 : decode cX11_anew 26 = .ok (.iastore, 1) := by decide +kernel
theorem dX11_anew_27 : decode cX11_anew 27 = .ok (.aload_n 0, 1) := by decide +kernel
theorem dX11_anew_28 : decode cX11_anew 28 = .ok (.getfield 34, 3) := by decide +kernel
theorem dX11_anew_31 : decode cX11_anew 31 = .ok (.iload_n 1, 1) := by decide +kernel
theorem dX11_anew_32 : decode cX11_anew 32 = .ok (.iconst 0, 1) := by decide +kernel
theorem dX11_anew_33 : decode cX11_anew 33 = .ok (.iastore, 1) := by decide +kernel
theorem dX11_anew_34 : decode cX11_anew 34 = .ok (.aload_n 0, 1) := by decide +kernel
theorem dX11_anew_35 : decode cX11_anew 35 = .ok (.getfield 52, 3) := by decide +kernel
theorem dX11_anew_38 : decode cX11_anew 38 = .ok (.iload_n 1, 1) := by decide +kernel
theorem dX11_anew_39 : decode cX11_anew 39 = .ok (.iconst 0, 1) := by decide +kernel
theorem dX11_anew_40 : decode cX11_anew 40 = .ok (.bastore, 1) := by decide +kernel
theorem dX11_anew_41 : decode cX11_anew 41 = .ok (.iconst 0, 1) := by decide +kernel
theorem dX11_anew_42 : decode cX11_anew 42 = .ok (.istore_n 2, 1) := by decide +kernel
theorem dX11_anew_43 : decode cX11_anew 43 = .ok (.iload_n 2, 1) := by decide +kernel
theorem dX11_anew_44 : decode cX11_anew 44 = .ok (.sipush 200, 3) := by decide +kernel
theorem dX11_anew_47 : decode cX11_anew 47 = .ok (.if_icmp .ge 22, 3) := by decide +kernel
theorem dX11_anew_50 : decode cX11_anew 50 = .ok (.aload_n 0, 1) := by decide +kernel
theorem dX11_anew_51 : decode cX11_anew 51 = .ok (.getfield 68, 3) := by decide +kernel
theorem dX11_anew_54 : decode cX11_anew 54 = .ok (.sipush 200, 3) := by decide +kernel
theorem dX11_anew_57 : decode cX11_anew 57 = .ok (.iload_n 1, 1) := by decide +kernel
theorem dX11_anew_58 : decode cX11_anew 58 = .ok (.imul, 1) := by decide +kernel
theorem dX11_anew_59 : decode cX11_anew 59 = .ok (.iload_n 2, 1) := by decide +kernel
theorem dX11_anew_60 : decode cX11_anew 60 = .ok (.iadd, 1) := by decide +kernel
theorem dX11_anew_61 : decode cX11_anew 61 = .ok (.iconst 2, 1) := by decide +kernel
theorem dX11_anew_62 : decode cX11_anew 62 = .ok (.bastore, 1) := by decide +kernel
theorem dX11_anew_63 : decode cX11_anew 63 = .ok (.iinc 2 1, 3) := by decide +kernel
theorem dX11_anew_66 : decode cX11_anew 66 = .ok (.goto (-23), 3) := by decide +kernel
theorem dX11_anew_69 : decode cX11_anew 69 = .ok (.return_, 1) := by decide +kernel
theorem dX11_begin_0 : decode cX11_begin 0 = .ok (.aload_n 0, 1) := by decide +kernel
theorem dX11_begin_1 : decode cX11_begin 1 = .ok (.iload_n 1, 1) := by decide +kernel
theorem dX11_begin_2 : decode cX11_begin 2 = .ok (.putfield 96, 3) := by decide +kernel
theorem dX11_begin_5 : decode cX11_begin 5 = .ok (.aload_n 0, 1) := by decide +kernel
theorem dX11_begin_6 : decode cX11_begin 6 = .ok (.iconst 0, 1) := by decide +kernel
theorem dX11_begin_7 : decode cX11_begin 7 = .ok (.putfield 100, 3) := by decide +kernel
theorem dX11_begin_10 : decode cX11_begin 10 = .ok (.aload_n 0, 1) := by decide +kernel
theorem dX11_begin_11 : decode cX11_begin 11 = .ok (.iconst (-1), 1) := by decide +kernel
theorem dX11_begin_12 : decode cX11_begin 12 = .ok (.putfield 103, 3) := by decide +kernel
theorem dX11_begin_15 : decode cX11_begin 15 = .ok (.aload_n 0, 1) := by decide +kernel
theorem dX11_begin_16 : decode cX11_begin 16 = .ok (.iconst 0, 1) := by decide +kernel
theorem dX11_begin_17 : decode cX11_begin 17 = .ok (.putfield 106, 3) := by decide +kernel
theorem dX11_begin_20 : decode cX11_begin 20 = .ok (.aload_n 0, 1) := by decide +kernel
theorem dX11_begin_21 : decode cX11_begin 21 = .ok (.iconst 0, 1) := by decide +kernel
theorem dX11_begin_22 : decode cX11_begin 22 = .ok (.putfield 109, 3) := by decide +kernel
theorem dX11_begin_25 : decode cX11_begin 25 = .ok (.aload_n 0, 1) := by decide +kernel
theorem dX11_begin_26 : decode cX11_begin 26 = .ok (.iconst (-1), 1) := by decide +kernel
theorem dX11_begin_27 : decode cX11_begin 27 = .ok (.putfield 112, 3) := by decide +kernel
theorem dX11_begin_30 : decode cX11_begin 30 = .ok (.aload_n 0, 1) := by decide +kernel
theorem dX11_begin_31 : decode cX11_begin 31 = .ok (.iconst 0, 1) := by decide +kernel
theorem dX11_begin_32 : decode cX11_begin 32 = .ok (.putfield 115, 3) := by decide +kernel
theorem dX11_begin_35 : decode cX11_begin 35 = .ok (.aload_n 0, 1) := by decide +kernel
theorem dX11_begin_36 : decode cX11_begin 36 = .ok (.iconst 0, 1) := by decide +kernel
theorem dX11_begin_37 : decode cX11_begin 37 = .ok (.putfield 118, 3) := by decide +kernel
theorem dX11_begin_40 : decode cX11_begin 40 = .ok (.aload_n 0, 1) := by decide +kernel
theorem dX11_begin_41 : decode cX11_begin 41 = .ok (.iconst 0, 1) := by decide +kernel
theorem dX11_begin_42 : decode cX11_begin 42 = .ok (.putfield 121, 3) := by decide +kernel
theorem dX11_begin_45 : decode cX11_begin 45 = .ok (.aload_n 0, 1) := by decide +kernel
theorem dX11_begin_46 : decode cX11_begin 46 = .ok (.iconst 0, 1) := by decide +kernel
theorem dX11_begin_47 : decode cX11_begin 47 = .ok (.putfield 124, 3) := by decide +kernel
theorem dX11_begin_50 : decode cX11_begin 50 = .ok (.aload_n 0, 1) := by decide +kernel
theorem dX11_begin_51 : decode cX11_begin 51 = .ok (.iconst 0, 1) := by decide +kernel
theorem dX11_begin_52 : decode cX11_begin 52 = .ok (.putfield 127, 3) := by decide +kernel
theorem dX11_begin_55 : decode cX11_begin 55 = .ok (.aload_n 0, 1) := by decide +kernel
theorem dX11_begin_56 : decode cX11_begin 56 = .ok (.iconst 0, 1) := by decide +kernel
theorem dX11_begin_57 : decode cX11_begin 57 = .ok (.putfield 130, 3) := by decide +kernel
theorem dX11_begin_60 : decode cX11_begin 60 = .ok (.aload_n 0, 1) := by decide +kernel
theorem dX11_begin_61 : decode cX11_begin 61 = .ok (.iconst (-1), 1) := by decide +kernel
theorem dX11_begin_62 : decode cX11_begin 62 = .ok (.putfield 133, 3) := by decide +kernel
theorem dX11_begin_65 : decode cX11_begin 65 = .ok (.iconst 0, 1) := by decide +kernel
theorem dX11_begin_66 : decode cX11_begin 66 = .ok (.istore_n 2, 1) := by decide +kernel
theorem dX11_begin_67 : decode cX11_begin 67 = .ok (.iload_n 2, 1) := by decide +kernel
theorem dX11_begin_68 : decode cX11_begin 68 = .ok (.sipush 200, 3) := by decide +kernel
theorem dX11_begin_71 : decode cX11_begin 71 = .ok (.if_icmp .ge 16, 3) := by decide +kernel
theorem dX11_begin_74 : decode cX11_begin 74 = .ok (.aload_n 0, 1) := by decide +kernel
theorem dX11_begin_75 : decode cX11_begin 75 = .ok (.getfield 9, 3) := by decide +kernel
theorem dX11_begin_78 : decode cX11_begin 78 = .ok (.iload_n 2, 1) := by decide +kernel
theorem dX11_begin_79 : decode cX11_begin 79 = .ok (.iconst 0, 1) := by decide +kernel
theorem dX11_begin_80 : decode cX11_begin 80 = .ok (.bastore, 1) := by decide +kernel
theorem dX11_begin_81 : decode cX11_begin 81 = .ok (.iinc 2 1, 3) := by decide +kernel
theorem dX11_begin_84 : decode cX11_begin 84 = .ok (.goto (-17), 3) := by decide +kernel
theorem dX11_begin_87 : decode cX11_begin 87 = .ok (.iconst 0, 1) := by decide +kernel
theorem dX11_begin_88 : decode cX11_begin 88 = .ok (.istore_n 2, 1) := by decide +kernel
theorem dX11_begin_89 : decode cX11_begin 89 = .ok (.iload_n 2, 1) := by decide +kernel
theorem dX11_begin_90 : decode cX11_begin 90 = .ok (.bipush 9, 2) := by decide +kernel
theorem dX11_begin_92 : decode cX11_begin 92 = .ok (.if_icmp .ge 26, 3) := by decide +kernel
theorem dX11_begin_95 : decode cX11_begin 95 = .ok (.aload_n 0, 1) := by decide +kernel
theorem dX11_begin_96 : decode cX11_begin 96 = .ok (.getfield 15, 3) := by decide +kernel
theorem dX11_begin_99 : decode cX11_begin 99 = .ok (.iload_n 2, 1) := by decide +kernel
theorem dX11_begin_100 : decode cX11_begin 100 = .ok (.iload_n 2, 1) := by decide +kernel
theorem dX11_begin_101 : decode cX11_begin 101 = .ok (.bipush 6, 2) := by decide +kernel
theorem dX11_begin_103 : decode cX11_begin 103 = .ok (.if_icmp .ne 7, 3) := by decide +kernel
theorem dX11_begin_106 : decode cX11_begin 106 = .ok (.iconst 2, 1) := by decide +kernel
theorem dX11_begin_107 : decode cX11_begin 107 = .ok (.goto 4, 3) := by decide +kernel
theorem dX11_begin_110 : decode cX11_begin 110 = .ok (.iconst 1, 1) := by decide +kernel
theorem dX11_begin_111 : decode cX11_begin 111 = .ok (.iastore, 1) := by decide +kernel
theorem dX11_begin_112 : decode cX11_begin 112 = .ok (.iinc 2 1, 3) := by decide +kernel
theorem dX11_begin_115 : decode cX11_begin 115 = .ok (.goto (-26), 3) := by decide +kernel
theorem dX11_begin_118 : decode cX11_begin 118 = .ok (.iconst 0, 1) := by decide +kernel
theorem dX11_begin_119 : decode cX11_begin 119 = .ok (.istore_n 2, 1) := by decide +kernel
theorem dX11_begin_120 : decode cX11_begin 120 = .ok (.iload_n 2, 1) := by decide +kernel
theorem dX11_begin_121 : decode cX11_begin 121 = .ok (.bipush 90, 2) := by decide +kernel
theorem dX11_begin_123 : decode cX11_begin 123 = .ok (.if_icmp .ge 16, 3) := by decide +kernel
theorem dX11_begin_126 : decode cX11_begin 126 = .ok (.aload_n 0, 1) := by decide +kernel
theorem dX11_begin_127 : decode cX11_begin 127 = .ok (.getfield 19, 3) := by decide +kernel
theorem dX11_begin_130 : decode cX11_begin 130 = .ok (.iload_n 2, 1) := by decide +kernel
theorem dX11_begin_131 : decode cX11_begin 131 = .ok (.iconst 0, 1) := by decide +kernel
theorem dX11_begin_132 : decode cX11_begin 132 = .ok (.bastore, 1) := by decide +kernel
theorem dX11_begin_133 : decode cX11_begin 133 = .ok (.iinc 2 1, 3) := by decide +kernel
theorem dX11_begin_136 : decode cX11_begin 136 = .ok (.goto (-16), 3) := by decide +kernel
theorem dX11_begin_139 : decode cX11_begin 139 = .ok (.iconst 0, 1) := by decide +kernel
theorem dX11_begin_140 : decode cX11_begin 140 = .ok (.istore_n 2, 1) := by decide +kernel
theorem dX11_begin_141 : decode cX11_begin 141 = .ok (.iload_n 2, 1) := by decide +kernel
theorem dX11_begin_142 : decode cX11_begin 142 = .ok (.bipush 8, 2) := by decide +kernel
theorem dX11_begin_144 : decode cX11_begin 144 = .ok (.if_icmp .ge 16, 3) := by decide +kernel
theorem dX11_begin_147 : decode cX11_begin 147 = .ok (.aload_n 0, 1) := by decide +kernel
theorem dX11_begin_148 : decode cX11_begin 148 = .ok (.getfield 81, 3) := by decide +kernel
theorem dX11_begin_151 : decode cX11_begin 151 = .ok (.iload_n 2, 1) := by decide +kernel
theorem dX11_begin_152 : decode cX11_begin 152 = .ok (.iconst 0, 1) := by decide +kernel
theorem dX11_begin_153 : decode cX11_begin 153 = .ok (.iastore, 1) := by decide +kernel
theorem dX11_begin_154 : decode cX11_begin 154 = .ok (.iinc 2 1, 3) := by decide +kernel
theorem dX11_begin_157 : decode cX11_begin 157 = .ok (.goto (-16), 3) := by decide +kernel
theorem dX11_begin_160 : decode cX11_begin 160 = .ok (.return_, 1) := by decide +kernel
theorem dX11_carried_0 : decode cX11_carried 0 = .ok (.iload_n 2, 1) := by decide +kernel
theorem dX11_carried_1 : decode cX11_carried 1 = .ok (.tableswitch 256 1 8 #[47, 110, 110, 256, 256, 133, 185, 150], 47) := by decide +kernel
theorem dX11_carried_48 : decode cX11_carried 48 = .ok (.aload_n 0, 1) := by decide +kernel
theorem dX11_carried_49 : decode cX11_carried 49 = .ok (.dup, 1) := by decide +kernel
theorem dX11_carried_50 : decode cX11_carried 50 = .ok (.getfield 124, 3) := by decide +kernel
theorem dX11_carried_53 : decode cX11_carried 53 = .ok (.iconst 1, 1) := by decide +kernel
theorem dX11_carried_54 : decode cX11_carried 54 = .ok (.iadd, 1) := by decide +kernel
theorem dX11_carried_55 : decode cX11_carried 55 = .ok (.putfield 124, 3) := by decide +kernel
theorem dX11_carried_58 : decode cX11_carried 58 = .ok (.aload_n 0, 1) := by decide +kernel
theorem dX11_carried_59 : decode cX11_carried 59 = .ok (.aload_n 0, 1) := by decide +kernel
theorem dX11_carried_60 : decode cX11_carried 60 = .ok (.getfield 37, 3) := by decide +kernel
theorem dX11_carried_63 : decode cX11_carried 63 = .ok (.iload_n 1, 1) := by decide +kernel
theorem dX11_carried_64 : decode cX11_carried 64 = .ok (.iaload, 1) := by decide +kernel
theorem dX11_carried_65 : decode cX11_carried 65 = .ok (.putfield 133, 3) := by decide +kernel
theorem dX11_carried_68 : decode cX11_carried 68 = .ok (.iconst 0, 1) := by decide +kernel
theorem dX11_carried_69 : decode cX11_carried 69 = .ok (.istore_n 3, 1) := by decide +kernel
theorem dX11_carried_70 : decode cX11_carried 70 = .ok (.iload_n 3, 1) := by decide +kernel
theorem dX11_carried_71 : decode cX11_carried 71 = .ok (.aload_n 0, 1) := by decide +kernel
theorem dX11_carried_72 : decode cX11_carried 72 = .ok (.getfield 37, 3) := by decide +kernel
theorem dX11_carried_75 : decode cX11_carried 75 = .ok (.iload_n 1, 1) := by decide +kernel
theorem dX11_carried_76 : decode cX11_carried 76 = .ok (.iaload, 1) := by decide +kernel
theorem dX11_carried_77 : decode cX11_carried 77 = .ok (.if_icmp .ge 27, 3) := by decide +kernel
theorem dX11_carried_80 : decode cX11_carried 80 = .ok (.aload_n 0, 1) := by decide +kernel
theorem dX11_carried_81 : decode cX11_carried 81 = .ok (.getfield 87, 3) := by decide +kernel
theorem dX11_carried_84 : decode cX11_carried 84 = .ok (.iload_n 3, 1) := by decide +kernel
theorem dX11_carried_85 : decode cX11_carried 85 = .ok (.aload_n 0, 1) := by decide +kernel
theorem dX11_carried_86 : decode cX11_carried 86 = .ok (.getfield 65, 3) := by decide +kernel
theorem dX11_carried_89 : decode cX11_carried 89 = .ok (.sipush 400, 3) := by decide +kernel
theorem dX11_carried_92 : decode cX11_carried 92 = .ok (.iload_n 1, 1) := by decide +kernel
theorem dX11_carried_93 : decode cX11_carried 93 = .ok (.imul, 1) := by decide +kernel
theorem dX11_carried_94 : decode cX11_carried 94 = .ok (.iload_n 3, 1) := by decide +kernel
theorem dX11_carried_95 : decode cX11_carried 95 = .ok (.iadd, 1) := by decide +kernel
theorem dX11_carried_96 : decode cX11_carried 96 = .ok (.iaload, 1) := by decide +kernel
theorem dX11_carried_97 : decode cX11_carried 97 = .ok (.iastore, 1) := by decide +kernel
theorem dX11_carried_98 : decode cX11_carried 98 = .ok (.iinc 3 1, 3) := by decide +kernel
theorem dX11_carried_101 : decode cX11_carried 101 = .ok (.goto (-31), 3) := by decide +kernel
theorem dX11_carried_104 : decode cX11_carried 104 = .ok (.aload_n 0, 1) := by decide +kernel
theorem dX11_carried_105 : decode cX11_carried 105 = .ok (.invokevirtual 227, 3) := by decide +kernel
theorem dX11_carried_108 : decode cX11_carried 108 = .ok (.goto 265, 3) := by decide +kernel
theorem dX11_carried_111 : decode cX11_carried 111 = .ok (.aload_n 0, 1) := by decide +kernel
theorem dX11_carried_112 : decode cX11_carried 112 = .ok (.aload_n 0, 1) := by decide +kernel
theorem dX11_carried_113 : decode cX11_carried 113 = .ok (.getfield 72, 3) := by decide +kernel
theorem dX11_carried_116 : decode cX11_carried 116 = .ok (.aload_n 0, 1) := by decide +kernel
theorem dX11_carried_117 : decode cX11_carried 117 = .ok (.getfield 115, 3) := by decide +kernel
theorem dX11_carried_120 : decode cX11_carried 120 = .ok (.iconst 2, 1) := by decide +kernel
theorem dX11_carried_121 : decode cX11_carried 121 = .ok (.isub, 1) := by decide +kernel
theorem dX11_carried_122 : decode cX11_carried 122 = .ok (.iaload, 1) := by decide +kernel
theorem dX11_carried_123 : decode cX11_carried 123 = .ok (.iload_n 1, 1) := by decide +kernel
theorem dX11_carried_124 : decode cX11_carried 124 = .ok (.invokevirtual 240, 3) := by decide +kernel
theorem dX11_carried_127 : decode cX11_carried 127 = .ok (.aload_n 0, 1) := by decide +kernel
theorem dX11_carried_128 : decode cX11_carried 128 = .ok (.invokevirtual 227, 3) := by decide +kernel
theorem dX11_carried_131 : decode cX11_carried 131 = .ok (.goto 242, 3) := by decide +kernel
theorem dX11_carried_134 : decode cX11_carried 134 = .ok (.aload_n 0, 1) := by decide +kernel
theorem dX11_carried_135 : decode cX11_carried 135 = .ok (.invokevirtual 227, 3) := by decide +kernel
theorem dX11_carried_138 : decode cX11_carried 138 = .ok (.aload_n 0, 1) := by decide +kernel
theorem dX11_carried_139 : decode cX11_carried 139 = .ok (.getfield 52, 3) := by decide +kernel
theorem dX11_carried_142 : decode cX11_carried 142 = .ok (.aload_n 0, 1) := by decide +kernel
theorem dX11_carried_143 : decode cX11_carried 143 = .ok (.invokevirtual 155, 3) := by decide +kernel
theorem dX11_carried_146 : decode cX11_carried 146 = .ok (.iconst 1, 1) := by decide +kernel
theorem dX11_carried_147 : decode cX11_carried 147 = .ok (.bastore, 1) := by decide +kernel
theorem dX11_carried_148 : decode cX11_carried 148 = .ok (.goto 225, 3) := by decide +kernel
theorem dX11_carried_151 : decode cX11_carried 151 = .ok (.aload_n 0, 1) := by decide +kernel
theorem dX11_carried_152 : decode cX11_carried 152 = .ok (.invokevirtual 227, 3) := by decide +kernel
theorem dX11_carried_155 : decode cX11_carried 155 = .ok (.iconst 0, 1) := by decide +kernel
theorem dX11_carried_156 : decode cX11_carried 156 = .ok (.istore_n 3, 1) := by decide +kernel
theorem dX11_carried_157 : decode cX11_carried 157 = .ok (.iload_n 3, 1) := by decide +kernel
theorem dX11_carried_158 : decode cX11_carried 158 = .ok (.aload_n 0, 1) := by decide +kernel
theorem dX11_carried_159 : decode cX11_carried 159 = .ok (.getfield 96, 3) := by decide +kernel
theorem dX11_carried_162 : decode cX11_carried 162 = .ok (.if_icmp .ge 16, 3) := by decide +kernel
theorem dX11_carried_165 : decode cX11_carried 165 = .ok (.aload_n 0, 1) := by decide +kernel
theorem dX11_carried_166 : decode cX11_carried 166 = .ok (.getfield 9, 3) := by decide +kernel
theorem dX11_carried_169 : decode cX11_carried 169 = .ok (.iload_n 3, 1) := by decide +kernel
theorem dX11_carried_170 : decode cX11_carried 170 = .ok (.iconst 0, 1) := by decide +kernel
theorem dX11_carried_171 : decode cX11_carried 171 = .ok (.bastore, 1) := by decide +kernel
theorem dX11_carried_172 : decode cX11_carried 172 = .ok (.iinc 3 1, 3) := by decide +kernel
theorem dX11_carried_175 : decode cX11_carried 175 = .ok (.goto (-18), 3) := by decide +kernel
theorem dX11_carried_178 : decode cX11_carried 178 = .ok (.aload_n 0, 1) := by decide +kernel
theorem dX11_carried_179 : decode cX11_carried 179 = .ok (.iconst 0, 1) := by decide +kernel
theorem dX11_carried_180 : decode cX11_carried 180 = .ok (.putfield 100, 3) := by decide +kernel
theorem dX11_carried_183 : decode cX11_carried 183 = .ok (.goto 190, 3) := by decide +kernel
theorem dX11_carried_186 : decode cX11_carried 186 = .ok (.aload_n 0, 1) := by decide +kernel
theorem dX11_carried_187 : decode cX11_carried 187 = .ok (.invokevirtual 227, 3) := by decide +kernel
theorem dX11_carried_190 : decode cX11_carried 190 = .ok (.aload_n 0, 1) := by decide +kernel
theorem dX11_carried_191 : decode cX11_carried 191 = .ok (.invokevirtual 193, 3) := by decide +kernel
theorem dX11_carried_194 : decode cX11_carried 194 = .ok (.istore_n 3, 1) := by decide +kernel
theorem dX11_carried_195 : decode cX11_carried 195 = .ok (.iconst 0, 1) := by decide +kernel
theorem dX11_carried_196 : decode cX11_carried 196 = .ok (.istore 4, 2) := by decide +kernel
theorem dX11_carried_198 : decode cX11_carried 198 = .ok (.iload 4, 2) := by decide +kernel
theorem dX11_carried_200 : decode cX11_carried 200 = .ok (.aload_n 0, 1) := by decide +kernel
theorem dX11_carried_201 : decode cX11_carried 201 = .ok (.getfield 115, 3) := by decide +kernel
theorem dX11_carried_204 : decode cX11_carried 204 = .ok (.if_icmp .ge 28, 3) := by decide +kernel
theorem dX11_carried_207 : decode cX11_carried 207 = .ok (.aload_n 0, 1) := by decide +kernel
theorem dX11_carried_208 : decode cX11_carried 208 = .ok (.getfield 78, 3) := by decide +kernel
theorem dX11_carried_211 : decode cX11_carried 211 = .ok (.bipush 9, 2) := by decide +kernel
theorem dX11_carried_213 : decode cX11_carried 213 = .ok (.iload_n 3, 1) := by decide +kernel
theorem dX11_carried_214 : decode cX11_carried 214 = .ok (.imul, 1) := by decide +kernel
theorem dX11_carried_215 : decode cX11_carried 215 = .ok (.iload 4, 2) := by decide +kernel
theorem dX11_carried_217 : decode cX11_carried 217 = .ok (.iadd, 1) := by decide +kernel
theorem dX11_carried_218 : decode cX11_carried 218 = .ok (.aload_n 0, 1) := by decide +kernel
theorem dX11_carried_219 : decode cX11_carried 219 = .ok (.getfield 72, 3) := by decide +kernel
theorem dX11_carried_222 : decode cX11_carried 222 = .ok (.iload 4, 2) := by decide +kernel
theorem dX11_carried_224 : decode cX11_carried 224 = .ok (.iaload, 1) := by decide +kernel
theorem dX11_carried_225 : decode cX11_carried 225 = .ok (.iastore, 1) := by decide +kernel
theorem dX11_carried_226 : decode cX11_carried 226 = .ok (.iinc 4 1, 3) := by decide +kernel
theorem dX11_carried_229 : decode cX11_carried 229 = .ok (.goto (-31), 3) := by decide +kernel
theorem dX11_carried_232 : decode cX11_carried 232 = .ok (.aload_n 0, 1) := by decide +kernel
theorem dX11_carried_233 : decode cX11_carried 233 = .ok (.getfield 81, 3) := by decide +kernel
theorem dX11_carried_236 : decode cX11_carried 236 = .ok (.iload_n 3, 1) := by decide +kernel
theorem dX11_carried_237 : decode cX11_carried 237 = .ok (.aload_n 0, 1) := by decide +kernel
theorem dX11_carried_238 : decode cX11_carried 238 = .ok (.getfield 115, 3) := by decide +kernel
theorem dX11_carried_241 : decode cX11_carried 241 = .ok (.iastore, 1) := by decide +kernel
theorem dX11_carried_242 : decode cX11_carried 242 = .ok (.aload_n 0, 1) := by decide +kernel
theorem dX11_carried_243 : decode cX11_carried 243 = .ok (.getfield 84, 3) := by decide +kernel
theorem dX11_carried_246 : decode cX11_carried 246 = .ok (.iload_n 3, 1) := by decide +kernel
theorem dX11_carried_247 : decode cX11_carried 247 = .ok (.iconst 1, 1) := by decide +kernel
theorem dX11_carried_248 : decode cX11_carried 248 = .ok (.bastore, 1) := by decide +kernel
theorem dX11_carried_249 : decode cX11_carried 249 = .ok (.aload_n 0, 1) := by decide +kernel
theorem dX11_carried_250 : decode cX11_carried 250 = .ok (.iconst 0, 1) := by decide +kernel
theorem dX11_carried_251 : decode cX11_carried 251 = .ok (.putfield 115, 3) := by decide +kernel
theorem dX11_carried_254 : decode cX11_carried 254 = .ok (.goto 119, 3) := by decide +kernel
theorem dX11_carried_257 : decode cX11_carried 257 = .ok (.aload_n 0, 1) := by decide +kernel
theorem dX11_carried_258 : decode cX11_carried 258 = .ok (.getfield 115, 3) := by decide +kernel
theorem dX11_carried_261 : decode cX11_carried 261 = .ok (.iconst 1, 1) := by decide +kernel
theorem dX11_carried_262 : decode cX11_carried 262 = .ok (.if_icmp .le 10, 3) := by decide +kernel
theorem dX11_carried_265 : decode cX11_carried 265 = .ok (.aload_n 0, 1) := by decide +kernel
theorem dX11_carried_266 : decode cX11_carried 266 = .ok (.invokevirtual 227, 3) := by decide +kernel
theorem dX11_carried_269 : decode cX11_carried 269 = .ok (.goto (-12), 3) := by decide +kernel
theorem dX11_carried_272 : decode cX11_carried 272 = .ok (.aload_n 0, 1) := by decide +kernel
theorem dX11_carried_273 : decode cX11_carried 273 = .ok (.getfield 72, 3) := by decide +kernel
theorem dX11_carried_276 : decode cX11_carried 276 = .ok (.iconst 0, 1) := by decide +kernel
theorem dX11_carried_277 : decode cX11_carried 277 = .ok (.iaload, 1) := by decide +kernel
theorem dX11_carried_278 : decode cX11_carried 278 = .ok (.istore_n 3, 1) := by decide +kernel
theorem dX11_carried_279 : decode cX11_carried 279 = .ok (.aload_n 0, 1) := by decide +kernel
theorem dX11_carried_280 : decode cX11_carried 280 = .ok (.invokevirtual 193, 3) := by decide +kernel
theorem dX11_carried_283 : decode cX11_carried 283 = .ok (.istore 4, 2) := by decide +kernel
theorem dX11_carried_285 : decode cX11_carried 285 = .ok (.aload_n 0, 1) := by decide +kernel
theorem dX11_carried_286 : decode cX11_carried 286 = .ok (.getfield 78, 3) := by decide +kernel
theorem dX11_carried_289 : decode cX11_carried 289 = .ok (.bipush 9, 2) := by decide +kernel
theorem dX11_carried_291 : decode cX11_carried 291 = .ok (.iload 4, 2) := by decide +kernel
theorem dX11_carried_293 : decode cX11_carried 293 = .ok (.imul, 1) := by decide +kernel
theorem dX11_carried_294 : decode cX11_carried 294 = .ok (.iload_n 3, 1) := by decide +kernel
theorem dX11_carried_295 : decode cX11_carried 295 = .ok (.iastore, 1) := by decide +kernel
theorem dX11_carried_296 : decode cX11_carried 296 = .ok (.aload_n 0, 1) := by decide +kernel
theorem dX11_carried_297 : decode cX11_carried 297 = .ok (.getfield 81, 3) := by decide +kernel
theorem dX11_carried_300 : decode cX11_carried 300 = .ok (.iload 4, 2) := by decide +kernel
theorem dX11_carried_302 : decode cX11_carried 302 = .ok (.iconst 1, 1) := by decide +kernel
theorem dX11_carried_303 : decode cX11_carried 303 = .ok (.iastore, 1) := by decide +kernel
theorem dX11_carried_304 : decode cX11_carried 304 = .ok (.aload_n 0, 1) := by decide +kernel
theorem dX11_carried_305 : decode cX11_carried 305 = .ok (.getfield 84, 3) := by decide +kernel
theorem dX11_carried_308 : decode cX11_carried 308 = .ok (.iload 4, 2) := by decide +kernel
theorem dX11_carried_310 : decode cX11_carried 310 = .ok (.iconst 0, 1) := by decide +kernel
theorem dX11_carried_311 : decode cX11_carried 311 = .ok (.bastore, 1) := by decide +kernel
theorem dX11_carried_312 : decode cX11_carried 312 = .ok (.aload_n 0, 1) := by decide +kernel
theorem dX11_carried_313 : decode cX11_carried 313 = .ok (.iconst 0, 1) := by decide +kernel
theorem dX11_carried_314 : decode cX11_carried 314 = .ok (.putfield 115, 3) := by decide +kernel
theorem dX11_carried_317 : decode cX11_carried 317 = .ok (.aload_n 0, 1) := by decide +kernel
theorem dX11_carried_318 : decode cX11_carried 318 = .ok (.iload_n 3, 1) := by decide +kernel
theorem dX11_carried_319 : decode cX11_carried 319 = .ok (.invokevirtual 144, 3) := by decide +kernel
theorem dX11_carried_322 : decode cX11_carried 322 = .ok (.aload_n 0, 1) := by decide +kernel
theorem dX11_carried_323 : decode cX11_carried 323 = .ok (.getfield 55, 3) := by decide +kernel
theorem dX11_carried_326 : decode cX11_carried 326 = .ok (.iload_n 3, 1) := by decide +kernel
theorem dX11_carried_327 : decode cX11_carried 327 = .ok (.iload_n 2, 1) := by decide +kernel
theorem dX11_carried_328 : decode cX11_carried 328 = .ok (.iconst 5, 1) := by decide +kernel
theorem dX11_carried_329 : decode cX11_carried 329 = .ok (.if_icmp .ne 7, 3) := by decide +kernel
theorem dX11_carried_332 : decode cX11_carried 332 = .ok (.iconst 1, 1) := by decide +kernel
theorem dX11_carried_333 : decode cX11_carried 333 = .ok (.goto 4, 3) := by decide +kernel
theorem dX11_carried_336 : decode cX11_carried 336 = .ok (.iconst 0, 1) := by decide +kernel
theorem dX11_carried_337 : decode cX11_carried 337 = .ok (.bastore, 1) := by decide +kernel
theorem dX11_carried_338 : decode cX11_carried 338 = .ok (.aload_n 0, 1) := by decide +kernel
theorem dX11_carried_339 : decode cX11_carried 339 = .ok (.getfield 61, 3) := by decide +kernel
theorem dX11_carried_342 : decode cX11_carried 342 = .ok (.iload_n 3, 1) := by decide +kernel
theorem dX11_carried_343 : decode cX11_carried 343 = .ok (.iload_n 2, 1) := by decide +kernel
theorem dX11_carried_344 : decode cX11_carried 344 = .ok (.iconst 4, 1) := by decide +kernel
theorem dX11_carried_345 : decode cX11_carried 345 = .ok (.if_icmp .ne 7, 3) := by decide +kernel
theorem dX11_carried_348 : decode cX11_carried 348 = .ok (.iconst 1, 1) := by decide +kernel
theorem dX11_carried_349 : decode cX11_carried 349 = .ok (.goto 4, 3) := by decide +kernel
theorem dX11_carried_352 : decode cX11_carried 352 = .ok (.iconst 0, 1) := by decide +kernel
theorem dX11_carried_353 : decode cX11_carried 353 = .ok (.bastore, 1) := by decide +kernel
theorem dX11_carried_354 : decode cX11_carried 354 = .ok (.iload_n 2, 1) := by decide +kernel
theorem dX11_carried_355 : decode cX11_carried 355 = .ok (.iconst 4, 1) := by decide +kernel
theorem dX11_carried_356 : decode cX11_carried 356 = .ok (.if_icmp .ne 17, 3) := by decide +kernel
theorem dX11_carried_359 : decode cX11_carried 359 = .ok (.aload_n 0, 1) := by decide +kernel
theorem dX11_carried_360 : decode cX11_carried 360 = .ok (.getfield 25, 3) := by decide +kernel
theorem dX11_carried_363 : decode cX11_carried 363 = .ok (.iload_n 3, 1) := by decide +kernel
theorem dX11_carried_364 : decode cX11_carried 364 = .ok (.iconst (-1), 1) := by decide +kernel
theorem dX11_carried_365 : decode cX11_carried 365 = .ok (.iastore, 1) := by decide +kernel
theorem dX11_carried_366 : decode cX11_carried 366 = .ok (.aload_n 0, 1) := by decide +kernel
theorem dX11_carried_367 : decode cX11_carried 367 = .ok (.getfield 28, 3) := by decide +kernel
theorem dX11_carried_370 : decode cX11_carried 370 = .ok (.iload_n 3, 1) := by decide +kernel
theorem dX11_carried_371 : decode cX11_carried 371 = .ok (.iconst (-1), 1) := by decide +kernel
theorem dX11_carried_372 : decode cX11_carried 372 = .ok (.iastore, 1) := by decide +kernel
theorem dX11_carried_373 : decode cX11_carried 373 = .ok (.return_, 1) := by decide +kernel
theorem dX11_carries_0 : decode cX11_carries 0 = .ok (.iload_n 1, 1) := by decide +kernel
theorem dX11_carries_1 : decode cX11_carries 1 = .ok (.iconst 1, 1) := by decide +kernel
theorem dX11_carries_2 : decode cX11_carries 2 = .ok (.if_icmp .ne 16, 3) := by decide +kernel
theorem dX11_carries_5 : decode cX11_carries 5 = .ok (.iload_n 2, 1) := by decide +kernel
theorem dX11_carries_6 : decode cX11_carries 6 = .ok (.iload_n 3, 1) := by decide +kernel
theorem dX11_carries_7 : decode cX11_carries 7 = .ok (.if_icmp .le 7, 3) := by decide +kernel
theorem dX11_carries_10 : decode cX11_carries 10 = .ok (.iconst 1, 1) := by decide +kernel
theorem dX11_carries_11 : decode cX11_carries 11 = .ok (.goto 50, 3) := by decide +kernel
theorem dX11_carries_14 : decode cX11_carries 14 = .ok (.iconst 0, 1) := by decide +kernel
theorem dX11_carries_15 : decode cX11_carries 15 = .ok (.goto 46, 3) := by decide +kernel
theorem dX11_carries_18 : decode cX11_carries 18 = .ok (.iload_n 1, 1) := by decide +kernel
theorem dX11_carries_19 : decode cX11_carries 19 = .ok (.iconst 2, 1) := by decide +kernel
theorem dX11_carries_20 : decode cX11_carries 20 = .ok (.if_icmp .ne 26, 3) := by decide +kernel
theorem dX11_carries_23 : decode cX11_carries 23 = .ok (.iload_n 2, 1) := by decide +kernel
theorem dX11_carries_24 : decode cX11_carries 24 = .ok (.ifCond .le 18, 3) := by decide +kernel
theorem dX11_carries_27 : decode cX11_carries 27 = .ok (.iconst 3, 1) := by decide +kernel
theorem dX11_carries_28 : decode cX11_carries 28 = .ok (.iload_n 2, 1) := by decide +kernel
theorem dX11_carries_29 : decode cX11_carries 29 = .ok (.imul, 1) := by decide +kernel
theorem dX11_carries_30 : decode cX11_carries 30 = .ok (.iconst 2, 1) := by decide +kernel
theorem dX11_carries_31 : decode cX11_carries 31 = .ok (.iload_n 2, 1) := by decide +kernel
theorem dX11_carries_32 : decode cX11_carries 32 = .ok (.iload_n 3, 1) := by decide +kernel
theorem dX11_carries_33 : decode cX11_carries 33 = .ok (.iadd, 1) := by decide +kernel
theorem dX11_carries_34 : decode cX11_carries 34 = .ok (.imul, 1) := by decide +kernel
theorem dX11_carries_35 : decode cX11_carries 35 = .ok (.if_icmp .lt 7, 3) := by decide +kernel
theorem dX11_carries_38 : decode cX11_carries 38 = .ok (.iconst 1, 1) := by decide +kernel
theorem dX11_carries_39 : decode cX11_carries 39 = .ok (.goto 22, 3) := by decide +kernel
theorem dX11_carries_42 : decode cX11_carries 42 = .ok (.iconst 0, 1) := by decide +kernel
theorem dX11_carries_43 : decode cX11_carries 43 = .ok (.goto 18, 3) := by decide +kernel
theorem dX11_carries_46 : decode cX11_carries 46 = .ok (.iconst 2, 1) := by decide +kernel
theorem dX11_carries_47 : decode cX11_carries 47 = .ok (.iload_n 2, 1) := by decide +kernel
theorem dX11_carries_48 : decode cX11_carries 48 = .ok (.imul, 1) := by decide +kernel
theorem dX11_carries_49 : decode cX11_carries 49 = .ok (.aload_n 0, 1) := by decide +kernel
theorem dX11_carries_50 : decode cX11_carries 50 = .ok (.getfield 96, 3) := by decide +kernel
theorem dX11_carries_53 : decode cX11_carries 53 = .ok (.if_icmp .le 7, 3) := by decide +kernel
theorem dX11_carries_56 : decode cX11_carries 56 = .ok (.iconst 1, 1) := by decide +kernel
theorem dX11_carries_57 : decode cX11_carries 57 = .ok (.goto 4, 3) := by decide +kernel
theorem dX11_carries_60 : decode cX11_carries 60 = .ok (.iconst 0, 1) := by decide +kernel
theorem dX11_carries_61 : decode cX11_carries 61 = .ok (.ireturn, 1) := by decide +kernel
theorem dX11_change_0 : decode cX11_change 0 = .ok (.aload_n 0, 1) := by decide +kernel
theorem dX11_change_1 : decode cX11_change 1 = .ok (.getfield 40, 3) := by decide +kernel
theorem dX11_change_4 : decode cX11_change 4 = .ok (.iload_n 2, 1) := by decide +kernel
theorem dX11_change_5 : decode cX11_change 5 = .ok (.iaload, 1) := by decide +kernel
theorem dX11_change_6 : decode cX11_change 6 = .ok (.istore_n 3, 1) := by decide +kernel
theorem dX11_change_7 : decode cX11_change 7 = .ok (.aload_n 0, 1) := by decide +kernel
theorem dX11_change_8 : decode cX11_change 8 = .ok (.getfield 43, 3) := by decide +kernel
theorem dX11_change_11 : decode cX11_change 11 = .ok (.iload_n 2, 1) := by decide +kernel
theorem dX11_change_12 : decode cX11_change 12 = .ok (.iaload, 1) := by decide +kernel
theorem dX11_change_13 : decode cX11_change 13 = .ok (.istore 4, 2) := by decide +kernel
theorem dX11_change_15 : decode cX11_change 15 = .ok (.aload_n 0, 1) := by decide +kernel
theorem dX11_change_16 : decode cX11_change 16 = .ok (.getfield 37, 3) := by decide +kernel
theorem dX11_change_19 : decode cX11_change 19 = .ok (.iload_n 2, 1) := by decide +kernel
theorem dX11_change_20 : decode cX11_change 20 = .ok (.iaload, 1) := by decide +kernel
theorem dX11_change_21 : decode cX11_change 21 = .ok (.istore 5, 2) := by decide +kernel
theorem dX11_change_23 : decode cX11_change 23 = .ok (.iload 5, 2) := by decide +kernel
theorem dX11_change_25 : decode cX11_change 25 = .ok (.iload 4, 2) := by decide +kernel
theorem dX11_change_27 : decode cX11_change 27 = .ok (.iload_n 3, 1) := by decide +kernel
theorem dX11_change_28 : decode cX11_change 28 = .ok (.isub, 1) := by decide +kernel
theorem dX11_change_29 : decode cX11_change 29 = .ok (.isub, 1) := by decide +kernel
theorem dX11_change_30 : decode cX11_change 30 = .ok (.istore 6, 2) := by decide +kernel
theorem dX11_change_32 : decode cX11_change 32 = .ok (.aload_n 0, 1) := by decide +kernel
theorem dX11_change_33 : decode cX11_change 33 = .ok (.getfield 37, 3) := by decide +kernel
theorem dX11_change_36 : decode cX11_change 36 = .ok (.iload_n 1, 1) := by decide +kernel
theorem dX11_change_37 : decode cX11_change 37 = .ok (.iaload, 1) := by decide +kernel
theorem dX11_change_38 : decode cX11_change 38 = .ok (.istore 7, 2) := by decide +kernel
theorem dX11_change_40 : decode cX11_change 40 = .ok (.sipush 400, 3) := by decide +kernel
theorem dX11_change_43 : decode cX11_change 43 = .ok (.iload_n 1, 1) := by decide +kernel
theorem dX11_change_44 : decode cX11_change 44 = .ok (.imul, 1) := by decide +kernel
theorem dX11_change_45 : decode cX11_change 45 = .ok (.istore 8, 2) := by decide +kernel
theorem dX11_change_47 : decode cX11_change 47 = .ok (.iload 6, 2) := by decide +kernel
theorem dX11_change_49 : decode cX11_change 49 = .ok (.ifCond .le 45, 3) := by decide +kernel
theorem dX11_change_52 : decode cX11_change 52 = .ok (.iload 7, 2) := by decide +kernel
theorem dX11_change_54 : decode cX11_change 54 = .ok (.iconst 1, 1) := by decide +kernel
theorem dX11_change_55 : decode cX11_change 55 = .ok (.isub, 1) := by decide +kernel
theorem dX11_change_56 : decode cX11_change 56 = .ok (.istore 9, 2) := by decide +kernel
theorem dX11_change_58 : decode cX11_change 58 = .ok (.iload 9, 2) := by decide +kernel
theorem dX11_change_60 : decode cX11_change 60 = .ok (.iload 4, 2) := by decide +kernel
theorem dX11_change_62 : decode cX11_change 62 = .ok (.if_icmp .lt 32, 3) := by decide +kernel
theorem dX11_change_65 : decode cX11_change 65 = .ok (.aload_n 0, 1) := by decide +kernel
theorem dX11_change_66 : decode cX11_change 66 = .ok (.getfield 65, 3) := by decide +kernel
theorem dX11_change_69 : decode cX11_change 69 = .ok (.iload 8, 2) := by decide +kernel
theorem dX11_change_71 : decode cX11_change 71 = .ok (.iload 9, 2) := by decide +kernel
theorem dX11_change_73 : decode cX11_change 73 = .ok (.iadd, 1) := by decide +kernel
theorem dX11_change_74 : decode cX11_change 74 = .ok (.iload 6, 2) := by decide +kernel
theorem dX11_change_76 : decode cX11_change 76 = .ok (.iadd, 1) := by decide +kernel
theorem dX11_change_77 : decode cX11_change 77 = .ok (.aload_n 0, 1) := by decide +kernel
theorem dX11_change_78 : decode cX11_change 78 = .ok (.getfield 65, 3) := by decide +kernel
theorem dX11_change_81 : decode cX11_change 81 = .ok (.iload 8, 2) := by decide +kernel
theorem dX11_change_83 : decode cX11_change 83 = .ok (.iload 9, 2) := by decide +kernel
theorem dX11_change_85 : decode cX11_change 85 = .ok (.iadd, 1) := by decide +kernel
theorem dX11_change_86 : decode cX11_change 86 = .ok (.iaload, 1) := by decide +kernel
theorem dX11_change_87 : decode cX11_change 87 = .ok (.iastore, 1) := by decide +kernel
theorem dX11_change_88 : decode cX11_change 88 = .ok (.iinc 9 (-1), 3) := by decide +kernel
theorem dX11_change_91 : decode cX11_change 91 = .ok (.goto (-33), 3) := by decide +kernel
theorem dX11_change_94 : decode cX11_change 94 = .ok (.iload 6, 2) := by decide +kernel
theorem dX11_change_96 : decode cX11_change 96 = .ok (.ifCond .ge 43, 3) := by decide +kernel
theorem dX11_change_99 : decode cX11_change 99 = .ok (.iload 4, 2) := by decide +kernel
theorem dX11_change_101 : decode cX11_change 101 = .ok (.istore 9, 2) := by decide +kernel
theorem dX11_change_103 : decode cX11_change 103 = .ok (.iload 9, 2) := by decide +kernel
theorem dX11_change_105 : decode cX11_change 105 = .ok (.iload 7, 2) := by decide +kernel
theorem dX11_change_107 : decode cX11_change 107 = .ok (.if_icmp .ge 32, 3) := by decide +kernel
theorem dX11_change_110 : decode cX11_change 110 = .ok (.aload_n 0, 1) := by decide +kernel
theorem dX11_change_111 : decode cX11_change 111 = .ok (.getfield 65, 3) := by decide +kernel
theorem dX11_change_114 : decode cX11_change 114 = .ok (.iload 8, 2) := by decide +kernel
theorem dX11_change_116 : decode cX11_change 116 = .ok (.iload 9, 2) := by decide +kernel
theorem dX11_change_118 : decode cX11_change 118 = .ok (.iadd, 1) := by decide +kernel
theorem dX11_change_119 : decode cX11_change 119 = .ok (.iload 6, 2) := by decide +kernel
theorem dX11_change_121 : decode cX11_change 121 = .ok (.iadd, 1) := by decide +kernel
theorem dX11_change_122 : decode cX11_change 122 = .ok (.aload_n 0, 1) := by decide +kernel
theorem dX11_change_123 : decode cX11_change 123 = .ok (.getfield 65, 3) := by decide +kernel
theorem dX11_change_126 : decode cX11_change 126 = .ok (.iload 8, 2) := by decide +kernel
theorem dX11_change_128 : decode cX11_change 128 = .ok (.iload 9, 2) := by decide +kernel
theorem dX11_change_130 : decode cX11_change 130 = .ok (.iadd, 1) := by decide +kernel
theorem dX11_change_131 : decode cX11_change 131 = .ok (.iaload, 1) := by decide +kernel
theorem dX11_change_132 : decode cX11_change 132 = .ok (.iastore, 1) := by decide +kernel
theorem dX11_change_133 : decode cX11_change 133 = .ok (.iinc 9 1, 3) := by decide +kernel
theorem dX11_change_136 : decode cX11_change 136 = .ok (.goto (-33), 3) := by decide +kernel
theorem dX11_change_139 : decode cX11_change 139 = .ok (.iconst 0, 1) := by decide +kernel
theorem dX11_change_140 : decode cX11_change 140 = .ok (.istore 9, 2) := by decide +kernel
theorem dX11_change_142 : decode cX11_change 142 = .ok (.iload 9, 2) := by decide +kernel
theorem dX11_change_144 : decode cX11_change 144 = .ok (.iload 5, 2) := by decide +kernel
theorem dX11_change_146 : decode cX11_change 146 = .ok (.if_icmp .ge 34, 3) := by decide +kernel
theorem dX11_change_149 : decode cX11_change 149 = .ok (.aload_n 0, 1) := by decide +kernel
theorem dX11_change_150 : decode cX11_change 150 = .ok (.getfield 65, 3) := by decide +kernel
theorem dX11_change_153 : decode cX11_change 153 = .ok (.iload 8, 2) := by decide +kernel
theorem dX11_change_155 : decode cX11_change 155 = .ok (.iload_n 3, 1) := by decide +kernel
theorem dX11_change_156 : decode cX11_change 156 = .ok (.iadd, 1) := by decide +kernel
theorem dX11_change_157 : decode cX11_change 157 = .ok (.iload 9, 2) := by decide +kernel
theorem dX11_change_159 : decode cX11_change 159 = .ok (.iadd, 1) := by decide +kernel
theorem dX11_change_160 : decode cX11_change 160 = .ok (.aload_n 0, 1) := by decide +kernel
theorem dX11_change_161 : decode cX11_change 161 = .ok (.getfield 65, 3) := by decide +kernel
theorem dX11_change_164 : decode cX11_change 164 = .ok (.sipush 400, 3) := by decide +kernel
theorem dX11_change_167 : decode cX11_change 167 = .ok (.iload_n 2, 1) := by decide +kernel
theorem dX11_change_168 : decode cX11_change 168 = .ok (.imul, 1) := by decide +kernel
theorem dX11_change_169 : decode cX11_change 169 = .ok (.iload 9, 2) := by decide +kernel
theorem dX11_change_171 : decode cX11_change 171 = .ok (.iadd, 1) := by decide +kernel
theorem dX11_change_172 : decode cX11_change 172 = .ok (.iaload, 1) := by decide +kernel
theorem dX11_change_173 : decode cX11_change 173 = .ok (.iastore, 1) := by decide +kernel
theorem dX11_change_174 : decode cX11_change 174 = .ok (.iinc 9 1, 3) := by decide +kernel
theorem dX11_change_177 : decode cX11_change 177 = .ok (.goto (-35), 3) := by decide +kernel
theorem dX11_change_180 : decode cX11_change 180 = .ok (.aload_n 0, 1) := by decide +kernel
theorem dX11_change_181 : decode cX11_change 181 = .ok (.getfield 37, 3) := by decide +kernel
theorem dX11_change_184 : decode cX11_change 184 = .ok (.iload_n 1, 1) := by decide +kernel
theorem dX11_change_185 : decode cX11_change 185 = .ok (.iload 7, 2) := by decide +kernel
theorem dX11_change_187 : decode cX11_change 187 = .ok (.iload 6, 2) := by decide +kernel
theorem dX11_change_189 : decode cX11_change 189 = .ok (.iadd, 1) := by decide +kernel
theorem dX11_change_190 : decode cX11_change 190 = .ok (.iastore, 1) := by decide +kernel
theorem dX11_change_191 : decode cX11_change 191 = .ok (.iconst 0, 1) := by decide +kernel
theorem dX11_change_192 : decode cX11_change 192 = .ok (.istore 9, 2) := by decide +kernel
theorem dX11_change_194 : decode cX11_change 194 = .ok (.iload 9, 2) := by decide +kernel
theorem dX11_change_196 : decode cX11_change 196 = .ok (.bipush 90, 2) := by decide +kernel
theorem dX11_change_198 : decode cX11_change 198 = .ok (.if_icmp .ge 134, 3) := by decide +kernel
theorem dX11_change_201 : decode cX11_change 201 = .ok (.aload_n 0, 1) := by decide +kernel
theorem dX11_change_202 : decode cX11_change 202 = .ok (.getfield 19, 3) := by decide +kernel
theorem dX11_change_205 : decode cX11_change 205 = .ok (.iload 9, 2) := by decide +kernel
theorem dX11_change_207 : decode cX11_change 207 = .ok (.baload, 1) := by decide +kernel
theorem dX11_change_208 : decode cX11_change 208 = .ok (.ifCond .eq 118, 3) := by decide +kernel
theorem dX11_change_211 : decode cX11_change 211 = .ok (.iload 9, 2) := by decide +kernel
theorem dX11_change_213 : decode cX11_change 213 = .ok (.iload_n 2, 1) := by decide +kernel
theorem dX11_change_214 : decode cX11_change 214 = .ok (.if_icmp .eq 112, 3) := by decide +kernel
theorem dX11_change_217 : decode cX11_change 217 = .ok (.aload_n 0, 1) := by decide +kernel
theorem dX11_change_218 : decode cX11_change 218 = .ok (.getfield 55, 3) := by decide +kernel
theorem dX11_change_221 : decode cX11_change 221 = .ok (.iload 9, 2) := by decide +kernel
theorem dX11_change_223 : decode cX11_change 223 = .ok (.baload, 1) := by decide +kernel
theorem dX11_change_224 : decode cX11_change 224 = .ok (.ifCond .eq 102, 3) := by decide +kernel
theorem dX11_change_227 : decode cX11_change 227 = .ok (.aload_n 0, 1) := by decide +kernel
theorem dX11_change_228 : decode cX11_change 228 = .ok (.getfield 58, 3) := by decide +kernel
theorem dX11_change_231 : decode cX11_change 231 = .ok (.iload 9, 2) := by decide +kernel
theorem dX11_change_233 : decode cX11_change 233 = .ok (.baload, 1) := by decide +kernel
theorem dX11_change_234 : decode cX11_change 234 = .ok (.ifCond .ne 92, 3) := by decide +kernel
theorem dX11_change_237 : decode cX11_change 237 = .ok (.aload_n 0, 1) := by decide +kernel
theorem dX11_change_238 : decode cX11_change 238 = .ok (.getfield 49, 3) := by decide +kernel
theorem dX11_change_241 : decode cX11_change 241 = .ok (.iload 9, 2) := by decide +kernel
theorem dX11_change_243 : decode cX11_change 243 = .ok (.iaload, 1) := by decide +kernel
theorem dX11_change_244 : decode cX11_change 244 = .ok (.aload_n 0, 1) := by decide +kernel
theorem dX11_change_245 : decode cX11_change 245 = .ok (.getfield 46, 3) := by decide +kernel
theorem dX11_change_248 : decode cX11_change 248 = .ok (.iload_n 1, 1) := by decide +kernel
theorem dX11_change_249 : decode cX11_change 249 = .ok (.iaload, 1) := by decide +kernel
theorem dX11_change_250 : decode cX11_change 250 = .ok (.if_icmp .ne 76, 3) := by decide +kernel
theorem dX11_change_253 : decode cX11_change 253 = .ok (.aload_n 0, 1) := by decide +kernel
theorem dX11_change_254 : decode cX11_change 254 = .ok (.iload 9, 2) := by decide +kernel
theorem dX11_change_256 : decode cX11_change 256 = .ok (.invokevirtual 243, 3) := by decide +kernel
theorem dX11_change_259 : decode cX11_change 259 = .ok (.ifCond .eq 6, 3) := by decide +kernel
theorem dX11_change_262 : decode cX11_change 262 = .ok (.goto 64, 3) := by decide +kernel
theorem dX11_change_265 : decode cX11_change 265 = .ok (.aload_n 0, 1) := by decide +kernel
theorem dX11_change_266 : decode cX11_change 266 = .ok (.getfield 43, 3) := by decide +kernel
theorem dX11_change_269 : decode cX11_change 269 = .ok (.iload 9, 2) := by decide +kernel
theorem dX11_change_271 : decode cX11_change 271 = .ok (.iaload, 1) := by decide +kernel
theorem dX11_change_272 : decode cX11_change 272 = .ok (.iload_n 3, 1) := by decide +kernel
theorem dX11_change_273 : decode cX11_change 273 = .ok (.if_icmp .gt 6, 3) := by decide +kernel
theorem dX11_change_276 : decode cX11_change 276 = .ok (.goto 50, 3) := by decide +kernel
theorem dX11_change_279 : decode cX11_change 279 = .ok (.aload_n 0, 1) := by decide +kernel
theorem dX11_change_280 : decode cX11_change 280 = .ok (.getfield 40, 3) := by decide +kernel
theorem dX11_change_283 : decode cX11_change 283 = .ok (.iload 9, 2) := by decide +kernel
theorem dX11_change_285 : decode cX11_change 285 = .ok (.iaload, 1) := by decide +kernel
theorem dX11_change_286 : decode cX11_change 286 = .ok (.iload 4, 2) := by decide +kernel
theorem dX11_change_288 : decode cX11_change 288 = .ok (.if_icmp .lt 30, 3) := by decide +kernel
theorem dX11_change_291 : decode cX11_change 291 = .ok (.aload_n 0, 1) := by decide +kernel
theorem dX11_change_292 : decode cX11_change 292 = .ok (.getfield 40, 3) := by decide +kernel
theorem dX11_change_295 : decode cX11_change 295 = .ok (.iload 9, 2) := by decide +kernel
theorem dX11_change_297 : decode cX11_change 297 = .ok (.dup2, 1) := by decide +kernel
theorem dX11_change_298 : decode cX11_change 298 = .ok (.iaload, 1) := by decide +kernel
theorem dX11_change_299 : decode cX11_change 299 = .ok (.iload 6, 2) := by decide +kernel
theorem dX11_change_301 : decode cX11_change 301 = .ok (.iadd, 1) := by decide +kernel
theorem dX11_change_302 : decode cX11_change 302 = .ok (.iastore, 1) := by decide +kernel
theorem dX11_change_303 : decode cX11_change 303 = .ok (.aload_n 0, 1) := by decide +kernel
theorem dX11_change_304 : decode cX11_change 304 = .ok (.getfield 43, 3) := by decide +kernel
theorem dX11_change_307 : decode cX11_change 307 = .ok (.iload 9, 2) := by decide +kernel
theorem dX11_change_309 : decode cX11_change 309 = .ok (.dup2, 1) := by decide +kernel
theorem dX11_change_310 : decode cX11_change 310 = .ok (.iaload, 1) := by decide +kernel
theorem dX11_change_311 : decode cX11_change 311 = .ok (.iload 6, 2) := by decide +kernel
theorem dX11_change_313 : decode cX11_change 313 = .ok (.iadd, 1) := by decide +kernel
theorem dX11_change_314 : decode cX11_change 314 = .ok (.iastore, 1) := by decide +kernel
theorem dX11_change_315 : decode cX11_change 315 = .ok (.goto 11, 3) := by decide +kernel
theorem dX11_change_318 : decode cX11_change 318 = .ok (.aload_n 0, 1) := by decide +kernel
theorem dX11_change_319 : decode cX11_change 319 = .ok (.getfield 58, 3) := by decide +kernel
theorem dX11_change_322 : decode cX11_change 322 = .ok (.iload 9, 2) := by decide +kernel
theorem dX11_change_324 : decode cX11_change 324 = .ok (.iconst 1, 1) := by decide +kernel
theorem dX11_change_325 : decode cX11_change 325 = .ok (.bastore, 1) := by decide +kernel
theorem dX11_change_326 : decode cX11_change 326 = .ok (.iinc 9 1, 3) := by decide +kernel
theorem dX11_change_329 : decode cX11_change 329 = .ok (.goto (-135), 3) := by decide +kernel
theorem dX11_change_332 : decode cX11_change 332 = .ok (.return_, 1) := by decide +kernel
theorem dX11_does_0 : decode cX11_does 0 = .ok (.iload_n 1, 1) := by decide +kernel
theorem dX11_does_1 : decode cX11_does 1 = .ok (.tableswitch 484 1 21 #[99, 121, 156, 163, 183, 201, 208, 245, 259, 282, 309, 337, 371, 377, 383, 389, 401, 427, 436, 389, 479], 99) := by decide +kernel
theorem dX11_does_100 : decode cX11_does 100 = .ok (.aload_n 0, 1) := by decide +kernel
theorem dX11_does_101 : decode cX11_does 101 = .ok (.getfield 9, 3) := by decide +kernel
theorem dX11_does_104 : decode cX11_does 104 = .ok (.iload_n 2, 1) := by decide +kernel
theorem dX11_does_105 : decode cX11_does 105 = .ok (.iconst 1, 1) := by decide +kernel
theorem dX11_does_106 : decode cX11_does 106 = .ok (.bastore, 1) := by decide +kernel
theorem dX11_does_107 : decode cX11_does 107 = .ok (.aload_n 0, 1) := by decide +kernel
theorem dX11_does_108 : decode cX11_does 108 = .ok (.dup, 1) := by decide +kernel
theorem dX11_does_109 : decode cX11_does 109 = .ok (.getfield 100, 3) := by decide +kernel
theorem dX11_does_112 : decode cX11_does 112 = .ok (.iconst 1, 1) := by decide +kernel
theorem dX11_does_113 : decode cX11_does 113 = .ok (.iadd, 1) := by decide +kernel
theorem dX11_does_114 : decode cX11_does 114 = .ok (.putfield 100, 3) := by decide +kernel
theorem dX11_does_117 : decode cX11_does 117 = .ok (.aload_n 0, 1) := by decide +kernel
theorem dX11_does_118 : decode cX11_does 118 = .ok (.getfield 100, 3) := by decide +kernel
theorem dX11_does_121 : decode cX11_does 121 = .ok (.ireturn, 1) := by decide +kernel
theorem dX11_does_122 : decode cX11_does 122 = .ok (.aload_n 0, 1) := by decide +kernel
theorem dX11_does_123 : decode cX11_does 123 = .ok (.getfield 9, 3) := by decide +kernel
theorem dX11_does_126 : decode cX11_does 126 = .ok (.iload_n 2, 1) := by decide +kernel
theorem dX11_does_127 : decode cX11_does 127 = .ok (.iconst 0, 1) := by decide +kernel
theorem dX11_does_128 : decode cX11_does 128 = .ok (.bastore, 1) := by decide +kernel
theorem dX11_does_129 : decode cX11_does 129 = .ok (.aload_n 0, 1) := by decide +kernel
theorem dX11_does_130 : decode cX11_does 130 = .ok (.dup, 1) := by decide +kernel
theorem dX11_does_131 : decode cX11_does 131 = .ok (.getfield 100, 3) := by decide +kernel
theorem dX11_does_134 : decode cX11_does 134 = .ok (.iconst 1, 1) := by decide +kernel
theorem dX11_does_135 : decode cX11_does 135 = .ok (.isub, 1) := by decide +kernel
theorem dX11_does_136 : decode cX11_does 136 = .ok (.putfield 100, 3) := by decide +kernel
theorem dX11_does_139 : decode cX11_does 139 = .ok (.aload_n 0, 1) := by decide +kernel
theorem dX11_does_140 : decode cX11_does 140 = .ok (.getfield 112, 3) := by decide +kernel
theorem dX11_does_143 : decode cX11_does 143 = .ok (.iload_n 2, 1) := by decide +kernel
theorem dX11_does_144 : decode cX11_does 144 = .ok (.if_icmp .ne 8, 3) := by decide +kernel
theorem dX11_does_147 : decode cX11_does 147 = .ok (.aload_n 0, 1) := by decide +kernel
theorem dX11_does_148 : decode cX11_does 148 = .ok (.iconst (-1), 1) := by decide +kernel
theorem dX11_does_149 : decode cX11_does 149 = .ok (.putfield 112, 3) := by decide +kernel
theorem dX11_does_152 : decode cX11_does 152 = .ok (.aload_n 0, 1) := by decide +kernel
theorem dX11_does_153 : decode cX11_does 153 = .ok (.getfield 100, 3) := by decide +kernel
theorem dX11_does_156 : decode cX11_does 156 = .ok (.ireturn, 1) := by decide +kernel
theorem dX11_does_157 : decode cX11_does 157 = .ok (.aload_n 0, 1) := by decide +kernel
theorem dX11_does_158 : decode cX11_does 158 = .ok (.iload_n 2, 1) := by decide +kernel
theorem dX11_does_159 : decode cX11_does 159 = .ok (.putfield 106, 3) := by decide +kernel
theorem dX11_does_162 : decode cX11_does 162 = .ok (.iload_n 2, 1) := by decide +kernel
theorem dX11_does_163 : decode cX11_does 163 = .ok (.ireturn, 1) := by decide +kernel
theorem dX11_does_164 : decode cX11_does 164 = .ok (.aload_n 0, 1) := by decide +kernel
theorem dX11_does_165 : decode cX11_does 165 = .ok (.iload_n 2, 1) := by decide +kernel
theorem dX11_does_166 : decode cX11_does 166 = .ok (.putfield 103, 3) := by decide +kernel
theorem dX11_does_169 : decode cX11_does 169 = .ok (.aload_n 0, 1) := by decide +kernel
theorem dX11_does_170 : decode cX11_does 170 = .ok (.getfield 112, 3) := by decide +kernel
theorem dX11_does_173 : decode cX11_does 173 = .ok (.iload_n 2, 1) := by decide +kernel
theorem dX11_does_174 : decode cX11_does 174 = .ok (.if_icmp .ne 8, 3) := by decide +kernel
theorem dX11_does_177 : decode cX11_does 177 = .ok (.aload_n 0, 1) := by decide +kernel
theorem dX11_does_178 : decode cX11_does 178 = .ok (.iconst (-1), 1) := by decide +kernel
theorem dX11_does_179 : decode cX11_does 179 = .ok (.putfield 112, 3) := by decide +kernel
theorem dX11_does_182 : decode cX11_does 182 = .ok (.iload_n 2, 1) := by decide +kernel
theorem dX11_does_183 : decode cX11_does 183 = .ok (.ireturn, 1) := by decide +kernel
theorem dX11_does_184 : decode cX11_does 184 = .ok (.aload_n 0, 1) := by decide +kernel
theorem dX11_does_185 : decode cX11_does 185 = .ok (.getfield 15, 3) := by decide +kernel
theorem dX11_does_188 : decode cX11_does 188 = .ok (.iload_n 2, 1) := by decide +kernel
theorem dX11_does_189 : decode cX11_does 189 = .ok (.iaload, 1) := by decide +kernel
theorem dX11_does_190 : decode cX11_does 190 = .ok (.istore 6, 2) := by decide +kernel
theorem dX11_does_192 : decode cX11_does 192 = .ok (.aload_n 0, 1) := by decide +kernel
theorem dX11_does_193 : decode cX11_does 193 = .ok (.getfield 15, 3) := by decide +kernel
theorem dX11_does_196 : decode cX11_does 196 = .ok (.iload_n 2, 1) := by decide +kernel
theorem dX11_does_197 : decode cX11_does 197 = .ok (.iload_n 3, 1) := by decide +kernel
theorem dX11_does_198 : decode cX11_does 198 = .ok (.iastore, 1) := by decide +kernel
theorem dX11_does_199 : decode cX11_does 199 = .ok (.iload 6, 2) := by decide +kernel
theorem dX11_does_201 : decode cX11_does 201 = .ok (.ireturn, 1) := by decide +kernel
theorem dX11_does_202 : decode cX11_does 202 = .ok (.aload_n 0, 1) := by decide +kernel
theorem dX11_does_203 : decode cX11_does 203 = .ok (.iload_n 2, 1) := by decide +kernel
theorem dX11_does_204 : decode cX11_does 204 = .ok (.putfield 109, 3) := by decide +kernel
theorem dX11_does_207 : decode cX11_does 207 = .ok (.iload_n 2, 1) := by decide +kernel
theorem dX11_does_208 : decode cX11_does 208 = .ok (.ireturn, 1) := by decide +kernel
theorem dX11_does_209 : decode cX11_does 209 = .ok (.aload_n 0, 1) := by decide +kernel
theorem dX11_does_210 : decode cX11_does 210 = .ok (.iload_n 2, 1) := by decide +kernel
theorem dX11_does_211 : decode cX11_does 211 = .ok (.putfield 112, 3) := by decide +kernel
theorem dX11_does_214 : decode cX11_does 214 = .ok (.aload_n 0, 1) := by decide +kernel
theorem dX11_does_215 : decode cX11_does 215 = .ok (.getfield 115, 3) := by decide +kernel
theorem dX11_does_218 : decode cX11_does 218 = .ok (.ifCond .ne 5, 3) := by decide +kernel
theorem dX11_does_221 : decode cX11_does 221 = .ok (.iconst 0, 1) := by decide +kernel
theorem dX11_does_222 : decode cX11_does 222 = .ok (.ireturn, 1) := by decide +kernel
theorem dX11_does_223 : decode cX11_does 223 = .ok (.aload_n 0, 1) := by decide +kernel
theorem dX11_does_224 : decode cX11_does 224 = .ok (.getfield 31, 3) := by decide +kernel
theorem dX11_does_227 : decode cX11_does 227 = .ok (.aload_n 0, 1) := by decide +kernel
theorem dX11_does_228 : decode cX11_does 228 = .ok (.invokevirtual 155, 3) := by decide +kernel
theorem dX11_does_231 : decode cX11_does 231 = .ok (.dup2, 1) := by decide +kernel
theorem dX11_does_232 : decode cX11_does 232 = .ok (.iaload, 1) := by decide +kernel
theorem dX11_does_233 : decode cX11_does 233 = .ok (.iconst 1, 1) := by decide +kernel
theorem dX11_does_234 : decode cX11_does 234 = .ok (.iadd, 1) := by decide +kernel
theorem dX11_does_235 : decode cX11_does 235 = .ok (.iastore, 1) := by decide +kernel
theorem dX11_does_236 : decode cX11_does 236 = .ok (.aload_n 0, 1) := by decide +kernel
theorem dX11_does_237 : decode cX11_does 237 = .ok (.getfield 31, 3) := by decide +kernel
theorem dX11_does_240 : decode cX11_does 240 = .ok (.aload_n 0, 1) := by decide +kernel
theorem dX11_does_241 : decode cX11_does 241 = .ok (.invokevirtual 155, 3) := by decide +kernel
theorem dX11_does_244 : decode cX11_does 244 = .ok (.iaload, 1) := by decide +kernel
theorem dX11_does_245 : decode cX11_does 245 = .ok (.ireturn, 1) := by decide +kernel
theorem dX11_does_246 : decode cX11_does 246 = .ok (.aload_n 0, 1) := by decide +kernel
theorem dX11_does_247 : decode cX11_does 247 = .ok (.getfield 112, 3) := by decide +kernel
theorem dX11_does_250 : decode cX11_does 250 = .ok (.istore 6, 2) := by decide +kernel
theorem dX11_does_252 : decode cX11_does 252 = .ok (.aload_n 0, 1) := by decide +kernel
theorem dX11_does_253 : decode cX11_does 253 = .ok (.iconst (-1), 1) := by decide +kernel
theorem dX11_does_254 : decode cX11_does 254 = .ok (.putfield 112, 3) := by decide +kernel
theorem dX11_does_257 : decode cX11_does 257 = .ok (.iload 6, 2) := by decide +kernel
theorem dX11_does_259 : decode cX11_does 259 = .ok (.ireturn, 1) := by decide +kernel
theorem dX11_does_260 : decode cX11_does 260 = .ok (.aload_n 0, 1) := by decide +kernel
theorem dX11_does_261 : decode cX11_does 261 = .ok (.getfield 34, 3) := by decide +kernel
theorem dX11_does_264 : decode cX11_does 264 = .ok (.aload_n 0, 1) := by decide +kernel
theorem dX11_does_265 : decode cX11_does 265 = .ok (.invokevirtual 155, 3) := by decide +kernel
theorem dX11_does_268 : decode cX11_does 268 = .ok (.dup2, 1) := by decide +kernel
theorem dX11_does_269 : decode cX11_does 269 = .ok (.iaload, 1) := by decide +kernel
theorem dX11_does_270 : decode cX11_does 270 = .ok (.iconst 1, 1) := by decide +kernel
theorem dX11_does_271 : decode cX11_does 271 = .ok (.iadd, 1) := by decide +kernel
theorem dX11_does_272 : decode cX11_does 272 = .ok (.iastore, 1) := by decide +kernel
theorem dX11_does_273 : decode cX11_does 273 = .ok (.aload_n 0, 1) := by decide +kernel
theorem dX11_does_274 : decode cX11_does 274 = .ok (.getfield 34, 3) := by decide +kernel
theorem dX11_does_277 : decode cX11_does 277 = .ok (.aload_n 0, 1) := by decide +kernel
theorem dX11_does_278 : decode cX11_does 278 = .ok (.invokevirtual 155, 3) := by decide +kernel
theorem dX11_does_281 : decode cX11_does 281 = .ok (.iaload, 1) := by decide +kernel
theorem dX11_does_282 : decode cX11_does 282 = .ok (.ireturn, 1) := by decide +kernel
theorem dX11_does_283 : decode cX11_does 283 = .ok (.aload_n 0, 1) := by decide +kernel
theorem dX11_does_284 : decode cX11_does 284 = .ok (.invokevirtual 206, 3) := by decide +kernel
theorem dX11_does_287 : decode cX11_does 287 = .ok (.aload_n 0, 1) := by decide +kernel
theorem dX11_does_288 : decode cX11_does 288 = .ok (.getfield 75, 3) := by decide +kernel
theorem dX11_does_291 : decode cX11_does 291 = .ok (.iconst 0, 1) := by decide +kernel
theorem dX11_does_292 : decode cX11_does 292 = .ok (.aload_n 0, 1) := by decide +kernel
theorem dX11_does_293 : decode cX11_does 293 = .ok (.iload_n 2, 1) := by decide +kernel
theorem dX11_does_294 : decode cX11_does 294 = .ok (.invokevirtual 209, 3) := by decide +kernel
theorem dX11_does_297 : decode cX11_does 297 = .ok (.iastore, 1) := by decide +kernel
theorem dX11_does_298 : decode cX11_does 298 = .ok (.aload_n 0, 1) := by decide +kernel
theorem dX11_does_299 : decode cX11_does 299 = .ok (.iconst 1, 1) := by decide +kernel
theorem dX11_does_300 : decode cX11_does 300 = .ok (.putfield 130, 3) := by decide +kernel
theorem dX11_does_303 : decode cX11_does 303 = .ok (.aload_n 0, 1) := by decide +kernel
theorem dX11_does_304 : decode cX11_does 304 = .ok (.iconst 0, 1) := by decide +kernel
theorem dX11_does_305 : decode cX11_does 305 = .ok (.putfield 151, 3) := by decide +kernel
theorem dX11_does_308 : decode cX11_does 308 = .ok (.iload_n 2, 1) := by decide +kernel
theorem dX11_does_309 : decode cX11_does 309 = .ok (.ireturn, 1) := by decide +kernel
theorem dX11_does_310 : decode cX11_does 310 = .ok (.aload_n 0, 1) := by decide +kernel
theorem dX11_does_311 : decode cX11_does 311 = .ok (.getfield 40, 3) := by decide +kernel
theorem dX11_does_314 : decode cX11_does 314 = .ok (.aload_n 0, 1) := by decide +kernel
theorem dX11_does_315 : decode cX11_does 315 = .ok (.getfield 75, 3) := by decide +kernel
theorem dX11_does_318 : decode cX11_does 318 = .ok (.iconst 0, 1) := by decide +kernel
theorem dX11_does_319 : decode cX11_does 319 = .ok (.iaload, 1) := by decide +kernel
theorem dX11_does_320 : decode cX11_does 320 = .ok (.iload_n 2, 1) := by decide +kernel
theorem dX11_does_321 : decode cX11_does 321 = .ok (.iastore, 1) := by decide +kernel
theorem dX11_does_322 : decode cX11_does 322 = .ok (.aload_n 0, 1) := by decide +kernel
theorem dX11_does_323 : decode cX11_does 323 = .ok (.getfield 43, 3) := by decide +kernel
theorem dX11_does_326 : decode cX11_does 326 = .ok (.aload_n 0, 1) := by decide +kernel
theorem dX11_does_327 : decode cX11_does 327 = .ok (.getfield 75, 3) := by decide +kernel
theorem dX11_does_330 : decode cX11_does 330 = .ok (.iconst 0, 1) := by decide +kernel
theorem dX11_does_331 : decode cX11_does 331 = .ok (.iaload, 1) := by decide +kernel
theorem dX11_does_332 : decode cX11_does 332 = .ok (.iload_n 3, 1) := by decide +kernel
theorem dX11_does_333 : decode cX11_does 333 = .ok (.iastore, 1) := by decide +kernel
theorem dX11_does_334 : decode cX11_does 334 = .ok (.iload_n 3, 1) := by decide +kernel
theorem dX11_does_335 : decode cX11_does 335 = .ok (.iload_n 2, 1) := by decide +kernel
theorem dX11_does_336 : decode cX11_does 336 = .ok (.isub, 1) := by decide +kernel
theorem dX11_does_337 : decode cX11_does 337 = .ok (.ireturn, 1) := by decide +kernel
theorem dX11_does_338 : decode cX11_does 338 = .ok (.aload_n 0, 1) := by decide +kernel
theorem dX11_does_339 : decode cX11_does 339 = .ok (.iload_n 2, 1) := by decide +kernel
theorem dX11_does_340 : decode cX11_does 340 = .ok (.invokevirtual 212, 3) := by decide +kernel
theorem dX11_does_343 : decode cX11_does 343 = .ok (.aload_n 0, 1) := by decide +kernel
theorem dX11_does_344 : decode cX11_does 344 = .ok (.iload_n 3, 1) := by decide +kernel
theorem dX11_does_345 : decode cX11_does 345 = .ok (.invokevirtual 212, 3) := by decide +kernel
theorem dX11_does_348 : decode cX11_does 348 = .ok (.aload_n 0, 1) := by decide +kernel
theorem dX11_does_349 : decode cX11_does 349 = .ok (.iload 4, 2) := by decide +kernel
theorem dX11_does_351 : decode cX11_does 351 = .ok (.invokevirtual 212, 3) := by decide +kernel
theorem dX11_does_354 : decode cX11_does 354 = .ok (.aload_n 0, 1) := by decide +kernel
theorem dX11_does_355 : decode cX11_does 355 = .ok (.iload 5, 2) := by decide +kernel
theorem dX11_does_357 : decode cX11_does 357 = .ok (.invokevirtual 212, 3) := by decide +kernel
theorem dX11_does_360 : decode cX11_does 360 = .ok (.aload_n 0, 1) := by decide +kernel
theorem dX11_does_361 : decode cX11_does 361 = .ok (.getfield 37, 3) := by decide +kernel
theorem dX11_does_364 : decode cX11_does 364 = .ok (.aload_n 0, 1) := by decide +kernel
theorem dX11_does_365 : decode cX11_does 365 = .ok (.getfield 75, 3) := by decide +kernel
theorem dX11_does_368 : decode cX11_does 368 = .ok (.iconst 0, 1) := by decide +kernel
theorem dX11_does_369 : decode cX11_does 369 = .ok (.iaload, 1) := by decide +kernel
theorem dX11_does_370 : decode cX11_does 370 = .ok (.iaload, 1) := by decide +kernel
theorem dX11_does_371 : decode cX11_does 371 = .ok (.ireturn, 1) := by decide +kernel
theorem dX11_does_372 : decode cX11_does 372 = .ok (.aload_n 0, 1) := by decide +kernel
theorem dX11_does_373 : decode cX11_does 373 = .ok (.iload_n 2, 1) := by decide +kernel
theorem dX11_does_374 : decode cX11_does 374 = .ok (.invokevirtual 215, 3) := by decide +kernel
theorem dX11_does_377 : decode cX11_does 377 = .ok (.ireturn, 1) := by decide +kernel
theorem dX11_does_378 : decode cX11_does 378 = .ok (.aload_n 0, 1) := by decide +kernel
theorem dX11_does_379 : decode cX11_does 379 = .ok (.iload_n 2, 1) := by decide +kernel
theorem dX11_does_380 : decode cX11_does 380 = .ok (.invokevirtual 218, 3) := by decide +kernel
theorem dX11_does_383 : decode cX11_does 383 = .ok (.ireturn, 1) := by decide +kernel
theorem dX11_does_384 : decode cX11_does 384 = .ok (.aload_n 0, 1) := by decide +kernel
theorem dX11_does_385 : decode cX11_does 385 = .ok (.iload_n 2, 1) := by decide +kernel
theorem dX11_does_386 : decode cX11_does 386 = .ok (.invokevirtual 221, 3) := by decide +kernel
theorem dX11_does_389 : decode cX11_does 389 = .ok (.ireturn, 1) := by decide +kernel
theorem dX11_does_390 : decode cX11_does 390 = .ok (.aload_n 0, 1) := by decide +kernel
theorem dX11_does_391 : decode cX11_does 391 = .ok (.getfield 28, 3) := by decide +kernel
theorem dX11_does_394 : decode cX11_does 394 = .ok (.aload_n 0, 1) := by decide +kernel
theorem dX11_does_395 : decode cX11_does 395 = .ok (.invokevirtual 155, 3) := by decide +kernel
theorem dX11_does_398 : decode cX11_does 398 = .ok (.iload_n 2, 1) := by decide +kernel
theorem dX11_does_399 : decode cX11_does 399 = .ok (.iastore, 1) := by decide +kernel
theorem dX11_does_400 : decode cX11_does 400 = .ok (.iconst 1, 1) := by decide +kernel
theorem dX11_does_401 : decode cX11_does 401 = .ok (.ireturn, 1) := by decide +kernel
theorem dX11_does_402 : decode cX11_does 402 = .ok (.aload_n 0, 1) := by decide +kernel
theorem dX11_does_403 : decode cX11_does 403 = .ok (.getfield 68, 3) := by decide +kernel
theorem dX11_does_406 : decode cX11_does 406 = .ok (.sipush 200, 3) := by decide +kernel
theorem dX11_does_409 : decode cX11_does 409 = .ok (.aload_n 0, 1) := by decide +kernel
theorem dX11_does_410 : decode cX11_does 410 = .ok (.invokevirtual 155, 3) := by decide +kernel
theorem dX11_does_413 : decode cX11_does 413 = .ok (.imul, 1) := by decide +kernel
theorem dX11_does_414 : decode cX11_does 414 = .ok (.iload_n 2, 1) := by decide +kernel
theorem dX11_does_415 : decode cX11_does 415 = .ok (.iadd, 1) := by decide +kernel
theorem dX11_does_416 : decode cX11_does 416 = .ok (.iload_n 3, 1) := by decide +kernel
theorem dX11_does_417 : decode cX11_does 417 = .ok (.i2b, 1) := by decide +kernel
theorem dX11_does_418 : decode cX11_does 418 = .ok (.bastore, 1) := by decide +kernel
theorem dX11_does_419 : decode cX11_does 419 = .ok (.aload_n 0, 1) := by decide +kernel
theorem dX11_does_420 : decode cX11_does 420 = .ok (.aload_n 0, 1) := by decide +kernel
theorem dX11_does_421 : decode cX11_does 421 = .ok (.invokevirtual 155, 3) := by decide +kernel
theorem dX11_does_424 : decode cX11_does 424 = .ok (.invokevirtual 224, 3) := by decide +kernel
theorem dX11_does_427 : decode cX11_does 427 = .ok (.ireturn, 1) := by decide +kernel
theorem dX11_does_428 : decode cX11_does 428 = .ok (.aload_n 0, 1) := by decide +kernel
theorem dX11_does_429 : decode cX11_does 429 = .ok (.invokevirtual 227, 3) := by decide +kernel
theorem dX11_does_432 : decode cX11_does 432 = .ok (.aload_n 0, 1) := by decide +kernel
theorem dX11_does_433 : decode cX11_does 433 = .ok (.getfield 115, 3) := by decide +kernel
theorem dX11_does_436 : decode cX11_does 436 = .ok (.ireturn, 1) := by decide +kernel
theorem dX11_does_437 : decode cX11_does 437 = .ok (.aload_n 0, 1) := by decide +kernel
theorem dX11_does_438 : decode cX11_does 438 = .ok (.bipush 9, 2) := by decide +kernel
theorem dX11_does_440 : decode cX11_does 440 = .ok (.invokevirtual 209, 3) := by decide +kernel
theorem dX11_does_443 : decode cX11_does 443 = .ok (.istore 6, 2) := by decide +kernel
theorem dX11_does_445 : decode cX11_does 445 = .ok (.aload_n 0, 1) := by decide +kernel
theorem dX11_does_446 : decode cX11_does 446 = .ok (.getfield 25, 3) := by decide +kernel
theorem dX11_does_449 : decode cX11_does 449 = .ok (.iload 6, 2) := by decide +kernel
theorem dX11_does_451 : decode cX11_does 451 = .ok (.aload_n 0, 1) := by decide +kernel
theorem dX11_does_452 : decode cX11_does 452 = .ok (.getfield 103, 3) := by decide +kernel
theorem dX11_does_455 : decode cX11_does 455 = .ok (.iastore, 1) := by decide +kernel
theorem dX11_does_456 : decode cX11_does 456 = .ok (.aload_n 0, 1) := by decide +kernel
theorem dX11_does_457 : decode cX11_does 457 = .ok (.getfield 72, 3) := by decide +kernel
theorem dX11_does_460 : decode cX11_does 460 = .ok (.aload_n 0, 1) := by decide +kernel
theorem dX11_does_461 : decode cX11_does 461 = .ok (.getfield 115, 3) := by decide +kernel
theorem dX11_does_464 : decode cX11_does 464 = .ok (.iload 6, 2) := by decide +kernel
theorem dX11_does_466 : decode cX11_does 466 = .ok (.iastore, 1) := by decide +kernel
theorem dX11_does_467 : decode cX11_does 467 = .ok (.aload_n 0, 1) := by decide +kernel
theorem dX11_does_468 : decode cX11_does 468 = .ok (.dup, 1) := by decide +kernel
theorem dX11_does_469 : decode cX11_does 469 = .ok (.getfield 115, 3) := by decide +kernel
theorem dX11_does_472 : decode cX11_does 472 = .ok (.iconst 1, 1) := by decide +kernel
theorem dX11_does_473 : decode cX11_does 473 = .ok (.iadd, 1) := by decide +kernel
theorem dX11_does_474 : decode cX11_does 474 = .ok (.putfield 115, 3) := by decide +kernel
theorem dX11_does_477 : decode cX11_does 477 = .ok (.bipush 9, 2) := by decide +kernel
theorem dX11_does_479 : decode cX11_does 479 = .ok (.ireturn, 1) := by decide +kernel
theorem dX11_does_480 : decode cX11_does 480 = .ok (.aload_n 0, 1) := by decide +kernel
theorem dX11_does_481 : decode cX11_does 481 = .ok (.invokevirtual 230, 3) := by decide +kernel
theorem dX11_does_484 : decode cX11_does 484 = .ok (.ireturn, 1) := by decide +kernel
theorem dX11_does_485 : decode cX11_does 485 = .ok (.aload_n 0, 1) := by decide +kernel
theorem dX11_does_486 : decode cX11_does 486 = .ok (.getfield 115, 3) := by decide +kernel
theorem dX11_does_489 : decode cX11_does 489 = .ok (.istore 6, 2) := by decide +kernel
theorem dX11_does_491 : decode cX11_does 491 = .ok (.aload_n 0, 1) := by decide +kernel
theorem dX11_does_492 : decode cX11_does 492 = .ok (.getfield 115, 3) := by decide +kernel
theorem dX11_does_495 : decode cX11_does 495 = .ok (.ifCond .le 10, 3) := by decide +kernel
theorem dX11_does_498 : decode cX11_does 498 = .ok (.aload_n 0, 1) := by decide +kernel
theorem dX11_does_499 : decode cX11_does 499 = .ok (.invokevirtual 227, 3) := by decide +kernel
theorem dX11_does_502 : decode cX11_does 502 = .ok (.goto (-11), 3) := by decide +kernel
theorem dX11_does_505 : decode cX11_does 505 = .ok (.aload_n 0, 1) := by decide +kernel
theorem dX11_does_506 : decode cX11_does 506 = .ok (.invokevirtual 206, 3) := by decide +kernel
theorem dX11_does_509 : decode cX11_does 509 = .ok (.aload_n 0, 1) := by decide +kernel
theorem dX11_does_510 : decode cX11_does 510 = .ok (.iconst (-1), 1) := by decide +kernel
theorem dX11_does_511 : decode cX11_does 511 = .ok (.putfield 112, 3) := by decide +kernel
theorem dX11_does_514 : decode cX11_does 514 = .ok (.iload 6, 2) := by decide +kernel
theorem dX11_does_516 : decode cX11_does 516 = .ok (.ireturn, 1) := by decide +kernel
theorem dX11_dropDraft_0 : decode cX11_dropDraft 0 = .ok (.iconst 0, 1) := by decide +kernel
theorem dX11_dropDraft_1 : decode cX11_dropDraft 1 = .ok (.istore_n 1, 1) := by decide +kernel
theorem dX11_dropDraft_2 : decode cX11_dropDraft 2 = .ok (.iload_n 1, 1) := by decide +kernel
theorem dX11_dropDraft_3 : decode cX11_dropDraft 3 = .ok (.aload_n 0, 1) := by decide +kernel
theorem dX11_dropDraft_4 : decode cX11_dropDraft 4 = .ok (.getfield 130, 3) := by decide +kernel
theorem dX11_dropDraft_7 : decode cX11_dropDraft 7 = .ok (.if_icmp .ge 21, 3) := by decide +kernel
theorem dX11_dropDraft_10 : decode cX11_dropDraft 10 = .ok (.aload_n 0, 1) := by decide +kernel
theorem dX11_dropDraft_11 : decode cX11_dropDraft 11 = .ok (.getfield 19, 3) := by decide +kernel
theorem dX11_dropDraft_14 : decode cX11_dropDraft 14 = .ok (.aload_n 0, 1) := by decide +kernel
theorem dX11_dropDraft_15 : decode cX11_dropDraft 15 = .ok (.getfield 75, 3) := by decide +kernel
theorem dX11_dropDraft_18 : decode cX11_dropDraft 18 = .ok (.iload_n 1, 1) := by decide +kernel
theorem dX11_dropDraft_19 : decode cX11_dropDraft 19 = .ok (.iaload, 1) := by decide +kernel
theorem dX11_dropDraft_20 : decode cX11_dropDraft 20 = .ok (.iconst 0, 1) := by decide +kernel
theorem dX11_dropDraft_21 : decode cX11_dropDraft 21 = .ok (.bastore, 1) := by decide +kernel
theorem dX11_dropDraft_22 : decode cX11_dropDraft 22 = .ok (.iinc 1 1, 3) := by decide +kernel
theorem dX11_dropDraft_25 : decode cX11_dropDraft 25 = .ok (.goto (-23), 3) := by decide +kernel
theorem dX11_dropDraft_28 : decode cX11_dropDraft 28 = .ok (.aload_n 0, 1) := by decide +kernel
theorem dX11_dropDraft_29 : decode cX11_dropDraft 29 = .ok (.iconst 0, 1) := by decide +kernel
theorem dX11_dropDraft_30 : decode cX11_dropDraft 30 = .ok (.putfield 130, 3) := by decide +kernel
theorem dX11_dropDraft_33 : decode cX11_dropDraft 33 = .ok (.return_, 1) := by decide +kernel
theorem dX11_free_0 : decode cX11_free 0 = .ok (.iconst 0, 1) := by decide +kernel
theorem dX11_free_1 : decode cX11_free 1 = .ok (.istore_n 1, 1) := by decide +kernel
theorem dX11_free_2 : decode cX11_free 2 = .ok (.iload_n 1, 1) := by decide +kernel
theorem dX11_free_3 : decode cX11_free 3 = .ok (.bipush 8, 2) := by decide +kernel
theorem dX11_free_5 : decode cX11_free 5 = .ok (.if_icmp .ge 20, 3) := by decide +kernel
theorem dX11_free_8 : decode cX11_free 8 = .ok (.aload_n 0, 1) := by decide +kernel
theorem dX11_free_9 : decode cX11_free 9 = .ok (.getfield 81, 3) := by decide +kernel
theorem dX11_free_12 : decode cX11_free 12 = .ok (.iload_n 1, 1) := by decide +kernel
theorem dX11_free_13 : decode cX11_free 13 = .ok (.iaload, 1) := by decide +kernel
theorem dX11_free_14 : decode cX11_free 14 = .ok (.ifCond .ne 5, 3) := by decide +kernel
theorem dX11_free_17 : decode cX11_free 17 = .ok (.iload_n 1, 1) := by decide +kernel
theorem dX11_free_18 : decode cX11_free 18 = .ok (.ireturn, 1) := by decide +kernel
theorem dX11_free_19 : decode cX11_free 19 = .ok (.iinc 1 1, 3) := by decide +kernel
theorem dX11_free_22 : decode cX11_free 22 = .ok (.goto (-20), 3) := by decide +kernel
theorem dX11_free_25 : decode cX11_free 25 = .ok (.iconst (-1), 1) := by decide +kernel
theorem dX11_free_26 : decode cX11_free 26 = .ok (.ireturn, 1) := by decide +kernel
theorem dX11_freePlaces_0 : decode cX11_freePlaces 0 = .ok (.iconst 0, 1) := by decide +kernel
theorem dX11_freePlaces_1 : decode cX11_freePlaces 1 = .ok (.istore_n 1, 1) := by decide +kernel
theorem dX11_freePlaces_2 : decode cX11_freePlaces 2 = .ok (.iconst 0, 1) := by decide +kernel
theorem dX11_freePlaces_3 : decode cX11_freePlaces 3 = .ok (.istore_n 2, 1) := by decide +kernel
theorem dX11_freePlaces_4 : decode cX11_freePlaces 4 = .ok (.iload_n 2, 1) := by decide +kernel
theorem dX11_freePlaces_5 : decode cX11_freePlaces 5 = .ok (.bipush 8, 2) := by decide +kernel
theorem dX11_freePlaces_7 : decode cX11_freePlaces 7 = .ok (.if_icmp .ge 26, 3) := by decide +kernel
theorem dX11_freePlaces_10 : decode cX11_freePlaces 10 = .ok (.iload_n 1, 1) := by decide +kernel
theorem dX11_freePlaces_11 : decode cX11_freePlaces 11 = .ok (.aload_n 0, 1) := by decide +kernel
theorem dX11_freePlaces_12 : decode cX11_freePlaces 12 = .ok (.getfield 81, 3) := by decide +kernel
theorem dX11_freePlaces_15 : decode cX11_freePlaces 15 = .ok (.iload_n 2, 1) := by decide +kernel
theorem dX11_freePlaces_16 : decode cX11_freePlaces 16 = .ok (.iaload, 1) := by decide +kernel
theorem dX11_freePlaces_17 : decode cX11_freePlaces 17 = .ok (.ifCond .ne 7, 3) := by decide +kernel
theorem dX11_freePlaces_20 : decode cX11_freePlaces 20 = .ok (.iconst 1, 1) := by decide +kernel
theorem dX11_freePlaces_21 : decode cX11_freePlaces 21 = .ok (.goto 4, 3) := by decide +kernel
theorem dX11_freePlaces_24 : decode cX11_freePlaces 24 = .ok (.iconst 0, 1) := by decide +kernel
theorem dX11_freePlaces_25 : decode cX11_freePlaces 25 = .ok (.iadd, 1) := by decide +kernel
theorem dX11_freePlaces_26 : decode cX11_freePlaces 26 = .ok (.istore_n 1, 1) := by decide +kernel
theorem dX11_freePlaces_27 : decode cX11_freePlaces 27 = .ok (.iinc 2 1, 3) := by decide +kernel
theorem dX11_freePlaces_30 : decode cX11_freePlaces 30 = .ok (.goto (-26), 3) := by decide +kernel
theorem dX11_freePlaces_33 : decode cX11_freePlaces 33 = .ok (.iload_n 1, 1) := by decide +kernel
theorem dX11_freePlaces_34 : decode cX11_freePlaces 34 = .ok (.ireturn, 1) := by decide +kernel
theorem dX11_goes_0 : decode cX11_goes 0 = .ok (.aload_n 0, 1) := by decide +kernel
theorem dX11_goes_1 : decode cX11_goes 1 = .ok (.getfield 19, 3) := by decide +kernel
theorem dX11_goes_4 : decode cX11_goes 4 = .ok (.aload_n 0, 1) := by decide +kernel
theorem dX11_goes_5 : decode cX11_goes 5 = .ok (.invokevirtual 155, 3) := by decide +kernel
theorem dX11_goes_8 : decode cX11_goes 8 = .ok (.iconst 0, 1) := by decide +kernel
theorem dX11_goes_9 : decode cX11_goes 9 = .ok (.bastore, 1) := by decide +kernel
theorem dX11_goes_10 : decode cX11_goes 10 = .ok (.aload_n 0, 1) := by decide +kernel
theorem dX11_goes_11 : decode cX11_goes 11 = .ok (.dup, 1) := by decide +kernel
theorem dX11_goes_12 : decode cX11_goes 12 = .ok (.getfield 115, 3) := by decide +kernel
theorem dX11_goes_15 : decode cX11_goes 15 = .ok (.iconst 1, 1) := by decide +kernel
theorem dX11_goes_16 : decode cX11_goes 16 = .ok (.isub, 1) := by decide +kernel
theorem dX11_goes_17 : decode cX11_goes 17 = .ok (.putfield 115, 3) := by decide +kernel
theorem dX11_goes_20 : decode cX11_goes 20 = .ok (.return_, 1) := by decide +kernel
theorem dX11_hasDraft_0 : decode cX11_hasDraft 0 = .ok (.aload_n 0, 1) := by decide +kernel
theorem dX11_hasDraft_1 : decode cX11_hasDraft 1 = .ok (.getfield 130, 3) := by decide +kernel
theorem dX11_hasDraft_4 : decode cX11_hasDraft 4 = .ok (.ifCond .le 33, 3) := by decide +kernel
theorem dX11_hasDraft_7 : decode cX11_hasDraft 7 = .ok (.aload_n 0, 1) := by decide +kernel
theorem dX11_hasDraft_8 : decode cX11_hasDraft 8 = .ok (.getfield 151, 3) := by decide +kernel
theorem dX11_hasDraft_11 : decode cX11_hasDraft 11 = .ok (.ifCond .ne 26, 3) := by decide +kernel
theorem dX11_hasDraft_14 : decode cX11_hasDraft 14 = .ok (.aload_n 0, 1) := by decide +kernel
theorem dX11_hasDraft_15 : decode cX11_hasDraft 15 = .ok (.getfield 22, 3) := by decide +kernel
theorem dX11_hasDraft_18 : decode cX11_hasDraft 18 = .ok (.aload_n 0, 1) := by decide +kernel
theorem dX11_hasDraft_19 : decode cX11_hasDraft 19 = .ok (.getfield 75, 3) := by decide +kernel
theorem dX11_hasDraft_22 : decode cX11_hasDraft 22 = .ok (.iconst 0, 1) := by decide +kernel
theorem dX11_hasDraft_23 : decode cX11_hasDraft 23 = .ok (.iaload, 1) := by decide +kernel
theorem dX11_hasDraft_24 : decode cX11_hasDraft 24 = .ok (.iaload, 1) := by decide +kernel
theorem dX11_hasDraft_25 : decode cX11_hasDraft 25 = .ok (.iload_n 1, 1) := by decide +kernel
theorem dX11_hasDraft_26 : decode cX11_hasDraft 26 = .ok (.iload_n 2, 1) := by decide +kernel
theorem dX11_hasDraft_27 : decode cX11_hasDraft 27 = .ok (.invokestatic 136, 3) := by decide +kernel
theorem dX11_hasDraft_30 : decode cX11_hasDraft 30 = .ok (.ifCond .eq 7, 3) := by decide +kernel
theorem dX11_hasDraft_33 : decode cX11_hasDraft 33 = .ok (.iconst 1, 1) := by decide +kernel
theorem dX11_hasDraft_34 : decode cX11_hasDraft 34 = .ok (.goto 4, 3) := by decide +kernel
theorem dX11_hasDraft_37 : decode cX11_hasDraft 37 = .ok (.iconst 0, 1) := by decide +kernel
theorem dX11_hasDraft_38 : decode cX11_hasDraft 38 = .ok (.ireturn, 1) := by decide +kernel
theorem dX11_hasSeconder_0 : decode cX11_hasSeconder 0 = .ok (.aload_n 0, 1) := by decide +kernel
theorem dX11_hasSeconder_1 : decode cX11_hasSeconder 1 = .ok (.getfield 28, 3) := by decide +kernel
theorem dX11_hasSeconder_4 : decode cX11_hasSeconder 4 = .ok (.aload_n 0, 1) := by decide +kernel
theorem dX11_hasSeconder_5 : decode cX11_hasSeconder 5 = .ok (.invokevirtual 155, 3) := by decide +kernel
theorem dX11_hasSeconder_8 : decode cX11_hasSeconder 8 = .ok (.iaload, 1) := by decide +kernel
theorem dX11_hasSeconder_9 : decode cX11_hasSeconder 9 = .ok (.iconst (-1), 1) := by decide +kernel
theorem dX11_hasSeconder_10 : decode cX11_hasSeconder 10 = .ok (.if_icmp .eq 7, 3) := by decide +kernel
theorem dX11_hasSeconder_13 : decode cX11_hasSeconder 13 = .ok (.iconst 1, 1) := by decide +kernel
theorem dX11_hasSeconder_14 : decode cX11_hasSeconder 14 = .ok (.goto 4, 3) := by decide +kernel
theorem dX11_hasSeconder_17 : decode cX11_hasSeconder 17 = .ok (.iconst 0, 1) := by decide +kernel
theorem dX11_hasSeconder_18 : decode cX11_hasSeconder 18 = .ok (.ireturn, 1) := by decide +kernel
theorem dX11_isAbout_0 : decode cX11_isAbout 0 = .ok (.aload_n 0, 1) := by decide +kernel
theorem dX11_isAbout_1 : decode cX11_isAbout 1 = .ok (.getfield 115, 3) := by decide +kernel
theorem dX11_isAbout_4 : decode cX11_isAbout 4 = .ok (.ifCond .ne 5, 3) := by decide +kernel
theorem dX11_isAbout_7 : decode cX11_isAbout 7 = .ok (.iconst 0, 1) := by decide +kernel
theorem dX11_isAbout_8 : decode cX11_isAbout 8 = .ok (.ireturn, 1) := by decide +kernel
theorem dX11_isAbout_9 : decode cX11_isAbout 9 = .ok (.aload_n 0, 1) := by decide +kernel
theorem dX11_isAbout_10 : decode cX11_isAbout 10 = .ok (.getfield 22, 3) := by decide +kernel
theorem dX11_isAbout_13 : decode cX11_isAbout 13 = .ok (.aload_n 0, 1) := by decide +kernel
theorem dX11_isAbout_14 : decode cX11_isAbout 14 = .ok (.invokevirtual 155, 3) := by decide +kernel
theorem dX11_isAbout_17 : decode cX11_isAbout 17 = .ok (.iaload, 1) := by decide +kernel
theorem dX11_isAbout_18 : decode cX11_isAbout 18 = .ok (.istore_n 2, 1) := by decide +kernel
theorem dX11_isAbout_19 : decode cX11_isAbout 19 = .ok (.iload_n 1, 1) := by decide +kernel
theorem dX11_isAbout_20 : decode cX11_isAbout 20 = .ok (.iconst 2, 1) := by decide +kernel
theorem dX11_isAbout_21 : decode cX11_isAbout 21 = .ok (.if_icmp .ne 26, 3) := by decide +kernel
theorem dX11_isAbout_24 : decode cX11_isAbout 24 = .ok (.iload_n 2, 1) := by decide +kernel
theorem dX11_isAbout_25 : decode cX11_isAbout 25 = .ok (.iconst 1, 1) := by decide +kernel
theorem dX11_isAbout_26 : decode cX11_isAbout 26 = .ok (.if_icmp .eq 13, 3) := by decide +kernel
theorem dX11_isAbout_29 : decode cX11_isAbout 29 = .ok (.iload_n 2, 1) := by decide +kernel
theorem dX11_isAbout_30 : decode cX11_isAbout 30 = .ok (.iconst 4, 1) := by decide +kernel
theorem dX11_isAbout_31 : decode cX11_isAbout 31 = .ok (.if_icmp .eq 8, 3) := by decide +kernel
theorem dX11_isAbout_34 : decode cX11_isAbout 34 = .ok (.iload_n 2, 1) := by decide +kernel
theorem dX11_isAbout_35 : decode cX11_isAbout 35 = .ok (.iconst 5, 1) := by decide +kernel
theorem dX11_isAbout_36 : decode cX11_isAbout 36 = .ok (.if_icmp .ne 7, 3) := by decide +kernel
theorem dX11_isAbout_39 : decode cX11_isAbout 39 = .ok (.iconst 1, 1) := by decide +kernel
theorem dX11_isAbout_40 : decode cX11_isAbout 40 = .ok (.goto 17, 3) := by decide +kernel
theorem dX11_isAbout_43 : decode cX11_isAbout 43 = .ok (.iconst 0, 1) := by decide +kernel
theorem dX11_isAbout_44 : decode cX11_isAbout 44 = .ok (.goto 13, 3) := by decide +kernel
theorem dX11_isAbout_47 : decode cX11_isAbout 47 = .ok (.iload_n 2, 1) := by decide +kernel
theorem dX11_isAbout_48 : decode cX11_isAbout 48 = .ok (.iconst 2, 1) := by decide +kernel
theorem dX11_isAbout_49 : decode cX11_isAbout 49 = .ok (.if_icmp .ne 7, 3) := by decide +kernel
theorem dX11_isAbout_52 : decode cX11_isAbout 52 = .ok (.iconst 1, 1) := by decide +kernel
theorem dX11_isAbout_53 : decode cX11_isAbout 53 = .ok (.goto 4, 3) := by decide +kernel
theorem dX11_isAbout_56 : decode cX11_isAbout 56 = .ok (.iconst 0, 1) := by decide +kernel
theorem dX11_isAbout_57 : decode cX11_isAbout 57 = .ok (.ireturn, 1) := by decide +kernel
theorem dX11_isHere_0 : decode cX11_isHere 0 = .ok (.aload_n 0, 1) := by decide +kernel
theorem dX11_isHere_1 : decode cX11_isHere 1 = .ok (.iload_n 1, 1) := by decide +kernel
theorem dX11_isHere_2 : decode cX11_isHere 2 = .ok (.invokevirtual 140, 3) := by decide +kernel
theorem dX11_isHere_5 : decode cX11_isHere 5 = .ok (.ifCond .eq 16, 3) := by decide +kernel
theorem dX11_isHere_8 : decode cX11_isHere 8 = .ok (.aload_n 0, 1) := by decide +kernel
theorem dX11_isHere_9 : decode cX11_isHere 9 = .ok (.getfield 9, 3) := by decide +kernel
theorem dX11_isHere_12 : decode cX11_isHere 12 = .ok (.iload_n 1, 1) := by decide +kernel
theorem dX11_isHere_13 : decode cX11_isHere 13 = .ok (.baload, 1) := by decide +kernel
theorem dX11_isHere_14 : decode cX11_isHere 14 = .ok (.ifCond .eq 7, 3) := by decide +kernel
theorem dX11_isHere_17 : decode cX11_isHere 17 = .ok (.iconst 1, 1) := by decide +kernel
theorem dX11_isHere_18 : decode cX11_isHere 18 = .ok (.goto 4, 3) := by decide +kernel
theorem dX11_isHere_21 : decode cX11_isHere 21 = .ok (.iconst 0, 1) := by decide +kernel
theorem dX11_isHere_22 : decode cX11_isHere 22 = .ok (.ireturn, 1) := by decide +kernel
theorem dX11_isPending_0 : decode cX11_isPending 0 = .ok (.iconst 0, 1) := by decide +kernel
theorem dX11_isPending_1 : decode cX11_isPending 1 = .ok (.istore_n 2, 1) := by decide +kernel
theorem dX11_isPending_2 : decode cX11_isPending 2 = .ok (.iload_n 2, 1) := by decide +kernel
theorem dX11_isPending_3 : decode cX11_isPending 3 = .ok (.aload_n 0, 1) := by decide +kernel
theorem dX11_isPending_4 : decode cX11_isPending 4 = .ok (.getfield 115, 3) := by decide +kernel
theorem dX11_isPending_7 : decode cX11_isPending 7 = .ok (.if_icmp .ge 21, 3) := by decide +kernel
theorem dX11_isPending_10 : decode cX11_isPending 10 = .ok (.aload_n 0, 1) := by decide +kernel
theorem dX11_isPending_11 : decode cX11_isPending 11 = .ok (.getfield 72, 3) := by decide +kernel
theorem dX11_isPending_14 : decode cX11_isPending 14 = .ok (.iload_n 2, 1) := by decide +kernel
theorem dX11_isPending_15 : decode cX11_isPending 15 = .ok (.iaload, 1) := by decide +kernel
theorem dX11_isPending_16 : decode cX11_isPending 16 = .ok (.iload_n 1, 1) := by decide +kernel
theorem dX11_isPending_17 : decode cX11_isPending 17 = .ok (.if_icmp .ne 5, 3) := by decide +kernel
theorem dX11_isPending_20 : decode cX11_isPending 20 = .ok (.iconst 1, 1) := by decide +kernel
theorem dX11_isPending_21 : decode cX11_isPending 21 = .ok (.ireturn, 1) := by decide +kernel
theorem dX11_isPending_22 : decode cX11_isPending 22 = .ok (.iinc 2 1, 3) := by decide +kernel
theorem dX11_isPending_25 : decode cX11_isPending 25 = .ok (.goto (-23), 3) := by decide +kernel
theorem dX11_isPending_28 : decode cX11_isPending 28 = .ok (.iconst 0, 1) := by decide +kernel
theorem dX11_isPending_29 : decode cX11_isPending 29 = .ok (.ireturn, 1) := by decide +kernel
theorem dX11_isSeat_0 : decode cX11_isSeat 0 = .ok (.iload_n 1, 1) := by decide +kernel
theorem dX11_isSeat_1 : decode cX11_isSeat 1 = .ok (.iconst 0, 1) := by decide +kernel
theorem dX11_isSeat_2 : decode cX11_isSeat 2 = .ok (.aload_n 0, 1) := by decide +kernel
theorem dX11_isSeat_3 : decode cX11_isSeat 3 = .ok (.getfield 96, 3) := by decide +kernel
theorem dX11_isSeat_6 : decode cX11_isSeat 6 = .ok (.iconst 1, 1) := by decide +kernel
theorem dX11_isSeat_7 : decode cX11_isSeat 7 = .ok (.isub, 1) := by decide +kernel
theorem dX11_isSeat_8 : decode cX11_isSeat 8 = .ok (.invokestatic 136, 3) := by decide +kernel
theorem dX11_isSeat_11 : decode cX11_isSeat 11 = .ok (.ireturn, 1) := by decide +kernel
theorem dX11_isWord_0 : decode cX11_isWord 0 = .ok (.iload_n 0, 1) := by decide +kernel
theorem dX11_isWord_1 : decode cX11_isWord 1 = .ok (.iconst 1, 1) := by decide +kernel
theorem dX11_isWord_2 : decode cX11_isWord 2 = .ok (.sipush 30000, 3) := by decide +kernel
theorem dX11_isWord_5 : decode cX11_isWord 5 = .ok (.invokestatic 136, 3) := by decide +kernel
theorem dX11_isWord_8 : decode cX11_isWord 8 = .ok (.ireturn, 1) := by decide +kernel
theorem dX11_lay_0 : decode cX11_lay 0 = .ok (.aload_n 0, 1) := by decide +kernel
theorem dX11_lay_1 : decode cX11_lay 1 = .ok (.getfield 75, 3) := by decide +kernel
theorem dX11_lay_4 : decode cX11_lay 4 = .ok (.iconst 0, 1) := by decide +kernel
theorem dX11_lay_5 : decode cX11_lay 5 = .ok (.iaload, 1) := by decide +kernel
theorem dX11_lay_6 : decode cX11_lay 6 = .ok (.istore_n 2, 1) := by decide +kernel
theorem dX11_lay_7 : decode cX11_lay 7 = .ok (.aload_n 0, 1) := by decide +kernel
theorem dX11_lay_8 : decode cX11_lay 8 = .ok (.getfield 151, 3) := by decide +kernel
theorem dX11_lay_11 : decode cX11_lay 11 = .ok (.ifCond .ne 54, 3) := by decide +kernel
theorem dX11_lay_14 : decode cX11_lay 14 = .ok (.aload_n 0, 1) := by decide +kernel
theorem dX11_lay_15 : decode cX11_lay 15 = .ok (.getfield 55, 3) := by decide +kernel
theorem dX11_lay_18 : decode cX11_lay 18 = .ok (.iload_n 2, 1) := by decide +kernel
theorem dX11_lay_19 : decode cX11_lay 19 = .ok (.baload, 1) := by decide +kernel
theorem dX11_lay_20 : decode cX11_lay 20 = .ok (.ifCond .ne 38, 3) := by decide +kernel
theorem dX11_lay_23 : decode cX11_lay 23 = .ok (.aload_n 0, 1) := by decide +kernel
theorem dX11_lay_24 : decode cX11_lay 24 = .ok (.getfield 22, 3) := by decide +kernel
theorem dX11_lay_27 : decode cX11_lay 27 = .ok (.iload_n 2, 1) := by decide +kernel
theorem dX11_lay_28 : decode cX11_lay 28 = .ok (.iaload, 1) := by decide +kernel
theorem dX11_lay_29 : decode cX11_lay 29 = .ok (.iconst 2, 1) := by decide +kernel
theorem dX11_lay_30 : decode cX11_lay 30 = .ok (.if_icmp .eq 13, 3) := by decide +kernel
theorem dX11_lay_33 : decode cX11_lay 33 = .ok (.aload_n 0, 1) := by decide +kernel
theorem dX11_lay_34 : decode cX11_lay 34 = .ok (.getfield 22, 3) := by decide +kernel
theorem dX11_lay_37 : decode cX11_lay 37 = .ok (.iload_n 2, 1) := by decide +kernel
theorem dX11_lay_38 : decode cX11_lay 38 = .ok (.iaload, 1) := by decide +kernel
theorem dX11_lay_39 : decode cX11_lay 39 = .ok (.iconst 3, 1) := by decide +kernel
theorem dX11_lay_40 : decode cX11_lay 40 = .ok (.if_icmp .ne 18, 3) := by decide +kernel
theorem dX11_lay_43 : decode cX11_lay 43 = .ok (.aload_n 0, 1) := by decide +kernel
theorem dX11_lay_44 : decode cX11_lay 44 = .ok (.getfield 49, 3) := by decide +kernel
theorem dX11_lay_47 : decode cX11_lay 47 = .ok (.iload_n 2, 1) := by decide +kernel
theorem dX11_lay_48 : decode cX11_lay 48 = .ok (.aload_n 0, 1) := by decide +kernel
theorem dX11_lay_49 : decode cX11_lay 49 = .ok (.getfield 46, 3) := by decide +kernel
theorem dX11_lay_52 : decode cX11_lay 52 = .ok (.aload_n 0, 1) := by decide +kernel
theorem dX11_lay_53 : decode cX11_lay 53 = .ok (.invokevirtual 155, 3) := by decide +kernel
theorem dX11_lay_56 : decode cX11_lay 56 = .ok (.iaload, 1) := by decide +kernel
theorem dX11_lay_57 : decode cX11_lay 57 = .ok (.iastore, 1) := by decide +kernel
theorem dX11_lay_58 : decode cX11_lay 58 = .ok (.aload_n 0, 1) := by decide +kernel
theorem dX11_lay_59 : decode cX11_lay 59 = .ok (.getfield 55, 3) := by decide +kernel
theorem dX11_lay_62 : decode cX11_lay 62 = .ok (.iload_n 2, 1) := by decide +kernel
theorem dX11_lay_63 : decode cX11_lay 63 = .ok (.iconst 1, 1) := by decide +kernel
theorem dX11_lay_64 : decode cX11_lay 64 = .ok (.bastore, 1) := by decide +kernel
theorem dX11_lay_65 : decode cX11_lay 65 = .ok (.iconst 0, 1) := by decide +kernel
theorem dX11_lay_66 : decode cX11_lay 66 = .ok (.istore_n 3, 1) := by decide +kernel
theorem dX11_lay_67 : decode cX11_lay 67 = .ok (.iload_n 3, 1) := by decide +kernel
theorem dX11_lay_68 : decode cX11_lay 68 = .ok (.aload_n 0, 1) := by decide +kernel
theorem dX11_lay_69 : decode cX11_lay 69 = .ok (.getfield 130, 3) := by decide +kernel
theorem dX11_lay_72 : decode cX11_lay 72 = .ok (.if_icmp .ge 26, 3) := by decide +kernel
theorem dX11_lay_75 : decode cX11_lay 75 = .ok (.aload_n 0, 1) := by decide +kernel
theorem dX11_lay_76 : decode cX11_lay 76 = .ok (.getfield 78, 3) := by decide +kernel
theorem dX11_lay_79 : decode cX11_lay 79 = .ok (.bipush 9, 2) := by decide +kernel
theorem dX11_lay_81 : decode cX11_lay 81 = .ok (.iload_n 1, 1) := by decide +kernel
theorem dX11_lay_82 : decode cX11_lay 82 = .ok (.imul, 1) := by decide +kernel
theorem dX11_lay_83 : decode cX11_lay 83 = .ok (.iload_n 3, 1) := by decide +kernel
theorem dX11_lay_84 : decode cX11_lay 84 = .ok (.iadd, 1) := by decide +kernel
theorem dX11_lay_85 : decode cX11_lay 85 = .ok (.aload_n 0, 1) := by decide +kernel
theorem dX11_lay_86 : decode cX11_lay 86 = .ok (.getfield 75, 3) := by decide +kernel
theorem dX11_lay_89 : decode cX11_lay 89 = .ok (.iload_n 3, 1) := by decide +kernel
theorem dX11_lay_90 : decode cX11_lay 90 = .ok (.iaload, 1) := by decide +kernel
theorem dX11_lay_91 : decode cX11_lay 91 = .ok (.iastore, 1) := by decide +kernel
theorem dX11_lay_92 : decode cX11_lay 92 = .ok (.iinc 3 1, 3) := by decide +kernel
theorem dX11_lay_95 : decode cX11_lay 95 = .ok (.goto (-28), 3) := by decide +kernel
theorem dX11_lay_98 : decode cX11_lay 98 = .ok (.aload_n 0, 1) := by decide +kernel
theorem dX11_lay_99 : decode cX11_lay 99 = .ok (.getfield 81, 3) := by decide +kernel
theorem dX11_lay_102 : decode cX11_lay 102 = .ok (.iload_n 1, 1) := by decide +kernel
theorem dX11_lay_103 : decode cX11_lay 103 = .ok (.aload_n 0, 1) := by decide +kernel
theorem dX11_lay_104 : decode cX11_lay 104 = .ok (.getfield 130, 3) := by decide +kernel
theorem dX11_lay_107 : decode cX11_lay 107 = .ok (.iastore, 1) := by decide +kernel
theorem dX11_lay_108 : decode cX11_lay 108 = .ok (.aload_n 0, 1) := by decide +kernel
theorem dX11_lay_109 : decode cX11_lay 109 = .ok (.getfield 84, 3) := by decide +kernel
theorem dX11_lay_112 : decode cX11_lay 112 = .ok (.iload_n 1, 1) := by decide +kernel
theorem dX11_lay_113 : decode cX11_lay 113 = .ok (.aload_n 0, 1) := by decide +kernel
theorem dX11_lay_114 : decode cX11_lay 114 = .ok (.getfield 151, 3) := by decide +kernel
theorem dX11_lay_117 : decode cX11_lay 117 = .ok (.bastore, 1) := by decide +kernel
theorem dX11_lay_118 : decode cX11_lay 118 = .ok (.aload_n 0, 1) := by decide +kernel
theorem dX11_lay_119 : decode cX11_lay 119 = .ok (.iconst 0, 1) := by decide +kernel
theorem dX11_lay_120 : decode cX11_lay 120 = .ok (.putfield 130, 3) := by decide +kernel
theorem dX11_lay_123 : decode cX11_lay 123 = .ok (.iload_n 1, 1) := by decide +kernel
theorem dX11_lay_124 : decode cX11_lay 124 = .ok (.ireturn, 1) := by decide +kernel
theorem dX11_move_0 : decode cX11_move 0 = .ok (.aload_n 0, 1) := by decide +kernel
theorem dX11_move_1 : decode cX11_move 1 = .ok (.getfield 151, 3) := by decide +kernel
theorem dX11_move_4 : decode cX11_move 4 = .ok (.ifCond .ne 71, 3) := by decide +kernel
theorem dX11_move_7 : decode cX11_move 7 = .ok (.aload_n 0, 1) := by decide +kernel
theorem dX11_move_8 : decode cX11_move 8 = .ok (.getfield 75, 3) := by decide +kernel
theorem dX11_move_11 : decode cX11_move 11 = .ok (.iconst 0, 1) := by decide +kernel
theorem dX11_move_12 : decode cX11_move 12 = .ok (.iaload, 1) := by decide +kernel
theorem dX11_move_13 : decode cX11_move 13 = .ok (.istore_n 2, 1) := by decide +kernel
theorem dX11_move_14 : decode cX11_move 14 = .ok (.aload_n 0, 1) := by decide +kernel
theorem dX11_move_15 : decode cX11_move 15 = .ok (.getfield 22, 3) := by decide +kernel
theorem dX11_move_18 : decode cX11_move 18 = .ok (.iload_n 2, 1) := by decide +kernel
theorem dX11_move_19 : decode cX11_move 19 = .ok (.iaload, 1) := by decide +kernel
theorem dX11_move_20 : decode cX11_move 20 = .ok (.iconst 2, 1) := by decide +kernel
theorem dX11_move_21 : decode cX11_move 21 = .ok (.if_icmp .eq 13, 3) := by decide +kernel
theorem dX11_move_24 : decode cX11_move 24 = .ok (.aload_n 0, 1) := by decide +kernel
theorem dX11_move_25 : decode cX11_move 25 = .ok (.getfield 22, 3) := by decide +kernel
theorem dX11_move_28 : decode cX11_move 28 = .ok (.iload_n 2, 1) := by decide +kernel
theorem dX11_move_29 : decode cX11_move 29 = .ok (.iaload, 1) := by decide +kernel
theorem dX11_move_30 : decode cX11_move 30 = .ok (.iconst 3, 1) := by decide +kernel
theorem dX11_move_31 : decode cX11_move 31 = .ok (.if_icmp .ne 7, 3) := by decide +kernel
theorem dX11_move_34 : decode cX11_move 34 = .ok (.iconst 1, 1) := by decide +kernel
theorem dX11_move_35 : decode cX11_move 35 = .ok (.goto 4, 3) := by decide +kernel
theorem dX11_move_38 : decode cX11_move 38 = .ok (.iconst 0, 1) := by decide +kernel
theorem dX11_move_39 : decode cX11_move 39 = .ok (.istore_n 3, 1) := by decide +kernel
theorem dX11_move_40 : decode cX11_move 40 = .ok (.iload_n 3, 1) := by decide +kernel
theorem dX11_move_41 : decode cX11_move 41 = .ok (.ifCond .eq 27, 3) := by decide +kernel
theorem dX11_move_44 : decode cX11_move 44 = .ok (.aload_n 0, 1) := by decide +kernel
theorem dX11_move_45 : decode cX11_move 45 = .ok (.getfield 55, 3) := by decide +kernel
theorem dX11_move_48 : decode cX11_move 48 = .ok (.iload_n 2, 1) := by decide +kernel
theorem dX11_move_49 : decode cX11_move 49 = .ok (.baload, 1) := by decide +kernel
theorem dX11_move_50 : decode cX11_move 50 = .ok (.ifCond .ne 18, 3) := by decide +kernel
theorem dX11_move_53 : decode cX11_move 53 = .ok (.aload_n 0, 1) := by decide +kernel
theorem dX11_move_54 : decode cX11_move 54 = .ok (.getfield 49, 3) := by decide +kernel
theorem dX11_move_57 : decode cX11_move 57 = .ok (.iload_n 2, 1) := by decide +kernel
theorem dX11_move_58 : decode cX11_move 58 = .ok (.aload_n 0, 1) := by decide +kernel
theorem dX11_move_59 : decode cX11_move 59 = .ok (.getfield 46, 3) := by decide +kernel
theorem dX11_move_62 : decode cX11_move 62 = .ok (.aload_n 0, 1) := by decide +kernel
theorem dX11_move_63 : decode cX11_move 63 = .ok (.invokevirtual 155, 3) := by decide +kernel
theorem dX11_move_66 : decode cX11_move 66 = .ok (.iaload, 1) := by decide +kernel
theorem dX11_move_67 : decode cX11_move 67 = .ok (.iastore, 1) := by decide +kernel
theorem dX11_move_68 : decode cX11_move 68 = .ok (.aload_n 0, 1) := by decide +kernel
theorem dX11_move_69 : decode cX11_move 69 = .ok (.getfield 25, 3) := by decide +kernel
theorem dX11_move_72 : decode cX11_move 72 = .ok (.iload_n 2, 1) := by decide +kernel
theorem dX11_move_73 : decode cX11_move 73 = .ok (.iload_n 1, 1) := by decide +kernel
theorem dX11_move_74 : decode cX11_move 74 = .ok (.iastore, 1) := by decide +kernel
theorem dX11_move_75 : decode cX11_move 75 = .ok (.iconst 0, 1) := by decide +kernel
theorem dX11_move_76 : decode cX11_move 76 = .ok (.istore_n 2, 1) := by decide +kernel
theorem dX11_move_77 : decode cX11_move 77 = .ok (.iload_n 2, 1) := by decide +kernel
theorem dX11_move_78 : decode cX11_move 78 = .ok (.aload_n 0, 1) := by decide +kernel
theorem dX11_move_79 : decode cX11_move 79 = .ok (.getfield 130, 3) := by decide +kernel
theorem dX11_move_82 : decode cX11_move 82 = .ok (.if_icmp .ge 26, 3) := by decide +kernel
theorem dX11_move_85 : decode cX11_move 85 = .ok (.aload_n 0, 1) := by decide +kernel
theorem dX11_move_86 : decode cX11_move 86 = .ok (.getfield 72, 3) := by decide +kernel
theorem dX11_move_89 : decode cX11_move 89 = .ok (.aload_n 0, 1) := by decide +kernel
theorem dX11_move_90 : decode cX11_move 90 = .ok (.getfield 115, 3) := by decide +kernel
theorem dX11_move_93 : decode cX11_move 93 = .ok (.iload_n 2, 1) := by decide +kernel
theorem dX11_move_94 : decode cX11_move 94 = .ok (.iadd, 1) := by decide +kernel
theorem dX11_move_95 : decode cX11_move 95 = .ok (.aload_n 0, 1) := by decide +kernel
theorem dX11_move_96 : decode cX11_move 96 = .ok (.getfield 75, 3) := by decide +kernel
theorem dX11_move_99 : decode cX11_move 99 = .ok (.iload_n 2, 1) := by decide +kernel
theorem dX11_move_100 : decode cX11_move 100 = .ok (.iaload, 1) := by decide +kernel
theorem dX11_move_101 : decode cX11_move 101 = .ok (.iastore, 1) := by decide +kernel
theorem dX11_move_102 : decode cX11_move 102 = .ok (.iinc 2 1, 3) := by decide +kernel
theorem dX11_move_105 : decode cX11_move 105 = .ok (.goto (-28), 3) := by decide +kernel
theorem dX11_move_108 : decode cX11_move 108 = .ok (.aload_n 0, 1) := by decide +kernel
theorem dX11_move_109 : decode cX11_move 109 = .ok (.dup, 1) := by decide +kernel
theorem dX11_move_110 : decode cX11_move 110 = .ok (.getfield 115, 3) := by decide +kernel
theorem dX11_move_113 : decode cX11_move 113 = .ok (.aload_n 0, 1) := by decide +kernel
theorem dX11_move_114 : decode cX11_move 114 = .ok (.getfield 130, 3) := by decide +kernel
theorem dX11_move_117 : decode cX11_move 117 = .ok (.iadd, 1) := by decide +kernel
theorem dX11_move_118 : decode cX11_move 118 = .ok (.putfield 115, 3) := by decide +kernel
theorem dX11_move_121 : decode cX11_move 121 = .ok (.aload_n 0, 1) := by decide +kernel
theorem dX11_move_122 : decode cX11_move 122 = .ok (.iconst 0, 1) := by decide +kernel
theorem dX11_move_123 : decode cX11_move 123 = .ok (.putfield 130, 3) := by decide +kernel
theorem dX11_move_126 : decode cX11_move 126 = .ok (.aload_n 0, 1) := by decide +kernel
theorem dX11_move_127 : decode cX11_move 127 = .ok (.iconst (-1), 1) := by decide +kernel
theorem dX11_move_128 : decode cX11_move 128 = .ok (.putfield 112, 3) := by decide +kernel
theorem dX11_move_131 : decode cX11_move 131 = .ok (.aload_n 0, 1) := by decide +kernel
theorem dX11_move_132 : decode cX11_move 132 = .ok (.getfield 115, 3) := by decide +kernel
theorem dX11_move_135 : decode cX11_move 135 = .ok (.ireturn, 1) := by decide +kernel
theorem dX11_newSlot_0 : decode cX11_newSlot 0 = .ok (.iconst 0, 1) := by decide +kernel
theorem dX11_newSlot_1 : decode cX11_newSlot 1 = .ok (.istore_n 2, 1) := by decide +kernel
theorem dX11_newSlot_2 : decode cX11_newSlot 2 = .ok (.aload_n 0, 1) := by decide +kernel
theorem dX11_newSlot_3 : decode cX11_newSlot 3 = .ok (.getfield 19, 3) := by decide +kernel
theorem dX11_newSlot_6 : decode cX11_newSlot 6 = .ok (.iload_n 2, 1) := by decide +kernel
theorem dX11_newSlot_7 : decode cX11_newSlot 7 = .ok (.baload, 1) := by decide +kernel
theorem dX11_newSlot_8 : decode cX11_newSlot 8 = .ok (.ifCond .eq 9, 3) := by decide +kernel
theorem dX11_newSlot_11 : decode cX11_newSlot 11 = .ok (.iinc 2 1, 3) := by decide +kernel
theorem dX11_newSlot_14 : decode cX11_newSlot 14 = .ok (.goto (-12), 3) := by decide +kernel
theorem dX11_newSlot_17 : decode cX11_newSlot 17 = .ok (.aload_n 0, 1) := by decide +kernel
theorem dX11_newSlot_18 : decode cX11_newSlot 18 = .ok (.getfield 19, 3) := by decide +kernel
theorem dX11_newSlot_21 : decode cX11_newSlot 21 = .ok (.iload_n 2, 1) := by decide +kernel
theorem dX11_newSlot_22 : decode cX11_newSlot 22 = .ok (.iconst 1, 1) := by decide +kernel
theorem dX11_newSlot_23 : decode cX11_newSlot 23 = .ok (.bastore, 1) := by decide +kernel
theorem dX11_newSlot_24 : decode cX11_newSlot 24 = .ok (.aload_n 0, 1) := by decide +kernel
theorem dX11_newSlot_25 : decode cX11_newSlot 25 = .ok (.getfield 22, 3) := by decide +kernel
theorem dX11_newSlot_28 : decode cX11_newSlot 28 = .ok (.iload_n 2, 1) := by decide +kernel
theorem dX11_newSlot_29 : decode cX11_newSlot 29 = .ok (.iload_n 1, 1) := by decide +kernel
theorem dX11_newSlot_30 : decode cX11_newSlot 30 = .ok (.iastore, 1) := by decide +kernel
theorem dX11_newSlot_31 : decode cX11_newSlot 31 = .ok (.aload_n 0, 1) := by decide +kernel
theorem dX11_newSlot_32 : decode cX11_newSlot 32 = .ok (.getfield 25, 3) := by decide +kernel
theorem dX11_newSlot_35 : decode cX11_newSlot 35 = .ok (.iload_n 2, 1) := by decide +kernel
theorem dX11_newSlot_36 : decode cX11_newSlot 36 = .ok (.iconst (-1), 1) := by decide +kernel
theorem dX11_newSlot_37 : decode cX11_newSlot 37 = .ok (.iastore, 1) := by decide +kernel
theorem dX11_newSlot_38 : decode cX11_newSlot 38 = .ok (.aload_n 0, 1) := by decide +kernel
theorem dX11_newSlot_39 : decode cX11_newSlot 39 = .ok (.getfield 37, 3) := by decide +kernel
theorem dX11_newSlot_42 : decode cX11_newSlot 42 = .ok (.iload_n 2, 1) := by decide +kernel
theorem dX11_newSlot_43 : decode cX11_newSlot 43 = .ok (.iconst 0, 1) := by decide +kernel
theorem dX11_newSlot_44 : decode cX11_newSlot 44 = .ok (.iastore, 1) := by decide +kernel
theorem dX11_newSlot_45 : decode cX11_newSlot 45 = .ok (.aload_n 0, 1) := by decide +kernel
theorem dX11_newSlot_46 : decode cX11_newSlot 46 = .ok (.getfield 40, 3) := by decide +kernel
theorem dX11_newSlot_49 : decode cX11_newSlot 49 = .ok (.iload_n 2, 1) := by decide +kernel
theorem dX11_newSlot_50 : decode cX11_newSlot 50 = .ok (.iconst 0, 1) := by decide +kernel
theorem dX11_newSlot_51 : decode cX11_newSlot 51 = .ok (.iastore, 1) := by decide +kernel
theorem dX11_newSlot_52 : decode cX11_newSlot 52 = .ok (.aload_n 0, 1) := by decide +kernel
theorem dX11_newSlot_53 : decode cX11_newSlot 53 = .ok (.getfield 43, 3) := by decide +kernel
theorem dX11_newSlot_56 : decode cX11_newSlot 56 = .ok (.iload_n 2, 1) := by decide +kernel
theorem dX11_newSlot_57 : decode cX11_newSlot 57 = .ok (.iconst 0, 1) := by decide +kernel
theorem dX11_newSlot_58 : decode cX11_newSlot 58 = .ok (.iastore, 1) := by decide +kernel
theorem dX11_newSlot_59 : decode cX11_newSlot 59 = .ok (.aload_n 0, 1) := by decide +kernel
theorem dX11_newSlot_60 : decode cX11_newSlot 60 = .ok (.getfield 49, 3) := by decide +kernel
theorem dX11_newSlot_63 : decode cX11_newSlot 63 = .ok (.iload_n 2, 1) := by decide +kernel
theorem dX11_newSlot_64 : decode cX11_newSlot 64 = .ok (.iconst 0, 1) := by decide +kernel
theorem dX11_newSlot_65 : decode cX11_newSlot 65 = .ok (.iastore, 1) := by decide +kernel
theorem dX11_newSlot_66 : decode cX11_newSlot 66 = .ok (.aload_n 0, 1) := by decide +kernel
theorem dX11_newSlot_67 : decode cX11_newSlot 67 = .ok (.getfield 55, 3) := by decide +kernel
theorem dX11_newSlot_70 : decode cX11_newSlot 70 = .ok (.iload_n 2, 1) := by decide +kernel
theorem dX11_newSlot_71 : decode cX11_newSlot 71 = .ok (.iconst 0, 1) := by decide +kernel
theorem dX11_newSlot_72 : decode cX11_newSlot 72 = .ok (.bastore, 1) := by decide +kernel
theorem dX11_newSlot_73 : decode cX11_newSlot 73 = .ok (.aload_n 0, 1) := by decide +kernel
theorem dX11_newSlot_74 : decode cX11_newSlot 74 = .ok (.getfield 58, 3) := by decide +kernel
theorem dX11_newSlot_77 : decode cX11_newSlot 77 = .ok (.iload_n 2, 1) := by decide +kernel
theorem dX11_newSlot_78 : decode cX11_newSlot 78 = .ok (.iconst 0, 1) := by decide +kernel
theorem dX11_newSlot_79 : decode cX11_newSlot 79 = .ok (.bastore, 1) := by decide +kernel
theorem dX11_newSlot_80 : decode cX11_newSlot 80 = .ok (.aload_n 0, 1) := by decide +kernel
theorem dX11_newSlot_81 : decode cX11_newSlot 81 = .ok (.getfield 61, 3) := by decide +kernel
theorem dX11_newSlot_84 : decode cX11_newSlot 84 = .ok (.iload_n 2, 1) := by decide +kernel
theorem dX11_newSlot_85 : decode cX11_newSlot 85 = .ok (.iconst 0, 1) := by decide +kernel
theorem dX11_newSlot_86 : decode cX11_newSlot 86 = .ok (.bastore, 1) := by decide +kernel
theorem dX11_newSlot_87 : decode cX11_newSlot 87 = .ok (.aload_n 0, 1) := by decide +kernel
theorem dX11_newSlot_88 : decode cX11_newSlot 88 = .ok (.iload_n 2, 1) := by decide +kernel
theorem dX11_newSlot_89 : decode cX11_newSlot 89 = .ok (.invokevirtual 144, 3) := by decide +kernel
theorem dX11_newSlot_92 : decode cX11_newSlot 92 = .ok (.aload_n 0, 1) := by decide +kernel
theorem dX11_newSlot_93 : decode cX11_newSlot 93 = .ok (.getfield 28, 3) := by decide +kernel
theorem dX11_newSlot_96 : decode cX11_newSlot 96 = .ok (.iload_n 2, 1) := by decide +kernel
theorem dX11_newSlot_97 : decode cX11_newSlot 97 = .ok (.iconst (-1), 1) := by decide +kernel
theorem dX11_newSlot_98 : decode cX11_newSlot 98 = .ok (.iastore, 1) := by decide +kernel
theorem dX11_newSlot_99 : decode cX11_newSlot 99 = .ok (.iload_n 2, 1) := by decide +kernel
theorem dX11_newSlot_100 : decode cX11_newSlot 100 = .ok (.ireturn, 1) := by decide +kernel
theorem dX11_reason_0 : decode cX11_reason 0 = .ok (.iload_n 1, 1) := by decide +kernel
theorem dX11_reason_1 : decode cX11_reason 1 = .ok (.tableswitch 927 1 21 #[99, 128, 157, 128, 187, 225, 254, 360, 374, 437, 454, 516, 527, 533, 571, 577, 660, 715, 769, 826, 897], 99) := by decide +kernel
theorem dX11_reason_100 : decode cX11_reason 100 = .ok (.aload_n 0, 1) := by decide +kernel
theorem dX11_reason_101 : decode cX11_reason 101 = .ok (.iload_n 2, 1) := by decide +kernel
theorem dX11_reason_102 : decode cX11_reason 102 = .ok (.invokevirtual 140, 3) := by decide +kernel
theorem dX11_reason_105 : decode cX11_reason 105 = .ok (.ifCond .ne 8, 3) := by decide +kernel
theorem dX11_reason_108 : decode cX11_reason 108 = .ok (.bipush 9, 2) := by decide +kernel
theorem dX11_reason_110 : decode cX11_reason 110 = .ok (.goto 18, 3) := by decide +kernel
theorem dX11_reason_113 : decode cX11_reason 113 = .ok (.aload_n 0, 1) := by decide +kernel
theorem dX11_reason_114 : decode cX11_reason 114 = .ok (.getfield 9, 3) := by decide +kernel
theorem dX11_reason_117 : decode cX11_reason 117 = .ok (.iload_n 2, 1) := by decide +kernel
theorem dX11_reason_118 : decode cX11_reason 118 = .ok (.baload, 1) := by decide +kernel
theorem dX11_reason_119 : decode cX11_reason 119 = .ok (.ifCond .eq 8, 3) := by decide +kernel
theorem dX11_reason_122 : decode cX11_reason 122 = .ok (.bipush 11, 2) := by decide +kernel
theorem dX11_reason_124 : decode cX11_reason 124 = .ok (.goto 4, 3) := by decide +kernel
theorem dX11_reason_127 : decode cX11_reason 127 = .ok (.iconst 0, 1) := by decide +kernel
theorem dX11_reason_128 : decode cX11_reason 128 = .ok (.ireturn, 1) := by decide +kernel
theorem dX11_reason_129 : decode cX11_reason 129 = .ok (.aload_n 0, 1) := by decide +kernel
theorem dX11_reason_130 : decode cX11_reason 130 = .ok (.iload_n 2, 1) := by decide +kernel
theorem dX11_reason_131 : decode cX11_reason 131 = .ok (.invokevirtual 140, 3) := by decide +kernel
theorem dX11_reason_134 : decode cX11_reason 134 = .ok (.ifCond .ne 8, 3) := by decide +kernel
theorem dX11_reason_137 : decode cX11_reason 137 = .ok (.bipush 9, 2) := by decide +kernel
theorem dX11_reason_139 : decode cX11_reason 139 = .ok (.goto 18, 3) := by decide +kernel
theorem dX11_reason_142 : decode cX11_reason 142 = .ok (.aload_n 0, 1) := by decide +kernel
theorem dX11_reason_143 : decode cX11_reason 143 = .ok (.getfield 9, 3) := by decide +kernel
theorem dX11_reason_146 : decode cX11_reason 146 = .ok (.iload_n 2, 1) := by decide +kernel
theorem dX11_reason_147 : decode cX11_reason 147 = .ok (.baload, 1) := by decide +kernel
theorem dX11_reason_148 : decode cX11_reason 148 = .ok (.ifCond .ne 8, 3) := by decide +kernel
theorem dX11_reason_151 : decode cX11_reason 151 = .ok (.bipush 8, 2) := by decide +kernel
theorem dX11_reason_153 : decode cX11_reason 153 = .ok (.goto 4, 3) := by decide +kernel
theorem dX11_reason_156 : decode cX11_reason 156 = .ok (.iconst 0, 1) := by decide +kernel
theorem dX11_reason_157 : decode cX11_reason 157 = .ok (.ireturn, 1) := by decide +kernel
theorem dX11_reason_158 : decode cX11_reason 158 = .ok (.iload_n 2, 1) := by decide +kernel
theorem dX11_reason_159 : decode cX11_reason 159 = .ok (.iconst 0, 1) := by decide +kernel
theorem dX11_reason_160 : decode cX11_reason 160 = .ok (.sipush 200, 3) := by decide +kernel
theorem dX11_reason_163 : decode cX11_reason 163 = .ok (.invokestatic 136, 3) := by decide +kernel
theorem dX11_reason_166 : decode cX11_reason 166 = .ok (.ifCond .ne 8, 3) := by decide +kernel
theorem dX11_reason_169 : decode cX11_reason 169 = .ok (.bipush 9, 2) := by decide +kernel
theorem dX11_reason_171 : decode cX11_reason 171 = .ok (.goto 16, 3) := by decide +kernel
theorem dX11_reason_174 : decode cX11_reason 174 = .ok (.aload_n 0, 1) := by decide +kernel
theorem dX11_reason_175 : decode cX11_reason 175 = .ok (.getfield 115, 3) := by decide +kernel
theorem dX11_reason_178 : decode cX11_reason 178 = .ok (.ifCond .le 8, 3) := by decide +kernel
theorem dX11_reason_181 : decode cX11_reason 181 = .ok (.bipush 11, 2) := by decide +kernel
theorem dX11_reason_183 : decode cX11_reason 183 = .ok (.goto 4, 3) := by decide +kernel
theorem dX11_reason_186 : decode cX11_reason 186 = .ok (.iconst 0, 1) := by decide +kernel
theorem dX11_reason_187 : decode cX11_reason 187 = .ok (.ireturn, 1) := by decide +kernel
theorem dX11_reason_188 : decode cX11_reason 188 = .ok (.iload_n 2, 1) := by decide +kernel
theorem dX11_reason_189 : decode cX11_reason 189 = .ok (.iconst 1, 1) := by decide +kernel
theorem dX11_reason_190 : decode cX11_reason 190 = .ok (.bipush 8, 2) := by decide +kernel
theorem dX11_reason_192 : decode cX11_reason 192 = .ok (.invokestatic 136, 3) := by decide +kernel
theorem dX11_reason_195 : decode cX11_reason 195 = .ok (.ifCond .eq 12, 3) := by decide +kernel
theorem dX11_reason_198 : decode cX11_reason 198 = .ok (.iload_n 3, 1) := by decide +kernel
theorem dX11_reason_199 : decode cX11_reason 199 = .ok (.iconst 1, 1) := by decide +kernel
theorem dX11_reason_200 : decode cX11_reason 200 = .ok (.iconst 3, 1) := by decide +kernel
theorem dX11_reason_201 : decode cX11_reason 201 = .ok (.invokestatic 136, 3) := by decide +kernel
theorem dX11_reason_204 : decode cX11_reason 204 = .ok (.ifCond .ne 8, 3) := by decide +kernel
theorem dX11_reason_207 : decode cX11_reason 207 = .ok (.bipush 9, 2) := by decide +kernel
theorem dX11_reason_209 : decode cX11_reason 209 = .ok (.goto 16, 3) := by decide +kernel
theorem dX11_reason_212 : decode cX11_reason 212 = .ok (.aload_n 0, 1) := by decide +kernel
theorem dX11_reason_213 : decode cX11_reason 213 = .ok (.getfield 115, 3) := by decide +kernel
theorem dX11_reason_216 : decode cX11_reason 216 = .ok (.ifCond .le 8, 3) := by decide +kernel
theorem dX11_reason_219 : decode cX11_reason 219 = .ok (.bipush 11, 2) := by decide +kernel
theorem dX11_reason_221 : decode cX11_reason 221 = .ok (.goto 4, 3) := by decide +kernel
theorem dX11_reason_224 : decode cX11_reason 224 = .ok (.iconst 0, 1) := by decide +kernel
theorem dX11_reason_225 : decode cX11_reason 225 = .ok (.ireturn, 1) := by decide +kernel
theorem dX11_reason_226 : decode cX11_reason 226 = .ok (.iload_n 2, 1) := by decide +kernel
theorem dX11_reason_227 : decode cX11_reason 227 = .ok (.iconst 0, 1) := by decide +kernel
theorem dX11_reason_228 : decode cX11_reason 228 = .ok (.bipush 99, 2) := by decide +kernel
theorem dX11_reason_230 : decode cX11_reason 230 = .ok (.invokestatic 136, 3) := by decide +kernel
theorem dX11_reason_233 : decode cX11_reason 233 = .ok (.ifCond .ne 8, 3) := by decide +kernel
theorem dX11_reason_236 : decode cX11_reason 236 = .ok (.bipush 9, 2) := by decide +kernel
theorem dX11_reason_238 : decode cX11_reason 238 = .ok (.goto 16, 3) := by decide +kernel
theorem dX11_reason_241 : decode cX11_reason 241 = .ok (.aload_n 0, 1) := by decide +kernel
theorem dX11_reason_242 : decode cX11_reason 242 = .ok (.getfield 115, 3) := by decide +kernel
theorem dX11_reason_245 : decode cX11_reason 245 = .ok (.ifCond .le 8, 3) := by decide +kernel
theorem dX11_reason_248 : decode cX11_reason 248 = .ok (.bipush 11, 2) := by decide +kernel
theorem dX11_reason_250 : decode cX11_reason 250 = .ok (.goto 4, 3) := by decide +kernel
theorem dX11_reason_253 : decode cX11_reason 253 = .ok (.iconst 0, 1) := by decide +kernel
theorem dX11_reason_254 : decode cX11_reason 254 = .ok (.ireturn, 1) := by decide +kernel
theorem dX11_reason_255 : decode cX11_reason 255 = .ok (.aload_n 0, 1) := by decide +kernel
theorem dX11_reason_256 : decode cX11_reason 256 = .ok (.iload_n 2, 1) := by decide +kernel
theorem dX11_reason_257 : decode cX11_reason 257 = .ok (.invokevirtual 140, 3) := by decide +kernel
theorem dX11_reason_260 : decode cX11_reason 260 = .ok (.ifCond .ne 6, 3) := by decide +kernel
theorem dX11_reason_263 : decode cX11_reason 263 = .ok (.bipush 9, 2) := by decide +kernel
theorem dX11_reason_265 : decode cX11_reason 265 = .ok (.ireturn, 1) := by decide +kernel
theorem dX11_reason_266 : decode cX11_reason 266 = .ok (.aload_n 0, 1) := by decide +kernel
theorem dX11_reason_267 : decode cX11_reason 267 = .ok (.getfield 9, 3) := by decide +kernel
theorem dX11_reason_270 : decode cX11_reason 270 = .ok (.iload_n 2, 1) := by decide +kernel
theorem dX11_reason_271 : decode cX11_reason 271 = .ok (.baload, 1) := by decide +kernel
theorem dX11_reason_272 : decode cX11_reason 272 = .ok (.ifCond .ne 6, 3) := by decide +kernel
theorem dX11_reason_275 : decode cX11_reason 275 = .ok (.bipush 8, 2) := by decide +kernel
theorem dX11_reason_277 : decode cX11_reason 277 = .ok (.ireturn, 1) := by decide +kernel
theorem dX11_reason_278 : decode cX11_reason 278 = .ok (.iload_n 2, 1) := by decide +kernel
theorem dX11_reason_279 : decode cX11_reason 279 = .ok (.aload_n 0, 1) := by decide +kernel
theorem dX11_reason_280 : decode cX11_reason 280 = .ok (.getfield 103, 3) := by decide +kernel
theorem dX11_reason_283 : decode cX11_reason 283 = .ok (.if_icmp .eq 11, 3) := by decide +kernel
theorem dX11_reason_286 : decode cX11_reason 286 = .ok (.aload_n 0, 1) := by decide +kernel
theorem dX11_reason_287 : decode cX11_reason 287 = .ok (.getfield 112, 3) := by decide +kernel
theorem dX11_reason_290 : decode cX11_reason 290 = .ok (.iconst (-1), 1) := by decide +kernel
theorem dX11_reason_291 : decode cX11_reason 291 = .ok (.if_icmp .eq 5, 3) := by decide +kernel
theorem dX11_reason_294 : decode cX11_reason 294 = .ok (.iconst 2, 1) := by decide +kernel
theorem dX11_reason_295 : decode cX11_reason 295 = .ok (.ireturn, 1) := by decide +kernel
theorem dX11_reason_296 : decode cX11_reason 296 = .ok (.aload_n 0, 1) := by decide +kernel
theorem dX11_reason_297 : decode cX11_reason 297 = .ok (.getfield 115, 3) := by decide +kernel
theorem dX11_reason_300 : decode cX11_reason 300 = .ok (.ifCond .ne 5, 3) := by decide +kernel
theorem dX11_reason_303 : decode cX11_reason 303 = .ok (.iconst 0, 1) := by decide +kernel
theorem dX11_reason_304 : decode cX11_reason 304 = .ok (.ireturn, 1) := by decide +kernel
theorem dX11_reason_305 : decode cX11_reason 305 = .ok (.aload_n 0, 1) := by decide +kernel
theorem dX11_reason_306 : decode cX11_reason 306 = .ok (.getfield 22, 3) := by decide +kernel
theorem dX11_reason_309 : decode cX11_reason 309 = .ok (.aload_n 0, 1) := by decide +kernel
theorem dX11_reason_310 : decode cX11_reason 310 = .ok (.invokevirtual 155, 3) := by decide +kernel
theorem dX11_reason_313 : decode cX11_reason 313 = .ok (.iaload, 1) := by decide +kernel
theorem dX11_reason_314 : decode cX11_reason 314 = .ok (.bipush 6, 2) := by decide +kernel
theorem dX11_reason_316 : decode cX11_reason 316 = .ok (.if_icmp .eq 38, 3) := by decide +kernel
theorem dX11_reason_319 : decode cX11_reason 319 = .ok (.aload_n 0, 1) := by decide +kernel
theorem dX11_reason_320 : decode cX11_reason 320 = .ok (.getfield 52, 3) := by decide +kernel
theorem dX11_reason_323 : decode cX11_reason 323 = .ok (.aload_n 0, 1) := by decide +kernel
theorem dX11_reason_324 : decode cX11_reason 324 = .ok (.invokevirtual 155, 3) := by decide +kernel
theorem dX11_reason_327 : decode cX11_reason 327 = .ok (.baload, 1) := by decide +kernel
theorem dX11_reason_328 : decode cX11_reason 328 = .ok (.ifCond .ne 26, 3) := by decide +kernel
theorem dX11_reason_331 : decode cX11_reason 331 = .ok (.aload_n 0, 1) := by decide +kernel
theorem dX11_reason_332 : decode cX11_reason 332 = .ok (.getfield 109, 3) := by decide +kernel
theorem dX11_reason_335 : decode cX11_reason 335 = .ok (.ifCond .le 24, 3) := by decide +kernel
theorem dX11_reason_338 : decode cX11_reason 338 = .ok (.aload_n 0, 1) := by decide +kernel
theorem dX11_reason_339 : decode cX11_reason 339 = .ok (.getfield 31, 3) := by decide +kernel
theorem dX11_reason_342 : decode cX11_reason 342 = .ok (.aload_n 0, 1) := by decide +kernel
theorem dX11_reason_343 : decode cX11_reason 343 = .ok (.invokevirtual 155, 3) := by decide +kernel
theorem dX11_reason_346 : decode cX11_reason 346 = .ok (.iaload, 1) := by decide +kernel
theorem dX11_reason_347 : decode cX11_reason 347 = .ok (.aload_n 0, 1) := by decide +kernel
theorem dX11_reason_348 : decode cX11_reason 348 = .ok (.getfield 109, 3) := by decide +kernel
theorem dX11_reason_351 : decode cX11_reason 351 = .ok (.if_icmp .lt 8, 3) := by decide +kernel
theorem dX11_reason_354 : decode cX11_reason 354 = .ok (.bipush 6, 2) := by decide +kernel
theorem dX11_reason_356 : decode cX11_reason 356 = .ok (.goto 4, 3) := by decide +kernel
theorem dX11_reason_359 : decode cX11_reason 359 = .ok (.iconst 0, 1) := by decide +kernel
theorem dX11_reason_360 : decode cX11_reason 360 = .ok (.ireturn, 1) := by decide +kernel
theorem dX11_reason_361 : decode cX11_reason 361 = .ok (.aload_n 0, 1) := by decide +kernel
theorem dX11_reason_362 : decode cX11_reason 362 = .ok (.getfield 112, 3) := by decide +kernel
theorem dX11_reason_365 : decode cX11_reason 365 = .ok (.iconst (-1), 1) := by decide +kernel
theorem dX11_reason_366 : decode cX11_reason 366 = .ok (.if_icmp .ne 7, 3) := by decide +kernel
theorem dX11_reason_369 : decode cX11_reason 369 = .ok (.iconst 2, 1) := by decide +kernel
theorem dX11_reason_370 : decode cX11_reason 370 = .ok (.goto 4, 3) := by decide +kernel
theorem dX11_reason_373 : decode cX11_reason 373 = .ok (.iconst 0, 1) := by decide +kernel
theorem dX11_reason_374 : decode cX11_reason 374 = .ok (.ireturn, 1) := by decide +kernel
theorem dX11_reason_375 : decode cX11_reason 375 = .ok (.aload_n 0, 1) := by decide +kernel
theorem dX11_reason_376 : decode cX11_reason 376 = .ok (.getfield 115, 3) := by decide +kernel
theorem dX11_reason_379 : decode cX11_reason 379 = .ok (.ifCond .ne 6, 3) := by decide +kernel
theorem dX11_reason_382 : decode cX11_reason 382 = .ok (.bipush 7, 2) := by decide +kernel
theorem dX11_reason_384 : decode cX11_reason 384 = .ok (.ireturn, 1) := by decide +kernel
theorem dX11_reason_385 : decode cX11_reason 385 = .ok (.aload_n 0, 1) := by decide +kernel
theorem dX11_reason_386 : decode cX11_reason 386 = .ok (.getfield 112, 3) := by decide +kernel
theorem dX11_reason_389 : decode cX11_reason 389 = .ok (.iconst (-1), 1) := by decide +kernel
theorem dX11_reason_390 : decode cX11_reason 390 = .ok (.if_icmp .eq 11, 3) := by decide +kernel
theorem dX11_reason_393 : decode cX11_reason 393 = .ok (.aload_n 0, 1) := by decide +kernel
theorem dX11_reason_394 : decode cX11_reason 394 = .ok (.getfield 112, 3) := by decide +kernel
theorem dX11_reason_397 : decode cX11_reason 397 = .ok (.iload_n 2, 1) := by decide +kernel
theorem dX11_reason_398 : decode cX11_reason 398 = .ok (.if_icmp .eq 5, 3) := by decide +kernel
theorem dX11_reason_401 : decode cX11_reason 401 = .ok (.iconst 2, 1) := by decide +kernel
theorem dX11_reason_402 : decode cX11_reason 402 = .ok (.ireturn, 1) := by decide +kernel
theorem dX11_reason_403 : decode cX11_reason 403 = .ok (.aload_n 0, 1) := by decide +kernel
theorem dX11_reason_404 : decode cX11_reason 404 = .ok (.invokevirtual 159, 3) := by decide +kernel
theorem dX11_reason_407 : decode cX11_reason 407 = .ok (.ifCond .ne 5, 3) := by decide +kernel
theorem dX11_reason_410 : decode cX11_reason 410 = .ok (.iconst 3, 1) := by decide +kernel
theorem dX11_reason_411 : decode cX11_reason 411 = .ok (.ireturn, 1) := by decide +kernel
theorem dX11_reason_412 : decode cX11_reason 412 = .ok (.aload_n 0, 1) := by decide +kernel
theorem dX11_reason_413 : decode cX11_reason 413 = .ok (.getfield 22, 3) := by decide +kernel
theorem dX11_reason_416 : decode cX11_reason 416 = .ok (.aload_n 0, 1) := by decide +kernel
theorem dX11_reason_417 : decode cX11_reason 417 = .ok (.invokevirtual 155, 3) := by decide +kernel
theorem dX11_reason_420 : decode cX11_reason 420 = .ok (.iaload, 1) := by decide +kernel
theorem dX11_reason_421 : decode cX11_reason 421 = .ok (.bipush 6, 2) := by decide +kernel
theorem dX11_reason_423 : decode cX11_reason 423 = .ok (.bipush 8, 2) := by decide +kernel
theorem dX11_reason_425 : decode cX11_reason 425 = .ok (.invokestatic 136, 3) := by decide +kernel
theorem dX11_reason_428 : decode cX11_reason 428 = .ok (.ifCond .eq 8, 3) := by decide +kernel
theorem dX11_reason_431 : decode cX11_reason 431 = .ok (.bipush 6, 2) := by decide +kernel
theorem dX11_reason_433 : decode cX11_reason 433 = .ok (.goto 4, 3) := by decide +kernel
theorem dX11_reason_436 : decode cX11_reason 436 = .ok (.iconst 0, 1) := by decide +kernel
theorem dX11_reason_437 : decode cX11_reason 437 = .ok (.ireturn, 1) := by decide +kernel
theorem dX11_reason_438 : decode cX11_reason 438 = .ok (.iload_n 2, 1) := by decide +kernel
theorem dX11_reason_439 : decode cX11_reason 439 = .ok (.iconst 1, 1) := by decide +kernel
theorem dX11_reason_440 : decode cX11_reason 440 = .ok (.bipush 8, 2) := by decide +kernel
theorem dX11_reason_442 : decode cX11_reason 442 = .ok (.invokestatic 136, 3) := by decide +kernel
theorem dX11_reason_445 : decode cX11_reason 445 = .ok (.ifCond .ne 8, 3) := by decide +kernel
theorem dX11_reason_448 : decode cX11_reason 448 = .ok (.bipush 9, 2) := by decide +kernel
theorem dX11_reason_450 : decode cX11_reason 450 = .ok (.goto 4, 3) := by decide +kernel
theorem dX11_reason_453 : decode cX11_reason 453 = .ok (.iconst 0, 1) := by decide +kernel
theorem dX11_reason_454 : decode cX11_reason 454 = .ok (.ireturn, 1) := by decide +kernel
theorem dX11_reason_455 : decode cX11_reason 455 = .ok (.aload_n 0, 1) := by decide +kernel
theorem dX11_reason_456 : decode cX11_reason 456 = .ok (.iconst 2, 1) := by decide +kernel
theorem dX11_reason_457 : decode cX11_reason 457 = .ok (.iconst 3, 1) := by decide +kernel
theorem dX11_reason_458 : decode cX11_reason 458 = .ok (.invokevirtual 163, 3) := by decide +kernel
theorem dX11_reason_461 : decode cX11_reason 461 = .ok (.ifCond .eq 17, 3) := by decide +kernel
theorem dX11_reason_464 : decode cX11_reason 464 = .ok (.aload_n 0, 1) := by decide +kernel
theorem dX11_reason_465 : decode cX11_reason 465 = .ok (.getfield 55, 3) := by decide +kernel
theorem dX11_reason_468 : decode cX11_reason 468 = .ok (.aload_n 0, 1) := by decide +kernel
theorem dX11_reason_469 : decode cX11_reason 469 = .ok (.getfield 75, 3) := by decide +kernel
theorem dX11_reason_472 : decode cX11_reason 472 = .ok (.iconst 0, 1) := by decide +kernel
theorem dX11_reason_473 : decode cX11_reason 473 = .ok (.iaload, 1) := by decide +kernel
theorem dX11_reason_474 : decode cX11_reason 474 = .ok (.baload, 1) := by decide +kernel
theorem dX11_reason_475 : decode cX11_reason 475 = .ok (.ifCond .eq 8, 3) := by decide +kernel
theorem dX11_reason_478 : decode cX11_reason 478 = .ok (.bipush 11, 2) := by decide +kernel
theorem dX11_reason_480 : decode cX11_reason 480 = .ok (.goto 36, 3) := by decide +kernel
theorem dX11_reason_483 : decode cX11_reason 483 = .ok (.iload_n 2, 1) := by decide +kernel
theorem dX11_reason_484 : decode cX11_reason 484 = .ok (.iconst 0, 1) := by decide +kernel
theorem dX11_reason_485 : decode cX11_reason 485 = .ok (.sipush 400, 3) := by decide +kernel
theorem dX11_reason_488 : decode cX11_reason 488 = .ok (.invokestatic 136, 3) := by decide +kernel
theorem dX11_reason_491 : decode cX11_reason 491 = .ok (.ifCond .eq 19, 3) := by decide +kernel
theorem dX11_reason_494 : decode cX11_reason 494 = .ok (.iload_n 3, 1) := by decide +kernel
theorem dX11_reason_495 : decode cX11_reason 495 = .ok (.iconst 0, 1) := by decide +kernel
theorem dX11_reason_496 : decode cX11_reason 496 = .ok (.sipush 400, 3) := by decide +kernel
theorem dX11_reason_499 : decode cX11_reason 499 = .ok (.invokestatic 136, 3) := by decide +kernel
theorem dX11_reason_502 : decode cX11_reason 502 = .ok (.ifCond .eq 8, 3) := by decide +kernel
theorem dX11_reason_505 : decode cX11_reason 505 = .ok (.iload_n 3, 1) := by decide +kernel
theorem dX11_reason_506 : decode cX11_reason 506 = .ok (.iload_n 2, 1) := by decide +kernel
theorem dX11_reason_507 : decode cX11_reason 507 = .ok (.if_icmp .ge 8, 3) := by decide +kernel
theorem dX11_reason_510 : decode cX11_reason 510 = .ok (.bipush 9, 2) := by decide +kernel
theorem dX11_reason_512 : decode cX11_reason 512 = .ok (.goto 4, 3) := by decide +kernel
theorem dX11_reason_515 : decode cX11_reason 515 = .ok (.iconst 0, 1) := by decide +kernel
theorem dX11_reason_516 : decode cX11_reason 516 = .ok (.ireturn, 1) := by decide +kernel
theorem dX11_reason_517 : decode cX11_reason 517 = .ok (.aload_n 0, 1) := by decide +kernel
theorem dX11_reason_518 : decode cX11_reason 518 = .ok (.iload_n 2, 1) := by decide +kernel
theorem dX11_reason_519 : decode cX11_reason 519 = .ok (.iload_n 3, 1) := by decide +kernel
theorem dX11_reason_520 : decode cX11_reason 520 = .ok (.iload 4, 2) := by decide +kernel
theorem dX11_reason_522 : decode cX11_reason 522 = .ok (.iload 5, 2) := by decide +kernel
theorem dX11_reason_524 : decode cX11_reason 524 = .ok (.invokevirtual 167, 3) := by decide +kernel
theorem dX11_reason_527 : decode cX11_reason 527 = .ok (.ireturn, 1) := by decide +kernel
theorem dX11_reason_528 : decode cX11_reason 528 = .ok (.aload_n 0, 1) := by decide +kernel
theorem dX11_reason_529 : decode cX11_reason 529 = .ok (.iload_n 2, 1) := by decide +kernel
theorem dX11_reason_530 : decode cX11_reason 530 = .ok (.invokevirtual 171, 3) := by decide +kernel
theorem dX11_reason_533 : decode cX11_reason 533 = .ok (.ireturn, 1) := by decide +kernel
theorem dX11_reason_534 : decode cX11_reason 534 = .ok (.iload_n 2, 1) := by decide +kernel
theorem dX11_reason_535 : decode cX11_reason 535 = .ok (.iconst 0, 1) := by decide +kernel
theorem dX11_reason_536 : decode cX11_reason 536 = .ok (.bipush 7, 2) := by decide +kernel
theorem dX11_reason_538 : decode cX11_reason 538 = .ok (.invokestatic 136, 3) := by decide +kernel
theorem dX11_reason_541 : decode cX11_reason 541 = .ok (.ifCond .ne 8, 3) := by decide +kernel
theorem dX11_reason_544 : decode cX11_reason 544 = .ok (.bipush 9, 2) := by decide +kernel
theorem dX11_reason_546 : decode cX11_reason 546 = .ok (.goto 25, 3) := by decide +kernel
theorem dX11_reason_549 : decode cX11_reason 549 = .ok (.aload_n 0, 1) := by decide +kernel
theorem dX11_reason_550 : decode cX11_reason 550 = .ok (.getfield 130, 3) := by decide +kernel
theorem dX11_reason_553 : decode cX11_reason 553 = .ok (.ifCond .gt 12, 3) := by decide +kernel
theorem dX11_reason_556 : decode cX11_reason 556 = .ok (.aload_n 0, 1) := by decide +kernel
theorem dX11_reason_557 : decode cX11_reason 557 = .ok (.getfield 81, 3) := by decide +kernel
theorem dX11_reason_560 : decode cX11_reason 560 = .ok (.iload_n 2, 1) := by decide +kernel
theorem dX11_reason_561 : decode cX11_reason 561 = .ok (.iaload, 1) := by decide +kernel
theorem dX11_reason_562 : decode cX11_reason 562 = .ok (.ifCond .ne 8, 3) := by decide +kernel
theorem dX11_reason_565 : decode cX11_reason 565 = .ok (.bipush 11, 2) := by decide +kernel
theorem dX11_reason_567 : decode cX11_reason 567 = .ok (.goto 4, 3) := by decide +kernel
theorem dX11_reason_570 : decode cX11_reason 570 = .ok (.iconst 0, 1) := by decide +kernel
theorem dX11_reason_571 : decode cX11_reason 571 = .ok (.ireturn, 1) := by decide +kernel
theorem dX11_reason_572 : decode cX11_reason 572 = .ok (.aload_n 0, 1) := by decide +kernel
theorem dX11_reason_573 : decode cX11_reason 573 = .ok (.iload_n 2, 1) := by decide +kernel
theorem dX11_reason_574 : decode cX11_reason 574 = .ok (.invokevirtual 175, 3) := by decide +kernel
theorem dX11_reason_577 : decode cX11_reason 577 = .ok (.ireturn, 1) := by decide +kernel
theorem dX11_reason_578 : decode cX11_reason 578 = .ok (.aload_n 0, 1) := by decide +kernel
theorem dX11_reason_579 : decode cX11_reason 579 = .ok (.getfield 115, 3) := by decide +kernel
theorem dX11_reason_582 : decode cX11_reason 582 = .ok (.ifCond .ne 6, 3) := by decide +kernel
theorem dX11_reason_585 : decode cX11_reason 585 = .ok (.bipush 7, 2) := by decide +kernel
theorem dX11_reason_587 : decode cX11_reason 587 = .ok (.ireturn, 1) := by decide +kernel
theorem dX11_reason_588 : decode cX11_reason 588 = .ok (.aload_n 0, 1) := by decide +kernel
theorem dX11_reason_589 : decode cX11_reason 589 = .ok (.iload_n 2, 1) := by decide +kernel
theorem dX11_reason_590 : decode cX11_reason 590 = .ok (.invokevirtual 140, 3) := by decide +kernel
theorem dX11_reason_593 : decode cX11_reason 593 = .ok (.ifCond .ne 6, 3) := by decide +kernel
theorem dX11_reason_596 : decode cX11_reason 596 = .ok (.bipush 9, 2) := by decide +kernel
theorem dX11_reason_598 : decode cX11_reason 598 = .ok (.ireturn, 1) := by decide +kernel
theorem dX11_reason_599 : decode cX11_reason 599 = .ok (.aload_n 0, 1) := by decide +kernel
theorem dX11_reason_600 : decode cX11_reason 600 = .ok (.getfield 9, 3) := by decide +kernel
theorem dX11_reason_603 : decode cX11_reason 603 = .ok (.iload_n 2, 1) := by decide +kernel
theorem dX11_reason_604 : decode cX11_reason 604 = .ok (.baload, 1) := by decide +kernel
theorem dX11_reason_605 : decode cX11_reason 605 = .ok (.ifCond .ne 6, 3) := by decide +kernel
theorem dX11_reason_608 : decode cX11_reason 608 = .ok (.bipush 8, 2) := by decide +kernel
theorem dX11_reason_610 : decode cX11_reason 610 = .ok (.ireturn, 1) := by decide +kernel
theorem dX11_reason_611 : decode cX11_reason 611 = .ok (.aload_n 0, 1) := by decide +kernel
theorem dX11_reason_612 : decode cX11_reason 612 = .ok (.invokevirtual 159, 3) := by decide +kernel
theorem dX11_reason_615 : decode cX11_reason 615 = .ok (.ifCond .ne 17, 3) := by decide +kernel
theorem dX11_reason_618 : decode cX11_reason 618 = .ok (.aload_n 0, 1) := by decide +kernel
theorem dX11_reason_619 : decode cX11_reason 619 = .ok (.getfield 22, 3) := by decide +kernel
theorem dX11_reason_622 : decode cX11_reason 622 = .ok (.aload_n 0, 1) := by decide +kernel
theorem dX11_reason_623 : decode cX11_reason 623 = .ok (.invokevirtual 155, 3) := by decide +kernel
theorem dX11_reason_626 : decode cX11_reason 626 = .ok (.iaload, 1) := by decide +kernel
theorem dX11_reason_627 : decode cX11_reason 627 = .ok (.bipush 9, 2) := by decide +kernel
theorem dX11_reason_629 : decode cX11_reason 629 = .ok (.if_icmp .ne 5, 3) := by decide +kernel
theorem dX11_reason_632 : decode cX11_reason 632 = .ok (.iconst 3, 1) := by decide +kernel
theorem dX11_reason_633 : decode cX11_reason 633 = .ok (.ireturn, 1) := by decide +kernel
theorem dX11_reason_634 : decode cX11_reason 634 = .ok (.iload_n 2, 1) := by decide +kernel
theorem dX11_reason_635 : decode cX11_reason 635 = .ok (.aload_n 0, 1) := by decide +kernel
theorem dX11_reason_636 : decode cX11_reason 636 = .ok (.getfield 25, 3) := by decide +kernel
theorem dX11_reason_639 : decode cX11_reason 639 = .ok (.aload_n 0, 1) := by decide +kernel
theorem dX11_reason_640 : decode cX11_reason 640 = .ok (.invokevirtual 155, 3) := by decide +kernel
theorem dX11_reason_643 : decode cX11_reason 643 = .ok (.iaload, 1) := by decide +kernel
theorem dX11_reason_644 : decode cX11_reason 644 = .ok (.if_icmp .eq 11, 3) := by decide +kernel
theorem dX11_reason_647 : decode cX11_reason 647 = .ok (.iload_n 2, 1) := by decide +kernel
theorem dX11_reason_648 : decode cX11_reason 648 = .ok (.aload_n 0, 1) := by decide +kernel
theorem dX11_reason_649 : decode cX11_reason 649 = .ok (.getfield 103, 3) := by decide +kernel
theorem dX11_reason_652 : decode cX11_reason 652 = .ok (.if_icmp .ne 7, 3) := by decide +kernel
theorem dX11_reason_655 : decode cX11_reason 655 = .ok (.iconst 2, 1) := by decide +kernel
theorem dX11_reason_656 : decode cX11_reason 656 = .ok (.goto 4, 3) := by decide +kernel
theorem dX11_reason_659 : decode cX11_reason 659 = .ok (.iconst 0, 1) := by decide +kernel
theorem dX11_reason_660 : decode cX11_reason 660 = .ok (.ireturn, 1) := by decide +kernel
theorem dX11_reason_661 : decode cX11_reason 661 = .ok (.aload_n 0, 1) := by decide +kernel
theorem dX11_reason_662 : decode cX11_reason 662 = .ok (.getfield 115, 3) := by decide +kernel
theorem dX11_reason_665 : decode cX11_reason 665 = .ok (.ifCond .ne 6, 3) := by decide +kernel
theorem dX11_reason_668 : decode cX11_reason 668 = .ok (.bipush 7, 2) := by decide +kernel
theorem dX11_reason_670 : decode cX11_reason 670 = .ok (.ireturn, 1) := by decide +kernel
theorem dX11_reason_671 : decode cX11_reason 671 = .ok (.aload_n 0, 1) := by decide +kernel
theorem dX11_reason_672 : decode cX11_reason 672 = .ok (.iload_n 2, 1) := by decide +kernel
theorem dX11_reason_673 : decode cX11_reason 673 = .ok (.invokevirtual 140, 3) := by decide +kernel
theorem dX11_reason_676 : decode cX11_reason 676 = .ok (.ifCond .eq 12, 3) := by decide +kernel
theorem dX11_reason_679 : decode cX11_reason 679 = .ok (.iload_n 3, 1) := by decide +kernel
theorem dX11_reason_680 : decode cX11_reason 680 = .ok (.iconst 0, 1) := by decide +kernel
theorem dX11_reason_681 : decode cX11_reason 681 = .ok (.iconst 2, 1) := by decide +kernel
theorem dX11_reason_682 : decode cX11_reason 682 = .ok (.invokestatic 136, 3) := by decide +kernel
theorem dX11_reason_685 : decode cX11_reason 685 = .ok (.ifCond .ne 6, 3) := by decide +kernel
theorem dX11_reason_688 : decode cX11_reason 688 = .ok (.bipush 9, 2) := by decide +kernel
theorem dX11_reason_690 : decode cX11_reason 690 = .ok (.ireturn, 1) := by decide +kernel
theorem dX11_reason_691 : decode cX11_reason 691 = .ok (.aload_n 0, 1) := by decide +kernel
theorem dX11_reason_692 : decode cX11_reason 692 = .ok (.getfield 9, 3) := by decide +kernel
theorem dX11_reason_695 : decode cX11_reason 695 = .ok (.iload_n 2, 1) := by decide +kernel
theorem dX11_reason_696 : decode cX11_reason 696 = .ok (.baload, 1) := by decide +kernel
theorem dX11_reason_697 : decode cX11_reason 697 = .ok (.ifCond .ne 6, 3) := by decide +kernel
theorem dX11_reason_700 : decode cX11_reason 700 = .ok (.bipush 8, 2) := by decide +kernel
theorem dX11_reason_702 : decode cX11_reason 702 = .ok (.ireturn, 1) := by decide +kernel
theorem dX11_reason_703 : decode cX11_reason 703 = .ok (.aload_n 0, 1) := by decide +kernel
theorem dX11_reason_704 : decode cX11_reason 704 = .ok (.invokevirtual 159, 3) := by decide +kernel
theorem dX11_reason_707 : decode cX11_reason 707 = .ok (.ifCond .eq 7, 3) := by decide +kernel
theorem dX11_reason_710 : decode cX11_reason 710 = .ok (.iconst 0, 1) := by decide +kernel
theorem dX11_reason_711 : decode cX11_reason 711 = .ok (.goto 4, 3) := by decide +kernel
theorem dX11_reason_714 : decode cX11_reason 714 = .ok (.iconst 3, 1) := by decide +kernel
theorem dX11_reason_715 : decode cX11_reason 715 = .ok (.ireturn, 1) := by decide +kernel
theorem dX11_reason_716 : decode cX11_reason 716 = .ok (.aload_n 0, 1) := by decide +kernel
theorem dX11_reason_717 : decode cX11_reason 717 = .ok (.getfield 115, 3) := by decide +kernel
theorem dX11_reason_720 : decode cX11_reason 720 = .ok (.ifCond .ne 6, 3) := by decide +kernel
theorem dX11_reason_723 : decode cX11_reason 723 = .ok (.bipush 7, 2) := by decide +kernel
theorem dX11_reason_725 : decode cX11_reason 725 = .ok (.ireturn, 1) := by decide +kernel
theorem dX11_reason_726 : decode cX11_reason 726 = .ok (.aload_n 0, 1) := by decide +kernel
theorem dX11_reason_727 : decode cX11_reason 727 = .ok (.getfield 22, 3) := by decide +kernel
theorem dX11_reason_730 : decode cX11_reason 730 = .ok (.aload_n 0, 1) := by decide +kernel
theorem dX11_reason_731 : decode cX11_reason 731 = .ok (.invokevirtual 155, 3) := by decide +kernel
theorem dX11_reason_734 : decode cX11_reason 734 = .ok (.iaload, 1) := by decide +kernel
theorem dX11_reason_735 : decode cX11_reason 735 = .ok (.bipush 9, 2) := by decide +kernel
theorem dX11_reason_737 : decode cX11_reason 737 = .ok (.if_icmp .eq 16, 3) := by decide +kernel
theorem dX11_reason_740 : decode cX11_reason 740 = .ok (.iload_n 2, 1) := by decide +kernel
theorem dX11_reason_741 : decode cX11_reason 741 = .ok (.aload_n 0, 1) := by decide +kernel
theorem dX11_reason_742 : decode cX11_reason 742 = .ok (.getfield 25, 3) := by decide +kernel
theorem dX11_reason_745 : decode cX11_reason 745 = .ok (.aload_n 0, 1) := by decide +kernel
theorem dX11_reason_746 : decode cX11_reason 746 = .ok (.invokevirtual 155, 3) := by decide +kernel
theorem dX11_reason_749 : decode cX11_reason 749 = .ok (.iaload, 1) := by decide +kernel
theorem dX11_reason_750 : decode cX11_reason 750 = .ok (.if_icmp .eq 5, 3) := by decide +kernel
theorem dX11_reason_753 : decode cX11_reason 753 = .ok (.iconst 2, 1) := by decide +kernel
theorem dX11_reason_754 : decode cX11_reason 754 = .ok (.ireturn, 1) := by decide +kernel
theorem dX11_reason_755 : decode cX11_reason 755 = .ok (.aload_n 0, 1) := by decide +kernel
theorem dX11_reason_756 : decode cX11_reason 756 = .ok (.iload_n 2, 1) := by decide +kernel
theorem dX11_reason_757 : decode cX11_reason 757 = .ok (.invokevirtual 178, 3) := by decide +kernel
theorem dX11_reason_760 : decode cX11_reason 760 = .ok (.ifCond .eq 7, 3) := by decide +kernel
theorem dX11_reason_763 : decode cX11_reason 763 = .ok (.iconst 0, 1) := by decide +kernel
theorem dX11_reason_764 : decode cX11_reason 764 = .ok (.goto 5, 3) := by decide +kernel
theorem dX11_reason_767 : decode cX11_reason 767 = .ok (.bipush 8, 2) := by decide +kernel
theorem dX11_reason_769 : decode cX11_reason 769 = .ok (.ireturn, 1) := by decide +kernel
theorem dX11_reason_770 : decode cX11_reason 770 = .ok (.aload_n 0, 1) := by decide +kernel
theorem dX11_reason_771 : decode cX11_reason 771 = .ok (.aload_n 0, 1) := by decide +kernel
theorem dX11_reason_772 : decode cX11_reason 772 = .ok (.getfield 103, 3) := by decide +kernel
theorem dX11_reason_775 : decode cX11_reason 775 = .ok (.invokevirtual 178, 3) := by decide +kernel
theorem dX11_reason_778 : decode cX11_reason 778 = .ok (.ifCond .ne 6, 3) := by decide +kernel
theorem dX11_reason_781 : decode cX11_reason 781 = .ok (.bipush 8, 2) := by decide +kernel
theorem dX11_reason_783 : decode cX11_reason 783 = .ok (.ireturn, 1) := by decide +kernel
theorem dX11_reason_784 : decode cX11_reason 784 = .ok (.aload_n 0, 1) := by decide +kernel
theorem dX11_reason_785 : decode cX11_reason 785 = .ok (.getfield 115, 3) := by decide +kernel
theorem dX11_reason_788 : decode cX11_reason 788 = .ok (.ifCond .ne 6, 3) := by decide +kernel
theorem dX11_reason_791 : decode cX11_reason 791 = .ok (.bipush 7, 2) := by decide +kernel
theorem dX11_reason_793 : decode cX11_reason 793 = .ok (.ireturn, 1) := by decide +kernel
theorem dX11_reason_794 : decode cX11_reason 794 = .ok (.aload_n 0, 1) := by decide +kernel
theorem dX11_reason_795 : decode cX11_reason 795 = .ok (.getfield 22, 3) := by decide +kernel
theorem dX11_reason_798 : decode cX11_reason 798 = .ok (.aload_n 0, 1) := by decide +kernel
theorem dX11_reason_799 : decode cX11_reason 799 = .ok (.invokevirtual 155, 3) := by decide +kernel
theorem dX11_reason_802 : decode cX11_reason 802 = .ok (.iaload, 1) := by decide +kernel
theorem dX11_reason_803 : decode cX11_reason 803 = .ok (.bipush 9, 2) := by decide +kernel
theorem dX11_reason_805 : decode cX11_reason 805 = .ok (.if_icmp .ne 6, 3) := by decide +kernel
theorem dX11_reason_808 : decode cX11_reason 808 = .ok (.bipush 11, 2) := by decide +kernel
theorem dX11_reason_810 : decode cX11_reason 810 = .ok (.ireturn, 1) := by decide +kernel
theorem dX11_reason_811 : decode cX11_reason 811 = .ok (.aload_n 0, 1) := by decide +kernel
theorem dX11_reason_812 : decode cX11_reason 812 = .ok (.getfield 115, 3) := by decide +kernel
theorem dX11_reason_815 : decode cX11_reason 815 = .ok (.bipush 9, 2) := by decide +kernel
theorem dX11_reason_817 : decode cX11_reason 817 = .ok (.if_icmp .ne 8, 3) := by decide +kernel
theorem dX11_reason_820 : decode cX11_reason 820 = .ok (.bipush 10, 2) := by decide +kernel
theorem dX11_reason_822 : decode cX11_reason 822 = .ok (.goto 4, 3) := by decide +kernel
theorem dX11_reason_825 : decode cX11_reason 825 = .ok (.iconst 0, 1) := by decide +kernel
theorem dX11_reason_826 : decode cX11_reason 826 = .ok (.ireturn, 1) := by decide +kernel
theorem dX11_reason_827 : decode cX11_reason 827 = .ok (.aload_n 0, 1) := by decide +kernel
theorem dX11_reason_828 : decode cX11_reason 828 = .ok (.getfield 115, 3) := by decide +kernel
theorem dX11_reason_831 : decode cX11_reason 831 = .ok (.ifCond .ne 6, 3) := by decide +kernel
theorem dX11_reason_834 : decode cX11_reason 834 = .ok (.bipush 7, 2) := by decide +kernel
theorem dX11_reason_836 : decode cX11_reason 836 = .ok (.ireturn, 1) := by decide +kernel
theorem dX11_reason_837 : decode cX11_reason 837 = .ok (.aload_n 0, 1) := by decide +kernel
theorem dX11_reason_838 : decode cX11_reason 838 = .ok (.getfield 22, 3) := by decide +kernel
theorem dX11_reason_841 : decode cX11_reason 841 = .ok (.aload_n 0, 1) := by decide +kernel
theorem dX11_reason_842 : decode cX11_reason 842 = .ok (.invokevirtual 155, 3) := by decide +kernel
theorem dX11_reason_845 : decode cX11_reason 845 = .ok (.iaload, 1) := by decide +kernel
theorem dX11_reason_846 : decode cX11_reason 846 = .ok (.bipush 9, 2) := by decide +kernel
theorem dX11_reason_848 : decode cX11_reason 848 = .ok (.if_icmp .ne 10, 3) := by decide +kernel
theorem dX11_reason_851 : decode cX11_reason 851 = .ok (.aload_n 0, 1) := by decide +kernel
theorem dX11_reason_852 : decode cX11_reason 852 = .ok (.invokevirtual 159, 3) := by decide +kernel
theorem dX11_reason_855 : decode cX11_reason 855 = .ok (.ifCond .eq 6, 3) := by decide +kernel
theorem dX11_reason_858 : decode cX11_reason 858 = .ok (.bipush 11, 2) := by decide +kernel
theorem dX11_reason_860 : decode cX11_reason 860 = .ok (.ireturn, 1) := by decide +kernel
theorem dX11_reason_861 : decode cX11_reason 861 = .ok (.aload_n 0, 1) := by decide +kernel
theorem dX11_reason_862 : decode cX11_reason 862 = .ok (.iload_n 2, 1) := by decide +kernel
theorem dX11_reason_863 : decode cX11_reason 863 = .ok (.invokevirtual 140, 3) := by decide +kernel
theorem dX11_reason_866 : decode cX11_reason 866 = .ok (.ifCond .ne 6, 3) := by decide +kernel
theorem dX11_reason_869 : decode cX11_reason 869 = .ok (.bipush 9, 2) := by decide +kernel
theorem dX11_reason_871 : decode cX11_reason 871 = .ok (.ireturn, 1) := by decide +kernel
theorem dX11_reason_872 : decode cX11_reason 872 = .ok (.aload_n 0, 1) := by decide +kernel
theorem dX11_reason_873 : decode cX11_reason 873 = .ok (.getfield 9, 3) := by decide +kernel
theorem dX11_reason_876 : decode cX11_reason 876 = .ok (.iload_n 2, 1) := by decide +kernel
theorem dX11_reason_877 : decode cX11_reason 877 = .ok (.baload, 1) := by decide +kernel
theorem dX11_reason_878 : decode cX11_reason 878 = .ok (.ifCond .ne 6, 3) := by decide +kernel
theorem dX11_reason_881 : decode cX11_reason 881 = .ok (.bipush 8, 2) := by decide +kernel
theorem dX11_reason_883 : decode cX11_reason 883 = .ok (.ireturn, 1) := by decide +kernel
theorem dX11_reason_884 : decode cX11_reason 884 = .ok (.iload_n 2, 1) := by decide +kernel
theorem dX11_reason_885 : decode cX11_reason 885 = .ok (.aload_n 0, 1) := by decide +kernel
theorem dX11_reason_886 : decode cX11_reason 886 = .ok (.getfield 103, 3) := by decide +kernel
theorem dX11_reason_889 : decode cX11_reason 889 = .ok (.if_icmp .ne 7, 3) := by decide +kernel
theorem dX11_reason_892 : decode cX11_reason 892 = .ok (.iconst 2, 1) := by decide +kernel
theorem dX11_reason_893 : decode cX11_reason 893 = .ok (.goto 4, 3) := by decide +kernel
theorem dX11_reason_896 : decode cX11_reason 896 = .ok (.iconst 0, 1) := by decide +kernel
theorem dX11_reason_897 : decode cX11_reason 897 = .ok (.ireturn, 1) := by decide +kernel
theorem dX11_reason_898 : decode cX11_reason 898 = .ok (.aload_n 0, 1) := by decide +kernel
theorem dX11_reason_899 : decode cX11_reason 899 = .ok (.aload_n 0, 1) := by decide +kernel
theorem dX11_reason_900 : decode cX11_reason 900 = .ok (.getfield 103, 3) := by decide +kernel
theorem dX11_reason_903 : decode cX11_reason 903 = .ok (.invokevirtual 178, 3) := by decide +kernel
theorem dX11_reason_906 : decode cX11_reason 906 = .ok (.ifCond .ne 8, 3) := by decide +kernel
theorem dX11_reason_909 : decode cX11_reason 909 = .ok (.bipush 8, 2) := by decide +kernel
theorem dX11_reason_911 : decode cX11_reason 911 = .ok (.goto 16, 3) := by decide +kernel
theorem dX11_reason_914 : decode cX11_reason 914 = .ok (.aload_n 0, 1) := by decide +kernel
theorem dX11_reason_915 : decode cX11_reason 915 = .ok (.getfield 115, 3) := by decide +kernel
theorem dX11_reason_918 : decode cX11_reason 918 = .ok (.ifCond .ne 8, 3) := by decide +kernel
theorem dX11_reason_921 : decode cX11_reason 921 = .ok (.bipush 7, 2) := by decide +kernel
theorem dX11_reason_923 : decode cX11_reason 923 = .ok (.goto 4, 3) := by decide +kernel
theorem dX11_reason_926 : decode cX11_reason 926 = .ok (.iconst 0, 1) := by decide +kernel
theorem dX11_reason_927 : decode cX11_reason 927 = .ok (.ireturn, 1) := by decide +kernel
theorem dX11_reason_928 : decode cX11_reason 928 = .ok (.aload_n 0, 1) := by decide +kernel
theorem dX11_reason_929 : decode cX11_reason 929 = .ok (.aload_n 0, 1) := by decide +kernel
theorem dX11_reason_930 : decode cX11_reason 930 = .ok (.getfield 103, 3) := by decide +kernel
theorem dX11_reason_933 : decode cX11_reason 933 = .ok (.invokevirtual 178, 3) := by decide +kernel
theorem dX11_reason_936 : decode cX11_reason 936 = .ok (.ifCond .ne 8, 3) := by decide +kernel
theorem dX11_reason_939 : decode cX11_reason 939 = .ok (.bipush 8, 2) := by decide +kernel
theorem dX11_reason_941 : decode cX11_reason 941 = .ok (.goto 4, 3) := by decide +kernel
theorem dX11_reason_944 : decode cX11_reason 944 = .ok (.iconst 0, 1) := by decide +kernel
theorem dX11_reason_945 : decode cX11_reason 945 = .ok (.ireturn, 1) := by decide +kernel
theorem dX11_reasonOfLay_0 : decode cX11_reasonOfLay 0 = .ok (.iload_n 1, 1) := by decide +kernel
theorem dX11_reasonOfLay_1 : decode cX11_reasonOfLay 1 = .ok (.iconst 0, 1) := by decide +kernel
theorem dX11_reasonOfLay_2 : decode cX11_reasonOfLay 2 = .ok (.bipush 7, 2) := by decide +kernel
theorem dX11_reasonOfLay_4 : decode cX11_reasonOfLay 4 = .ok (.invokestatic 136, 3) := by decide +kernel
theorem dX11_reasonOfLay_7 : decode cX11_reasonOfLay 7 = .ok (.ifCond .ne 6, 3) := by decide +kernel
theorem dX11_reasonOfLay_10 : decode cX11_reasonOfLay 10 = .ok (.bipush 9, 2) := by decide +kernel
theorem dX11_reasonOfLay_12 : decode cX11_reasonOfLay 12 = .ok (.ireturn, 1) := by decide +kernel
theorem dX11_reasonOfLay_13 : decode cX11_reasonOfLay 13 = .ok (.aload_n 0, 1) := by decide +kernel
theorem dX11_reasonOfLay_14 : decode cX11_reasonOfLay 14 = .ok (.getfield 130, 3) := by decide +kernel
theorem dX11_reasonOfLay_17 : decode cX11_reasonOfLay 17 = .ok (.ifCond .eq 12, 3) := by decide +kernel
theorem dX11_reasonOfLay_20 : decode cX11_reasonOfLay 20 = .ok (.aload_n 0, 1) := by decide +kernel
theorem dX11_reasonOfLay_21 : decode cX11_reasonOfLay 21 = .ok (.getfield 81, 3) := by decide +kernel
theorem dX11_reasonOfLay_24 : decode cX11_reasonOfLay 24 = .ok (.iload_n 1, 1) := by decide +kernel
theorem dX11_reasonOfLay_25 : decode cX11_reasonOfLay 25 = .ok (.iaload, 1) := by decide +kernel
theorem dX11_reasonOfLay_26 : decode cX11_reasonOfLay 26 = .ok (.ifCond .le 6, 3) := by decide +kernel
theorem dX11_reasonOfLay_29 : decode cX11_reasonOfLay 29 = .ok (.bipush 11, 2) := by decide +kernel
theorem dX11_reasonOfLay_31 : decode cX11_reasonOfLay 31 = .ok (.ireturn, 1) := by decide +kernel
theorem dX11_reasonOfLay_32 : decode cX11_reasonOfLay 32 = .ok (.aload_n 0, 1) := by decide +kernel
theorem dX11_reasonOfLay_33 : decode cX11_reasonOfLay 33 = .ok (.iconst 2, 1) := by decide +kernel
theorem dX11_reasonOfLay_34 : decode cX11_reasonOfLay 34 = .ok (.iconst 3, 1) := by decide +kernel
theorem dX11_reasonOfLay_35 : decode cX11_reasonOfLay 35 = .ok (.invokevirtual 163, 3) := by decide +kernel
theorem dX11_reasonOfLay_38 : decode cX11_reasonOfLay 38 = .ok (.ifCond .eq 62, 3) := by decide +kernel
theorem dX11_reasonOfLay_41 : decode cX11_reasonOfLay 41 = .ok (.aload_n 0, 1) := by decide +kernel
theorem dX11_reasonOfLay_42 : decode cX11_reasonOfLay 42 = .ok (.getfield 55, 3) := by decide +kernel
theorem dX11_reasonOfLay_45 : decode cX11_reasonOfLay 45 = .ok (.aload_n 0, 1) := by decide +kernel
theorem dX11_reasonOfLay_46 : decode cX11_reasonOfLay 46 = .ok (.getfield 75, 3) := by decide +kernel
theorem dX11_reasonOfLay_49 : decode cX11_reasonOfLay 49 = .ok (.iconst 0, 1) := by decide +kernel
theorem dX11_reasonOfLay_50 : decode cX11_reasonOfLay 50 = .ok (.iaload, 1) := by decide +kernel
theorem dX11_reasonOfLay_51 : decode cX11_reasonOfLay 51 = .ok (.baload, 1) := by decide +kernel
theorem dX11_reasonOfLay_52 : decode cX11_reasonOfLay 52 = .ok (.ifCond .ne 48, 3) := by decide +kernel
theorem dX11_reasonOfLay_55 : decode cX11_reasonOfLay 55 = .ok (.aload_n 0, 1) := by decide +kernel
theorem dX11_reasonOfLay_56 : decode cX11_reasonOfLay 56 = .ok (.aload_n 0, 1) := by decide +kernel
theorem dX11_reasonOfLay_57 : decode cX11_reasonOfLay 57 = .ok (.getfield 22, 3) := by decide +kernel
theorem dX11_reasonOfLay_60 : decode cX11_reasonOfLay 60 = .ok (.aload_n 0, 1) := by decide +kernel
theorem dX11_reasonOfLay_61 : decode cX11_reasonOfLay 61 = .ok (.getfield 75, 3) := by decide +kernel
theorem dX11_reasonOfLay_64 : decode cX11_reasonOfLay 64 = .ok (.iconst 0, 1) := by decide +kernel
theorem dX11_reasonOfLay_65 : decode cX11_reasonOfLay 65 = .ok (.iaload, 1) := by decide +kernel
theorem dX11_reasonOfLay_66 : decode cX11_reasonOfLay 66 = .ok (.iaload, 1) := by decide +kernel
theorem dX11_reasonOfLay_67 : decode cX11_reasonOfLay 67 = .ok (.invokevirtual 184, 3) := by decide +kernel
theorem dX11_reasonOfLay_70 : decode cX11_reasonOfLay 70 = .ok (.ifCond .ne 5, 3) := by decide +kernel
theorem dX11_reasonOfLay_73 : decode cX11_reasonOfLay 73 = .ok (.iconst 1, 1) := by decide +kernel
theorem dX11_reasonOfLay_74 : decode cX11_reasonOfLay 74 = .ok (.ireturn, 1) := by decide +kernel
theorem dX11_reasonOfLay_75 : decode cX11_reasonOfLay 75 = .ok (.aload_n 0, 1) := by decide +kernel
theorem dX11_reasonOfLay_76 : decode cX11_reasonOfLay 76 = .ok (.getfield 43, 3) := by decide +kernel
theorem dX11_reasonOfLay_79 : decode cX11_reasonOfLay 79 = .ok (.aload_n 0, 1) := by decide +kernel
theorem dX11_reasonOfLay_80 : decode cX11_reasonOfLay 80 = .ok (.getfield 75, 3) := by decide +kernel
theorem dX11_reasonOfLay_83 : decode cX11_reasonOfLay 83 = .ok (.iconst 0, 1) := by decide +kernel
theorem dX11_reasonOfLay_84 : decode cX11_reasonOfLay 84 = .ok (.iaload, 1) := by decide +kernel
theorem dX11_reasonOfLay_85 : decode cX11_reasonOfLay 85 = .ok (.iaload, 1) := by decide +kernel
theorem dX11_reasonOfLay_86 : decode cX11_reasonOfLay 86 = .ok (.aload_n 0, 1) := by decide +kernel
theorem dX11_reasonOfLay_87 : decode cX11_reasonOfLay 87 = .ok (.getfield 37, 3) := by decide +kernel
theorem dX11_reasonOfLay_90 : decode cX11_reasonOfLay 90 = .ok (.aload_n 0, 1) := by decide +kernel
theorem dX11_reasonOfLay_91 : decode cX11_reasonOfLay 91 = .ok (.invokevirtual 155, 3) := by decide +kernel
theorem dX11_reasonOfLay_94 : decode cX11_reasonOfLay 94 = .ok (.iaload, 1) := by decide +kernel
theorem dX11_reasonOfLay_95 : decode cX11_reasonOfLay 95 = .ok (.if_icmp .le 5, 3) := by decide +kernel
theorem dX11_reasonOfLay_98 : decode cX11_reasonOfLay 98 = .ok (.iconst 5, 1) := by decide +kernel
theorem dX11_reasonOfLay_99 : decode cX11_reasonOfLay 99 = .ok (.ireturn, 1) := by decide +kernel
theorem dX11_reasonOfLay_100 : decode cX11_reasonOfLay 100 = .ok (.aload_n 0, 1) := by decide +kernel
theorem dX11_reasonOfLay_101 : decode cX11_reasonOfLay 101 = .ok (.invokevirtual 187, 3) := by decide +kernel
theorem dX11_reasonOfLay_104 : decode cX11_reasonOfLay 104 = .ok (.iconst 1, 1) := by decide +kernel
theorem dX11_reasonOfLay_105 : decode cX11_reasonOfLay 105 = .ok (.if_icmp .ne 15, 3) := by decide +kernel
theorem dX11_reasonOfLay_108 : decode cX11_reasonOfLay 108 = .ok (.aload_n 0, 1) := by decide +kernel
theorem dX11_reasonOfLay_109 : decode cX11_reasonOfLay 109 = .ok (.invokevirtual 190, 3) := by decide +kernel
theorem dX11_reasonOfLay_112 : decode cX11_reasonOfLay 112 = .ok (.ifCond .eq 8, 3) := by decide +kernel
theorem dX11_reasonOfLay_115 : decode cX11_reasonOfLay 115 = .ok (.bipush 10, 2) := by decide +kernel
theorem dX11_reasonOfLay_117 : decode cX11_reasonOfLay 117 = .ok (.goto 4, 3) := by decide +kernel
theorem dX11_reasonOfLay_120 : decode cX11_reasonOfLay 120 = .ok (.iconst 0, 1) := by decide +kernel
theorem dX11_reasonOfLay_121 : decode cX11_reasonOfLay 121 = .ok (.ireturn, 1) := by decide +kernel
theorem dX11_reasonOfMove_0 : decode cX11_reasonOfMove 0 = .ok (.aload_n 0, 1) := by decide +kernel
theorem dX11_reasonOfMove_1 : decode cX11_reasonOfMove 1 = .ok (.getfield 130, 3) := by decide +kernel
theorem dX11_reasonOfMove_4 : decode cX11_reasonOfMove 4 = .ok (.ifCond .ne 6, 3) := by decide +kernel
theorem dX11_reasonOfMove_7 : decode cX11_reasonOfMove 7 = .ok (.bipush 11, 2) := by decide +kernel
theorem dX11_reasonOfMove_9 : decode cX11_reasonOfMove 9 = .ok (.ireturn, 1) := by decide +kernel
theorem dX11_reasonOfMove_10 : decode cX11_reasonOfMove 10 = .ok (.aload_n 0, 1) := by decide +kernel
theorem dX11_reasonOfMove_11 : decode cX11_reasonOfMove 11 = .ok (.getfield 75, 3) := by decide +kernel
theorem dX11_reasonOfMove_14 : decode cX11_reasonOfMove 14 = .ok (.iconst 0, 1) := by decide +kernel
theorem dX11_reasonOfMove_15 : decode cX11_reasonOfMove 15 = .ok (.iaload, 1) := by decide +kernel
theorem dX11_reasonOfMove_16 : decode cX11_reasonOfMove 16 = .ok (.istore_n 2, 1) := by decide +kernel
theorem dX11_reasonOfMove_17 : decode cX11_reasonOfMove 17 = .ok (.aload_n 0, 1) := by decide +kernel
theorem dX11_reasonOfMove_18 : decode cX11_reasonOfMove 18 = .ok (.getfield 151, 3) := by decide +kernel
theorem dX11_reasonOfMove_21 : decode cX11_reasonOfMove 21 = .ok (.ifCond .eq 7, 3) := by decide +kernel
theorem dX11_reasonOfMove_24 : decode cX11_reasonOfMove 24 = .ok (.iconst 1, 1) := by decide +kernel
theorem dX11_reasonOfMove_25 : decode cX11_reasonOfMove 25 = .ok (.goto 9, 3) := by decide +kernel
theorem dX11_reasonOfMove_28 : decode cX11_reasonOfMove 28 = .ok (.aload_n 0, 1) := by decide +kernel
theorem dX11_reasonOfMove_29 : decode cX11_reasonOfMove 29 = .ok (.getfield 22, 3) := by decide +kernel
theorem dX11_reasonOfMove_32 : decode cX11_reasonOfMove 32 = .ok (.iload_n 2, 1) := by decide +kernel
theorem dX11_reasonOfMove_33 : decode cX11_reasonOfMove 33 = .ok (.iaload, 1) := by decide +kernel
theorem dX11_reasonOfMove_34 : decode cX11_reasonOfMove 34 = .ok (.istore_n 3, 1) := by decide +kernel
theorem dX11_reasonOfMove_35 : decode cX11_reasonOfMove 35 = .ok (.iload_n 3, 1) := by decide +kernel
theorem dX11_reasonOfMove_36 : decode cX11_reasonOfMove 36 = .ok (.iconst 1, 1) := by decide +kernel
theorem dX11_reasonOfMove_37 : decode cX11_reasonOfMove 37 = .ok (.if_icmp .ne 12, 3) := by decide +kernel
theorem dX11_reasonOfMove_40 : decode cX11_reasonOfMove 40 = .ok (.aload_n 0, 1) := by decide +kernel
theorem dX11_reasonOfMove_41 : decode cX11_reasonOfMove 41 = .ok (.getfield 115, 3) := by decide +kernel
theorem dX11_reasonOfMove_44 : decode cX11_reasonOfMove 44 = .ok (.ifCond .le 83, 3) := by decide +kernel
theorem dX11_reasonOfMove_47 : decode cX11_reasonOfMove 47 = .ok (.iconst 1, 1) := by decide +kernel
theorem dX11_reasonOfMove_48 : decode cX11_reasonOfMove 48 = .ok (.ireturn, 1) := by decide +kernel
theorem dX11_reasonOfMove_49 : decode cX11_reasonOfMove 49 = .ok (.iload_n 3, 1) := by decide +kernel
theorem dX11_reasonOfMove_50 : decode cX11_reasonOfMove 50 = .ok (.iconst 4, 1) := by decide +kernel
theorem dX11_reasonOfMove_51 : decode cX11_reasonOfMove 51 = .ok (.if_icmp .ge 13, 3) := by decide +kernel
theorem dX11_reasonOfMove_54 : decode cX11_reasonOfMove 54 = .ok (.aload_n 0, 1) := by decide +kernel
theorem dX11_reasonOfMove_55 : decode cX11_reasonOfMove 55 = .ok (.iload_n 3, 1) := by decide +kernel
theorem dX11_reasonOfMove_56 : decode cX11_reasonOfMove 56 = .ok (.invokevirtual 184, 3) := by decide +kernel
theorem dX11_reasonOfMove_59 : decode cX11_reasonOfMove 59 = .ok (.ifCond .ne 68, 3) := by decide +kernel
theorem dX11_reasonOfMove_62 : decode cX11_reasonOfMove 62 = .ok (.iconst 1, 1) := by decide +kernel
theorem dX11_reasonOfMove_63 : decode cX11_reasonOfMove 63 = .ok (.ireturn, 1) := by decide +kernel
theorem dX11_reasonOfMove_64 : decode cX11_reasonOfMove 64 = .ok (.iconst 0, 1) := by decide +kernel
theorem dX11_reasonOfMove_65 : decode cX11_reasonOfMove 65 = .ok (.istore 4, 2) := by decide +kernel
theorem dX11_reasonOfMove_67 : decode cX11_reasonOfMove 67 = .ok (.iconst 0, 1) := by decide +kernel
theorem dX11_reasonOfMove_68 : decode cX11_reasonOfMove 68 = .ok (.istore 5, 2) := by decide +kernel
theorem dX11_reasonOfMove_70 : decode cX11_reasonOfMove 70 = .ok (.iload 5, 2) := by decide +kernel
theorem dX11_reasonOfMove_72 : decode cX11_reasonOfMove 72 = .ok (.aload_n 0, 1) := by decide +kernel
theorem dX11_reasonOfMove_73 : decode cX11_reasonOfMove 73 = .ok (.getfield 115, 3) := by decide +kernel
theorem dX11_reasonOfMove_76 : decode cX11_reasonOfMove 76 = .ok (.if_icmp .ge 37, 3) := by decide +kernel
theorem dX11_reasonOfMove_79 : decode cX11_reasonOfMove 79 = .ok (.iload 4, 2) := by decide +kernel
theorem dX11_reasonOfMove_81 : decode cX11_reasonOfMove 81 = .ok (.ifCond .ne 19, 3) := by decide +kernel
theorem dX11_reasonOfMove_84 : decode cX11_reasonOfMove 84 = .ok (.aload_n 0, 1) := by decide +kernel
theorem dX11_reasonOfMove_85 : decode cX11_reasonOfMove 85 = .ok (.getfield 22, 3) := by decide +kernel
theorem dX11_reasonOfMove_88 : decode cX11_reasonOfMove 88 = .ok (.aload_n 0, 1) := by decide +kernel
theorem dX11_reasonOfMove_89 : decode cX11_reasonOfMove 89 = .ok (.getfield 72, 3) := by decide +kernel
theorem dX11_reasonOfMove_92 : decode cX11_reasonOfMove 92 = .ok (.iload 5, 2) := by decide +kernel
theorem dX11_reasonOfMove_94 : decode cX11_reasonOfMove 94 = .ok (.iaload, 1) := by decide +kernel
theorem dX11_reasonOfMove_95 : decode cX11_reasonOfMove 95 = .ok (.iaload, 1) := by decide +kernel
theorem dX11_reasonOfMove_96 : decode cX11_reasonOfMove 96 = .ok (.iload_n 3, 1) := by decide +kernel
theorem dX11_reasonOfMove_97 : decode cX11_reasonOfMove 97 = .ok (.if_icmp .lt 7, 3) := by decide +kernel
theorem dX11_reasonOfMove_100 : decode cX11_reasonOfMove 100 = .ok (.iconst 1, 1) := by decide +kernel
theorem dX11_reasonOfMove_101 : decode cX11_reasonOfMove 101 = .ok (.goto 4, 3) := by decide +kernel
theorem dX11_reasonOfMove_104 : decode cX11_reasonOfMove 104 = .ok (.iconst 0, 1) := by decide +kernel
theorem dX11_reasonOfMove_105 : decode cX11_reasonOfMove 105 = .ok (.istore 4, 2) := by decide +kernel
theorem dX11_reasonOfMove_107 : decode cX11_reasonOfMove 107 = .ok (.iinc 5 1, 3) := by decide +kernel
theorem dX11_reasonOfMove_110 : decode cX11_reasonOfMove 110 = .ok (.goto (-40), 3) := by decide +kernel
theorem dX11_reasonOfMove_113 : decode cX11_reasonOfMove 113 = .ok (.aload_n 0, 1) := by decide +kernel
theorem dX11_reasonOfMove_114 : decode cX11_reasonOfMove 114 = .ok (.getfield 115, 3) := by decide +kernel
theorem dX11_reasonOfMove_117 : decode cX11_reasonOfMove 117 = .ok (.ifCond .eq 8, 3) := by decide +kernel
theorem dX11_reasonOfMove_120 : decode cX11_reasonOfMove 120 = .ok (.iload 4, 2) := by decide +kernel
theorem dX11_reasonOfMove_122 : decode cX11_reasonOfMove 122 = .ok (.ifCond .eq 5, 3) := by decide +kernel
theorem dX11_reasonOfMove_125 : decode cX11_reasonOfMove 125 = .ok (.iconst 1, 1) := by decide +kernel
theorem dX11_reasonOfMove_126 : decode cX11_reasonOfMove 126 = .ok (.ireturn, 1) := by decide +kernel
theorem dX11_reasonOfMove_127 : decode cX11_reasonOfMove 127 = .ok (.aload_n 0, 1) := by decide +kernel
theorem dX11_reasonOfMove_128 : decode cX11_reasonOfMove 128 = .ok (.getfield 112, 3) := by decide +kernel
theorem dX11_reasonOfMove_131 : decode cX11_reasonOfMove 131 = .ok (.iconst (-1), 1) := by decide +kernel
theorem dX11_reasonOfMove_132 : decode cX11_reasonOfMove 132 = .ok (.if_icmp .eq 11, 3) := by decide +kernel
theorem dX11_reasonOfMove_135 : decode cX11_reasonOfMove 135 = .ok (.aload_n 0, 1) := by decide +kernel
theorem dX11_reasonOfMove_136 : decode cX11_reasonOfMove 136 = .ok (.getfield 112, 3) := by decide +kernel
theorem dX11_reasonOfMove_139 : decode cX11_reasonOfMove 139 = .ok (.iload_n 1, 1) := by decide +kernel
theorem dX11_reasonOfMove_140 : decode cX11_reasonOfMove 140 = .ok (.if_icmp .eq 5, 3) := by decide +kernel
theorem dX11_reasonOfMove_143 : decode cX11_reasonOfMove 143 = .ok (.iconst 2, 1) := by decide +kernel
theorem dX11_reasonOfMove_144 : decode cX11_reasonOfMove 144 = .ok (.ireturn, 1) := by decide +kernel
theorem dX11_reasonOfMove_145 : decode cX11_reasonOfMove 145 = .ok (.aload_n 0, 1) := by decide +kernel
theorem dX11_reasonOfMove_146 : decode cX11_reasonOfMove 146 = .ok (.getfield 115, 3) := by decide +kernel
theorem dX11_reasonOfMove_149 : decode cX11_reasonOfMove 149 = .ok (.ifCond .le 12, 3) := by decide +kernel
theorem dX11_reasonOfMove_152 : decode cX11_reasonOfMove 152 = .ok (.aload_n 0, 1) := by decide +kernel
theorem dX11_reasonOfMove_153 : decode cX11_reasonOfMove 153 = .ok (.invokevirtual 159, 3) := by decide +kernel
theorem dX11_reasonOfMove_156 : decode cX11_reasonOfMove 156 = .ok (.ifCond .ne 5, 3) := by decide +kernel
theorem dX11_reasonOfMove_159 : decode cX11_reasonOfMove 159 = .ok (.iconst 3, 1) := by decide +kernel
theorem dX11_reasonOfMove_160 : decode cX11_reasonOfMove 160 = .ok (.ireturn, 1) := by decide +kernel
theorem dX11_reasonOfMove_161 : decode cX11_reasonOfMove 161 = .ok (.aload_n 0, 1) := by decide +kernel
theorem dX11_reasonOfMove_162 : decode cX11_reasonOfMove 162 = .ok (.getfield 100, 3) := by decide +kernel
theorem dX11_reasonOfMove_165 : decode cX11_reasonOfMove 165 = .ok (.aload_n 0, 1) := by decide +kernel
theorem dX11_reasonOfMove_166 : decode cX11_reasonOfMove 166 = .ok (.getfield 106, 3) := by decide +kernel
theorem dX11_reasonOfMove_169 : decode cX11_reasonOfMove 169 = .ok (.if_icmp .ge 5, 3) := by decide +kernel
theorem dX11_reasonOfMove_172 : decode cX11_reasonOfMove 172 = .ok (.iconst 4, 1) := by decide +kernel
theorem dX11_reasonOfMove_173 : decode cX11_reasonOfMove 173 = .ok (.ireturn, 1) := by decide +kernel
theorem dX11_reasonOfMove_174 : decode cX11_reasonOfMove 174 = .ok (.aload_n 0, 1) := by decide +kernel
theorem dX11_reasonOfMove_175 : decode cX11_reasonOfMove 175 = .ok (.getfield 151, 3) := by decide +kernel
theorem dX11_reasonOfMove_178 : decode cX11_reasonOfMove 178 = .ok (.ifCond .ne 17, 3) := by decide +kernel
theorem dX11_reasonOfMove_181 : decode cX11_reasonOfMove 181 = .ok (.iload_n 3, 1) := by decide +kernel
theorem dX11_reasonOfMove_182 : decode cX11_reasonOfMove 182 = .ok (.iconst 2, 1) := by decide +kernel
theorem dX11_reasonOfMove_183 : decode cX11_reasonOfMove 183 = .ok (.if_icmp .eq 8, 3) := by decide +kernel
theorem dX11_reasonOfMove_186 : decode cX11_reasonOfMove 186 = .ok (.iload_n 3, 1) := by decide +kernel
theorem dX11_reasonOfMove_187 : decode cX11_reasonOfMove 187 = .ok (.iconst 3, 1) := by decide +kernel
theorem dX11_reasonOfMove_188 : decode cX11_reasonOfMove 188 = .ok (.if_icmp .ne 7, 3) := by decide +kernel
theorem dX11_reasonOfMove_191 : decode cX11_reasonOfMove 191 = .ok (.iconst 1, 1) := by decide +kernel
theorem dX11_reasonOfMove_192 : decode cX11_reasonOfMove 192 = .ok (.goto 4, 3) := by decide +kernel
theorem dX11_reasonOfMove_195 : decode cX11_reasonOfMove 195 = .ok (.iconst 0, 1) := by decide +kernel
theorem dX11_reasonOfMove_196 : decode cX11_reasonOfMove 196 = .ok (.istore 4, 2) := by decide +kernel
theorem dX11_reasonOfMove_198 : decode cX11_reasonOfMove 198 = .ok (.iload 4, 2) := by decide +kernel
theorem dX11_reasonOfMove_200 : decode cX11_reasonOfMove 200 = .ok (.ifCond .eq 59, 3) := by decide +kernel
theorem dX11_reasonOfMove_203 : decode cX11_reasonOfMove 203 = .ok (.aload_n 0, 1) := by decide +kernel
theorem dX11_reasonOfMove_204 : decode cX11_reasonOfMove 204 = .ok (.getfield 58, 3) := by decide +kernel
theorem dX11_reasonOfMove_207 : decode cX11_reasonOfMove 207 = .ok (.iload_n 2, 1) := by decide +kernel
theorem dX11_reasonOfMove_208 : decode cX11_reasonOfMove 208 = .ok (.baload, 1) := by decide +kernel
theorem dX11_reasonOfMove_209 : decode cX11_reasonOfMove 209 = .ok (.ifCond .ne 48, 3) := by decide +kernel
theorem dX11_reasonOfMove_212 : decode cX11_reasonOfMove 212 = .ok (.aload_n 0, 1) := by decide +kernel
theorem dX11_reasonOfMove_213 : decode cX11_reasonOfMove 213 = .ok (.getfield 55, 3) := by decide +kernel
theorem dX11_reasonOfMove_216 : decode cX11_reasonOfMove 216 = .ok (.iload_n 2, 1) := by decide +kernel
theorem dX11_reasonOfMove_217 : decode cX11_reasonOfMove 217 = .ok (.baload, 1) := by decide +kernel
theorem dX11_reasonOfMove_218 : decode cX11_reasonOfMove 218 = .ok (.ifCond .eq 21, 3) := by decide +kernel
theorem dX11_reasonOfMove_221 : decode cX11_reasonOfMove 221 = .ok (.aload_n 0, 1) := by decide +kernel
theorem dX11_reasonOfMove_222 : decode cX11_reasonOfMove 222 = .ok (.getfield 49, 3) := by decide +kernel
theorem dX11_reasonOfMove_225 : decode cX11_reasonOfMove 225 = .ok (.iload_n 2, 1) := by decide +kernel
theorem dX11_reasonOfMove_226 : decode cX11_reasonOfMove 226 = .ok (.iaload, 1) := by decide +kernel
theorem dX11_reasonOfMove_227 : decode cX11_reasonOfMove 227 = .ok (.aload_n 0, 1) := by decide +kernel
theorem dX11_reasonOfMove_228 : decode cX11_reasonOfMove 228 = .ok (.getfield 46, 3) := by decide +kernel
theorem dX11_reasonOfMove_231 : decode cX11_reasonOfMove 231 = .ok (.aload_n 0, 1) := by decide +kernel
theorem dX11_reasonOfMove_232 : decode cX11_reasonOfMove 232 = .ok (.invokevirtual 155, 3) := by decide +kernel
theorem dX11_reasonOfMove_235 : decode cX11_reasonOfMove 235 = .ok (.iaload, 1) := by decide +kernel
theorem dX11_reasonOfMove_236 : decode cX11_reasonOfMove 236 = .ok (.if_icmp .ne 21, 3) := by decide +kernel
theorem dX11_reasonOfMove_239 : decode cX11_reasonOfMove 239 = .ok (.aload_n 0, 1) := by decide +kernel
theorem dX11_reasonOfMove_240 : decode cX11_reasonOfMove 240 = .ok (.getfield 43, 3) := by decide +kernel
theorem dX11_reasonOfMove_243 : decode cX11_reasonOfMove 243 = .ok (.iload_n 2, 1) := by decide +kernel
theorem dX11_reasonOfMove_244 : decode cX11_reasonOfMove 244 = .ok (.iaload, 1) := by decide +kernel
theorem dX11_reasonOfMove_245 : decode cX11_reasonOfMove 245 = .ok (.aload_n 0, 1) := by decide +kernel
theorem dX11_reasonOfMove_246 : decode cX11_reasonOfMove 246 = .ok (.getfield 37, 3) := by decide +kernel
theorem dX11_reasonOfMove_249 : decode cX11_reasonOfMove 249 = .ok (.aload_n 0, 1) := by decide +kernel
theorem dX11_reasonOfMove_250 : decode cX11_reasonOfMove 250 = .ok (.invokevirtual 155, 3) := by decide +kernel
theorem dX11_reasonOfMove_253 : decode cX11_reasonOfMove 253 = .ok (.iaload, 1) := by decide +kernel
theorem dX11_reasonOfMove_254 : decode cX11_reasonOfMove 254 = .ok (.if_icmp .le 5, 3) := by decide +kernel
theorem dX11_reasonOfMove_257 : decode cX11_reasonOfMove 257 = .ok (.iconst 5, 1) := by decide +kernel
theorem dX11_reasonOfMove_258 : decode cX11_reasonOfMove 258 = .ok (.ireturn, 1) := by decide +kernel
theorem dX11_reasonOfMove_259 : decode cX11_reasonOfMove 259 = .ok (.aload_n 0, 1) := by decide +kernel
theorem dX11_reasonOfMove_260 : decode cX11_reasonOfMove 260 = .ok (.getfield 151, 3) := by decide +kernel
theorem dX11_reasonOfMove_263 : decode cX11_reasonOfMove 263 = .ok (.ifCond .eq 5, 3) := by decide +kernel
theorem dX11_reasonOfMove_266 : decode cX11_reasonOfMove 266 = .ok (.iconst 0, 1) := by decide +kernel
theorem dX11_reasonOfMove_267 : decode cX11_reasonOfMove 267 = .ok (.ireturn, 1) := by decide +kernel
theorem dX11_reasonOfMove_268 : decode cX11_reasonOfMove 268 = .ok (.aload_n 0, 1) := by decide +kernel
theorem dX11_reasonOfMove_269 : decode cX11_reasonOfMove 269 = .ok (.getfield 115, 3) := by decide +kernel
theorem dX11_reasonOfMove_272 : decode cX11_reasonOfMove 272 = .ok (.bipush 9, 2) := by decide +kernel
theorem dX11_reasonOfMove_274 : decode cX11_reasonOfMove 274 = .ok (.if_icmp .ne 6, 3) := by decide +kernel
theorem dX11_reasonOfMove_277 : decode cX11_reasonOfMove 277 = .ok (.bipush 10, 2) := by decide +kernel
theorem dX11_reasonOfMove_279 : decode cX11_reasonOfMove 279 = .ok (.ireturn, 1) := by decide +kernel
theorem dX11_reasonOfMove_280 : decode cX11_reasonOfMove 280 = .ok (.iload 4, 2) := by decide +kernel
theorem dX11_reasonOfMove_282 : decode cX11_reasonOfMove 282 = .ok (.ifCond .eq 113, 3) := by decide +kernel
theorem dX11_reasonOfMove_285 : decode cX11_reasonOfMove 285 = .ok (.aload_n 0, 1) := by decide +kernel
theorem dX11_reasonOfMove_286 : decode cX11_reasonOfMove 286 = .ok (.getfield 37, 3) := by decide +kernel
theorem dX11_reasonOfMove_289 : decode cX11_reasonOfMove 289 = .ok (.aload_n 0, 1) := by decide +kernel
theorem dX11_reasonOfMove_290 : decode cX11_reasonOfMove 290 = .ok (.invokevirtual 155, 3) := by decide +kernel
theorem dX11_reasonOfMove_293 : decode cX11_reasonOfMove 293 = .ok (.iaload, 1) := by decide +kernel
theorem dX11_reasonOfMove_294 : decode cX11_reasonOfMove 294 = .ok (.aload_n 0, 1) := by decide +kernel
theorem dX11_reasonOfMove_295 : decode cX11_reasonOfMove 295 = .ok (.getfield 37, 3) := by decide +kernel
theorem dX11_reasonOfMove_298 : decode cX11_reasonOfMove 298 = .ok (.iload_n 2, 1) := by decide +kernel
theorem dX11_reasonOfMove_299 : decode cX11_reasonOfMove 299 = .ok (.iaload, 1) := by decide +kernel
theorem dX11_reasonOfMove_300 : decode cX11_reasonOfMove 300 = .ok (.iadd, 1) := by decide +kernel
theorem dX11_reasonOfMove_301 : decode cX11_reasonOfMove 301 = .ok (.aload_n 0, 1) := by decide +kernel
theorem dX11_reasonOfMove_302 : decode cX11_reasonOfMove 302 = .ok (.getfield 43, 3) := by decide +kernel
theorem dX11_reasonOfMove_305 : decode cX11_reasonOfMove 305 = .ok (.iload_n 2, 1) := by decide +kernel
theorem dX11_reasonOfMove_306 : decode cX11_reasonOfMove 306 = .ok (.iaload, 1) := by decide +kernel
theorem dX11_reasonOfMove_307 : decode cX11_reasonOfMove 307 = .ok (.aload_n 0, 1) := by decide +kernel
theorem dX11_reasonOfMove_308 : decode cX11_reasonOfMove 308 = .ok (.getfield 40, 3) := by decide +kernel
theorem dX11_reasonOfMove_311 : decode cX11_reasonOfMove 311 = .ok (.iload_n 2, 1) := by decide +kernel
theorem dX11_reasonOfMove_312 : decode cX11_reasonOfMove 312 = .ok (.iaload, 1) := by decide +kernel
theorem dX11_reasonOfMove_313 : decode cX11_reasonOfMove 313 = .ok (.isub, 1) := by decide +kernel
theorem dX11_reasonOfMove_314 : decode cX11_reasonOfMove 314 = .ok (.isub, 1) := by decide +kernel
theorem dX11_reasonOfMove_315 : decode cX11_reasonOfMove 315 = .ok (.istore 5, 2) := by decide +kernel
theorem dX11_reasonOfMove_317 : decode cX11_reasonOfMove 317 = .ok (.iload 5, 2) := by decide +kernel
theorem dX11_reasonOfMove_319 : decode cX11_reasonOfMove 319 = .ok (.sipush 400, 3) := by decide +kernel
theorem dX11_reasonOfMove_322 : decode cX11_reasonOfMove 322 = .ok (.if_icmp .le 6, 3) := by decide +kernel
theorem dX11_reasonOfMove_325 : decode cX11_reasonOfMove 325 = .ok (.bipush 10, 2) := by decide +kernel
theorem dX11_reasonOfMove_327 : decode cX11_reasonOfMove 327 = .ok (.ireturn, 1) := by decide +kernel
theorem dX11_reasonOfMove_328 : decode cX11_reasonOfMove 328 = .ok (.iload_n 3, 1) := by decide +kernel
theorem dX11_reasonOfMove_329 : decode cX11_reasonOfMove 329 = .ok (.iconst 3, 1) := by decide +kernel
theorem dX11_reasonOfMove_330 : decode cX11_reasonOfMove 330 = .ok (.if_icmp .ne 17, 3) := by decide +kernel
theorem dX11_reasonOfMove_333 : decode cX11_reasonOfMove 333 = .ok (.aload_n 0, 1) := by decide +kernel
theorem dX11_reasonOfMove_334 : decode cX11_reasonOfMove 334 = .ok (.getfield 72, 3) := by decide +kernel
theorem dX11_reasonOfMove_337 : decode cX11_reasonOfMove 337 = .ok (.aload_n 0, 1) := by decide +kernel
theorem dX11_reasonOfMove_338 : decode cX11_reasonOfMove 338 = .ok (.getfield 115, 3) := by decide +kernel
theorem dX11_reasonOfMove_341 : decode cX11_reasonOfMove 341 = .ok (.iconst 2, 1) := by decide +kernel
theorem dX11_reasonOfMove_342 : decode cX11_reasonOfMove 342 = .ok (.isub, 1) := by decide +kernel
theorem dX11_reasonOfMove_343 : decode cX11_reasonOfMove 343 = .ok (.iaload, 1) := by decide +kernel
theorem dX11_reasonOfMove_344 : decode cX11_reasonOfMove 344 = .ok (.goto 4, 3) := by decide +kernel
theorem dX11_reasonOfMove_347 : decode cX11_reasonOfMove 347 = .ok (.iconst (-1), 1) := by decide +kernel
theorem dX11_reasonOfMove_348 : decode cX11_reasonOfMove 348 = .ok (.istore 6, 2) := by decide +kernel
theorem dX11_reasonOfMove_350 : decode cX11_reasonOfMove 350 = .ok (.iload 6, 2) := by decide +kernel
theorem dX11_reasonOfMove_352 : decode cX11_reasonOfMove 352 = .ok (.iconst (-1), 1) := by decide +kernel
theorem dX11_reasonOfMove_353 : decode cX11_reasonOfMove 353 = .ok (.if_icmp .eq 42, 3) := by decide +kernel
theorem dX11_reasonOfMove_356 : decode cX11_reasonOfMove 356 = .ok (.aload_n 0, 1) := by decide +kernel
theorem dX11_reasonOfMove_357 : decode cX11_reasonOfMove 357 = .ok (.getfield 37, 3) := by decide +kernel
theorem dX11_reasonOfMove_360 : decode cX11_reasonOfMove 360 = .ok (.iload 6, 2) := by decide +kernel
theorem dX11_reasonOfMove_362 : decode cX11_reasonOfMove 362 = .ok (.iaload, 1) := by decide +kernel
theorem dX11_reasonOfMove_363 : decode cX11_reasonOfMove 363 = .ok (.iload 5, 2) := by decide +kernel
theorem dX11_reasonOfMove_365 : decode cX11_reasonOfMove 365 = .ok (.iadd, 1) := by decide +kernel
theorem dX11_reasonOfMove_366 : decode cX11_reasonOfMove 366 = .ok (.aload_n 0, 1) := by decide +kernel
theorem dX11_reasonOfMove_367 : decode cX11_reasonOfMove 367 = .ok (.getfield 43, 3) := by decide +kernel
theorem dX11_reasonOfMove_370 : decode cX11_reasonOfMove 370 = .ok (.aload_n 0, 1) := by decide +kernel
theorem dX11_reasonOfMove_371 : decode cX11_reasonOfMove 371 = .ok (.invokevirtual 155, 3) := by decide +kernel
theorem dX11_reasonOfMove_374 : decode cX11_reasonOfMove 374 = .ok (.iaload, 1) := by decide +kernel
theorem dX11_reasonOfMove_375 : decode cX11_reasonOfMove 375 = .ok (.aload_n 0, 1) := by decide +kernel
theorem dX11_reasonOfMove_376 : decode cX11_reasonOfMove 376 = .ok (.getfield 40, 3) := by decide +kernel
theorem dX11_reasonOfMove_379 : decode cX11_reasonOfMove 379 = .ok (.aload_n 0, 1) := by decide +kernel
theorem dX11_reasonOfMove_380 : decode cX11_reasonOfMove 380 = .ok (.invokevirtual 155, 3) := by decide +kernel
theorem dX11_reasonOfMove_383 : decode cX11_reasonOfMove 383 = .ok (.iaload, 1) := by decide +kernel
theorem dX11_reasonOfMove_384 : decode cX11_reasonOfMove 384 = .ok (.isub, 1) := by decide +kernel
theorem dX11_reasonOfMove_385 : decode cX11_reasonOfMove 385 = .ok (.isub, 1) := by decide +kernel
theorem dX11_reasonOfMove_386 : decode cX11_reasonOfMove 386 = .ok (.sipush 400, 3) := by decide +kernel
theorem dX11_reasonOfMove_389 : decode cX11_reasonOfMove 389 = .ok (.if_icmp .le 6, 3) := by decide +kernel
theorem dX11_reasonOfMove_392 : decode cX11_reasonOfMove 392 = .ok (.bipush 10, 2) := by decide +kernel
theorem dX11_reasonOfMove_394 : decode cX11_reasonOfMove 394 = .ok (.ireturn, 1) := by decide +kernel
theorem dX11_reasonOfMove_395 : decode cX11_reasonOfMove 395 = .ok (.iload_n 3, 1) := by decide +kernel
theorem dX11_reasonOfMove_396 : decode cX11_reasonOfMove 396 = .ok (.iconst 4, 1) := by decide +kernel
theorem dX11_reasonOfMove_397 : decode cX11_reasonOfMove 397 = .ok (.if_icmp .eq 14, 3) := by decide +kernel
theorem dX11_reasonOfMove_400 : decode cX11_reasonOfMove 400 = .ok (.iload_n 3, 1) := by decide +kernel
theorem dX11_reasonOfMove_401 : decode cX11_reasonOfMove 401 = .ok (.iconst 5, 1) := by decide +kernel
theorem dX11_reasonOfMove_402 : decode cX11_reasonOfMove 402 = .ok (.if_icmp .eq 9, 3) := by decide +kernel
theorem dX11_reasonOfMove_405 : decode cX11_reasonOfMove 405 = .ok (.iload_n 3, 1) := by decide +kernel
theorem dX11_reasonOfMove_406 : decode cX11_reasonOfMove 406 = .ok (.bipush 7, 2) := by decide +kernel
theorem dX11_reasonOfMove_408 : decode cX11_reasonOfMove 408 = .ok (.if_icmp .ne 16, 3) := by decide +kernel
theorem dX11_reasonOfMove_411 : decode cX11_reasonOfMove 411 = .ok (.aload_n 0, 1) := by decide +kernel
theorem dX11_reasonOfMove_412 : decode cX11_reasonOfMove 412 = .ok (.invokevirtual 193, 3) := by decide +kernel
theorem dX11_reasonOfMove_415 : decode cX11_reasonOfMove 415 = .ok (.iconst (-1), 1) := by decide +kernel
theorem dX11_reasonOfMove_416 : decode cX11_reasonOfMove 416 = .ok (.if_icmp .ne 8, 3) := by decide +kernel
theorem dX11_reasonOfMove_419 : decode cX11_reasonOfMove 419 = .ok (.bipush 10, 2) := by decide +kernel
theorem dX11_reasonOfMove_421 : decode cX11_reasonOfMove 421 = .ok (.goto 4, 3) := by decide +kernel
theorem dX11_reasonOfMove_424 : decode cX11_reasonOfMove 424 = .ok (.iconst 0, 1) := by decide +kernel
theorem dX11_reasonOfMove_425 : decode cX11_reasonOfMove 425 = .ok (.ireturn, 1) := by decide +kernel
theorem dX11_reasonOfWord_0 : decode cX11_reasonOfWord 0 = .ok (.aload_n 0, 1) := by decide +kernel
theorem dX11_reasonOfWord_1 : decode cX11_reasonOfWord 1 = .ok (.iconst 1, 1) := by decide +kernel
theorem dX11_reasonOfWord_2 : decode cX11_reasonOfWord 2 = .ok (.iconst 5, 1) := by decide +kernel
theorem dX11_reasonOfWord_3 : decode cX11_reasonOfWord 3 = .ok (.invokevirtual 163, 3) := by decide +kernel
theorem dX11_reasonOfWord_6 : decode cX11_reasonOfWord 6 = .ok (.ifCond .eq 17, 3) := by decide +kernel
theorem dX11_reasonOfWord_9 : decode cX11_reasonOfWord 9 = .ok (.aload_n 0, 1) := by decide +kernel
theorem dX11_reasonOfWord_10 : decode cX11_reasonOfWord 10 = .ok (.getfield 55, 3) := by decide +kernel
theorem dX11_reasonOfWord_13 : decode cX11_reasonOfWord 13 = .ok (.aload_n 0, 1) := by decide +kernel
theorem dX11_reasonOfWord_14 : decode cX11_reasonOfWord 14 = .ok (.getfield 75, 3) := by decide +kernel
theorem dX11_reasonOfWord_17 : decode cX11_reasonOfWord 17 = .ok (.iconst 0, 1) := by decide +kernel
theorem dX11_reasonOfWord_18 : decode cX11_reasonOfWord 18 = .ok (.iaload, 1) := by decide +kernel
theorem dX11_reasonOfWord_19 : decode cX11_reasonOfWord 19 = .ok (.baload, 1) := by decide +kernel
theorem dX11_reasonOfWord_20 : decode cX11_reasonOfWord 20 = .ok (.ifCond .eq 6, 3) := by decide +kernel
theorem dX11_reasonOfWord_23 : decode cX11_reasonOfWord 23 = .ok (.bipush 11, 2) := by decide +kernel
theorem dX11_reasonOfWord_25 : decode cX11_reasonOfWord 25 = .ok (.ireturn, 1) := by decide +kernel
theorem dX11_reasonOfWord_26 : decode cX11_reasonOfWord 26 = .ok (.iload_n 1, 1) := by decide +kernel
theorem dX11_reasonOfWord_27 : decode cX11_reasonOfWord 27 = .ok (.invokestatic 181, 3) := by decide +kernel
theorem dX11_reasonOfWord_30 : decode cX11_reasonOfWord 30 = .ok (.ifCond .eq 38, 3) := by decide +kernel
theorem dX11_reasonOfWord_33 : decode cX11_reasonOfWord 33 = .ok (.iload_n 2, 1) := by decide +kernel
theorem dX11_reasonOfWord_34 : decode cX11_reasonOfWord 34 = .ok (.ifCond .eq 10, 3) := by decide +kernel
theorem dX11_reasonOfWord_37 : decode cX11_reasonOfWord 37 = .ok (.iload_n 2, 1) := by decide +kernel
theorem dX11_reasonOfWord_38 : decode cX11_reasonOfWord 38 = .ok (.invokestatic 181, 3) := by decide +kernel
theorem dX11_reasonOfWord_41 : decode cX11_reasonOfWord 41 = .ok (.ifCond .eq 27, 3) := by decide +kernel
theorem dX11_reasonOfWord_44 : decode cX11_reasonOfWord 44 = .ok (.iload_n 3, 1) := by decide +kernel
theorem dX11_reasonOfWord_45 : decode cX11_reasonOfWord 45 = .ok (.ifCond .eq 10, 3) := by decide +kernel
theorem dX11_reasonOfWord_48 : decode cX11_reasonOfWord 48 = .ok (.iload_n 3, 1) := by decide +kernel
theorem dX11_reasonOfWord_49 : decode cX11_reasonOfWord 49 = .ok (.invokestatic 181, 3) := by decide +kernel
theorem dX11_reasonOfWord_52 : decode cX11_reasonOfWord 52 = .ok (.ifCond .eq 16, 3) := by decide +kernel
theorem dX11_reasonOfWord_55 : decode cX11_reasonOfWord 55 = .ok (.iload 4, 2) := by decide +kernel
theorem dX11_reasonOfWord_57 : decode cX11_reasonOfWord 57 = .ok (.ifCond .eq 14, 3) := by decide +kernel
theorem dX11_reasonOfWord_60 : decode cX11_reasonOfWord 60 = .ok (.iload 4, 2) := by decide +kernel
theorem dX11_reasonOfWord_62 : decode cX11_reasonOfWord 62 = .ok (.invokestatic 181, 3) := by decide +kernel
theorem dX11_reasonOfWord_65 : decode cX11_reasonOfWord 65 = .ok (.ifCond .ne 6, 3) := by decide +kernel
theorem dX11_reasonOfWord_68 : decode cX11_reasonOfWord 68 = .ok (.bipush 9, 2) := by decide +kernel
theorem dX11_reasonOfWord_70 : decode cX11_reasonOfWord 70 = .ok (.ireturn, 1) := by decide +kernel
theorem dX11_reasonOfWord_71 : decode cX11_reasonOfWord 71 = .ok (.iconst 1, 1) := by decide +kernel
theorem dX11_reasonOfWord_72 : decode cX11_reasonOfWord 72 = .ok (.iload_n 2, 1) := by decide +kernel
theorem dX11_reasonOfWord_73 : decode cX11_reasonOfWord 73 = .ok (.ifCond .eq 7, 3) := by decide +kernel
theorem dX11_reasonOfWord_76 : decode cX11_reasonOfWord 76 = .ok (.iconst 1, 1) := by decide +kernel
theorem dX11_reasonOfWord_77 : decode cX11_reasonOfWord 77 = .ok (.goto 4, 3) := by decide +kernel
theorem dX11_reasonOfWord_80 : decode cX11_reasonOfWord 80 = .ok (.iconst 0, 1) := by decide +kernel
theorem dX11_reasonOfWord_81 : decode cX11_reasonOfWord 81 = .ok (.iadd, 1) := by decide +kernel
theorem dX11_reasonOfWord_82 : decode cX11_reasonOfWord 82 = .ok (.iload_n 3, 1) := by decide +kernel
theorem dX11_reasonOfWord_83 : decode cX11_reasonOfWord 83 = .ok (.ifCond .eq 7, 3) := by decide +kernel
theorem dX11_reasonOfWord_86 : decode cX11_reasonOfWord 86 = .ok (.iconst 1, 1) := by decide +kernel
theorem dX11_reasonOfWord_87 : decode cX11_reasonOfWord 87 = .ok (.goto 4, 3) := by decide +kernel
theorem dX11_reasonOfWord_90 : decode cX11_reasonOfWord 90 = .ok (.iconst 0, 1) := by decide +kernel
theorem dX11_reasonOfWord_91 : decode cX11_reasonOfWord 91 = .ok (.iadd, 1) := by decide +kernel
theorem dX11_reasonOfWord_92 : decode cX11_reasonOfWord 92 = .ok (.iload 4, 2) := by decide +kernel
theorem dX11_reasonOfWord_94 : decode cX11_reasonOfWord 94 = .ok (.ifCond .eq 7, 3) := by decide +kernel
theorem dX11_reasonOfWord_97 : decode cX11_reasonOfWord 97 = .ok (.iconst 1, 1) := by decide +kernel
theorem dX11_reasonOfWord_98 : decode cX11_reasonOfWord 98 = .ok (.goto 4, 3) := by decide +kernel
theorem dX11_reasonOfWord_101 : decode cX11_reasonOfWord 101 = .ok (.iconst 0, 1) := by decide +kernel
theorem dX11_reasonOfWord_102 : decode cX11_reasonOfWord 102 = .ok (.iadd, 1) := by decide +kernel
theorem dX11_reasonOfWord_103 : decode cX11_reasonOfWord 103 = .ok (.istore 5, 2) := by decide +kernel
theorem dX11_reasonOfWord_105 : decode cX11_reasonOfWord 105 = .ok (.aload_n 0, 1) := by decide +kernel
theorem dX11_reasonOfWord_106 : decode cX11_reasonOfWord 106 = .ok (.getfield 37, 3) := by decide +kernel
theorem dX11_reasonOfWord_109 : decode cX11_reasonOfWord 109 = .ok (.aload_n 0, 1) := by decide +kernel
theorem dX11_reasonOfWord_110 : decode cX11_reasonOfWord 110 = .ok (.getfield 75, 3) := by decide +kernel
theorem dX11_reasonOfWord_113 : decode cX11_reasonOfWord 113 = .ok (.iconst 0, 1) := by decide +kernel
theorem dX11_reasonOfWord_114 : decode cX11_reasonOfWord 114 = .ok (.iaload, 1) := by decide +kernel
theorem dX11_reasonOfWord_115 : decode cX11_reasonOfWord 115 = .ok (.iaload, 1) := by decide +kernel
theorem dX11_reasonOfWord_116 : decode cX11_reasonOfWord 116 = .ok (.iload 5, 2) := by decide +kernel
theorem dX11_reasonOfWord_118 : decode cX11_reasonOfWord 118 = .ok (.iadd, 1) := by decide +kernel
theorem dX11_reasonOfWord_119 : decode cX11_reasonOfWord 119 = .ok (.sipush 400, 3) := by decide +kernel
theorem dX11_reasonOfWord_122 : decode cX11_reasonOfWord 122 = .ok (.if_icmp .le 8, 3) := by decide +kernel
theorem dX11_reasonOfWord_125 : decode cX11_reasonOfWord 125 = .ok (.bipush 10, 2) := by decide +kernel
theorem dX11_reasonOfWord_127 : decode cX11_reasonOfWord 127 = .ok (.goto 4, 3) := by decide +kernel
theorem dX11_reasonOfWord_130 : decode cX11_reasonOfWord 130 = .ok (.iconst 0, 1) := by decide +kernel
theorem dX11_reasonOfWord_131 : decode cX11_reasonOfWord 131 = .ok (.ireturn, 1) := by decide +kernel
theorem dX11_take_0 : decode cX11_take 0 = .ok (.iconst 0, 1) := by decide +kernel
theorem dX11_take_1 : decode cX11_take 1 = .ok (.istore_n 2, 1) := by decide +kernel
theorem dX11_take_2 : decode cX11_take 2 = .ok (.iload_n 2, 1) := by decide +kernel
theorem dX11_take_3 : decode cX11_take 3 = .ok (.aload_n 0, 1) := by decide +kernel
theorem dX11_take_4 : decode cX11_take 4 = .ok (.getfield 81, 3) := by decide +kernel
theorem dX11_take_7 : decode cX11_take 7 = .ok (.iload_n 1, 1) := by decide +kernel
theorem dX11_take_8 : decode cX11_take 8 = .ok (.iaload, 1) := by decide +kernel
theorem dX11_take_9 : decode cX11_take 9 = .ok (.if_icmp .ge 26, 3) := by decide +kernel
theorem dX11_take_12 : decode cX11_take 12 = .ok (.aload_n 0, 1) := by decide +kernel
theorem dX11_take_13 : decode cX11_take 13 = .ok (.getfield 75, 3) := by decide +kernel
theorem dX11_take_16 : decode cX11_take 16 = .ok (.iload_n 2, 1) := by decide +kernel
theorem dX11_take_17 : decode cX11_take 17 = .ok (.aload_n 0, 1) := by decide +kernel
theorem dX11_take_18 : decode cX11_take 18 = .ok (.getfield 78, 3) := by decide +kernel
theorem dX11_take_21 : decode cX11_take 21 = .ok (.bipush 9, 2) := by decide +kernel
theorem dX11_take_23 : decode cX11_take 23 = .ok (.iload_n 1, 1) := by decide +kernel
theorem dX11_take_24 : decode cX11_take 24 = .ok (.imul, 1) := by decide +kernel
theorem dX11_take_25 : decode cX11_take 25 = .ok (.iload_n 2, 1) := by decide +kernel
theorem dX11_take_26 : decode cX11_take 26 = .ok (.iadd, 1) := by decide +kernel
theorem dX11_take_27 : decode cX11_take 27 = .ok (.iaload, 1) := by decide +kernel
theorem dX11_take_28 : decode cX11_take 28 = .ok (.iastore, 1) := by decide +kernel
theorem dX11_take_29 : decode cX11_take 29 = .ok (.iinc 2 1, 3) := by decide +kernel
theorem dX11_take_32 : decode cX11_take 32 = .ok (.goto (-30), 3) := by decide +kernel
theorem dX11_take_35 : decode cX11_take 35 = .ok (.aload_n 0, 1) := by decide +kernel
theorem dX11_take_36 : decode cX11_take 36 = .ok (.aload_n 0, 1) := by decide +kernel
theorem dX11_take_37 : decode cX11_take 37 = .ok (.getfield 81, 3) := by decide +kernel
theorem dX11_take_40 : decode cX11_take 40 = .ok (.iload_n 1, 1) := by decide +kernel
theorem dX11_take_41 : decode cX11_take 41 = .ok (.iaload, 1) := by decide +kernel
theorem dX11_take_42 : decode cX11_take 42 = .ok (.putfield 130, 3) := by decide +kernel
theorem dX11_take_45 : decode cX11_take 45 = .ok (.aload_n 0, 1) := by decide +kernel
theorem dX11_take_46 : decode cX11_take 46 = .ok (.aload_n 0, 1) := by decide +kernel
theorem dX11_take_47 : decode cX11_take 47 = .ok (.getfield 84, 3) := by decide +kernel
theorem dX11_take_50 : decode cX11_take 50 = .ok (.iload_n 1, 1) := by decide +kernel
theorem dX11_take_51 : decode cX11_take 51 = .ok (.baload, 1) := by decide +kernel
theorem dX11_take_52 : decode cX11_take 52 = .ok (.putfield 151, 3) := by decide +kernel
theorem dX11_take_55 : decode cX11_take 55 = .ok (.aload_n 0, 1) := by decide +kernel
theorem dX11_take_56 : decode cX11_take 56 = .ok (.getfield 81, 3) := by decide +kernel
theorem dX11_take_59 : decode cX11_take 59 = .ok (.iload_n 1, 1) := by decide +kernel
theorem dX11_take_60 : decode cX11_take 60 = .ok (.iconst 0, 1) := by decide +kernel
theorem dX11_take_61 : decode cX11_take 61 = .ok (.iastore, 1) := by decide +kernel
theorem dX11_take_62 : decode cX11_take 62 = .ok (.aload_n 0, 1) := by decide +kernel
theorem dX11_take_63 : decode cX11_take 63 = .ok (.getfield 61, 3) := by decide +kernel
theorem dX11_take_66 : decode cX11_take 66 = .ok (.aload_n 0, 1) := by decide +kernel
theorem dX11_take_67 : decode cX11_take 67 = .ok (.getfield 75, 3) := by decide +kernel
theorem dX11_take_70 : decode cX11_take 70 = .ok (.iconst 0, 1) := by decide +kernel
theorem dX11_take_71 : decode cX11_take 71 = .ok (.iaload, 1) := by decide +kernel
theorem dX11_take_72 : decode cX11_take 72 = .ok (.iconst 0, 1) := by decide +kernel
theorem dX11_take_73 : decode cX11_take 73 = .ok (.bastore, 1) := by decide +kernel
theorem dX11_take_74 : decode cX11_take 74 = .ok (.aload_n 0, 1) := by decide +kernel
theorem dX11_take_75 : decode cX11_take 75 = .ok (.getfield 151, 3) := by decide +kernel
theorem dX11_take_78 : decode cX11_take 78 = .ok (.ifCond .eq 8, 3) := by decide +kernel
theorem dX11_take_81 : decode cX11_take 81 = .ok (.bipush 7, 2) := by decide +kernel
theorem dX11_take_83 : decode cX11_take 83 = .ok (.goto 14, 3) := by decide +kernel
theorem dX11_take_86 : decode cX11_take 86 = .ok (.aload_n 0, 1) := by decide +kernel
theorem dX11_take_87 : decode cX11_take 87 = .ok (.getfield 22, 3) := by decide +kernel
theorem dX11_take_90 : decode cX11_take 90 = .ok (.aload_n 0, 1) := by decide +kernel
theorem dX11_take_91 : decode cX11_take 91 = .ok (.getfield 75, 3) := by decide +kernel
theorem dX11_take_94 : decode cX11_take 94 = .ok (.iconst 0, 1) := by decide +kernel
theorem dX11_take_95 : decode cX11_take 95 = .ok (.iaload, 1) := by decide +kernel
theorem dX11_take_96 : decode cX11_take 96 = .ok (.iaload, 1) := by decide +kernel
theorem dX11_take_97 : decode cX11_take 97 = .ok (.ireturn, 1) := by decide +kernel
theorem dX11_text_0 : decode cX11_text 0 = .ok (.iload_n 1, 1) := by decide +kernel
theorem dX11_text_1 : decode cX11_text 1 = .ok (.iconst (-1), 1) := by decide +kernel
theorem dX11_text_2 : decode cX11_text 2 = .ok (.if_icmp .ne 28, 3) := by decide +kernel
theorem dX11_text_5 : decode cX11_text 5 = .ok (.iload_n 2, 1) := by decide +kernel
theorem dX11_text_6 : decode cX11_text 6 = .ok (.iconst 0, 1) := by decide +kernel
theorem dX11_text_7 : decode cX11_text 7 = .ok (.aload_n 0, 1) := by decide +kernel
theorem dX11_text_8 : decode cX11_text 8 = .ok (.getfield 133, 3) := by decide +kernel
theorem dX11_text_11 : decode cX11_text 11 = .ok (.iconst 1, 1) := by decide +kernel
theorem dX11_text_12 : decode cX11_text 12 = .ok (.isub, 1) := by decide +kernel
theorem dX11_text_13 : decode cX11_text 13 = .ok (.invokestatic 136, 3) := by decide +kernel
theorem dX11_text_16 : decode cX11_text 16 = .ok (.ifCond .eq 12, 3) := by decide +kernel
theorem dX11_text_19 : decode cX11_text 19 = .ok (.aload_n 0, 1) := by decide +kernel
theorem dX11_text_20 : decode cX11_text 20 = .ok (.getfield 87, 3) := by decide +kernel
theorem dX11_text_23 : decode cX11_text 23 = .ok (.iload_n 2, 1) := by decide +kernel
theorem dX11_text_24 : decode cX11_text 24 = .ok (.iaload, 1) := by decide +kernel
theorem dX11_text_25 : decode cX11_text 25 = .ok (.goto 4, 3) := by decide +kernel
theorem dX11_text_28 : decode cX11_text 28 = .ok (.iconst (-1), 1) := by decide +kernel
theorem dX11_text_29 : decode cX11_text 29 = .ok (.ireturn, 1) := by decide +kernel
theorem dX11_text_30 : decode cX11_text 30 = .ok (.iload_n 1, 1) := by decide +kernel
theorem dX11_text_31 : decode cX11_text 31 = .ok (.bipush 9, 2) := by decide +kernel
theorem dX11_text_33 : decode cX11_text 33 = .ok (.if_icmp .ne 30, 3) := by decide +kernel
theorem dX11_text_36 : decode cX11_text 36 = .ok (.aload_n 0, 1) := by decide +kernel
theorem dX11_text_37 : decode cX11_text 37 = .ok (.getfield 130, 3) := by decide +kernel
theorem dX11_text_40 : decode cX11_text 40 = .ok (.ifCond .le 19, 3) := by decide +kernel
theorem dX11_text_43 : decode cX11_text 43 = .ok (.aload_n 0, 1) := by decide +kernel
theorem dX11_text_44 : decode cX11_text 44 = .ok (.getfield 151, 3) := by decide +kernel
theorem dX11_text_47 : decode cX11_text 47 = .ok (.ifCond .ne 12, 3) := by decide +kernel
theorem dX11_text_50 : decode cX11_text 50 = .ok (.aload_n 0, 1) := by decide +kernel
theorem dX11_text_51 : decode cX11_text 51 = .ok (.getfield 75, 3) := by decide +kernel
theorem dX11_text_54 : decode cX11_text 54 = .ok (.iconst 0, 1) := by decide +kernel
theorem dX11_text_55 : decode cX11_text 55 = .ok (.iaload, 1) := by decide +kernel
theorem dX11_text_56 : decode cX11_text 56 = .ok (.goto 31, 3) := by decide +kernel
theorem dX11_text_59 : decode cX11_text 59 = .ok (.iconst (-1), 1) := by decide +kernel
theorem dX11_text_60 : decode cX11_text 60 = .ok (.goto 27, 3) := by decide +kernel
theorem dX11_text_63 : decode cX11_text 63 = .ok (.iload_n 1, 1) := by decide +kernel
theorem dX11_text_64 : decode cX11_text 64 = .ok (.iconst 0, 1) := by decide +kernel
theorem dX11_text_65 : decode cX11_text 65 = .ok (.aload_n 0, 1) := by decide +kernel
theorem dX11_text_66 : decode cX11_text 66 = .ok (.getfield 115, 3) := by decide +kernel
theorem dX11_text_69 : decode cX11_text 69 = .ok (.iconst 1, 1) := by decide +kernel
theorem dX11_text_70 : decode cX11_text 70 = .ok (.isub, 1) := by decide +kernel
theorem dX11_text_71 : decode cX11_text 71 = .ok (.invokestatic 136, 3) := by decide +kernel
theorem dX11_text_74 : decode cX11_text 74 = .ok (.ifCond .eq 12, 3) := by decide +kernel
theorem dX11_text_77 : decode cX11_text 77 = .ok (.aload_n 0, 1) := by decide +kernel
theorem dX11_text_78 : decode cX11_text 78 = .ok (.getfield 72, 3) := by decide +kernel
theorem dX11_text_81 : decode cX11_text 81 = .ok (.iload_n 1, 1) := by decide +kernel
theorem dX11_text_82 : decode cX11_text 82 = .ok (.iaload, 1) := by decide +kernel
theorem dX11_text_83 : decode cX11_text 83 = .ok (.goto 4, 3) := by decide +kernel
theorem dX11_text_86 : decode cX11_text 86 = .ok (.iconst (-1), 1) := by decide +kernel
theorem dX11_text_87 : decode cX11_text 87 = .ok (.istore_n 3, 1) := by decide +kernel
theorem dX11_text_88 : decode cX11_text 88 = .ok (.iload_n 3, 1) := by decide +kernel
theorem dX11_text_89 : decode cX11_text 89 = .ok (.iconst (-1), 1) := by decide +kernel
theorem dX11_text_90 : decode cX11_text 90 = .ok (.if_icmp .eq 34, 3) := by decide +kernel
theorem dX11_text_93 : decode cX11_text 93 = .ok (.iload_n 2, 1) := by decide +kernel
theorem dX11_text_94 : decode cX11_text 94 = .ok (.iconst 0, 1) := by decide +kernel
theorem dX11_text_95 : decode cX11_text 95 = .ok (.aload_n 0, 1) := by decide +kernel
theorem dX11_text_96 : decode cX11_text 96 = .ok (.getfield 37, 3) := by decide +kernel
theorem dX11_text_99 : decode cX11_text 99 = .ok (.iload_n 3, 1) := by decide +kernel
theorem dX11_text_100 : decode cX11_text 100 = .ok (.iaload, 1) := by decide +kernel
theorem dX11_text_101 : decode cX11_text 101 = .ok (.iconst 1, 1) := by decide +kernel
theorem dX11_text_102 : decode cX11_text 102 = .ok (.isub, 1) := by decide +kernel
theorem dX11_text_103 : decode cX11_text 103 = .ok (.invokestatic 136, 3) := by decide +kernel
theorem dX11_text_106 : decode cX11_text 106 = .ok (.ifCond .eq 18, 3) := by decide +kernel
theorem dX11_text_109 : decode cX11_text 109 = .ok (.aload_n 0, 1) := by decide +kernel
theorem dX11_text_110 : decode cX11_text 110 = .ok (.getfield 65, 3) := by decide +kernel
theorem dX11_text_113 : decode cX11_text 113 = .ok (.sipush 400, 3) := by decide +kernel
theorem dX11_text_116 : decode cX11_text 116 = .ok (.iload_n 3, 1) := by decide +kernel
theorem dX11_text_117 : decode cX11_text 117 = .ok (.imul, 1) := by decide +kernel
theorem dX11_text_118 : decode cX11_text 118 = .ok (.iload_n 2, 1) := by decide +kernel
theorem dX11_text_119 : decode cX11_text 119 = .ok (.iadd, 1) := by decide +kernel
theorem dX11_text_120 : decode cX11_text 120 = .ok (.iaload, 1) := by decide +kernel
theorem dX11_text_121 : decode cX11_text 121 = .ok (.goto 4, 3) := by decide +kernel
theorem dX11_text_124 : decode cX11_text 124 = .ok (.iconst (-1), 1) := by decide +kernel
theorem dX11_text_125 : decode cX11_text 125 = .ok (.ireturn, 1) := by decide +kernel
theorem dX11_told_0 : decode cX11_told 0 = .ok (.aload_n 0, 1) := by decide +kernel
theorem dX11_told_1 : decode cX11_told 1 = .ok (.getfield 100, 3) := by decide +kernel
theorem dX11_told_4 : decode cX11_told 4 = .ok (.aload_n 0, 1) := by decide +kernel
theorem dX11_told_5 : decode cX11_told 5 = .ok (.getfield 106, 3) := by decide +kernel
theorem dX11_told_8 : decode cX11_told 8 = .ok (.if_icmp .ge 5, 3) := by decide +kernel
theorem dX11_told_11 : decode cX11_told 11 = .ok (.iconst 0, 1) := by decide +kernel
theorem dX11_told_12 : decode cX11_told 12 = .ok (.ireturn, 1) := by decide +kernel
theorem dX11_told_13 : decode cX11_told 13 = .ok (.aload_n 0, 1) := by decide +kernel
theorem dX11_told_14 : decode cX11_told 14 = .ok (.invokevirtual 155, 3) := by decide +kernel
theorem dX11_told_17 : decode cX11_told 17 = .ok (.istore_n 1, 1) := by decide +kernel
theorem dX11_told_18 : decode cX11_told 18 = .ok (.aload_n 0, 1) := by decide +kernel
theorem dX11_told_19 : decode cX11_told 19 = .ok (.getfield 22, 3) := by decide +kernel
theorem dX11_told_22 : decode cX11_told 22 = .ok (.iload_n 1, 1) := by decide +kernel
theorem dX11_told_23 : decode cX11_told 23 = .ok (.iaload, 1) := by decide +kernel
theorem dX11_told_24 : decode cX11_told 24 = .ok (.istore_n 2, 1) := by decide +kernel
theorem dX11_told_25 : decode cX11_told 25 = .ok (.iconst 0, 1) := by decide +kernel
theorem dX11_told_26 : decode cX11_told 26 = .ok (.istore_n 3, 1) := by decide +kernel
theorem dX11_told_27 : decode cX11_told 27 = .ok (.iconst 0, 1) := by decide +kernel
theorem dX11_told_28 : decode cX11_told 28 = .ok (.istore 4, 2) := by decide +kernel
theorem dX11_told_30 : decode cX11_told 30 = .ok (.iconst 0, 1) := by decide +kernel
theorem dX11_told_31 : decode cX11_told 31 = .ok (.istore 5, 2) := by decide +kernel
theorem dX11_told_33 : decode cX11_told 33 = .ok (.iload 5, 2) := by decide +kernel
theorem dX11_told_35 : decode cX11_told 35 = .ok (.aload_n 0, 1) := by decide +kernel
theorem dX11_told_36 : decode cX11_told 36 = .ok (.getfield 96, 3) := by decide +kernel
theorem dX11_told_39 : decode cX11_told 39 = .ok (.if_icmp .ge 80, 3) := by decide +kernel
theorem dX11_told_42 : decode cX11_told 42 = .ok (.aload_n 0, 1) := by decide +kernel
theorem dX11_told_43 : decode cX11_told 43 = .ok (.invokevirtual 159, 3) := by decide +kernel
theorem dX11_told_46 : decode cX11_told 46 = .ok (.ifCond .eq 73, 3) := by decide +kernel
theorem dX11_told_49 : decode cX11_told 49 = .ok (.aload_n 0, 1) := by decide +kernel
theorem dX11_told_50 : decode cX11_told 50 = .ok (.getfield 9, 3) := by decide +kernel
theorem dX11_told_53 : decode cX11_told 53 = .ok (.iload 5, 2) := by decide +kernel
theorem dX11_told_55 : decode cX11_told 55 = .ok (.baload, 1) := by decide +kernel
theorem dX11_told_56 : decode cX11_told 56 = .ok (.ifCond .ne 6, 3) := by decide +kernel
theorem dX11_told_59 : decode cX11_told 59 = .ok (.goto 54, 3) := by decide +kernel
theorem dX11_told_62 : decode cX11_told 62 = .ok (.iload_n 3, 1) := by decide +kernel
theorem dX11_told_63 : decode cX11_told 63 = .ok (.aload_n 0, 1) := by decide +kernel
theorem dX11_told_64 : decode cX11_told 64 = .ok (.getfield 68, 3) := by decide +kernel
theorem dX11_told_67 : decode cX11_told 67 = .ok (.sipush 200, 3) := by decide +kernel
theorem dX11_told_70 : decode cX11_told 70 = .ok (.iload_n 1, 1) := by decide +kernel
theorem dX11_told_71 : decode cX11_told 71 = .ok (.imul, 1) := by decide +kernel
theorem dX11_told_72 : decode cX11_told 72 = .ok (.iload 5, 2) := by decide +kernel
theorem dX11_told_74 : decode cX11_told 74 = .ok (.iadd, 1) := by decide +kernel
theorem dX11_told_75 : decode cX11_told 75 = .ok (.baload, 1) := by decide +kernel
theorem dX11_told_76 : decode cX11_told 76 = .ok (.iconst 1, 1) := by decide +kernel
theorem dX11_told_77 : decode cX11_told 77 = .ok (.if_icmp .ne 7, 3) := by decide +kernel
theorem dX11_told_80 : decode cX11_told 80 = .ok (.iconst 1, 1) := by decide +kernel
theorem dX11_told_81 : decode cX11_told 81 = .ok (.goto 4, 3) := by decide +kernel
theorem dX11_told_84 : decode cX11_told 84 = .ok (.iconst 0, 1) := by decide +kernel
theorem dX11_told_85 : decode cX11_told 85 = .ok (.iadd, 1) := by decide +kernel
theorem dX11_told_86 : decode cX11_told 86 = .ok (.istore_n 3, 1) := by decide +kernel
theorem dX11_told_87 : decode cX11_told 87 = .ok (.iload 4, 2) := by decide +kernel
theorem dX11_told_89 : decode cX11_told 89 = .ok (.aload_n 0, 1) := by decide +kernel
theorem dX11_told_90 : decode cX11_told 90 = .ok (.getfield 68, 3) := by decide +kernel
theorem dX11_told_93 : decode cX11_told 93 = .ok (.sipush 200, 3) := by decide +kernel
theorem dX11_told_96 : decode cX11_told 96 = .ok (.iload_n 1, 1) := by decide +kernel
theorem dX11_told_97 : decode cX11_told 97 = .ok (.imul, 1) := by decide +kernel
theorem dX11_told_98 : decode cX11_told 98 = .ok (.iload 5, 2) := by decide +kernel
theorem dX11_told_100 : decode cX11_told 100 = .ok (.iadd, 1) := by decide +kernel
theorem dX11_told_101 : decode cX11_told 101 = .ok (.baload, 1) := by decide +kernel
theorem dX11_told_102 : decode cX11_told 102 = .ok (.ifCond .ne 7, 3) := by decide +kernel
theorem dX11_told_105 : decode cX11_told 105 = .ok (.iconst 1, 1) := by decide +kernel
theorem dX11_told_106 : decode cX11_told 106 = .ok (.goto 4, 3) := by decide +kernel
theorem dX11_told_109 : decode cX11_told 109 = .ok (.iconst 0, 1) := by decide +kernel
theorem dX11_told_110 : decode cX11_told 110 = .ok (.iadd, 1) := by decide +kernel
theorem dX11_told_111 : decode cX11_told 111 = .ok (.istore 4, 2) := by decide +kernel
theorem dX11_told_113 : decode cX11_told 113 = .ok (.iinc 5 1, 3) := by decide +kernel
theorem dX11_told_116 : decode cX11_told 116 = .ok (.goto (-83), 3) := by decide +kernel
theorem dX11_told_119 : decode cX11_told 119 = .ok (.iload_n 2, 1) := by decide +kernel
theorem dX11_told_120 : decode cX11_told 120 = .ok (.bipush 9, 2) := by decide +kernel
theorem dX11_told_122 : decode cX11_told 122 = .ok (.if_icmp .ne 26, 3) := by decide +kernel
theorem dX11_told_125 : decode cX11_told 125 = .ok (.aload_n 0, 1) := by decide +kernel
theorem dX11_told_126 : decode cX11_told 126 = .ok (.invokevirtual 159, 3) := by decide +kernel
theorem dX11_told_129 : decode cX11_told 129 = .ok (.ifCond .eq 13, 3) := by decide +kernel
theorem dX11_told_132 : decode cX11_told 132 = .ok (.iload 4, 2) := by decide +kernel
theorem dX11_told_134 : decode cX11_told 134 = .ok (.iload_n 3, 1) := by decide +kernel
theorem dX11_told_135 : decode cX11_told 135 = .ok (.if_icmp .le 7, 3) := by decide +kernel
theorem dX11_told_138 : decode cX11_told 138 = .ok (.iconst 5, 1) := by decide +kernel
theorem dX11_told_139 : decode cX11_told 139 = .ok (.goto 4, 3) := by decide +kernel
theorem dX11_told_142 : decode cX11_told 142 = .ok (.iconst 4, 1) := by decide +kernel
theorem dX11_told_143 : decode cX11_told 143 = .ok (.istore 5, 2) := by decide +kernel
theorem dX11_told_145 : decode cX11_told 145 = .ok (.goto 39, 3) := by decide +kernel
theorem dX11_told_148 : decode cX11_told 148 = .ok (.aload_n 0, 1) := by decide +kernel
theorem dX11_told_149 : decode cX11_told 149 = .ok (.invokevirtual 159, 3) := by decide +kernel
theorem dX11_told_152 : decode cX11_told 152 = .ok (.ifCond .ne 9, 3) := by decide +kernel
theorem dX11_told_155 : decode cX11_told 155 = .ok (.iconst 3, 1) := by decide +kernel
theorem dX11_told_156 : decode cX11_told 156 = .ok (.istore 5, 2) := by decide +kernel
theorem dX11_told_158 : decode cX11_told 158 = .ok (.goto 26, 3) := by decide +kernel
theorem dX11_told_161 : decode cX11_told 161 = .ok (.aload_n 0, 1) := by decide +kernel
theorem dX11_told_162 : decode cX11_told 162 = .ok (.aload_n 0, 1) := by decide +kernel
theorem dX11_told_163 : decode cX11_told 163 = .ok (.getfield 15, 3) := by decide +kernel
theorem dX11_told_166 : decode cX11_told 166 = .ok (.iload_n 2, 1) := by decide +kernel
theorem dX11_told_167 : decode cX11_told 167 = .ok (.iaload, 1) := by decide +kernel
theorem dX11_told_168 : decode cX11_told 168 = .ok (.iload_n 3, 1) := by decide +kernel
theorem dX11_told_169 : decode cX11_told 169 = .ok (.iload 4, 2) := by decide +kernel
theorem dX11_told_171 : decode cX11_told 171 = .ok (.invokevirtual 233, 3) := by decide +kernel
theorem dX11_told_174 : decode cX11_told 174 = .ok (.ifCond .eq 7, 3) := by decide +kernel
theorem dX11_told_177 : decode cX11_told 177 = .ok (.iconst 1, 1) := by decide +kernel
theorem dX11_told_178 : decode cX11_told 178 = .ok (.goto 4, 3) := by decide +kernel
theorem dX11_told_181 : decode cX11_told 181 = .ok (.iconst 2, 1) := by decide +kernel
theorem dX11_told_182 : decode cX11_told 182 = .ok (.istore 5, 2) := by decide +kernel
theorem dX11_told_184 : decode cX11_told 184 = .ok (.iconst 5, 1) := by decide +kernel
theorem dX11_told_185 : decode cX11_told 185 = .ok (.aload_n 0, 1) := by decide +kernel
theorem dX11_told_186 : decode cX11_told 186 = .ok (.getfield 121, 3) := by decide +kernel
theorem dX11_told_189 : decode cX11_told 189 = .ok (.imul, 1) := by decide +kernel
theorem dX11_told_190 : decode cX11_told 190 = .ok (.istore 6, 2) := by decide +kernel
theorem dX11_told_192 : decode cX11_told 192 = .ok (.aload_n 0, 1) := by decide +kernel
theorem dX11_told_193 : decode cX11_told 193 = .ok (.getfield 93, 3) := by decide +kernel
theorem dX11_told_196 : decode cX11_told 196 = .ok (.iload 6, 2) := by decide +kernel
theorem dX11_told_198 : decode cX11_told 198 = .ok (.aload_n 0, 1) := by decide +kernel
theorem dX11_told_199 : decode cX11_told 199 = .ok (.getfield 118, 3) := by decide +kernel
theorem dX11_told_202 : decode cX11_told 202 = .ok (.iastore, 1) := by decide +kernel
theorem dX11_told_203 : decode cX11_told 203 = .ok (.aload_n 0, 1) := by decide +kernel
theorem dX11_told_204 : decode cX11_told 204 = .ok (.getfield 93, 3) := by decide +kernel
theorem dX11_told_207 : decode cX11_told 207 = .ok (.iload 6, 2) := by decide +kernel
theorem dX11_told_209 : decode cX11_told 209 = .ok (.iconst 1, 1) := by decide +kernel
theorem dX11_told_210 : decode cX11_told 210 = .ok (.iadd, 1) := by decide +kernel
theorem dX11_told_211 : decode cX11_told 211 = .ok (.iload_n 2, 1) := by decide +kernel
theorem dX11_told_212 : decode cX11_told 212 = .ok (.iastore, 1) := by decide +kernel
theorem dX11_told_213 : decode cX11_told 213 = .ok (.aload_n 0, 1) := by decide +kernel
theorem dX11_told_214 : decode cX11_told 214 = .ok (.getfield 93, 3) := by decide +kernel
theorem dX11_told_217 : decode cX11_told 217 = .ok (.iload 6, 2) := by decide +kernel
theorem dX11_told_219 : decode cX11_told 219 = .ok (.iconst 2, 1) := by decide +kernel
theorem dX11_told_220 : decode cX11_told 220 = .ok (.iadd, 1) := by decide +kernel
theorem dX11_told_221 : decode cX11_told 221 = .ok (.iload 5, 2) := by decide +kernel
theorem dX11_told_223 : decode cX11_told 223 = .ok (.iastore, 1) := by decide +kernel
theorem dX11_told_224 : decode cX11_told 224 = .ok (.aload_n 0, 1) := by decide +kernel
theorem dX11_told_225 : decode cX11_told 225 = .ok (.getfield 93, 3) := by decide +kernel
theorem dX11_told_228 : decode cX11_told 228 = .ok (.iload 6, 2) := by decide +kernel
theorem dX11_told_230 : decode cX11_told 230 = .ok (.iconst 3, 1) := by decide +kernel
theorem dX11_told_231 : decode cX11_told 231 = .ok (.iadd, 1) := by decide +kernel
theorem dX11_told_232 : decode cX11_told 232 = .ok (.iload_n 3, 1) := by decide +kernel
theorem dX11_told_233 : decode cX11_told 233 = .ok (.iastore, 1) := by decide +kernel
theorem dX11_told_234 : decode cX11_told 234 = .ok (.aload_n 0, 1) := by decide +kernel
theorem dX11_told_235 : decode cX11_told 235 = .ok (.getfield 93, 3) := by decide +kernel
theorem dX11_told_238 : decode cX11_told 238 = .ok (.iload 6, 2) := by decide +kernel
theorem dX11_told_240 : decode cX11_told 240 = .ok (.iconst 4, 1) := by decide +kernel
theorem dX11_told_241 : decode cX11_told 241 = .ok (.iadd, 1) := by decide +kernel
theorem dX11_told_242 : decode cX11_told 242 = .ok (.iload 4, 2) := by decide +kernel
theorem dX11_told_244 : decode cX11_told 244 = .ok (.iastore, 1) := by decide +kernel
theorem dX11_told_245 : decode cX11_told 245 = .ok (.aload_n 0, 1) := by decide +kernel
theorem dX11_told_246 : decode cX11_told 246 = .ok (.dup, 1) := by decide +kernel
theorem dX11_told_247 : decode cX11_told 247 = .ok (.getfield 121, 3) := by decide +kernel
theorem dX11_told_250 : decode cX11_told 250 = .ok (.iconst 1, 1) := by decide +kernel
theorem dX11_told_251 : decode cX11_told 251 = .ok (.iadd, 1) := by decide +kernel
theorem dX11_told_252 : decode cX11_told 252 = .ok (.putfield 121, 3) := by decide +kernel
theorem dX11_told_255 : decode cX11_told 255 = .ok (.aload_n 0, 1) := by decide +kernel
theorem dX11_told_256 : decode cX11_told 256 = .ok (.iconst (-1), 1) := by decide +kernel
theorem dX11_told_257 : decode cX11_told 257 = .ok (.putfield 112, 3) := by decide +kernel
theorem dX11_told_260 : decode cX11_told 260 = .ok (.iload 5, 2) := by decide +kernel
theorem dX11_told_262 : decode cX11_told 262 = .ok (.iconst 1, 1) := by decide +kernel
theorem dX11_told_263 : decode cX11_told 263 = .ok (.if_icmp .ne 12, 3) := by decide +kernel
theorem dX11_told_266 : decode cX11_told 266 = .ok (.aload_n 0, 1) := by decide +kernel
theorem dX11_told_267 : decode cX11_told 267 = .ok (.iload_n 1, 1) := by decide +kernel
theorem dX11_told_268 : decode cX11_told 268 = .ok (.iload_n 2, 1) := by decide +kernel
theorem dX11_told_269 : decode cX11_told 269 = .ok (.invokevirtual 236, 3) := by decide +kernel
theorem dX11_told_272 : decode cX11_told 272 = .ok (.goto 17, 3) := by decide +kernel
theorem dX11_told_275 : decode cX11_told 275 = .ok (.aload_n 0, 1) := by decide +kernel
theorem dX11_told_276 : decode cX11_told 276 = .ok (.invokevirtual 227, 3) := by decide +kernel
theorem dX11_told_279 : decode cX11_told 279 = .ok (.iload 5, 2) := by decide +kernel
theorem dX11_told_281 : decode cX11_told 281 = .ok (.iconst 4, 1) := by decide +kernel
theorem dX11_told_282 : decode cX11_told 282 = .ok (.if_icmp .ne 7, 3) := by decide +kernel
theorem dX11_told_285 : decode cX11_told 285 = .ok (.aload_n 0, 1) := by decide +kernel
theorem dX11_told_286 : decode cX11_told 286 = .ok (.invokevirtual 227, 3) := by decide +kernel
theorem dX11_told_289 : decode cX11_told 289 = .ok (.iload 5, 2) := by decide +kernel
theorem dX11_told_291 : decode cX11_told 291 = .ok (.ireturn, 1) := by decide +kernel
theorem dX11_top_0 : decode cX11_top 0 = .ok (.aload_n 0, 1) := by decide +kernel
theorem dX11_top_1 : decode cX11_top 1 = .ok (.getfield 72, 3) := by decide +kernel
theorem dX11_top_4 : decode cX11_top 4 = .ok (.aload_n 0, 1) := by decide +kernel
theorem dX11_top_5 : decode cX11_top 5 = .ok (.getfield 115, 3) := by decide +kernel
theorem dX11_top_8 : decode cX11_top 8 = .ok (.iconst 1, 1) := by decide +kernel
theorem dX11_top_9 : decode cX11_top 9 = .ok (.isub, 1) := by decide +kernel
theorem dX11_top_10 : decode cX11_top 10 = .ok (.iaload, 1) := by decide +kernel
theorem dX11_top_11 : decode cX11_top 11 = .ok (.ireturn, 1) := by decide +kernel
theorem dX11_voters_0 : decode cX11_voters 0 = .ok (.iconst 0, 1) := by decide +kernel
theorem dX11_voters_1 : decode cX11_voters 1 = .ok (.istore_n 2, 1) := by decide +kernel
theorem dX11_voters_2 : decode cX11_voters 2 = .ok (.iconst 0, 1) := by decide +kernel
theorem dX11_voters_3 : decode cX11_voters 3 = .ok (.istore_n 3, 1) := by decide +kernel
theorem dX11_voters_4 : decode cX11_voters 4 = .ok (.iload_n 3, 1) := by decide +kernel
theorem dX11_voters_5 : decode cX11_voters 5 = .ok (.aload_n 0, 1) := by decide +kernel
theorem dX11_voters_6 : decode cX11_voters 6 = .ok (.getfield 96, 3) := by decide +kernel
theorem dX11_voters_9 : decode cX11_voters 9 = .ok (.if_icmp .ge 33, 3) := by decide +kernel
theorem dX11_voters_12 : decode cX11_voters 12 = .ok (.iload_n 2, 1) := by decide +kernel
theorem dX11_voters_13 : decode cX11_voters 13 = .ok (.aload_n 0, 1) := by decide +kernel
theorem dX11_voters_14 : decode cX11_voters 14 = .ok (.getfield 68, 3) := by decide +kernel
theorem dX11_voters_17 : decode cX11_voters 17 = .ok (.sipush 200, 3) := by decide +kernel
theorem dX11_voters_20 : decode cX11_voters 20 = .ok (.iload_n 1, 1) := by decide +kernel
theorem dX11_voters_21 : decode cX11_voters 21 = .ok (.imul, 1) := by decide +kernel
theorem dX11_voters_22 : decode cX11_voters 22 = .ok (.iload_n 3, 1) := by decide +kernel
theorem dX11_voters_23 : decode cX11_voters 23 = .ok (.iadd, 1) := by decide +kernel
theorem dX11_voters_24 : decode cX11_voters 24 = .ok (.baload, 1) := by decide +kernel
theorem dX11_voters_25 : decode cX11_voters 25 = .ok (.iconst 2, 1) := by decide +kernel
theorem dX11_voters_26 : decode cX11_voters 26 = .ok (.if_icmp .ge 7, 3) := by decide +kernel
theorem dX11_voters_29 : decode cX11_voters 29 = .ok (.iconst 1, 1) := by decide +kernel
theorem dX11_voters_30 : decode cX11_voters 30 = .ok (.goto 4, 3) := by decide +kernel
theorem dX11_voters_33 : decode cX11_voters 33 = .ok (.iconst 0, 1) := by decide +kernel
theorem dX11_voters_34 : decode cX11_voters 34 = .ok (.iadd, 1) := by decide +kernel
theorem dX11_voters_35 : decode cX11_voters 35 = .ok (.istore_n 2, 1) := by decide +kernel
theorem dX11_voters_36 : decode cX11_voters 36 = .ok (.iinc 3 1, 3) := by decide +kernel
theorem dX11_voters_39 : decode cX11_voters 39 = .ok (.goto (-35), 3) := by decide +kernel
theorem dX11_voters_42 : decode cX11_voters 42 = .ok (.iload_n 2, 1) := by decide +kernel
theorem dX11_voters_43 : decode cX11_voters 43 = .ok (.ireturn, 1) := by decide +kernel
theorem dX11_wantsPlace_0 : decode cX11_wantsPlace 0 = .ok (.iconst 0, 1) := by decide +kernel
theorem dX11_wantsPlace_1 : decode cX11_wantsPlace 1 = .ok (.istore_n 1, 1) := by decide +kernel
theorem dX11_wantsPlace_2 : decode cX11_wantsPlace 2 = .ok (.iload_n 1, 1) := by decide +kernel
theorem dX11_wantsPlace_3 : decode cX11_wantsPlace 3 = .ok (.aload_n 0, 1) := by decide +kernel
theorem dX11_wantsPlace_4 : decode cX11_wantsPlace 4 = .ok (.getfield 115, 3) := by decide +kernel
theorem dX11_wantsPlace_7 : decode cX11_wantsPlace 7 = .ok (.if_icmp .ge 57, 3) := by decide +kernel
theorem dX11_wantsPlace_10 : decode cX11_wantsPlace 10 = .ok (.aload_n 0, 1) := by decide +kernel
theorem dX11_wantsPlace_11 : decode cX11_wantsPlace 11 = .ok (.getfield 22, 3) := by decide +kernel
theorem dX11_wantsPlace_14 : decode cX11_wantsPlace 14 = .ok (.aload_n 0, 1) := by decide +kernel
theorem dX11_wantsPlace_15 : decode cX11_wantsPlace 15 = .ok (.getfield 72, 3) := by decide +kernel
theorem dX11_wantsPlace_18 : decode cX11_wantsPlace 18 = .ok (.iload_n 1, 1) := by decide +kernel
theorem dX11_wantsPlace_19 : decode cX11_wantsPlace 19 = .ok (.iaload, 1) := by decide +kernel
theorem dX11_wantsPlace_20 : decode cX11_wantsPlace 20 = .ok (.iaload, 1) := by decide +kernel
theorem dX11_wantsPlace_21 : decode cX11_wantsPlace 21 = .ok (.iconst 4, 1) := by decide +kernel
theorem dX11_wantsPlace_22 : decode cX11_wantsPlace 22 = .ok (.if_icmp .eq 34, 3) := by decide +kernel
theorem dX11_wantsPlace_25 : decode cX11_wantsPlace 25 = .ok (.aload_n 0, 1) := by decide +kernel
theorem dX11_wantsPlace_26 : decode cX11_wantsPlace 26 = .ok (.getfield 22, 3) := by decide +kernel
theorem dX11_wantsPlace_29 : decode cX11_wantsPlace 29 = .ok (.aload_n 0, 1) := by decide +kernel
theorem dX11_wantsPlace_30 : decode cX11_wantsPlace 30 = .ok (.getfield 72, 3) := by decide +kernel
theorem dX11_wantsPlace_33 : decode cX11_wantsPlace 33 = .ok (.iload_n 1, 1) := by decide +kernel
theorem dX11_wantsPlace_34 : decode cX11_wantsPlace 34 = .ok (.iaload, 1) := by decide +kernel
theorem dX11_wantsPlace_35 : decode cX11_wantsPlace 35 = .ok (.iaload, 1) := by decide +kernel
theorem dX11_wantsPlace_36 : decode cX11_wantsPlace 36 = .ok (.iconst 5, 1) := by decide +kernel
theorem dX11_wantsPlace_37 : decode cX11_wantsPlace 37 = .ok (.if_icmp .eq 19, 3) := by decide +kernel
theorem dX11_wantsPlace_40 : decode cX11_wantsPlace 40 = .ok (.aload_n 0, 1) := by decide +kernel
theorem dX11_wantsPlace_41 : decode cX11_wantsPlace 41 = .ok (.getfield 22, 3) := by decide +kernel
theorem dX11_wantsPlace_44 : decode cX11_wantsPlace 44 = .ok (.aload_n 0, 1) := by decide +kernel
theorem dX11_wantsPlace_45 : decode cX11_wantsPlace 45 = .ok (.getfield 72, 3) := by decide +kernel
theorem dX11_wantsPlace_48 : decode cX11_wantsPlace 48 = .ok (.iload_n 1, 1) := by decide +kernel
theorem dX11_wantsPlace_49 : decode cX11_wantsPlace 49 = .ok (.iaload, 1) := by decide +kernel
theorem dX11_wantsPlace_50 : decode cX11_wantsPlace 50 = .ok (.iaload, 1) := by decide +kernel
theorem dX11_wantsPlace_51 : decode cX11_wantsPlace 51 = .ok (.bipush 7, 2) := by decide +kernel
theorem dX11_wantsPlace_53 : decode cX11_wantsPlace 53 = .ok (.if_icmp .ne 5, 3) := by decide +kernel
theorem dX11_wantsPlace_56 : decode cX11_wantsPlace 56 = .ok (.iconst 1, 1) := by decide +kernel
theorem dX11_wantsPlace_57 : decode cX11_wantsPlace 57 = .ok (.ireturn, 1) := by decide +kernel
theorem dX11_wantsPlace_58 : decode cX11_wantsPlace 58 = .ok (.iinc 1 1, 3) := by decide +kernel
theorem dX11_wantsPlace_61 : decode cX11_wantsPlace 61 = .ok (.goto (-59), 3) := by decide +kernel
theorem dX11_wantsPlace_64 : decode cX11_wantsPlace 64 = .ok (.iconst 0, 1) := by decide +kernel
theorem dX11_wantsPlace_65 : decode cX11_wantsPlace 65 = .ok (.ireturn, 1) := by decide +kernel
theorem dX12_adjourn_0 : decode cX12_adjourn 0 = .ok (.aload_n 0, 1) := by decide +kernel
theorem dX12_adjourn_1 : decode cX12_adjourn 1 = .ok (.getfield 16, 3) := by decide +kernel
theorem dX12_adjourn_4 : decode cX12_adjourn 4 = .ok (.bipush 22, 2) := by decide +kernel
theorem dX12_adjourn_6 : decode cX12_adjourn 6 = .ok (.iconst 0, 1) := by decide +kernel
theorem dX12_adjourn_7 : decode cX12_adjourn 7 = .ok (.iconst 0, 1) := by decide +kernel
theorem dX12_adjourn_8 : decode cX12_adjourn 8 = .ok (.iconst 0, 1) := by decide +kernel
theorem dX12_adjourn_9 : decode cX12_adjourn 9 = .ok (.iconst 0, 1) := by decide +kernel
theorem dX12_adjourn_10 : decode cX12_adjourn 10 = .ok (.invokevirtual 40, 3) := by decide +kernel
theorem dX12_adjourn_13 : decode cX12_adjourn 13 = .ok (.ireturn, 1) := by decide +kernel
theorem dX12_again_0 : decode cX12_again 0 = .ok (.aload_n 0, 1) := by decide +kernel
theorem dX12_again_1 : decode cX12_again 1 = .ok (.getfield 20, 3) := by decide +kernel
theorem dX12_again_4 : decode cX12_again 4 = .ok (.aload_n 0, 1) := by decide +kernel
theorem dX12_again_5 : decode cX12_again 5 = .ok (.getfield 16, 3) := by decide +kernel
theorem dX12_again_8 : decode cX12_again 8 = .ok (.getfield 96, 3) := by decide +kernel
theorem dX12_again_11 : decode cX12_again 11 = .ok (.invokevirtual 36, 3) := by decide +kernel
theorem dX12_again_14 : decode cX12_again 14 = .ok (.iconst 0, 1) := by decide +kernel
theorem dX12_again_15 : decode cX12_again 15 = .ok (.istore_n 1, 1) := by decide +kernel
theorem dX12_again_16 : decode cX12_again 16 = .ok (.iload_n 1, 1) := by decide +kernel
theorem dX12_again_17 : decode cX12_again 17 = .ok (.aload_n 0, 1) := by decide +kernel
theorem dX12_again_18 : decode cX12_again 18 = .ok (.getfield 16, 3) := by decide +kernel
theorem dX12_again_21 : decode cX12_again 21 = .ok (.getfield 48, 3) := by decide +kernel
theorem dX12_again_24 : decode cX12_again 24 = .ok (.if_icmp .ge 92, 3) := by decide +kernel
theorem dX12_again_27 : decode cX12_again 27 = .ok (.bipush 6, 2) := by decide +kernel
theorem dX12_again_29 : decode cX12_again 29 = .ok (.iload_n 1, 1) := by decide +kernel
theorem dX12_again_30 : decode cX12_again 30 = .ok (.imul, 1) := by decide +kernel
theorem dX12_again_31 : decode cX12_again 31 = .ok (.istore_n 2, 1) := by decide +kernel
theorem dX12_again_32 : decode cX12_again 32 = .ok (.aload_n 0, 1) := by decide +kernel
theorem dX12_again_33 : decode cX12_again 33 = .ok (.getfield 20, 3) := by decide +kernel
theorem dX12_again_36 : decode cX12_again 36 = .ok (.aload_n 0, 1) := by decide +kernel
theorem dX12_again_37 : decode cX12_again 37 = .ok (.getfield 16, 3) := by decide +kernel
theorem dX12_again_40 : decode cX12_again 40 = .ok (.getfield 167, 3) := by decide +kernel
theorem dX12_again_43 : decode cX12_again 43 = .ok (.iload_n 2, 1) := by decide +kernel
theorem dX12_again_44 : decode cX12_again 44 = .ok (.iaload, 1) := by decide +kernel
theorem dX12_again_45 : decode cX12_again 45 = .ok (.aload_n 0, 1) := by decide +kernel
theorem dX12_again_46 : decode cX12_again 46 = .ok (.getfield 16, 3) := by decide +kernel
theorem dX12_again_49 : decode cX12_again 49 = .ok (.getfield 167, 3) := by decide +kernel
theorem dX12_again_52 : decode cX12_again 52 = .ok (.iload_n 2, 1) := by decide +kernel
theorem dX12_again_53 : decode cX12_again 53 = .ok (.iconst 1, 1) := by decide +kernel
theorem dX12_again_54 : decode cX12_again 54 = .ok (.iadd, 1) := by decide +kernel
theorem dX12_again_55 : decode cX12_again 55 = .ok (.iaload, 1) := by decide +kernel
theorem dX12_again_56 : decode cX12_again 56 = .ok (.aload_n 0, 1) := by decide +kernel
theorem dX12_again_57 : decode cX12_again 57 = .ok (.getfield 16, 3) := by decide +kernel
theorem dX12_again_60 : decode cX12_again 60 = .ok (.getfield 167, 3) := by decide +kernel
theorem dX12_again_63 : decode cX12_again 63 = .ok (.iload_n 2, 1) := by decide +kernel
theorem dX12_again_64 : decode cX12_again 64 = .ok (.iconst 2, 1) := by decide +kernel
theorem dX12_again_65 : decode cX12_again 65 = .ok (.iadd, 1) := by decide +kernel
theorem dX12_again_66 : decode cX12_again 66 = .ok (.iaload, 1) := by decide +kernel
theorem dX12_again_67 : decode cX12_again 67 = .ok (.aload_n 0, 1) := by decide +kernel
theorem dX12_again_68 : decode cX12_again 68 = .ok (.getfield 16, 3) := by decide +kernel
theorem dX12_again_71 : decode cX12_again 71 = .ok (.getfield 167, 3) := by decide +kernel
theorem dX12_again_74 : decode cX12_again 74 = .ok (.iload_n 2, 1) := by decide +kernel
theorem dX12_again_75 : decode cX12_again 75 = .ok (.iconst 3, 1) := by decide +kernel
theorem dX12_again_76 : decode cX12_again 76 = .ok (.iadd, 1) := by decide +kernel
theorem dX12_again_77 : decode cX12_again 77 = .ok (.iaload, 1) := by decide +kernel
theorem dX12_again_78 : decode cX12_again 78 = .ok (.aload_n 0, 1) := by decide +kernel
theorem dX12_again_79 : decode cX12_again 79 = .ok (.getfield 16, 3) := by decide +kernel
theorem dX12_again_82 : decode cX12_again 82 = .ok (.getfield 167, 3) := by decide +kernel
theorem dX12_again_85 : decode cX12_again 85 = .ok (.iload_n 2, 1) := by decide +kernel
theorem dX12_again_86 : decode cX12_again 86 = .ok (.iconst 4, 1) := by decide +kernel
theorem dX12_again_87 : decode cX12_again 87 = .ok (.iadd, 1) := by decide +kernel
theorem dX12_again_88 : decode cX12_again 88 = .ok (.iaload, 1) := by decide +kernel
theorem dX12_again_89 : decode cX12_again 89 = .ok (.invokevirtual 40, 3) := by decide +kernel
theorem dX12_again_92 : decode cX12_again 92 = .ok (.istore_n 3, 1) := by decide +kernel
theorem dX12_again_93 : decode cX12_again 93 = .ok (.iload_n 3, 1) := by decide +kernel
theorem dX12_again_94 : decode cX12_again 94 = .ok (.aload_n 0, 1) := by decide +kernel
theorem dX12_again_95 : decode cX12_again 95 = .ok (.getfield 16, 3) := by decide +kernel
theorem dX12_again_98 : decode cX12_again 98 = .ok (.getfield 167, 3) := by decide +kernel
theorem dX12_again_101 : decode cX12_again 101 = .ok (.iload_n 2, 1) := by decide +kernel
theorem dX12_again_102 : decode cX12_again 102 = .ok (.iconst 5, 1) := by decide +kernel
theorem dX12_again_103 : decode cX12_again 103 = .ok (.iadd, 1) := by decide +kernel
theorem dX12_again_104 : decode cX12_again 104 = .ok (.iaload, 1) := by decide +kernel
theorem dX12_again_105 : decode cX12_again 105 = .ok (.if_icmp .eq 5, 3) := by decide +kernel
theorem dX12_again_108 : decode cX12_again 108 = .ok (.iload_n 1, 1) := by decide +kernel
theorem dX12_again_109 : decode cX12_again 109 = .ok (.ireturn, 1) := by decide +kernel
theorem dX12_again_110 : decode cX12_again 110 = .ok (.iinc 1 1, 3) := by decide +kernel
theorem dX12_again_113 : decode cX12_again 113 = .ok (.goto (-97), 3) := by decide +kernel
theorem dX12_again_116 : decode cX12_again 116 = .ok (.iconst (-1), 1) := by decide +kernel
theorem dX12_again_117 : decode cX12_again 117 = .ok (.ireturn, 1) := by decide +kernel
theorem dX12_appeal_0 : decode cX12_appeal 0 = .ok (.aload_n 0, 1) := by decide +kernel
theorem dX12_appeal_1 : decode cX12_appeal 1 = .ok (.getfield 16, 3) := by decide +kernel
theorem dX12_appeal_4 : decode cX12_appeal 4 = .ok (.bipush 20, 2) := by decide +kernel
theorem dX12_appeal_6 : decode cX12_appeal 6 = .ok (.iload_n 1, 1) := by decide +kernel
theorem dX12_appeal_7 : decode cX12_appeal 7 = .ok (.iconst 0, 1) := by decide +kernel
theorem dX12_appeal_8 : decode cX12_appeal 8 = .ok (.iconst 0, 1) := by decide +kernel
theorem dX12_appeal_9 : decode cX12_appeal 9 = .ok (.iconst 0, 1) := by decide +kernel
theorem dX12_appeal_10 : decode cX12_appeal 10 = .ok (.invokevirtual 40, 3) := by decide +kernel
theorem dX12_appeal_13 : decode cX12_appeal 13 = .ok (.ireturn, 1) := by decide +kernel
theorem dX12_back_0 : decode cX12_back 0 = .ok (.iload_n 1, 1) := by decide +kernel
theorem dX12_back_1 : decode cX12_back 1 = .ok (.iconst 0, 1) := by decide +kernel
theorem dX12_back_2 : decode cX12_back 2 = .ok (.iconst 1, 1) := by decide +kernel
theorem dX12_back_3 : decode cX12_back 3 = .ok (.invokestatic 1, 3) := by decide +kernel
theorem dX12_back_6 : decode cX12_back 6 = .ok (.ifCond .ne 6, 3) := by decide +kernel
theorem dX12_back_9 : decode cX12_back 9 = .ok (.bipush (-9), 2) := by decide +kernel
theorem dX12_back_11 : decode cX12_back 11 = .ok (.ireturn, 1) := by decide +kernel
theorem dX12_back_12 : decode cX12_back 12 = .ok (.aload_n 0, 1) := by decide +kernel
theorem dX12_back_13 : decode cX12_back 13 = .ok (.getfield 27, 3) := by decide +kernel
theorem dX12_back_16 : decode cX12_back 16 = .ok (.iload_n 1, 1) := by decide +kernel
theorem dX12_back_17 : decode cX12_back 17 = .ok (.iaload, 1) := by decide +kernel
theorem dX12_back_18 : decode cX12_back 18 = .ok (.iconst (-1), 1) := by decide +kernel
theorem dX12_back_19 : decode cX12_back 19 = .ok (.if_icmp .ne 6, 3) := by decide +kernel
theorem dX12_back_22 : decode cX12_back 22 = .ok (.bipush (-11), 2) := by decide +kernel
theorem dX12_back_24 : decode cX12_back 24 = .ok (.ireturn, 1) := by decide +kernel
theorem dX12_back_25 : decode cX12_back 25 = .ok (.aload_n 0, 1) := by decide +kernel
theorem dX12_back_26 : decode cX12_back 26 = .ok (.getfield 16, 3) := by decide +kernel
theorem dX12_back_29 : decode cX12_back 29 = .ok (.aload_n 0, 1) := by decide +kernel
theorem dX12_back_30 : decode cX12_back 30 = .ok (.getfield 23, 3) := by decide +kernel
theorem dX12_back_33 : decode cX12_back 33 = .ok (.iload_n 1, 1) := by decide +kernel
theorem dX12_back_34 : decode cX12_back 34 = .ok (.iaload, 1) := by decide +kernel
theorem dX12_back_35 : decode cX12_back 35 = .ok (.invokevirtual 36, 3) := by decide +kernel
theorem dX12_back_38 : decode cX12_back 38 = .ok (.iconst 0, 1) := by decide +kernel
theorem dX12_back_39 : decode cX12_back 39 = .ok (.istore_n 2, 1) := by decide +kernel
theorem dX12_back_40 : decode cX12_back 40 = .ok (.iload_n 2, 1) := by decide +kernel
theorem dX12_back_41 : decode cX12_back 41 = .ok (.aload_n 0, 1) := by decide +kernel
theorem dX12_back_42 : decode cX12_back 42 = .ok (.getfield 27, 3) := by decide +kernel
theorem dX12_back_45 : decode cX12_back 45 = .ok (.iload_n 1, 1) := by decide +kernel
theorem dX12_back_46 : decode cX12_back 46 = .ok (.iaload, 1) := by decide +kernel
theorem dX12_back_47 : decode cX12_back 47 = .ok (.if_icmp .ge 67, 3) := by decide +kernel
theorem dX12_back_50 : decode cX12_back 50 = .ok (.sipush 3600, 3) := by decide +kernel
theorem dX12_back_53 : decode cX12_back 53 = .ok (.iload_n 1, 1) := by decide +kernel
theorem dX12_back_54 : decode cX12_back 54 = .ok (.imul, 1) := by decide +kernel
theorem dX12_back_55 : decode cX12_back 55 = .ok (.bipush 6, 2) := by decide +kernel
theorem dX12_back_57 : decode cX12_back 57 = .ok (.iload_n 2, 1) := by decide +kernel
theorem dX12_back_58 : decode cX12_back 58 = .ok (.imul, 1) := by decide +kernel
theorem dX12_back_59 : decode cX12_back 59 = .ok (.iadd, 1) := by decide +kernel
theorem dX12_back_60 : decode cX12_back 60 = .ok (.istore_n 3, 1) := by decide +kernel
theorem dX12_back_61 : decode cX12_back 61 = .ok (.aload_n 0, 1) := by decide +kernel
theorem dX12_back_62 : decode cX12_back 62 = .ok (.getfield 16, 3) := by decide +kernel
theorem dX12_back_65 : decode cX12_back 65 = .ok (.aload_n 0, 1) := by decide +kernel
theorem dX12_back_66 : decode cX12_back 66 = .ok (.getfield 30, 3) := by decide +kernel
theorem dX12_back_69 : decode cX12_back 69 = .ok (.iload_n 3, 1) := by decide +kernel
theorem dX12_back_70 : decode cX12_back 70 = .ok (.iaload, 1) := by decide +kernel
theorem dX12_back_71 : decode cX12_back 71 = .ok (.aload_n 0, 1) := by decide +kernel
theorem dX12_back_72 : decode cX12_back 72 = .ok (.getfield 30, 3) := by decide +kernel
theorem dX12_back_75 : decode cX12_back 75 = .ok (.iload_n 3, 1) := by decide +kernel
theorem dX12_back_76 : decode cX12_back 76 = .ok (.iconst 1, 1) := by decide +kernel
theorem dX12_back_77 : decode cX12_back 77 = .ok (.iadd, 1) := by decide +kernel
theorem dX12_back_78 : decode cX12_back 78 = .ok (.iaload, 1) := by decide +kernel
theorem dX12_back_79 : decode cX12_back 79 = .ok (.aload_n 0, 1) := by decide +kernel
theorem dX12_back_80 : decode cX12_back 80 = .ok (.getfield 30, 3) := by decide +kernel
theorem dX12_back_83 : decode cX12_back 83 = .ok (.iload_n 3, 1) := by decide +kernel
theorem dX12_back_84 : decode cX12_back 84 = .ok (.iconst 2, 1) := by decide +kernel
theorem dX12_back_85 : decode cX12_back 85 = .ok (.iadd, 1) := by decide +kernel
theorem dX12_back_86 : decode cX12_back 86 = .ok (.iaload, 1) := by decide +kernel
theorem dX12_back_87 : decode cX12_back 87 = .ok (.aload_n 0, 1) := by decide +kernel
theorem dX12_back_88 : decode cX12_back 88 = .ok (.getfield 30, 3) := by decide +kernel
theorem dX12_back_91 : decode cX12_back 91 = .ok (.iload_n 3, 1) := by decide +kernel
theorem dX12_back_92 : decode cX12_back 92 = .ok (.iconst 3, 1) := by decide +kernel
theorem dX12_back_93 : decode cX12_back 93 = .ok (.iadd, 1) := by decide +kernel
theorem dX12_back_94 : decode cX12_back 94 = .ok (.iaload, 1) := by decide +kernel
theorem dX12_back_95 : decode cX12_back 95 = .ok (.aload_n 0, 1) := by decide +kernel
theorem dX12_back_96 : decode cX12_back 96 = .ok (.getfield 30, 3) := by decide +kernel
theorem dX12_back_99 : decode cX12_back 99 = .ok (.iload_n 3, 1) := by decide +kernel
theorem dX12_back_100 : decode cX12_back 100 = .ok (.iconst 4, 1) := by decide +kernel
theorem dX12_back_101 : decode cX12_back 101 = .ok (.iadd, 1) := by decide +kernel
theorem dX12_back_102 : decode cX12_back 102 = .ok (.iaload, 1) := by decide +kernel
theorem dX12_back_103 : decode cX12_back 103 = .ok (.invokevirtual 40, 3) := by decide +kernel
theorem dX12_back_106 : decode cX12_back 106 = .ok (.istore 4, 2) := by decide +kernel
theorem dX12_back_108 : decode cX12_back 108 = .ok (.iinc 2 1, 3) := by decide +kernel
theorem dX12_back_111 : decode cX12_back 111 = .ok (.goto (-71), 3) := by decide +kernel
theorem dX12_back_114 : decode cX12_back 114 = .ok (.aload_n 0, 1) := by decide +kernel
theorem dX12_back_115 : decode cX12_back 115 = .ok (.getfield 16, 3) := by decide +kernel
theorem dX12_back_118 : decode cX12_back 118 = .ok (.iconst 0, 1) := by decide +kernel
theorem dX12_back_119 : decode cX12_back 119 = .ok (.putfield 52, 3) := by decide +kernel
theorem dX12_back_122 : decode cX12_back 122 = .ok (.aload_n 0, 1) := by decide +kernel
theorem dX12_back_123 : decode cX12_back 123 = .ok (.getfield 27, 3) := by decide +kernel
theorem dX12_back_126 : decode cX12_back 126 = .ok (.iload_n 1, 1) := by decide +kernel
theorem dX12_back_127 : decode cX12_back 127 = .ok (.iaload, 1) := by decide +kernel
theorem dX12_back_128 : decode cX12_back 128 = .ok (.ireturn, 1) := by decide +kernel
theorem dX12_ballot_0 : decode cX12_ballot 0 = .ok (.aload_n 0, 1) := by decide +kernel
theorem dX12_ballot_1 : decode cX12_ballot 1 = .ok (.getfield 16, 3) := by decide +kernel
theorem dX12_ballot_4 : decode cX12_ballot 4 = .ok (.getfield 55, 3) := by decide +kernel
theorem dX12_ballot_7 : decode cX12_ballot 7 = .ok (.ifCond .eq 20, 3) := by decide +kernel
theorem dX12_ballot_10 : decode cX12_ballot 10 = .ok (.iload_n 1, 1) := by decide +kernel
theorem dX12_ballot_11 : decode cX12_ballot 11 = .ok (.iconst 0, 1) := by decide +kernel
theorem dX12_ballot_12 : decode cX12_ballot 12 = .ok (.aload_n 0, 1) := by decide +kernel
theorem dX12_ballot_13 : decode cX12_ballot 13 = .ok (.getfield 16, 3) := by decide +kernel
theorem dX12_ballot_16 : decode cX12_ballot 16 = .ok (.getfield 96, 3) := by decide +kernel
theorem dX12_ballot_19 : decode cX12_ballot 19 = .ok (.iconst 1, 1) := by decide +kernel
theorem dX12_ballot_20 : decode cX12_ballot 20 = .ok (.isub, 1) := by decide +kernel
theorem dX12_ballot_21 : decode cX12_ballot 21 = .ok (.invokestatic 1, 3) := by decide +kernel
theorem dX12_ballot_24 : decode cX12_ballot 24 = .ok (.ifCond .ne 5, 3) := by decide +kernel
theorem dX12_ballot_27 : decode cX12_ballot 27 = .ok (.iconst (-1), 1) := by decide +kernel
theorem dX12_ballot_28 : decode cX12_ballot 28 = .ok (.ireturn, 1) := by decide +kernel
theorem dX12_ballot_29 : decode cX12_ballot 29 = .ok (.aload_n 0, 1) := by decide +kernel
theorem dX12_ballot_30 : decode cX12_ballot 30 = .ok (.getfield 16, 3) := by decide +kernel
theorem dX12_ballot_33 : decode cX12_ballot 33 = .ok (.getfield 99, 3) := by decide +kernel
theorem dX12_ballot_36 : decode cX12_ballot 36 = .ok (.sipush 200, 3) := by decide +kernel
theorem dX12_ballot_39 : decode cX12_ballot 39 = .ok (.aload_n 0, 1) := by decide +kernel
theorem dX12_ballot_40 : decode cX12_ballot 40 = .ok (.getfield 16, 3) := by decide +kernel
theorem dX12_ballot_43 : decode cX12_ballot 43 = .ok (.invokevirtual 103, 3) := by decide +kernel
theorem dX12_ballot_46 : decode cX12_ballot 46 = .ok (.imul, 1) := by decide +kernel
theorem dX12_ballot_47 : decode cX12_ballot 47 = .ok (.iload_n 1, 1) := by decide +kernel
theorem dX12_ballot_48 : decode cX12_ballot 48 = .ok (.iadd, 1) := by decide +kernel
theorem dX12_ballot_49 : decode cX12_ballot 49 = .ok (.baload, 1) := by decide +kernel
theorem dX12_ballot_50 : decode cX12_ballot 50 = .ok (.istore_n 2, 1) := by decide +kernel
theorem dX12_ballot_51 : decode cX12_ballot 51 = .ok (.iload_n 2, 1) := by decide +kernel
theorem dX12_ballot_52 : decode cX12_ballot 52 = .ok (.iconst 2, 1) := by decide +kernel
theorem dX12_ballot_53 : decode cX12_ballot 53 = .ok (.if_icmp .ne 7, 3) := by decide +kernel
theorem dX12_ballot_56 : decode cX12_ballot 56 = .ok (.iconst (-1), 1) := by decide +kernel
theorem dX12_ballot_57 : decode cX12_ballot 57 = .ok (.goto 4, 3) := by decide +kernel
theorem dX12_ballot_60 : decode cX12_ballot 60 = .ok (.iload_n 2, 1) := by decide +kernel
theorem dX12_ballot_61 : decode cX12_ballot 61 = .ok (.ireturn, 1) := by decide +kernel
theorem dX12_cede_0 : decode cX12_cede 0 = .ok (.aload_n 0, 1) := by decide +kernel
theorem dX12_cede_1 : decode cX12_cede 1 = .ok (.getfield 16, 3) := by decide +kernel
theorem dX12_cede_4 : decode cX12_cede 4 = .ok (.bipush 8, 2) := by decide +kernel
theorem dX12_cede_6 : decode cX12_cede 6 = .ok (.iconst 0, 1) := by decide +kernel
theorem dX12_cede_7 : decode cX12_cede 7 = .ok (.iconst 0, 1) := by decide +kernel
theorem dX12_cede_8 : decode cX12_cede 8 = .ok (.iconst 0, 1) := by decide +kernel
theorem dX12_cede_9 : decode cX12_cede 9 = .ok (.iconst 0, 1) := by decide +kernel
theorem dX12_cede_10 : decode cX12_cede 10 = .ok (.invokevirtual 40, 3) := by decide +kernel
theorem dX12_cede_13 : decode cX12_cede 13 = .ok (.ireturn, 1) := by decide +kernel
theorem dX12_chair_0 : decode cX12_chair 0 = .ok (.aload_n 0, 1) := by decide +kernel
theorem dX12_chair_1 : decode cX12_chair 1 = .ok (.getfield 16, 3) := by decide +kernel
theorem dX12_chair_4 : decode cX12_chair 4 = .ok (.iconst 4, 1) := by decide +kernel
theorem dX12_chair_5 : decode cX12_chair 5 = .ok (.iload_n 1, 1) := by decide +kernel
theorem dX12_chair_6 : decode cX12_chair 6 = .ok (.iconst 0, 1) := by decide +kernel
theorem dX12_chair_7 : decode cX12_chair 7 = .ok (.iconst 0, 1) := by decide +kernel
theorem dX12_chair_8 : decode cX12_chair 8 = .ok (.iconst 0, 1) := by decide +kernel
theorem dX12_chair_9 : decode cX12_chair 9 = .ok (.invokevirtual 40, 3) := by decide +kernel
theorem dX12_chair_12 : decode cX12_chair 12 = .ok (.ireturn, 1) := by decide +kernel
theorem dX12_check_0 : decode cX12_check 0 = .ok (.aload_n 0, 1) := by decide +kernel
theorem dX12_check_1 : decode cX12_check 1 = .ok (.getfield 20, 3) := by decide +kernel
theorem dX12_check_4 : decode cX12_check 4 = .ok (.aload_n 0, 1) := by decide +kernel
theorem dX12_check_5 : decode cX12_check 5 = .ok (.getfield 16, 3) := by decide +kernel
theorem dX12_check_8 : decode cX12_check 8 = .ok (.getfield 96, 3) := by decide +kernel
theorem dX12_check_11 : decode cX12_check 11 = .ok (.invokevirtual 36, 3) := by decide +kernel
theorem dX12_check_14 : decode cX12_check 14 = .ok (.iconst 0, 1) := by decide +kernel
theorem dX12_check_15 : decode cX12_check 15 = .ok (.istore_n 1, 1) := by decide +kernel
theorem dX12_check_16 : decode cX12_check 16 = .ok (.iload_n 1, 1) := by decide +kernel
theorem dX12_check_17 : decode cX12_check 17 = .ok (.aload_n 0, 1) := by decide +kernel
theorem dX12_check_18 : decode cX12_check 18 = .ok (.getfield 161, 3) := by decide +kernel
theorem dX12_check_21 : decode cX12_check 21 = .ok (.if_icmp .ge 129, 3) := by decide +kernel
theorem dX12_check_24 : decode cX12_check 24 = .ok (.bipush 6, 2) := by decide +kernel
theorem dX12_check_26 : decode cX12_check 26 = .ok (.iload_n 1, 1) := by decide +kernel
theorem dX12_check_27 : decode cX12_check 27 = .ok (.imul, 1) := by decide +kernel
theorem dX12_check_28 : decode cX12_check 28 = .ok (.istore_n 2, 1) := by decide +kernel
theorem dX12_check_29 : decode cX12_check 29 = .ok (.aload_n 0, 1) := by decide +kernel
theorem dX12_check_30 : decode cX12_check 30 = .ok (.getfield 33, 3) := by decide +kernel
theorem dX12_check_33 : decode cX12_check 33 = .ok (.iload_n 2, 1) := by decide +kernel
theorem dX12_check_34 : decode cX12_check 34 = .ok (.iaload, 1) := by decide +kernel
theorem dX12_check_35 : decode cX12_check 35 = .ok (.invokestatic 174, 3) := by decide +kernel
theorem dX12_check_38 : decode cX12_check 38 = .ok (.istore_n 3, 1) := by decide +kernel
theorem dX12_check_39 : decode cX12_check 39 = .ok (.iload_n 3, 1) := by decide +kernel
theorem dX12_check_40 : decode cX12_check 40 = .ok (.iconst (-1), 1) := by decide +kernel
theorem dX12_check_41 : decode cX12_check 41 = .ok (.if_icmp .ne 5, 3) := by decide +kernel
theorem dX12_check_44 : decode cX12_check 44 = .ok (.iload_n 1, 1) := by decide +kernel
theorem dX12_check_45 : decode cX12_check 45 = .ok (.ireturn, 1) := by decide +kernel
theorem dX12_check_46 : decode cX12_check 46 = .ok (.iload_n 3, 1) := by decide +kernel
theorem dX12_check_47 : decode cX12_check 47 = .ok (.iconst 1, 1) := by decide +kernel
theorem dX12_check_48 : decode cX12_check 48 = .ok (.iadd, 1) := by decide +kernel
theorem dX12_check_49 : decode cX12_check 49 = .ok (.istore 4, 2) := by decide +kernel
theorem dX12_check_51 : decode cX12_check 51 = .ok (.iload 4, 2) := by decide +kernel
theorem dX12_check_53 : decode cX12_check 53 = .ok (.iconst 4, 1) := by decide +kernel
theorem dX12_check_54 : decode cX12_check 54 = .ok (.if_icmp .gt 23, 3) := by decide +kernel
theorem dX12_check_57 : decode cX12_check 57 = .ok (.aload_n 0, 1) := by decide +kernel
theorem dX12_check_58 : decode cX12_check 58 = .ok (.getfield 33, 3) := by decide +kernel
theorem dX12_check_61 : decode cX12_check 61 = .ok (.iload_n 2, 1) := by decide +kernel
theorem dX12_check_62 : decode cX12_check 62 = .ok (.iload 4, 2) := by decide +kernel
theorem dX12_check_64 : decode cX12_check 64 = .ok (.iadd, 1) := by decide +kernel
theorem dX12_check_65 : decode cX12_check 65 = .ok (.iaload, 1) := by decide +kernel
theorem dX12_check_66 : decode cX12_check 66 = .ok (.ifCond .eq 5, 3) := by decide +kernel
theorem dX12_check_69 : decode cX12_check 69 = .ok (.iload_n 1, 1) := by decide +kernel
theorem dX12_check_70 : decode cX12_check 70 = .ok (.ireturn, 1) := by decide +kernel
theorem dX12_check_71 : decode cX12_check 71 = .ok (.iinc 4 1, 3) := by decide +kernel
theorem dX12_check_74 : decode cX12_check 74 = .ok (.goto (-23), 3) := by decide +kernel
theorem dX12_check_77 : decode cX12_check 77 = .ok (.aload_n 0, 1) := by decide +kernel
theorem dX12_check_78 : decode cX12_check 78 = .ok (.getfield 20, 3) := by decide +kernel
theorem dX12_check_81 : decode cX12_check 81 = .ok (.aload_n 0, 1) := by decide +kernel
theorem dX12_check_82 : decode cX12_check 82 = .ok (.getfield 33, 3) := by decide +kernel
theorem dX12_check_85 : decode cX12_check 85 = .ok (.iload_n 2, 1) := by decide +kernel
theorem dX12_check_86 : decode cX12_check 86 = .ok (.iaload, 1) := by decide +kernel
theorem dX12_check_87 : decode cX12_check 87 = .ok (.aload_n 0, 1) := by decide +kernel
theorem dX12_check_88 : decode cX12_check 88 = .ok (.getfield 33, 3) := by decide +kernel
theorem dX12_check_91 : decode cX12_check 91 = .ok (.iload_n 2, 1) := by decide +kernel
theorem dX12_check_92 : decode cX12_check 92 = .ok (.iconst 1, 1) := by decide +kernel
theorem dX12_check_93 : decode cX12_check 93 = .ok (.iadd, 1) := by decide +kernel
theorem dX12_check_94 : decode cX12_check 94 = .ok (.iaload, 1) := by decide +kernel
theorem dX12_check_95 : decode cX12_check 95 = .ok (.aload_n 0, 1) := by decide +kernel
theorem dX12_check_96 : decode cX12_check 96 = .ok (.getfield 33, 3) := by decide +kernel
theorem dX12_check_99 : decode cX12_check 99 = .ok (.iload_n 2, 1) := by decide +kernel
theorem dX12_check_100 : decode cX12_check 100 = .ok (.iconst 2, 1) := by decide +kernel
theorem dX12_check_101 : decode cX12_check 101 = .ok (.iadd, 1) := by decide +kernel
theorem dX12_check_102 : decode cX12_check 102 = .ok (.iaload, 1) := by decide +kernel
theorem dX12_check_103 : decode cX12_check 103 = .ok (.aload_n 0, 1) := by decide +kernel
theorem dX12_check_104 : decode cX12_check 104 = .ok (.getfield 33, 3) := by decide +kernel
theorem dX12_check_107 : decode cX12_check 107 = .ok (.iload_n 2, 1) := by decide +kernel
theorem dX12_check_108 : decode cX12_check 108 = .ok (.iconst 3, 1) := by decide +kernel
theorem dX12_check_109 : decode cX12_check 109 = .ok (.iadd, 1) := by decide +kernel
theorem dX12_check_110 : decode cX12_check 110 = .ok (.iaload, 1) := by decide +kernel
theorem dX12_check_111 : decode cX12_check 111 = .ok (.aload_n 0, 1) := by decide +kernel
theorem dX12_check_112 : decode cX12_check 112 = .ok (.getfield 33, 3) := by decide +kernel
theorem dX12_check_115 : decode cX12_check 115 = .ok (.iload_n 2, 1) := by decide +kernel
theorem dX12_check_116 : decode cX12_check 116 = .ok (.iconst 4, 1) := by decide +kernel
theorem dX12_check_117 : decode cX12_check 117 = .ok (.iadd, 1) := by decide +kernel
theorem dX12_check_118 : decode cX12_check 118 = .ok (.iaload, 1) := by decide +kernel
theorem dX12_check_119 : decode cX12_check 119 = .ok (.invokevirtual 40, 3) := by decide +kernel
theorem dX12_check_122 : decode cX12_check 122 = .ok (.istore 4, 2) := by decide +kernel
theorem dX12_check_124 : decode cX12_check 124 = .ok (.iload 4, 2) := by decide +kernel
theorem dX12_check_126 : decode cX12_check 126 = .ok (.ifCond .lt 16, 3) := by decide +kernel
theorem dX12_check_129 : decode cX12_check 129 = .ok (.iload 4, 2) := by decide +kernel
theorem dX12_check_131 : decode cX12_check 131 = .ok (.aload_n 0, 1) := by decide +kernel
theorem dX12_check_132 : decode cX12_check 132 = .ok (.getfield 33, 3) := by decide +kernel
theorem dX12_check_135 : decode cX12_check 135 = .ok (.iload_n 2, 1) := by decide +kernel
theorem dX12_check_136 : decode cX12_check 136 = .ok (.iconst 5, 1) := by decide +kernel
theorem dX12_check_137 : decode cX12_check 137 = .ok (.iadd, 1) := by decide +kernel
theorem dX12_check_138 : decode cX12_check 138 = .ok (.iaload, 1) := by decide +kernel
theorem dX12_check_139 : decode cX12_check 139 = .ok (.if_icmp .eq 5, 3) := by decide +kernel
theorem dX12_check_142 : decode cX12_check 142 = .ok (.iload_n 1, 1) := by decide +kernel
theorem dX12_check_143 : decode cX12_check 143 = .ok (.ireturn, 1) := by decide +kernel
theorem dX12_check_144 : decode cX12_check 144 = .ok (.iinc 1 1, 3) := by decide +kernel
theorem dX12_check_147 : decode cX12_check 147 = .ok (.goto (-131), 3) := by decide +kernel
theorem dX12_check_150 : decode cX12_check 150 = .ok (.iconst (-1), 1) := by decide +kernel
theorem dX12_check_151 : decode cX12_check 151 = .ok (.ireturn, 1) := by decide +kernel
theorem dX12_count_0 : decode cX12_count 0 = .ok (.iload_n 1, 1) := by decide +kernel
theorem dX12_count_1 : decode cX12_count 1 = .ok (.tableswitch 207 0 12 #[67, 75, 83, 91, 99, 107, 115, 123, 170, 178, 186, 194, 202], 67) := by decide +kernel
theorem dX12_count_68 : decode cX12_count 68 = .ok (.aload_n 0, 1) := by decide +kernel
theorem dX12_count_69 : decode cX12_count 69 = .ok (.getfield 16, 3) := by decide +kernel
theorem dX12_count_72 : decode cX12_count 72 = .ok (.getfield 96, 3) := by decide +kernel
theorem dX12_count_75 : decode cX12_count 75 = .ok (.ireturn, 1) := by decide +kernel
theorem dX12_count_76 : decode cX12_count 76 = .ok (.aload_n 0, 1) := by decide +kernel
theorem dX12_count_77 : decode cX12_count 77 = .ok (.getfield 16, 3) := by decide +kernel
theorem dX12_count_80 : decode cX12_count 80 = .ok (.getfield 130, 3) := by decide +kernel
theorem dX12_count_83 : decode cX12_count 83 = .ok (.ireturn, 1) := by decide +kernel
theorem dX12_count_84 : decode cX12_count 84 = .ok (.aload_n 0, 1) := by decide +kernel
theorem dX12_count_85 : decode cX12_count 85 = .ok (.getfield 16, 3) := by decide +kernel
theorem dX12_count_88 : decode cX12_count 88 = .ok (.getfield 133, 3) := by decide +kernel
theorem dX12_count_91 : decode cX12_count 91 = .ok (.ireturn, 1) := by decide +kernel
theorem dX12_count_92 : decode cX12_count 92 = .ok (.aload_n 0, 1) := by decide +kernel
theorem dX12_count_93 : decode cX12_count 93 = .ok (.getfield 16, 3) := by decide +kernel
theorem dX12_count_96 : decode cX12_count 96 = .ok (.getfield 136, 3) := by decide +kernel
theorem dX12_count_99 : decode cX12_count 99 = .ok (.ireturn, 1) := by decide +kernel
theorem dX12_count_100 : decode cX12_count 100 = .ok (.aload_n 0, 1) := by decide +kernel
theorem dX12_count_101 : decode cX12_count 101 = .ok (.getfield 16, 3) := by decide +kernel
theorem dX12_count_104 : decode cX12_count 104 = .ok (.getfield 139, 3) := by decide +kernel
theorem dX12_count_107 : decode cX12_count 107 = .ok (.ireturn, 1) := by decide +kernel
theorem dX12_count_108 : decode cX12_count 108 = .ok (.aload_n 0, 1) := by decide +kernel
theorem dX12_count_109 : decode cX12_count 109 = .ok (.getfield 16, 3) := by decide +kernel
theorem dX12_count_112 : decode cX12_count 112 = .ok (.getfield 142, 3) := by decide +kernel
theorem dX12_count_115 : decode cX12_count 115 = .ok (.ireturn, 1) := by decide +kernel
theorem dX12_count_116 : decode cX12_count 116 = .ok (.aload_n 0, 1) := by decide +kernel
theorem dX12_count_117 : decode cX12_count 117 = .ok (.getfield 16, 3) := by decide +kernel
theorem dX12_count_120 : decode cX12_count 120 = .ok (.getfield 55, 3) := by decide +kernel
theorem dX12_count_123 : decode cX12_count 123 = .ok (.ireturn, 1) := by decide +kernel
theorem dX12_count_124 : decode cX12_count 124 = .ok (.aload_n 0, 1) := by decide +kernel
theorem dX12_count_125 : decode cX12_count 125 = .ok (.getfield 16, 3) := by decide +kernel
theorem dX12_count_128 : decode cX12_count 128 = .ok (.getfield 145, 3) := by decide +kernel
theorem dX12_count_131 : decode cX12_count 131 = .ok (.ifCond .ne 7, 3) := by decide +kernel
theorem dX12_count_134 : decode cX12_count 134 = .ok (.iconst 0, 1) := by decide +kernel
theorem dX12_count_135 : decode cX12_count 135 = .ok (.goto 35, 3) := by decide +kernel
theorem dX12_count_138 : decode cX12_count 138 = .ok (.aload_n 0, 1) := by decide +kernel
theorem dX12_count_139 : decode cX12_count 139 = .ok (.getfield 16, 3) := by decide +kernel
theorem dX12_count_142 : decode cX12_count 142 = .ok (.getfield 148, 3) := by decide +kernel
theorem dX12_count_145 : decode cX12_count 145 = .ok (.ifCond .eq 8, 3) := by decide +kernel
theorem dX12_count_148 : decode cX12_count 148 = .ok (.bipush 7, 2) := by decide +kernel
theorem dX12_count_150 : decode cX12_count 150 = .ok (.goto 20, 3) := by decide +kernel
theorem dX12_count_153 : decode cX12_count 153 = .ok (.aload_n 0, 1) := by decide +kernel
theorem dX12_count_154 : decode cX12_count 154 = .ok (.getfield 16, 3) := by decide +kernel
theorem dX12_count_157 : decode cX12_count 157 = .ok (.getfield 61, 3) := by decide +kernel
theorem dX12_count_160 : decode cX12_count 160 = .ok (.aload_n 0, 1) := by decide +kernel
theorem dX12_count_161 : decode cX12_count 161 = .ok (.getfield 16, 3) := by decide +kernel
theorem dX12_count_164 : decode cX12_count 164 = .ok (.getfield 152, 3) := by decide +kernel
theorem dX12_count_167 : decode cX12_count 167 = .ok (.iconst 0, 1) := by decide +kernel
theorem dX12_count_168 : decode cX12_count 168 = .ok (.iaload, 1) := by decide +kernel
theorem dX12_count_169 : decode cX12_count 169 = .ok (.iaload, 1) := by decide +kernel
theorem dX12_count_170 : decode cX12_count 170 = .ok (.ireturn, 1) := by decide +kernel
theorem dX12_count_171 : decode cX12_count 171 = .ok (.aload_n 0, 1) := by decide +kernel
theorem dX12_count_172 : decode cX12_count 172 = .ok (.getfield 16, 3) := by decide +kernel
theorem dX12_count_175 : decode cX12_count 175 = .ok (.getfield 48, 3) := by decide +kernel
theorem dX12_count_178 : decode cX12_count 178 = .ok (.ireturn, 1) := by decide +kernel
theorem dX12_count_179 : decode cX12_count 179 = .ok (.aload_n 0, 1) := by decide +kernel
theorem dX12_count_180 : decode cX12_count 180 = .ok (.getfield 16, 3) := by decide +kernel
theorem dX12_count_183 : decode cX12_count 183 = .ok (.getfield 124, 3) := by decide +kernel
theorem dX12_count_186 : decode cX12_count 186 = .ok (.ireturn, 1) := by decide +kernel
theorem dX12_count_187 : decode cX12_count 187 = .ok (.aload_n 0, 1) := by decide +kernel
theorem dX12_count_188 : decode cX12_count 188 = .ok (.getfield 16, 3) := by decide +kernel
theorem dX12_count_191 : decode cX12_count 191 = .ok (.getfield 155, 3) := by decide +kernel
theorem dX12_count_194 : decode cX12_count 194 = .ok (.ireturn, 1) := by decide +kernel
theorem dX12_count_195 : decode cX12_count 195 = .ok (.aload_n 0, 1) := by decide +kernel
theorem dX12_count_196 : decode cX12_count 196 = .ok (.getfield 16, 3) := by decide +kernel
theorem dX12_count_199 : decode cX12_count 199 = .ok (.getfield 158, 3) := by decide +kernel
theorem dX12_count_202 : decode cX12_count 202 = .ok (.ireturn, 1) := by decide +kernel
theorem dX12_count_203 : decode cX12_count 203 = .ok (.aload_n 0, 1) := by decide +kernel
theorem dX12_count_204 : decode cX12_count 204 = .ok (.getfield 161, 3) := by decide +kernel
theorem dX12_count_207 : decode cX12_count 207 = .ok (.ireturn, 1) := by decide +kernel
theorem dX12_count_208 : decode cX12_count 208 = .ok (.iconst (-1), 1) := by decide +kernel
theorem dX12_count_209 : decode cX12_count 209 = .ok (.ireturn, 1) := by decide +kernel
theorem dX12_debate_0 : decode cX12_debate 0 = .ok (.aload_n 0, 1) := by decide +kernel
theorem dX12_debate_1 : decode cX12_debate 1 = .ok (.getfield 16, 3) := by decide +kernel
theorem dX12_debate_4 : decode cX12_debate 4 = .ok (.bipush 9, 2) := by decide +kernel
theorem dX12_debate_6 : decode cX12_debate 6 = .ok (.iload_n 1, 1) := by decide +kernel
theorem dX12_debate_7 : decode cX12_debate 7 = .ok (.iconst 0, 1) := by decide +kernel
theorem dX12_debate_8 : decode cX12_debate 8 = .ok (.iconst 0, 1) := by decide +kernel
theorem dX12_debate_9 : decode cX12_debate 9 = .ok (.iconst 0, 1) := by decide +kernel
theorem dX12_debate_10 : decode cX12_debate 10 = .ok (.invokevirtual 40, 3) := by decide +kernel
theorem dX12_debate_13 : decode cX12_debate 13 = .ok (.ireturn, 1) := by decide +kernel
theorem dX12_desk_0 : decode cX12_desk 0 = .ok (.iload_n 1, 1) := by decide +kernel
theorem dX12_desk_1 : decode cX12_desk 1 = .ok (.iconst 0, 1) := by decide +kernel
theorem dX12_desk_2 : decode cX12_desk 2 = .ok (.bipush 7, 2) := by decide +kernel
theorem dX12_desk_4 : decode cX12_desk 4 = .ok (.invokestatic 1, 3) := by decide +kernel
theorem dX12_desk_7 : decode cX12_desk 7 = .ok (.ifCond .eq 12, 3) := by decide +kernel
theorem dX12_desk_10 : decode cX12_desk 10 = .ok (.iload_n 2, 1) := by decide +kernel
theorem dX12_desk_11 : decode cX12_desk 11 = .ok (.iconst 0, 1) := by decide +kernel
theorem dX12_desk_12 : decode cX12_desk 12 = .ok (.iconst 5, 1) := by decide +kernel
theorem dX12_desk_13 : decode cX12_desk 13 = .ok (.invokestatic 1, 3) := by decide +kernel
theorem dX12_desk_16 : decode cX12_desk 16 = .ok (.ifCond .ne 5, 3) := by decide +kernel
theorem dX12_desk_19 : decode cX12_desk 19 = .ok (.iconst (-1), 1) := by decide +kernel
theorem dX12_desk_20 : decode cX12_desk 20 = .ok (.ireturn, 1) := by decide +kernel
theorem dX12_desk_21 : decode cX12_desk 21 = .ok (.aload_n 0, 1) := by decide +kernel
theorem dX12_desk_22 : decode cX12_desk 22 = .ok (.getfield 16, 3) := by decide +kernel
theorem dX12_desk_25 : decode cX12_desk 25 = .ok (.getfield 107, 3) := by decide +kernel
theorem dX12_desk_28 : decode cX12_desk 28 = .ok (.iload_n 1, 1) := by decide +kernel
theorem dX12_desk_29 : decode cX12_desk 29 = .ok (.iaload, 1) := by decide +kernel
theorem dX12_desk_30 : decode cX12_desk 30 = .ok (.istore_n 3, 1) := by decide +kernel
theorem dX12_desk_31 : decode cX12_desk 31 = .ok (.iload_n 3, 1) := by decide +kernel
theorem dX12_desk_32 : decode cX12_desk 32 = .ok (.ifCond .ne 5, 3) := by decide +kernel
theorem dX12_desk_35 : decode cX12_desk 35 = .ok (.iconst 0, 1) := by decide +kernel
theorem dX12_desk_36 : decode cX12_desk 36 = .ok (.ireturn, 1) := by decide +kernel
theorem dX12_desk_37 : decode cX12_desk 37 = .ok (.aload_n 0, 1) := by decide +kernel
theorem dX12_desk_38 : decode cX12_desk 38 = .ok (.getfield 16, 3) := by decide +kernel
theorem dX12_desk_41 : decode cX12_desk 41 = .ok (.getfield 110, 3) := by decide +kernel
theorem dX12_desk_44 : decode cX12_desk 44 = .ok (.bipush 9, 2) := by decide +kernel
theorem dX12_desk_46 : decode cX12_desk 46 = .ok (.iload_n 1, 1) := by decide +kernel
theorem dX12_desk_47 : decode cX12_desk 47 = .ok (.imul, 1) := by decide +kernel
theorem dX12_desk_48 : decode cX12_desk 48 = .ok (.iaload, 1) := by decide +kernel
theorem dX12_desk_49 : decode cX12_desk 49 = .ok (.istore 4, 2) := by decide +kernel
theorem dX12_desk_51 : decode cX12_desk 51 = .ok (.aload_n 0, 1) := by decide +kernel
theorem dX12_desk_52 : decode cX12_desk 52 = .ok (.getfield 16, 3) := by decide +kernel
theorem dX12_desk_55 : decode cX12_desk 55 = .ok (.getfield 113, 3) := by decide +kernel
theorem dX12_desk_58 : decode cX12_desk 58 = .ok (.iload_n 1, 1) := by decide +kernel
theorem dX12_desk_59 : decode cX12_desk 59 = .ok (.baload, 1) := by decide +kernel
theorem dX12_desk_60 : decode cX12_desk 60 = .ok (.istore 5, 2) := by decide +kernel
theorem dX12_desk_62 : decode cX12_desk 62 = .ok (.iload_n 2, 1) := by decide +kernel
theorem dX12_desk_63 : decode cX12_desk 63 = .ok (.tableswitch 132 0 4 #[33, 61, 81, 92, 112], 33) := by decide +kernel
theorem dX12_desk_96 : decode cX12_desk 96 = .ok (.iload 5, 2) := by decide +kernel
theorem dX12_desk_98 : decode cX12_desk 98 = .ok (.ifCond .eq 7, 3) := by decide +kernel
theorem dX12_desk_101 : decode cX12_desk 101 = .ok (.iconst 3, 1) := by decide +kernel
theorem dX12_desk_102 : decode cX12_desk 102 = .ok (.goto 21, 3) := by decide +kernel
theorem dX12_desk_105 : decode cX12_desk 105 = .ok (.aload_n 0, 1) := by decide +kernel
theorem dX12_desk_106 : decode cX12_desk 106 = .ok (.getfield 16, 3) := by decide +kernel
theorem dX12_desk_109 : decode cX12_desk 109 = .ok (.getfield 116, 3) := by decide +kernel
theorem dX12_desk_112 : decode cX12_desk 112 = .ok (.iload 4, 2) := by decide +kernel
theorem dX12_desk_114 : decode cX12_desk 114 = .ok (.baload, 1) := by decide +kernel
theorem dX12_desk_115 : decode cX12_desk 115 = .ok (.ifCond .eq 7, 3) := by decide +kernel
theorem dX12_desk_118 : decode cX12_desk 118 = .ok (.iconst 1, 1) := by decide +kernel
theorem dX12_desk_119 : decode cX12_desk 119 = .ok (.goto 4, 3) := by decide +kernel
theorem dX12_desk_122 : decode cX12_desk 122 = .ok (.iconst 2, 1) := by decide +kernel
theorem dX12_desk_123 : decode cX12_desk 123 = .ok (.ireturn, 1) := by decide +kernel
theorem dX12_desk_124 : decode cX12_desk 124 = .ok (.iload 5, 2) := by decide +kernel
theorem dX12_desk_126 : decode cX12_desk 126 = .ok (.ifCond .eq 7, 3) := by decide +kernel
theorem dX12_desk_129 : decode cX12_desk 129 = .ok (.iload_n 3, 1) := by decide +kernel
theorem dX12_desk_130 : decode cX12_desk 130 = .ok (.goto 13, 3) := by decide +kernel
theorem dX12_desk_133 : decode cX12_desk 133 = .ok (.aload_n 0, 1) := by decide +kernel
theorem dX12_desk_134 : decode cX12_desk 134 = .ok (.getfield 16, 3) := by decide +kernel
theorem dX12_desk_137 : decode cX12_desk 137 = .ok (.getfield 61, 3) := by decide +kernel
theorem dX12_desk_140 : decode cX12_desk 140 = .ok (.iload 4, 2) := by decide +kernel
theorem dX12_desk_142 : decode cX12_desk 142 = .ok (.iaload, 1) := by decide +kernel
theorem dX12_desk_143 : decode cX12_desk 143 = .ok (.ireturn, 1) := by decide +kernel
theorem dX12_desk_144 : decode cX12_desk 144 = .ok (.aload_n 0, 1) := by decide +kernel
theorem dX12_desk_145 : decode cX12_desk 145 = .ok (.getfield 16, 3) := by decide +kernel
theorem dX12_desk_148 : decode cX12_desk 148 = .ok (.getfield 70, 3) := by decide +kernel
theorem dX12_desk_151 : decode cX12_desk 151 = .ok (.iload 4, 2) := by decide +kernel
theorem dX12_desk_153 : decode cX12_desk 153 = .ok (.iaload, 1) := by decide +kernel
theorem dX12_desk_154 : decode cX12_desk 154 = .ok (.ireturn, 1) := by decide +kernel
theorem dX12_desk_155 : decode cX12_desk 155 = .ok (.iload 5, 2) := by decide +kernel
theorem dX12_desk_157 : decode cX12_desk 157 = .ok (.ifCond .eq 7, 3) := by decide +kernel
theorem dX12_desk_160 : decode cX12_desk 160 = .ok (.iconst 0, 1) := by decide +kernel
theorem dX12_desk_161 : decode cX12_desk 161 = .ok (.goto 13, 3) := by decide +kernel
theorem dX12_desk_164 : decode cX12_desk 164 = .ok (.aload_n 0, 1) := by decide +kernel
theorem dX12_desk_165 : decode cX12_desk 165 = .ok (.getfield 16, 3) := by decide +kernel
theorem dX12_desk_168 : decode cX12_desk 168 = .ok (.getfield 73, 3) := by decide +kernel
theorem dX12_desk_171 : decode cX12_desk 171 = .ok (.iload 4, 2) := by decide +kernel
theorem dX12_desk_173 : decode cX12_desk 173 = .ok (.iaload, 1) := by decide +kernel
theorem dX12_desk_174 : decode cX12_desk 174 = .ok (.ireturn, 1) := by decide +kernel
theorem dX12_desk_175 : decode cX12_desk 175 = .ok (.iload 5, 2) := by decide +kernel
theorem dX12_desk_177 : decode cX12_desk 177 = .ok (.ifCond .eq 7, 3) := by decide +kernel
theorem dX12_desk_180 : decode cX12_desk 180 = .ok (.iconst 0, 1) := by decide +kernel
theorem dX12_desk_181 : decode cX12_desk 181 = .ok (.goto 13, 3) := by decide +kernel
theorem dX12_desk_184 : decode cX12_desk 184 = .ok (.aload_n 0, 1) := by decide +kernel
theorem dX12_desk_185 : decode cX12_desk 185 = .ok (.getfield 16, 3) := by decide +kernel
theorem dX12_desk_188 : decode cX12_desk 188 = .ok (.getfield 76, 3) := by decide +kernel
theorem dX12_desk_191 : decode cX12_desk 191 = .ok (.iload 4, 2) := by decide +kernel
theorem dX12_desk_193 : decode cX12_desk 193 = .ok (.iaload, 1) := by decide +kernel
theorem dX12_desk_194 : decode cX12_desk 194 = .ok (.ireturn, 1) := by decide +kernel
theorem dX12_desk_195 : decode cX12_desk 195 = .ok (.iload 5, 2) := by decide +kernel
theorem dX12_desk_197 : decode cX12_desk 197 = .ok (.ifCond .ne 20, 3) := by decide +kernel
theorem dX12_desk_200 : decode cX12_desk 200 = .ok (.aload_n 0, 1) := by decide +kernel
theorem dX12_desk_201 : decode cX12_desk 201 = .ok (.getfield 16, 3) := by decide +kernel
theorem dX12_desk_204 : decode cX12_desk 204 = .ok (.getfield 119, 3) := by decide +kernel
theorem dX12_desk_207 : decode cX12_desk 207 = .ok (.iload 4, 2) := by decide +kernel
theorem dX12_desk_209 : decode cX12_desk 209 = .ok (.baload, 1) := by decide +kernel
theorem dX12_desk_210 : decode cX12_desk 210 = .ok (.ifCond .eq 7, 3) := by decide +kernel
theorem dX12_desk_213 : decode cX12_desk 213 = .ok (.iconst 1, 1) := by decide +kernel
theorem dX12_desk_214 : decode cX12_desk 214 = .ok (.goto 4, 3) := by decide +kernel
theorem dX12_desk_217 : decode cX12_desk 217 = .ok (.iconst 0, 1) := by decide +kernel
theorem dX12_desk_218 : decode cX12_desk 218 = .ok (.ireturn, 1) := by decide +kernel
theorem dX12_draft_0 : decode cX12_draft 0 = .ok (.aload_n 0, 1) := by decide +kernel
theorem dX12_draft_1 : decode cX12_draft 1 = .ok (.getfield 16, 3) := by decide +kernel
theorem dX12_draft_4 : decode cX12_draft 4 = .ok (.bipush 10, 2) := by decide +kernel
theorem dX12_draft_6 : decode cX12_draft 6 = .ok (.iload_n 1, 1) := by decide +kernel
theorem dX12_draft_7 : decode cX12_draft 7 = .ok (.iconst 0, 1) := by decide +kernel
theorem dX12_draft_8 : decode cX12_draft 8 = .ok (.iconst 0, 1) := by decide +kernel
theorem dX12_draft_9 : decode cX12_draft 9 = .ok (.iconst 0, 1) := by decide +kernel
theorem dX12_draft_10 : decode cX12_draft 10 = .ok (.invokevirtual 40, 3) := by decide +kernel
theorem dX12_draft_13 : decode cX12_draft 13 = .ok (.ireturn, 1) := by decide +kernel
theorem dX12_floor_0 : decode cX12_floor 0 = .ok (.aload_n 0, 1) := by decide +kernel
theorem dX12_floor_1 : decode cX12_floor 1 = .ok (.getfield 16, 3) := by decide +kernel
theorem dX12_floor_4 : decode cX12_floor 4 = .ok (.bipush 7, 2) := by decide +kernel
theorem dX12_floor_6 : decode cX12_floor 6 = .ok (.iload_n 1, 1) := by decide +kernel
theorem dX12_floor_7 : decode cX12_floor 7 = .ok (.iconst 0, 1) := by decide +kernel
theorem dX12_floor_8 : decode cX12_floor 8 = .ok (.iconst 0, 1) := by decide +kernel
theorem dX12_floor_9 : decode cX12_floor 9 = .ok (.iconst 0, 1) := by decide +kernel
theorem dX12_floor_10 : decode cX12_floor 10 = .ok (.invokevirtual 40, 3) := by decide +kernel
theorem dX12_floor_13 : decode cX12_floor 13 = .ok (.ireturn, 1) := by decide +kernel
theorem dX12_gone_0 : decode cX12_gone 0 = .ok (.aload_n 0, 1) := by decide +kernel
theorem dX12_gone_1 : decode cX12_gone 1 = .ok (.getfield 16, 3) := by decide +kernel
theorem dX12_gone_4 : decode cX12_gone 4 = .ok (.iconst 2, 1) := by decide +kernel
theorem dX12_gone_5 : decode cX12_gone 5 = .ok (.iload_n 1, 1) := by decide +kernel
theorem dX12_gone_6 : decode cX12_gone 6 = .ok (.iconst 0, 1) := by decide +kernel
theorem dX12_gone_7 : decode cX12_gone 7 = .ok (.iconst 0, 1) := by decide +kernel
theorem dX12_gone_8 : decode cX12_gone 8 = .ok (.iconst 0, 1) := by decide +kernel
theorem dX12_gone_9 : decode cX12_gone 9 = .ok (.invokevirtual 40, 3) := by decide +kernel
theorem dX12_gone_12 : decode cX12_gone 12 = .ok (.ireturn, 1) := by decide +kernel
theorem dX12_image_0 : decode cX12_image 0 = .ok (.iload_n 1, 1) := by decide +kernel
theorem dX12_image_1 : decode cX12_image 1 = .ok (.iconst 0, 1) := by decide +kernel
theorem dX12_image_2 : decode cX12_image 2 = .ok (.iconst 1, 1) := by decide +kernel
theorem dX12_image_3 : decode cX12_image 3 = .ok (.invokestatic 1, 3) := by decide +kernel
theorem dX12_image_6 : decode cX12_image 6 = .ok (.ifCond .ne 6, 3) := by decide +kernel
theorem dX12_image_9 : decode cX12_image 9 = .ok (.bipush (-9), 2) := by decide +kernel
theorem dX12_image_11 : decode cX12_image 11 = .ok (.ireturn, 1) := by decide +kernel
theorem dX12_image_12 : decode cX12_image 12 = .ok (.aload_n 0, 1) := by decide +kernel
theorem dX12_image_13 : decode cX12_image 13 = .ok (.getfield 23, 3) := by decide +kernel
theorem dX12_image_16 : decode cX12_image 16 = .ok (.iload_n 1, 1) := by decide +kernel
theorem dX12_image_17 : decode cX12_image 17 = .ok (.aload_n 0, 1) := by decide +kernel
theorem dX12_image_18 : decode cX12_image 18 = .ok (.getfield 16, 3) := by decide +kernel
theorem dX12_image_21 : decode cX12_image 21 = .ok (.getfield 96, 3) := by decide +kernel
theorem dX12_image_24 : decode cX12_image 24 = .ok (.iastore, 1) := by decide +kernel
theorem dX12_image_25 : decode cX12_image 25 = .ok (.aload_n 0, 1) := by decide +kernel
theorem dX12_image_26 : decode cX12_image 26 = .ok (.getfield 27, 3) := by decide +kernel
theorem dX12_image_29 : decode cX12_image 29 = .ok (.iload_n 1, 1) := by decide +kernel
theorem dX12_image_30 : decode cX12_image 30 = .ok (.aload_n 0, 1) := by decide +kernel
theorem dX12_image_31 : decode cX12_image 31 = .ok (.getfield 16, 3) := by decide +kernel
theorem dX12_image_34 : decode cX12_image 34 = .ok (.getfield 48, 3) := by decide +kernel
theorem dX12_image_37 : decode cX12_image 37 = .ok (.iastore, 1) := by decide +kernel
theorem dX12_image_38 : decode cX12_image 38 = .ok (.iconst 0, 1) := by decide +kernel
theorem dX12_image_39 : decode cX12_image 39 = .ok (.istore_n 2, 1) := by decide +kernel
theorem dX12_image_40 : decode cX12_image 40 = .ok (.iload_n 2, 1) := by decide +kernel
theorem dX12_image_41 : decode cX12_image 41 = .ok (.bipush 6, 2) := by decide +kernel
theorem dX12_image_43 : decode cX12_image 43 = .ok (.aload_n 0, 1) := by decide +kernel
theorem dX12_image_44 : decode cX12_image 44 = .ok (.getfield 16, 3) := by decide +kernel
theorem dX12_image_47 : decode cX12_image 47 = .ok (.getfield 48, 3) := by decide +kernel
theorem dX12_image_50 : decode cX12_image 50 = .ok (.imul, 1) := by decide +kernel
theorem dX12_image_51 : decode cX12_image 51 = .ok (.if_icmp .ge 30, 3) := by decide +kernel
theorem dX12_image_54 : decode cX12_image 54 = .ok (.aload_n 0, 1) := by decide +kernel
theorem dX12_image_55 : decode cX12_image 55 = .ok (.getfield 30, 3) := by decide +kernel
theorem dX12_image_58 : decode cX12_image 58 = .ok (.sipush 3600, 3) := by decide +kernel
theorem dX12_image_61 : decode cX12_image 61 = .ok (.iload_n 1, 1) := by decide +kernel
theorem dX12_image_62 : decode cX12_image 62 = .ok (.imul, 1) := by decide +kernel
theorem dX12_image_63 : decode cX12_image 63 = .ok (.iload_n 2, 1) := by decide +kernel
theorem dX12_image_64 : decode cX12_image 64 = .ok (.iadd, 1) := by decide +kernel
theorem dX12_image_65 : decode cX12_image 65 = .ok (.aload_n 0, 1) := by decide +kernel
theorem dX12_image_66 : decode cX12_image 66 = .ok (.getfield 16, 3) := by decide +kernel
theorem dX12_image_69 : decode cX12_image 69 = .ok (.getfield 167, 3) := by decide +kernel
theorem dX12_image_72 : decode cX12_image 72 = .ok (.iload_n 2, 1) := by decide +kernel
theorem dX12_image_73 : decode cX12_image 73 = .ok (.iaload, 1) := by decide +kernel
theorem dX12_image_74 : decode cX12_image 74 = .ok (.iastore, 1) := by decide +kernel
theorem dX12_image_75 : decode cX12_image 75 = .ok (.iinc 2 1, 3) := by decide +kernel
theorem dX12_image_78 : decode cX12_image 78 = .ok (.goto (-38), 3) := by decide +kernel
theorem dX12_image_81 : decode cX12_image 81 = .ok (.aload_n 0, 1) := by decide +kernel
theorem dX12_image_82 : decode cX12_image 82 = .ok (.getfield 16, 3) := by decide +kernel
theorem dX12_image_85 : decode cX12_image 85 = .ok (.getfield 48, 3) := by decide +kernel
theorem dX12_image_88 : decode cX12_image 88 = .ok (.ireturn, 1) := by decide +kernel
theorem dX12_in_0 : decode cX12_in 0 = .ok (.iload_n 0, 1) := by decide +kernel
theorem dX12_in_1 : decode cX12_in 1 = .ok (.iload_n 1, 1) := by decide +kernel
theorem dX12_in_2 : decode cX12_in 2 = .ok (.if_icmp .lt 12, 3) := by decide +kernel
theorem dX12_in_5 : decode cX12_in 5 = .ok (.iload_n 0, 1) := by decide +kernel
theorem dX12_in_6 : decode cX12_in 6 = .ok (.iload_n 2, 1) := by decide +kernel
theorem dX12_in_7 : decode cX12_in 7 = .ok (.if_icmp .gt 7, 3) := by decide +kernel
theorem dX12_in_10 : decode cX12_in 10 = .ok (.iconst 1, 1) := by decide +kernel
theorem dX12_in_11 : decode cX12_in 11 = .ok (.goto 4, 3) := by decide +kernel
theorem dX12_in_14 : decode cX12_in 14 = .ok (.iconst 0, 1) := by decide +kernel
theorem dX12_in_15 : decode cX12_in 15 = .ok (.ireturn, 1) := by decide +kernel
theorem dX12_journal_0 : decode cX12_journal 0 = .ok (.iload_n 1, 1) := by decide +kernel
theorem dX12_journal_1 : decode cX12_journal 1 = .ok (.iconst 0, 1) := by decide +kernel
theorem dX12_journal_2 : decode cX12_journal 2 = .ok (.aload_n 0, 1) := by decide +kernel
theorem dX12_journal_3 : decode cX12_journal 3 = .ok (.getfield 16, 3) := by decide +kernel
theorem dX12_journal_6 : decode cX12_journal 6 = .ok (.getfield 48, 3) := by decide +kernel
theorem dX12_journal_9 : decode cX12_journal 9 = .ok (.iconst 1, 1) := by decide +kernel
theorem dX12_journal_10 : decode cX12_journal 10 = .ok (.isub, 1) := by decide +kernel
theorem dX12_journal_11 : decode cX12_journal 11 = .ok (.invokestatic 1, 3) := by decide +kernel
theorem dX12_journal_14 : decode cX12_journal 14 = .ok (.ifCond .eq 29, 3) := by decide +kernel
theorem dX12_journal_17 : decode cX12_journal 17 = .ok (.iload_n 2, 1) := by decide +kernel
theorem dX12_journal_18 : decode cX12_journal 18 = .ok (.iconst 0, 1) := by decide +kernel
theorem dX12_journal_19 : decode cX12_journal 19 = .ok (.iconst 5, 1) := by decide +kernel
theorem dX12_journal_20 : decode cX12_journal 20 = .ok (.invokestatic 1, 3) := by decide +kernel
theorem dX12_journal_23 : decode cX12_journal 23 = .ok (.ifCond .eq 20, 3) := by decide +kernel
theorem dX12_journal_26 : decode cX12_journal 26 = .ok (.aload_n 0, 1) := by decide +kernel
theorem dX12_journal_27 : decode cX12_journal 27 = .ok (.getfield 16, 3) := by decide +kernel
theorem dX12_journal_30 : decode cX12_journal 30 = .ok (.getfield 167, 3) := by decide +kernel
theorem dX12_journal_33 : decode cX12_journal 33 = .ok (.bipush 6, 2) := by decide +kernel
theorem dX12_journal_35 : decode cX12_journal 35 = .ok (.iload_n 1, 1) := by decide +kernel
theorem dX12_journal_36 : decode cX12_journal 36 = .ok (.imul, 1) := by decide +kernel
theorem dX12_journal_37 : decode cX12_journal 37 = .ok (.iload_n 2, 1) := by decide +kernel
theorem dX12_journal_38 : decode cX12_journal 38 = .ok (.iadd, 1) := by decide +kernel
theorem dX12_journal_39 : decode cX12_journal 39 = .ok (.iaload, 1) := by decide +kernel
theorem dX12_journal_40 : decode cX12_journal 40 = .ok (.goto 4, 3) := by decide +kernel
theorem dX12_journal_43 : decode cX12_journal 43 = .ok (.iconst (-1), 1) := by decide +kernel
theorem dX12_journal_44 : decode cX12_journal 44 = .ok (.ireturn, 1) := by decide +kernel
theorem dX12_lay_0 : decode cX12_lay 0 = .ok (.aload_n 0, 1) := by decide +kernel
theorem dX12_lay_1 : decode cX12_lay 1 = .ok (.getfield 16, 3) := by decide +kernel
theorem dX12_lay_4 : decode cX12_lay 4 = .ok (.bipush 13, 2) := by decide +kernel
theorem dX12_lay_6 : decode cX12_lay 6 = .ok (.iload_n 1, 1) := by decide +kernel
theorem dX12_lay_7 : decode cX12_lay 7 = .ok (.iconst 0, 1) := by decide +kernel
theorem dX12_lay_8 : decode cX12_lay 8 = .ok (.iconst 0, 1) := by decide +kernel
theorem dX12_lay_9 : decode cX12_lay 9 = .ok (.iconst 0, 1) := by decide +kernel
theorem dX12_lay_10 : decode cX12_lay 10 = .ok (.invokevirtual 40, 3) := by decide +kernel
theorem dX12_lay_13 : decode cX12_lay 13 = .ok (.ireturn, 1) := by decide +kernel
theorem dX12_limit_0 : decode cX12_limit 0 = .ok (.aload_n 0, 1) := by decide +kernel
theorem dX12_limit_1 : decode cX12_limit 1 = .ok (.getfield 16, 3) := by decide +kernel
theorem dX12_limit_4 : decode cX12_limit 4 = .ok (.bipush 6, 2) := by decide +kernel
theorem dX12_limit_6 : decode cX12_limit 6 = .ok (.iload_n 1, 1) := by decide +kernel
theorem dX12_limit_7 : decode cX12_limit 7 = .ok (.iconst 0, 1) := by decide +kernel
theorem dX12_limit_8 : decode cX12_limit 8 = .ok (.iconst 0, 1) := by decide +kernel
theorem dX12_limit_9 : decode cX12_limit 9 = .ok (.iconst 0, 1) := by decide +kernel
theorem dX12_limit_10 : decode cX12_limit 10 = .ok (.invokevirtual 40, 3) := by decide +kernel
theorem dX12_limit_13 : decode cX12_limit 13 = .ok (.ireturn, 1) := by decide +kernel
theorem dX12_lying_0 : decode cX12_lying 0 = .ok (.iload_n 1, 1) := by decide +kernel
theorem dX12_lying_1 : decode cX12_lying 1 = .ok (.iconst 0, 1) := by decide +kernel
theorem dX12_lying_2 : decode cX12_lying 2 = .ok (.bipush 7, 2) := by decide +kernel
theorem dX12_lying_4 : decode cX12_lying 4 = .ok (.invokestatic 1, 3) := by decide +kernel
theorem dX12_lying_7 : decode cX12_lying 7 = .ok (.ifCond .eq 15, 3) := by decide +kernel
theorem dX12_lying_10 : decode cX12_lying 10 = .ok (.aload_n 0, 1) := by decide +kernel
theorem dX12_lying_11 : decode cX12_lying 11 = .ok (.getfield 16, 3) := by decide +kernel
theorem dX12_lying_14 : decode cX12_lying 14 = .ok (.getfield 107, 3) := by decide +kernel
theorem dX12_lying_17 : decode cX12_lying 17 = .ok (.iload_n 1, 1) := by decide +kernel
theorem dX12_lying_18 : decode cX12_lying 18 = .ok (.iaload, 1) := by decide +kernel
theorem dX12_lying_19 : decode cX12_lying 19 = .ok (.ifCond .ne 5, 3) := by decide +kernel
theorem dX12_lying_22 : decode cX12_lying 22 = .ok (.iconst (-1), 1) := by decide +kernel
theorem dX12_lying_23 : decode cX12_lying 23 = .ok (.ireturn, 1) := by decide +kernel
theorem dX12_lying_24 : decode cX12_lying 24 = .ok (.aload_n 0, 1) := by decide +kernel
theorem dX12_lying_25 : decode cX12_lying 25 = .ok (.getfield 16, 3) := by decide +kernel
theorem dX12_lying_28 : decode cX12_lying 28 = .ok (.getfield 110, 3) := by decide +kernel
theorem dX12_lying_31 : decode cX12_lying 31 = .ok (.bipush 9, 2) := by decide +kernel
theorem dX12_lying_33 : decode cX12_lying 33 = .ok (.iload_n 1, 1) := by decide +kernel
theorem dX12_lying_34 : decode cX12_lying 34 = .ok (.imul, 1) := by decide +kernel
theorem dX12_lying_35 : decode cX12_lying 35 = .ok (.iaload, 1) := by decide +kernel
theorem dX12_lying_36 : decode cX12_lying 36 = .ok (.istore_n 3, 1) := by decide +kernel
theorem dX12_lying_37 : decode cX12_lying 37 = .ok (.iload_n 2, 1) := by decide +kernel
theorem dX12_lying_38 : decode cX12_lying 38 = .ok (.iconst 0, 1) := by decide +kernel
theorem dX12_lying_39 : decode cX12_lying 39 = .ok (.aload_n 0, 1) := by decide +kernel
theorem dX12_lying_40 : decode cX12_lying 40 = .ok (.getfield 16, 3) := by decide +kernel
theorem dX12_lying_43 : decode cX12_lying 43 = .ok (.getfield 70, 3) := by decide +kernel
theorem dX12_lying_46 : decode cX12_lying 46 = .ok (.iload_n 3, 1) := by decide +kernel
theorem dX12_lying_47 : decode cX12_lying 47 = .ok (.iaload, 1) := by decide +kernel
theorem dX12_lying_48 : decode cX12_lying 48 = .ok (.iconst 1, 1) := by decide +kernel
theorem dX12_lying_49 : decode cX12_lying 49 = .ok (.isub, 1) := by decide +kernel
theorem dX12_lying_50 : decode cX12_lying 50 = .ok (.invokestatic 1, 3) := by decide +kernel
theorem dX12_lying_53 : decode cX12_lying 53 = .ok (.ifCond .eq 21, 3) := by decide +kernel
theorem dX12_lying_56 : decode cX12_lying 56 = .ok (.aload_n 0, 1) := by decide +kernel
theorem dX12_lying_57 : decode cX12_lying 57 = .ok (.getfield 16, 3) := by decide +kernel
theorem dX12_lying_60 : decode cX12_lying 60 = .ok (.getfield 122, 3) := by decide +kernel
theorem dX12_lying_63 : decode cX12_lying 63 = .ok (.sipush 400, 3) := by decide +kernel
theorem dX12_lying_66 : decode cX12_lying 66 = .ok (.iload_n 3, 1) := by decide +kernel
theorem dX12_lying_67 : decode cX12_lying 67 = .ok (.imul, 1) := by decide +kernel
theorem dX12_lying_68 : decode cX12_lying 68 = .ok (.iload_n 2, 1) := by decide +kernel
theorem dX12_lying_69 : decode cX12_lying 69 = .ok (.iadd, 1) := by decide +kernel
theorem dX12_lying_70 : decode cX12_lying 70 = .ok (.iaload, 1) := by decide +kernel
theorem dX12_lying_71 : decode cX12_lying 71 = .ok (.goto 4, 3) := by decide +kernel
theorem dX12_lying_74 : decode cX12_lying 74 = .ok (.iconst (-1), 1) := by decide +kernel
theorem dX12_lying_75 : decode cX12_lying 75 = .ok (.ireturn, 1) := by decide +kernel
theorem dX12_majority_0 : decode cX12_majority 0 = .ok (.aload_n 0, 1) := by decide +kernel
theorem dX12_majority_1 : decode cX12_majority 1 = .ok (.getfield 16, 3) := by decide +kernel
theorem dX12_majority_4 : decode cX12_majority 4 = .ok (.iconst 5, 1) := by decide +kernel
theorem dX12_majority_5 : decode cX12_majority 5 = .ok (.iload_n 1, 1) := by decide +kernel
theorem dX12_majority_6 : decode cX12_majority 6 = .ok (.iload_n 2, 1) := by decide +kernel
theorem dX12_majority_7 : decode cX12_majority 7 = .ok (.iconst 0, 1) := by decide +kernel
theorem dX12_majority_8 : decode cX12_majority 8 = .ok (.iconst 0, 1) := by decide +kernel
theorem dX12_majority_9 : decode cX12_majority 9 = .ok (.invokevirtual 40, 3) := by decide +kernel
theorem dX12_majority_12 : decode cX12_majority 12 = .ok (.ireturn, 1) := by decide +kernel
theorem dX12_move_0 : decode cX12_move 0 = .ok (.aload_n 0, 1) := by decide +kernel
theorem dX12_move_1 : decode cX12_move 1 = .ok (.getfield 16, 3) := by decide +kernel
theorem dX12_move_4 : decode cX12_move 4 = .ok (.bipush 15, 2) := by decide +kernel
theorem dX12_move_6 : decode cX12_move 6 = .ok (.iload_n 1, 1) := by decide +kernel
theorem dX12_move_7 : decode cX12_move 7 = .ok (.iconst 0, 1) := by decide +kernel
theorem dX12_move_8 : decode cX12_move 8 = .ok (.iconst 0, 1) := by decide +kernel
theorem dX12_move_9 : decode cX12_move 9 = .ok (.iconst 0, 1) := by decide +kernel
theorem dX12_move_10 : decode cX12_move 10 = .ok (.invokevirtual 40, 3) := by decide +kernel
theorem dX12_move_13 : decode cX12_move 13 = .ok (.ireturn, 1) := by decide +kernel
theorem dX12_numbers_0 : decode cX12_numbers 0 = .ok (.iload_n 0, 1) := by decide +kernel
theorem dX12_numbers_1 : decode cX12_numbers 1 = .ok (.tableswitch 93 5 22 #[89, 93, 93, 87, 93, 93, 89, 91, 93, 93, 93, 93, 89, 93, 87, 93, 87, 87], 87) := by decide +kernel
theorem dX12_numbers_88 : decode cX12_numbers 88 = .ok (.iconst 0, 1) := by decide +kernel
theorem dX12_numbers_89 : decode cX12_numbers 89 = .ok (.ireturn, 1) := by decide +kernel
theorem dX12_numbers_90 : decode cX12_numbers 90 = .ok (.iconst 2, 1) := by decide +kernel
theorem dX12_numbers_91 : decode cX12_numbers 91 = .ok (.ireturn, 1) := by decide +kernel
theorem dX12_numbers_92 : decode cX12_numbers 92 = .ok (.iconst 4, 1) := by decide +kernel
theorem dX12_numbers_93 : decode cX12_numbers 93 = .ok (.ireturn, 1) := by decide +kernel
theorem dX12_numbers_94 : decode cX12_numbers 94 = .ok (.iload_n 0, 1) := by decide +kernel
theorem dX12_numbers_95 : decode cX12_numbers 95 = .ok (.iconst 1, 1) := by decide +kernel
theorem dX12_numbers_96 : decode cX12_numbers 96 = .ok (.bipush 22, 2) := by decide +kernel
theorem dX12_numbers_98 : decode cX12_numbers 98 = .ok (.invokestatic 1, 3) := by decide +kernel
theorem dX12_numbers_101 : decode cX12_numbers 101 = .ok (.ifCond .eq 7, 3) := by decide +kernel
theorem dX12_numbers_104 : decode cX12_numbers 104 = .ok (.iconst 1, 1) := by decide +kernel
theorem dX12_numbers_105 : decode cX12_numbers 105 = .ok (.goto 4, 3) := by decide +kernel
theorem dX12_numbers_108 : decode cX12_numbers 108 = .ok (.iconst (-1), 1) := by decide +kernel
theorem dX12_numbers_109 : decode cX12_numbers 109 = .ok (.ireturn, 1) := by decide +kernel
theorem dX12_order_0 : decode cX12_order 0 = .ok (.aload_n 0, 1) := by decide +kernel
theorem dX12_order_1 : decode cX12_order 1 = .ok (.getfield 16, 3) := by decide +kernel
theorem dX12_order_4 : decode cX12_order 4 = .ok (.iload_n 1, 1) := by decide +kernel
theorem dX12_order_5 : decode cX12_order 5 = .ok (.invokevirtual 44, 3) := by decide +kernel
theorem dX12_order_8 : decode cX12_order 8 = .ok (.istore_n 2, 1) := by decide +kernel
theorem dX12_order_9 : decode cX12_order 9 = .ok (.aload_n 0, 1) := by decide +kernel
theorem dX12_order_10 : decode cX12_order 10 = .ok (.getfield 16, 3) := by decide +kernel
theorem dX12_order_13 : decode cX12_order 13 = .ok (.iload_n 2, 1) := by decide +kernel
theorem dX12_order_14 : decode cX12_order 14 = .ok (.ifCond .ne 21, 3) := by decide +kernel
theorem dX12_order_17 : decode cX12_order 17 = .ok (.aload_n 0, 1) := by decide +kernel
theorem dX12_order_18 : decode cX12_order 18 = .ok (.getfield 16, 3) := by decide +kernel
theorem dX12_order_21 : decode cX12_order 21 = .ok (.getfield 48, 3) := by decide +kernel
theorem dX12_order_24 : decode cX12_order 24 = .ok (.sipush 600, 3) := by decide +kernel
theorem dX12_order_27 : decode cX12_order 27 = .ok (.if_icmp .ne 8, 3) := by decide +kernel
theorem dX12_order_30 : decode cX12_order 30 = .ok (.bipush 10, 2) := by decide +kernel
theorem dX12_order_32 : decode cX12_order 32 = .ok (.goto 4, 3) := by decide +kernel
theorem dX12_order_35 : decode cX12_order 35 = .ok (.iload_n 2, 1) := by decide +kernel
theorem dX12_order_36 : decode cX12_order 36 = .ok (.putfield 52, 3) := by decide +kernel
theorem dX12_order_39 : decode cX12_order 39 = .ok (.aload_n 0, 1) := by decide +kernel
theorem dX12_order_40 : decode cX12_order 40 = .ok (.getfield 16, 3) := by decide +kernel
theorem dX12_order_43 : decode cX12_order 43 = .ok (.getfield 52, 3) := by decide +kernel
theorem dX12_order_46 : decode cX12_order 46 = .ok (.ifCond .ne 7, 3) := by decide +kernel
theorem dX12_order_49 : decode cX12_order 49 = .ok (.iconst 1, 1) := by decide +kernel
theorem dX12_order_50 : decode cX12_order 50 = .ok (.goto 4, 3) := by decide +kernel
theorem dX12_order_53 : decode cX12_order 53 = .ok (.iconst 0, 1) := by decide +kernel
theorem dX12_order_54 : decode cX12_order 54 = .ok (.ireturn, 1) := by decide +kernel
theorem dX12_pending_0 : decode cX12_pending 0 = .ok (.iload_n 1, 1) := by decide +kernel
theorem dX12_pending_1 : decode cX12_pending 1 = .ok (.iconst 0, 1) := by decide +kernel
theorem dX12_pending_2 : decode cX12_pending 2 = .ok (.aload_n 0, 1) := by decide +kernel
theorem dX12_pending_3 : decode cX12_pending 3 = .ok (.getfield 16, 3) := by decide +kernel
theorem dX12_pending_6 : decode cX12_pending 6 = .ok (.getfield 55, 3) := by decide +kernel
theorem dX12_pending_9 : decode cX12_pending 9 = .ok (.iconst 1, 1) := by decide +kernel
theorem dX12_pending_10 : decode cX12_pending 10 = .ok (.isub, 1) := by decide +kernel
theorem dX12_pending_11 : decode cX12_pending 11 = .ok (.invokestatic 1, 3) := by decide +kernel
theorem dX12_pending_14 : decode cX12_pending 14 = .ok (.ifCond .ne 5, 3) := by decide +kernel
theorem dX12_pending_17 : decode cX12_pending 17 = .ok (.iconst (-1), 1) := by decide +kernel
theorem dX12_pending_18 : decode cX12_pending 18 = .ok (.ireturn, 1) := by decide +kernel
theorem dX12_pending_19 : decode cX12_pending 19 = .ok (.aload_n 0, 1) := by decide +kernel
theorem dX12_pending_20 : decode cX12_pending 20 = .ok (.getfield 16, 3) := by decide +kernel
theorem dX12_pending_23 : decode cX12_pending 23 = .ok (.getfield 58, 3) := by decide +kernel
theorem dX12_pending_26 : decode cX12_pending 26 = .ok (.iload_n 1, 1) := by decide +kernel
theorem dX12_pending_27 : decode cX12_pending 27 = .ok (.iaload, 1) := by decide +kernel
theorem dX12_pending_28 : decode cX12_pending 28 = .ok (.istore_n 3, 1) := by decide +kernel
theorem dX12_pending_29 : decode cX12_pending 29 = .ok (.iload_n 2, 1) := by decide +kernel
theorem dX12_pending_30 : decode cX12_pending 30 = .ok (.tableswitch 161 0 9 #[54, 64, 74, 84, 94, 104, 114, 124, 134, 152], 54) := by decide +kernel
theorem dX12_pending_84 : decode cX12_pending 84 = .ok (.aload_n 0, 1) := by decide +kernel
theorem dX12_pending_85 : decode cX12_pending 85 = .ok (.getfield 16, 3) := by decide +kernel
theorem dX12_pending_88 : decode cX12_pending 88 = .ok (.getfield 61, 3) := by decide +kernel
theorem dX12_pending_91 : decode cX12_pending 91 = .ok (.iload_n 3, 1) := by decide +kernel
theorem dX12_pending_92 : decode cX12_pending 92 = .ok (.iaload, 1) := by decide +kernel
theorem dX12_pending_93 : decode cX12_pending 93 = .ok (.ireturn, 1) := by decide +kernel
theorem dX12_pending_94 : decode cX12_pending 94 = .ok (.aload_n 0, 1) := by decide +kernel
theorem dX12_pending_95 : decode cX12_pending 95 = .ok (.getfield 16, 3) := by decide +kernel
theorem dX12_pending_98 : decode cX12_pending 98 = .ok (.getfield 64, 3) := by decide +kernel
theorem dX12_pending_101 : decode cX12_pending 101 = .ok (.iload_n 3, 1) := by decide +kernel
theorem dX12_pending_102 : decode cX12_pending 102 = .ok (.iaload, 1) := by decide +kernel
theorem dX12_pending_103 : decode cX12_pending 103 = .ok (.ireturn, 1) := by decide +kernel
theorem dX12_pending_104 : decode cX12_pending 104 = .ok (.aload_n 0, 1) := by decide +kernel
theorem dX12_pending_105 : decode cX12_pending 105 = .ok (.getfield 16, 3) := by decide +kernel
theorem dX12_pending_108 : decode cX12_pending 108 = .ok (.getfield 67, 3) := by decide +kernel
theorem dX12_pending_111 : decode cX12_pending 111 = .ok (.iload_n 3, 1) := by decide +kernel
theorem dX12_pending_112 : decode cX12_pending 112 = .ok (.iaload, 1) := by decide +kernel
theorem dX12_pending_113 : decode cX12_pending 113 = .ok (.ireturn, 1) := by decide +kernel
theorem dX12_pending_114 : decode cX12_pending 114 = .ok (.aload_n 0, 1) := by decide +kernel
theorem dX12_pending_115 : decode cX12_pending 115 = .ok (.getfield 16, 3) := by decide +kernel
theorem dX12_pending_118 : decode cX12_pending 118 = .ok (.getfield 70, 3) := by decide +kernel
theorem dX12_pending_121 : decode cX12_pending 121 = .ok (.iload_n 3, 1) := by decide +kernel
theorem dX12_pending_122 : decode cX12_pending 122 = .ok (.iaload, 1) := by decide +kernel
theorem dX12_pending_123 : decode cX12_pending 123 = .ok (.ireturn, 1) := by decide +kernel
theorem dX12_pending_124 : decode cX12_pending 124 = .ok (.aload_n 0, 1) := by decide +kernel
theorem dX12_pending_125 : decode cX12_pending 125 = .ok (.getfield 16, 3) := by decide +kernel
theorem dX12_pending_128 : decode cX12_pending 128 = .ok (.getfield 73, 3) := by decide +kernel
theorem dX12_pending_131 : decode cX12_pending 131 = .ok (.iload_n 3, 1) := by decide +kernel
theorem dX12_pending_132 : decode cX12_pending 132 = .ok (.iaload, 1) := by decide +kernel
theorem dX12_pending_133 : decode cX12_pending 133 = .ok (.ireturn, 1) := by decide +kernel
theorem dX12_pending_134 : decode cX12_pending 134 = .ok (.aload_n 0, 1) := by decide +kernel
theorem dX12_pending_135 : decode cX12_pending 135 = .ok (.getfield 16, 3) := by decide +kernel
theorem dX12_pending_138 : decode cX12_pending 138 = .ok (.getfield 76, 3) := by decide +kernel
theorem dX12_pending_141 : decode cX12_pending 141 = .ok (.iload_n 3, 1) := by decide +kernel
theorem dX12_pending_142 : decode cX12_pending 142 = .ok (.iaload, 1) := by decide +kernel
theorem dX12_pending_143 : decode cX12_pending 143 = .ok (.ireturn, 1) := by decide +kernel
theorem dX12_pending_144 : decode cX12_pending 144 = .ok (.aload_n 0, 1) := by decide +kernel
theorem dX12_pending_145 : decode cX12_pending 145 = .ok (.getfield 16, 3) := by decide +kernel
theorem dX12_pending_148 : decode cX12_pending 148 = .ok (.getfield 79, 3) := by decide +kernel
theorem dX12_pending_151 : decode cX12_pending 151 = .ok (.iload_n 3, 1) := by decide +kernel
theorem dX12_pending_152 : decode cX12_pending 152 = .ok (.iaload, 1) := by decide +kernel
theorem dX12_pending_153 : decode cX12_pending 153 = .ok (.ireturn, 1) := by decide +kernel
theorem dX12_pending_154 : decode cX12_pending 154 = .ok (.aload_n 0, 1) := by decide +kernel
theorem dX12_pending_155 : decode cX12_pending 155 = .ok (.getfield 16, 3) := by decide +kernel
theorem dX12_pending_158 : decode cX12_pending 158 = .ok (.getfield 82, 3) := by decide +kernel
theorem dX12_pending_161 : decode cX12_pending 161 = .ok (.iload_n 3, 1) := by decide +kernel
theorem dX12_pending_162 : decode cX12_pending 162 = .ok (.iaload, 1) := by decide +kernel
theorem dX12_pending_163 : decode cX12_pending 163 = .ok (.ireturn, 1) := by decide +kernel
theorem dX12_pending_164 : decode cX12_pending 164 = .ok (.aload_n 0, 1) := by decide +kernel
theorem dX12_pending_165 : decode cX12_pending 165 = .ok (.getfield 16, 3) := by decide +kernel
theorem dX12_pending_168 : decode cX12_pending 168 = .ok (.getfield 85, 3) := by decide +kernel
theorem dX12_pending_171 : decode cX12_pending 171 = .ok (.iload_n 3, 1) := by decide +kernel
theorem dX12_pending_172 : decode cX12_pending 172 = .ok (.baload, 1) := by decide +kernel
theorem dX12_pending_173 : decode cX12_pending 173 = .ok (.ifCond .eq 7, 3) := by decide +kernel
theorem dX12_pending_176 : decode cX12_pending 176 = .ok (.iconst 1, 1) := by decide +kernel
theorem dX12_pending_177 : decode cX12_pending 177 = .ok (.goto 4, 3) := by decide +kernel
theorem dX12_pending_180 : decode cX12_pending 180 = .ok (.iconst 0, 1) := by decide +kernel
theorem dX12_pending_181 : decode cX12_pending 181 = .ok (.ireturn, 1) := by decide +kernel
theorem dX12_pending_182 : decode cX12_pending 182 = .ok (.aload_n 0, 1) := by decide +kernel
theorem dX12_pending_183 : decode cX12_pending 183 = .ok (.getfield 16, 3) := by decide +kernel
theorem dX12_pending_186 : decode cX12_pending 186 = .ok (.iload_n 3, 1) := by decide +kernel
theorem dX12_pending_187 : decode cX12_pending 187 = .ok (.invokevirtual 89, 3) := by decide +kernel
theorem dX12_pending_190 : decode cX12_pending 190 = .ok (.ireturn, 1) := by decide +kernel
theorem dX12_pending_191 : decode cX12_pending 191 = .ok (.iconst (-1), 1) := by decide +kernel
theorem dX12_pending_192 : decode cX12_pending 192 = .ok (.ireturn, 1) := by decide +kernel
theorem dX12_quorum_0 : decode cX12_quorum 0 = .ok (.aload_n 0, 1) := by decide +kernel
theorem dX12_quorum_1 : decode cX12_quorum 1 = .ok (.getfield 16, 3) := by decide +kernel
theorem dX12_quorum_4 : decode cX12_quorum 4 = .ok (.iconst 3, 1) := by decide +kernel
theorem dX12_quorum_5 : decode cX12_quorum 5 = .ok (.iload_n 1, 1) := by decide +kernel
theorem dX12_quorum_6 : decode cX12_quorum 6 = .ok (.iconst 0, 1) := by decide +kernel
theorem dX12_quorum_7 : decode cX12_quorum 7 = .ok (.iconst 0, 1) := by decide +kernel
theorem dX12_quorum_8 : decode cX12_quorum 8 = .ok (.iconst 0, 1) := by decide +kernel
theorem dX12_quorum_9 : decode cX12_quorum 9 = .ok (.invokevirtual 40, 3) := by decide +kernel
theorem dX12_quorum_12 : decode cX12_quorum 12 = .ok (.ireturn, 1) := by decide +kernel
theorem dX12_result_0 : decode cX12_result 0 = .ok (.iload_n 1, 1) := by decide +kernel
theorem dX12_result_1 : decode cX12_result 1 = .ok (.iconst 0, 1) := by decide +kernel
theorem dX12_result_2 : decode cX12_result 2 = .ok (.aload_n 0, 1) := by decide +kernel
theorem dX12_result_3 : decode cX12_result 3 = .ok (.getfield 16, 3) := by decide +kernel
theorem dX12_result_6 : decode cX12_result 6 = .ok (.getfield 124, 3) := by decide +kernel
theorem dX12_result_9 : decode cX12_result 9 = .ok (.iconst 1, 1) := by decide +kernel
theorem dX12_result_10 : decode cX12_result 10 = .ok (.isub, 1) := by decide +kernel
theorem dX12_result_11 : decode cX12_result 11 = .ok (.invokestatic 1, 3) := by decide +kernel
theorem dX12_result_14 : decode cX12_result 14 = .ok (.ifCond .eq 28, 3) := by decide +kernel
theorem dX12_result_17 : decode cX12_result 17 = .ok (.iload_n 2, 1) := by decide +kernel
theorem dX12_result_18 : decode cX12_result 18 = .ok (.iconst 0, 1) := by decide +kernel
theorem dX12_result_19 : decode cX12_result 19 = .ok (.iconst 4, 1) := by decide +kernel
theorem dX12_result_20 : decode cX12_result 20 = .ok (.invokestatic 1, 3) := by decide +kernel
theorem dX12_result_23 : decode cX12_result 23 = .ok (.ifCond .eq 19, 3) := by decide +kernel
theorem dX12_result_26 : decode cX12_result 26 = .ok (.aload_n 0, 1) := by decide +kernel
theorem dX12_result_27 : decode cX12_result 27 = .ok (.getfield 16, 3) := by decide +kernel
theorem dX12_result_30 : decode cX12_result 30 = .ok (.getfield 127, 3) := by decide +kernel
theorem dX12_result_33 : decode cX12_result 33 = .ok (.iconst 5, 1) := by decide +kernel
theorem dX12_result_34 : decode cX12_result 34 = .ok (.iload_n 1, 1) := by decide +kernel
theorem dX12_result_35 : decode cX12_result 35 = .ok (.imul, 1) := by decide +kernel
theorem dX12_result_36 : decode cX12_result 36 = .ok (.iload_n 2, 1) := by decide +kernel
theorem dX12_result_37 : decode cX12_result 37 = .ok (.iadd, 1) := by decide +kernel
theorem dX12_result_38 : decode cX12_result 38 = .ok (.iaload, 1) := by decide +kernel
theorem dX12_result_39 : decode cX12_result 39 = .ok (.goto 4, 3) := by decide +kernel
theorem dX12_result_42 : decode cX12_result 42 = .ok (.iconst (-1), 1) := by decide +kernel
theorem dX12_result_43 : decode cX12_result 43 = .ok (.ireturn, 1) := by decide +kernel
theorem dX12_rule_0 : decode cX12_rule 0 = .ok (.aload_n 0, 1) := by decide +kernel
theorem dX12_rule_1 : decode cX12_rule 1 = .ok (.getfield 16, 3) := by decide +kernel
theorem dX12_rule_4 : decode cX12_rule 4 = .ok (.bipush 19, 2) := by decide +kernel
theorem dX12_rule_6 : decode cX12_rule 6 = .ok (.iconst 0, 1) := by decide +kernel
theorem dX12_rule_7 : decode cX12_rule 7 = .ok (.iconst 0, 1) := by decide +kernel
theorem dX12_rule_8 : decode cX12_rule 8 = .ok (.iconst 0, 1) := by decide +kernel
theorem dX12_rule_9 : decode cX12_rule 9 = .ok (.iconst 0, 1) := by decide +kernel
theorem dX12_rule_10 : decode cX12_rule 10 = .ok (.invokevirtual 40, 3) := by decide +kernel
theorem dX12_rule_13 : decode cX12_rule 13 = .ok (.ireturn, 1) := by decide +kernel
theorem dX12_seat_0 : decode cX12_seat 0 = .ok (.iload_n 1, 1) := by decide +kernel
theorem dX12_seat_1 : decode cX12_seat 1 = .ok (.iconst 0, 1) := by decide +kernel
theorem dX12_seat_2 : decode cX12_seat 2 = .ok (.aload_n 0, 1) := by decide +kernel
theorem dX12_seat_3 : decode cX12_seat 3 = .ok (.getfield 16, 3) := by decide +kernel
theorem dX12_seat_6 : decode cX12_seat 6 = .ok (.getfield 96, 3) := by decide +kernel
theorem dX12_seat_9 : decode cX12_seat 9 = .ok (.iconst 1, 1) := by decide +kernel
theorem dX12_seat_10 : decode cX12_seat 10 = .ok (.isub, 1) := by decide +kernel
theorem dX12_seat_11 : decode cX12_seat 11 = .ok (.invokestatic 1, 3) := by decide +kernel
theorem dX12_seat_14 : decode cX12_seat 14 = .ok (.ifCond .ne 7, 3) := by decide +kernel
theorem dX12_seat_17 : decode cX12_seat 17 = .ok (.iconst (-1), 1) := by decide +kernel
theorem dX12_seat_18 : decode cX12_seat 18 = .ok (.goto 20, 3) := by decide +kernel
theorem dX12_seat_21 : decode cX12_seat 21 = .ok (.aload_n 0, 1) := by decide +kernel
theorem dX12_seat_22 : decode cX12_seat 22 = .ok (.getfield 16, 3) := by decide +kernel
theorem dX12_seat_25 : decode cX12_seat 25 = .ok (.getfield 164, 3) := by decide +kernel
theorem dX12_seat_28 : decode cX12_seat 28 = .ok (.iload_n 1, 1) := by decide +kernel
theorem dX12_seat_29 : decode cX12_seat 29 = .ok (.baload, 1) := by decide +kernel
theorem dX12_seat_30 : decode cX12_seat 30 = .ok (.ifCond .eq 7, 3) := by decide +kernel
theorem dX12_seat_33 : decode cX12_seat 33 = .ok (.iconst 1, 1) := by decide +kernel
theorem dX12_seat_34 : decode cX12_seat 34 = .ok (.goto 4, 3) := by decide +kernel
theorem dX12_seat_37 : decode cX12_seat 37 = .ok (.iconst 0, 1) := by decide +kernel
theorem dX12_seat_38 : decode cX12_seat 38 = .ok (.ireturn, 1) := by decide +kernel
theorem dX12_seats_0 : decode cX12_seats 0 = .ok (.iload_n 1, 1) := by decide +kernel
theorem dX12_seats_1 : decode cX12_seats 1 = .ok (.iconst 1, 1) := by decide +kernel
theorem dX12_seats_2 : decode cX12_seats 2 = .ok (.sipush 200, 3) := by decide +kernel
theorem dX12_seats_5 : decode cX12_seats 5 = .ok (.invokestatic 1, 3) := by decide +kernel
theorem dX12_seats_8 : decode cX12_seats 8 = .ok (.ifCond .ne 6, 3) := by decide +kernel
theorem dX12_seats_11 : decode cX12_seats 11 = .ok (.bipush (-9), 2) := by decide +kernel
theorem dX12_seats_13 : decode cX12_seats 13 = .ok (.ireturn, 1) := by decide +kernel
theorem dX12_seats_14 : decode cX12_seats 14 = .ok (.aload_n 0, 1) := by decide +kernel
theorem dX12_seats_15 : decode cX12_seats 15 = .ok (.getfield 16, 3) := by decide +kernel
theorem dX12_seats_18 : decode cX12_seats 18 = .ok (.iload_n 1, 1) := by decide +kernel
theorem dX12_seats_19 : decode cX12_seats 19 = .ok (.invokevirtual 36, 3) := by decide +kernel
theorem dX12_seats_22 : decode cX12_seats 22 = .ok (.iload_n 1, 1) := by decide +kernel
theorem dX12_seats_23 : decode cX12_seats 23 = .ok (.ireturn, 1) := by decide +kernel
theorem dX12_second_0 : decode cX12_second 0 = .ok (.aload_n 0, 1) := by decide +kernel
theorem dX12_second_1 : decode cX12_second 1 = .ok (.getfield 16, 3) := by decide +kernel
theorem dX12_second_4 : decode cX12_second 4 = .ok (.bipush 16, 2) := by decide +kernel
theorem dX12_second_6 : decode cX12_second 6 = .ok (.iload_n 1, 1) := by decide +kernel
theorem dX12_second_7 : decode cX12_second 7 = .ok (.iconst 0, 1) := by decide +kernel
theorem dX12_second_8 : decode cX12_second 8 = .ok (.iconst 0, 1) := by decide +kernel
theorem dX12_second_9 : decode cX12_second 9 = .ok (.iconst 0, 1) := by decide +kernel
theorem dX12_second_10 : decode cX12_second 10 = .ok (.invokevirtual 40, 3) := by decide +kernel
theorem dX12_second_13 : decode cX12_second 13 = .ok (.ireturn, 1) := by decide +kernel
theorem dX12_span_0 : decode cX12_span 0 = .ok (.aload_n 0, 1) := by decide +kernel
theorem dX12_span_1 : decode cX12_span 1 = .ok (.getfield 16, 3) := by decide +kernel
theorem dX12_span_4 : decode cX12_span 4 = .ok (.bipush 11, 2) := by decide +kernel
theorem dX12_span_6 : decode cX12_span 6 = .ok (.iload_n 1, 1) := by decide +kernel
theorem dX12_span_7 : decode cX12_span 7 = .ok (.iload_n 2, 1) := by decide +kernel
theorem dX12_span_8 : decode cX12_span 8 = .ok (.iconst 0, 1) := by decide +kernel
theorem dX12_span_9 : decode cX12_span 9 = .ok (.iconst 0, 1) := by decide +kernel
theorem dX12_span_10 : decode cX12_span 10 = .ok (.invokevirtual 40, 3) := by decide +kernel
theorem dX12_span_13 : decode cX12_span 13 = .ok (.ireturn, 1) := by decide +kernel
theorem dX12_strike_0 : decode cX12_strike 0 = .ok (.aload_n 0, 1) := by decide +kernel
theorem dX12_strike_1 : decode cX12_strike 1 = .ok (.getfield 161, 3) := by decide +kernel
theorem dX12_strike_4 : decode cX12_strike 4 = .ok (.istore_n 1, 1) := by decide +kernel
theorem dX12_strike_5 : decode cX12_strike 5 = .ok (.aload_n 0, 1) := by decide +kernel
theorem dX12_strike_6 : decode cX12_strike 6 = .ok (.iconst 0, 1) := by decide +kernel
theorem dX12_strike_7 : decode cX12_strike 7 = .ok (.putfield 161, 3) := by decide +kernel
theorem dX12_strike_10 : decode cX12_strike 10 = .ok (.iload_n 1, 1) := by decide +kernel
theorem dX12_strike_11 : decode cX12_strike 11 = .ok (.ireturn, 1) := by decide +kernel
theorem dX12_take_0 : decode cX12_take 0 = .ok (.aload_n 0, 1) := by decide +kernel
theorem dX12_take_1 : decode cX12_take 1 = .ok (.getfield 16, 3) := by decide +kernel
theorem dX12_take_4 : decode cX12_take 4 = .ok (.bipush 14, 2) := by decide +kernel
theorem dX12_take_6 : decode cX12_take 6 = .ok (.iload_n 1, 1) := by decide +kernel
theorem dX12_take_7 : decode cX12_take 7 = .ok (.iconst 0, 1) := by decide +kernel
theorem dX12_take_8 : decode cX12_take 8 = .ok (.iconst 0, 1) := by decide +kernel
theorem dX12_take_9 : decode cX12_take 9 = .ok (.iconst 0, 1) := by decide +kernel
theorem dX12_take_10 : decode cX12_take 10 = .ok (.invokevirtual 40, 3) := by decide +kernel
theorem dX12_take_13 : decode cX12_take 13 = .ok (.ireturn, 1) := by decide +kernel
theorem dX12_tell_0 : decode cX12_tell 0 = .ok (.aload_n 0, 1) := by decide +kernel
theorem dX12_tell_1 : decode cX12_tell 1 = .ok (.getfield 161, 3) := by decide +kernel
theorem dX12_tell_4 : decode cX12_tell 4 = .ok (.sipush 600, 3) := by decide +kernel
theorem dX12_tell_7 : decode cX12_tell 7 = .ok (.if_icmp .ne 6, 3) := by decide +kernel
theorem dX12_tell_10 : decode cX12_tell 10 = .ok (.bipush (-10), 2) := by decide +kernel
theorem dX12_tell_12 : decode cX12_tell 12 = .ok (.ireturn, 1) := by decide +kernel
theorem dX12_tell_13 : decode cX12_tell 13 = .ok (.bipush 6, 2) := by decide +kernel
theorem dX12_tell_15 : decode cX12_tell 15 = .ok (.aload_n 0, 1) := by decide +kernel
theorem dX12_tell_16 : decode cX12_tell 16 = .ok (.getfield 161, 3) := by decide +kernel
theorem dX12_tell_19 : decode cX12_tell 19 = .ok (.imul, 1) := by decide +kernel
theorem dX12_tell_20 : decode cX12_tell 20 = .ok (.istore 7, 2) := by decide +kernel
theorem dX12_tell_22 : decode cX12_tell 22 = .ok (.aload_n 0, 1) := by decide +kernel
theorem dX12_tell_23 : decode cX12_tell 23 = .ok (.getfield 33, 3) := by decide +kernel
theorem dX12_tell_26 : decode cX12_tell 26 = .ok (.iload 7, 2) := by decide +kernel
theorem dX12_tell_28 : decode cX12_tell 28 = .ok (.iload_n 1, 1) := by decide +kernel
theorem dX12_tell_29 : decode cX12_tell 29 = .ok (.iastore, 1) := by decide +kernel
theorem dX12_tell_30 : decode cX12_tell 30 = .ok (.aload_n 0, 1) := by decide +kernel
theorem dX12_tell_31 : decode cX12_tell 31 = .ok (.getfield 33, 3) := by decide +kernel
theorem dX12_tell_34 : decode cX12_tell 34 = .ok (.iload 7, 2) := by decide +kernel
theorem dX12_tell_36 : decode cX12_tell 36 = .ok (.iconst 1, 1) := by decide +kernel
theorem dX12_tell_37 : decode cX12_tell 37 = .ok (.iadd, 1) := by decide +kernel
theorem dX12_tell_38 : decode cX12_tell 38 = .ok (.iload_n 2, 1) := by decide +kernel
theorem dX12_tell_39 : decode cX12_tell 39 = .ok (.iastore, 1) := by decide +kernel
theorem dX12_tell_40 : decode cX12_tell 40 = .ok (.aload_n 0, 1) := by decide +kernel
theorem dX12_tell_41 : decode cX12_tell 41 = .ok (.getfield 33, 3) := by decide +kernel
theorem dX12_tell_44 : decode cX12_tell 44 = .ok (.iload 7, 2) := by decide +kernel
theorem dX12_tell_46 : decode cX12_tell 46 = .ok (.iconst 2, 1) := by decide +kernel
theorem dX12_tell_47 : decode cX12_tell 47 = .ok (.iadd, 1) := by decide +kernel
theorem dX12_tell_48 : decode cX12_tell 48 = .ok (.iload_n 3, 1) := by decide +kernel
theorem dX12_tell_49 : decode cX12_tell 49 = .ok (.iastore, 1) := by decide +kernel
theorem dX12_tell_50 : decode cX12_tell 50 = .ok (.aload_n 0, 1) := by decide +kernel
theorem dX12_tell_51 : decode cX12_tell 51 = .ok (.getfield 33, 3) := by decide +kernel
theorem dX12_tell_54 : decode cX12_tell 54 = .ok (.iload 7, 2) := by decide +kernel
theorem dX12_tell_56 : decode cX12_tell 56 = .ok (.iconst 3, 1) := by decide +kernel
theorem dX12_tell_57 : decode cX12_tell 57 = .ok (.iadd, 1) := by decide +kernel
theorem dX12_tell_58 : decode cX12_tell 58 = .ok (.iload 4, 2) := by decide +kernel
theorem dX12_tell_60 : decode cX12_tell 60 = .ok (.iastore, 1) := by decide +kernel
theorem dX12_tell_61 : decode cX12_tell 61 = .ok (.aload_n 0, 1) := by decide +kernel
theorem dX12_tell_62 : decode cX12_tell 62 = .ok (.getfield 33, 3) := by decide +kernel
theorem dX12_tell_65 : decode cX12_tell 65 = .ok (.iload 7, 2) := by decide +kernel
theorem dX12_tell_67 : decode cX12_tell 67 = .ok (.iconst 4, 1) := by decide +kernel
theorem dX12_tell_68 : decode cX12_tell 68 = .ok (.iadd, 1) := by decide +kernel
theorem dX12_tell_69 : decode cX12_tell 69 = .ok (.iload 5, 2) := by decide +kernel
theorem dX12_tell_71 : decode cX12_tell 71 = .ok (.iastore, 1) := by decide +kernel
theorem dX12_tell_72 : decode cX12_tell 72 = .ok (.aload_n 0, 1) := by decide +kernel
theorem dX12_tell_73 : decode cX12_tell 73 = .ok (.getfield 33, 3) := by decide +kernel
theorem dX12_tell_76 : decode cX12_tell 76 = .ok (.iload 7, 2) := by decide +kernel
theorem dX12_tell_78 : decode cX12_tell 78 = .ok (.iconst 5, 1) := by decide +kernel
theorem dX12_tell_79 : decode cX12_tell 79 = .ok (.iadd, 1) := by decide +kernel
theorem dX12_tell_80 : decode cX12_tell 80 = .ok (.iload 6, 2) := by decide +kernel
theorem dX12_tell_82 : decode cX12_tell 82 = .ok (.iastore, 1) := by decide +kernel
theorem dX12_tell_83 : decode cX12_tell 83 = .ok (.aload_n 0, 1) := by decide +kernel
theorem dX12_tell_84 : decode cX12_tell 84 = .ok (.dup, 1) := by decide +kernel
theorem dX12_tell_85 : decode cX12_tell 85 = .ok (.getfield 161, 3) := by decide +kernel
theorem dX12_tell_88 : decode cX12_tell 88 = .ok (.iconst 1, 1) := by decide +kernel
theorem dX12_tell_89 : decode cX12_tell 89 = .ok (.iadd, 1) := by decide +kernel
theorem dX12_tell_90 : decode cX12_tell 90 = .ok (.putfield 161, 3) := by decide +kernel
theorem dX12_tell_93 : decode cX12_tell 93 = .ok (.aload_n 0, 1) := by decide +kernel
theorem dX12_tell_94 : decode cX12_tell 94 = .ok (.getfield 161, 3) := by decide +kernel
theorem dX12_tell_97 : decode cX12_tell 97 = .ok (.ireturn, 1) := by decide +kernel
theorem dX12_text_0 : decode cX12_text 0 = .ok (.aload_n 0, 1) := by decide +kernel
theorem dX12_text_1 : decode cX12_text 1 = .ok (.getfield 16, 3) := by decide +kernel
theorem dX12_text_4 : decode cX12_text 4 = .ok (.iload_n 1, 1) := by decide +kernel
theorem dX12_text_5 : decode cX12_text 5 = .ok (.iload_n 2, 1) := by decide +kernel
theorem dX12_text_6 : decode cX12_text 6 = .ok (.invokevirtual 92, 3) := by decide +kernel
theorem dX12_text_9 : decode cX12_text 9 = .ok (.ireturn, 1) := by decide +kernel
theorem dX12_there_0 : decode cX12_there 0 = .ok (.aload_n 0, 1) := by decide +kernel
theorem dX12_there_1 : decode cX12_there 1 = .ok (.getfield 16, 3) := by decide +kernel
theorem dX12_there_4 : decode cX12_there 4 = .ok (.iconst 1, 1) := by decide +kernel
theorem dX12_there_5 : decode cX12_there 5 = .ok (.iload_n 1, 1) := by decide +kernel
theorem dX12_there_6 : decode cX12_there 6 = .ok (.iconst 0, 1) := by decide +kernel
theorem dX12_there_7 : decode cX12_there 7 = .ok (.iconst 0, 1) := by decide +kernel
theorem dX12_there_8 : decode cX12_there 8 = .ok (.iconst 0, 1) := by decide +kernel
theorem dX12_there_9 : decode cX12_there 9 = .ok (.invokevirtual 40, 3) := by decide +kernel
theorem dX12_there_12 : decode cX12_there 12 = .ok (.ireturn, 1) := by decide +kernel
theorem dX12_told_0 : decode cX12_told 0 = .ok (.aload_n 0, 1) := by decide +kernel
theorem dX12_told_1 : decode cX12_told 1 = .ok (.getfield 16, 3) := by decide +kernel
theorem dX12_told_4 : decode cX12_told 4 = .ok (.bipush 21, 2) := by decide +kernel
theorem dX12_told_6 : decode cX12_told 6 = .ok (.iconst 0, 1) := by decide +kernel
theorem dX12_told_7 : decode cX12_told 7 = .ok (.iconst 0, 1) := by decide +kernel
theorem dX12_told_8 : decode cX12_told 8 = .ok (.iconst 0, 1) := by decide +kernel
theorem dX12_told_9 : decode cX12_told 9 = .ok (.iconst 0, 1) := by decide +kernel
theorem dX12_told_10 : decode cX12_told 10 = .ok (.invokevirtual 40, 3) := by decide +kernel
theorem dX12_told_13 : decode cX12_told 13 = .ok (.ireturn, 1) := by decide +kernel
theorem dX12_vote_0 : decode cX12_vote 0 = .ok (.aload_n 0, 1) := by decide +kernel
theorem dX12_vote_1 : decode cX12_vote 1 = .ok (.getfield 16, 3) := by decide +kernel
theorem dX12_vote_4 : decode cX12_vote 4 = .ok (.bipush 17, 2) := by decide +kernel
theorem dX12_vote_6 : decode cX12_vote 6 = .ok (.iload_n 1, 1) := by decide +kernel
theorem dX12_vote_7 : decode cX12_vote 7 = .ok (.iload_n 2, 1) := by decide +kernel
theorem dX12_vote_8 : decode cX12_vote 8 = .ok (.iconst 0, 1) := by decide +kernel
theorem dX12_vote_9 : decode cX12_vote 9 = .ok (.iconst 0, 1) := by decide +kernel
theorem dX12_vote_10 : decode cX12_vote 10 = .ok (.invokevirtual 40, 3) := by decide +kernel
theorem dX12_vote_13 : decode cX12_vote 13 = .ok (.ireturn, 1) := by decide +kernel
theorem dX12_why_0 : decode cX12_why 0 = .ok (.aload_n 0, 1) := by decide +kernel
theorem dX12_why_1 : decode cX12_why 1 = .ok (.getfield 16, 3) := by decide +kernel
theorem dX12_why_4 : decode cX12_why 4 = .ok (.getfield 52, 3) := by decide +kernel
theorem dX12_why_7 : decode cX12_why 7 = .ok (.ireturn, 1) := by decide +kernel
theorem dX12_withdraw_0 : decode cX12_withdraw 0 = .ok (.aload_n 0, 1) := by decide +kernel
theorem dX12_withdraw_1 : decode cX12_withdraw 1 = .ok (.getfield 16, 3) := by decide +kernel
theorem dX12_withdraw_4 : decode cX12_withdraw 4 = .ok (.bipush 18, 2) := by decide +kernel
theorem dX12_withdraw_6 : decode cX12_withdraw 6 = .ok (.iload_n 1, 1) := by decide +kernel
theorem dX12_withdraw_7 : decode cX12_withdraw 7 = .ok (.iconst 0, 1) := by decide +kernel
theorem dX12_withdraw_8 : decode cX12_withdraw 8 = .ok (.iconst 0, 1) := by decide +kernel
theorem dX12_withdraw_9 : decode cX12_withdraw 9 = .ok (.iconst 0, 1) := by decide +kernel
theorem dX12_withdraw_10 : decode cX12_withdraw 10 = .ok (.invokevirtual 40, 3) := by decide +kernel
theorem dX12_withdraw_13 : decode cX12_withdraw 13 = .ok (.ireturn, 1) := by decide +kernel
theorem dX12_word_0 : decode cX12_word 0 = .ok (.aload_n 0, 1) := by decide +kernel
theorem dX12_word_1 : decode cX12_word 1 = .ok (.getfield 16, 3) := by decide +kernel
theorem dX12_word_4 : decode cX12_word 4 = .ok (.bipush 12, 2) := by decide +kernel
theorem dX12_word_6 : decode cX12_word 6 = .ok (.iload_n 1, 1) := by decide +kernel
theorem dX12_word_7 : decode cX12_word 7 = .ok (.iload_n 2, 1) := by decide +kernel
theorem dX12_word_8 : decode cX12_word 8 = .ok (.iload_n 3, 1) := by decide +kernel
theorem dX12_word_9 : decode cX12_word 9 = .ok (.iload 4, 2) := by decide +kernel
theorem dX12_word_11 : decode cX12_word 11 = .ok (.invokevirtual 40, 3) := by decide +kernel
theorem dX12_word_14 : decode cX12_word 14 = .ok (.ireturn, 1) := by decide +kernel
