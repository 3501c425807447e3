theorem dX7_announce_135 : decode cX7_announce 135 = .ok (.aload_n 0, 1) := by decide +kernel
theorem dX7_announce_136 : decode cX7_announce 136 = .ok (.invokestatic 48, 3) := by decide +kernel
theorem dX7_announce_139 : decode cX7_announce 139 = .ok (.goto 42, 3) := by decide +kernel
theorem dX7_announce_142 : decode cX7_announce 142 = .ok (.iload 6, 2) := by decide +kernel
theorem dX7_announce_144 : decode cX7_announce 144 = .ok (.ifCond .eq 19, 3) := by decide +kernel
theorem dX7_announce_147 : decode cX7_announce 147 = .ok (.aload_n 1, 1) := by decide +kernel
theorem dX7_announce_148 : decode cX7_announce 148 = .ok (.getfield 37, 3) := by decide +kernel
theorem dX7_announce_151 : decode cX7_announce 151 = .ok (.bipush 7, 2) := by decide +kernel
theorem dX7_announce_153 : decode cX7_announce 153 = .ok (.if_icmp .ne 10, 3) := by decide +kernel
theorem dX7_announce_156 : decode cX7_announce 156 = .ok (.aload_n 0, 1) := by decide +kernel
theorem dX7_announce_157 : decode cX7_announce 157 = .ok (.invokestatic 51, 3) := by decide +kernel
theorem dX7_announce_160 : decode cX7_announce 160 = .ok (.goto 21, 3) := by decide +kernel
theorem dX7_announce_163 : decode cX7_announce 163 = .ok (.iload 6, 2) := by decide +kernel
theorem dX7_announce_165 : decode cX7_announce 165 = .ok (.ifCond .eq 8, 3) := by decide +kernel
theorem dX7_announce_168 : decode cX7_announce 168 = .ok (.aload_n 0, 1) := by decide +kernel
theorem dX7_announce_169 : decode cX7_announce 169 = .ok (.aload_n 1, 1) := by decide +kernel
theorem dX7_announce_170 : decode cX7_announce 170 = .ok (.invokestatic 54, 3) := by decide +kernel
theorem dX7_announce_173 : decode cX7_announce 173 = .ok (.aload_n 0, 1) := by decide +kernel
theorem dX7_announce_174 : decode cX7_announce 174 = .ok (.aload_n 0, 1) := by decide +kernel
theorem dX7_announce_175 : decode cX7_announce 175 = .ok (.getfield 58, 3) := by decide +kernel
theorem dX7_announce_178 : decode cX7_announce 178 = .ok (.invokevirtual 62, 3) := by decide +kernel
theorem dX7_announce_181 : decode cX7_announce 181 = .ok (.iload 5, 2) := by decide +kernel
theorem dX7_announce_183 : decode cX7_announce 183 = .ok (.iconst 4, 1) := by decide +kernel
theorem dX7_announce_184 : decode cX7_announce 184 = .ok (.if_icmp .ne 11, 3) := by decide +kernel
theorem dX7_announce_187 : decode cX7_announce 187 = .ok (.aload_n 0, 1) := by decide +kernel
theorem dX7_announce_188 : decode cX7_announce 188 = .ok (.aload_n 0, 1) := by decide +kernel
theorem dX7_announce_189 : decode cX7_announce 189 = .ok (.getfield 58, 3) := by decide +kernel
theorem dX7_announce_192 : decode cX7_announce 192 = .ok (.invokevirtual 62, 3) := by decide +kernel
theorem dX7_announce_195 : decode cX7_announce 195 = .ok (.aload_n 0, 1) := by decide +kernel
theorem dX7_announce_196 : decode cX7_announce 196 = .ok (.getfield 9, 3) := by decide +kernel
theorem dX7_announce_199 : decode cX7_announce 199 = .ok (.iconst (-1), 1) := by decide +kernel
theorem dX7_announce_200 : decode cX7_announce 200 = .ok (.putfield 66, 3) := by decide +kernel
theorem dX7_announce_203 : decode cX7_announce 203 = .ok (.iload 5, 2) := by decide +kernel
theorem dX7_announce_205 : decode cX7_announce 205 = .ok (.ireturn, 1) := by decide +kernel
set_option maxRecDepth 20000 in
theorem ggX7_outcomeOf_X2_isMajority : GoodIn wsX7_outcomeOf wsX2_isMajority := goodIn_r _ [7, 8, 9, 26, 27, 28, 29, 30, 31, 32, 33] (by decide +kernel) (by decide +kernel)
set_option maxRecDepth 20000 in
theorem gX7_outcomeOf_X2_isMajority : GoodIn wsX7_outcomeOf (wsV RX7 69 RX2 yX2_isMajority wsX2_isMajority) := goodIn_app (goodIn_of _ (by decide +kernel)) ggX7_outcomeOf_X2_isMajority
theorem dX7_outcomeOf_0 : decode cX7_outcomeOf 0 = .ok (.aload_n 1, 1) := by decide +kernel
theorem dX7_outcomeOf_1 : decode cX7_outcomeOf 1 = .ok (.getfield 37, 3) := by decide +kernel
theorem dX7_outcomeOf_4 : decode cX7_outcomeOf 4 = .ok (.bipush 9, 2) := by decide +kernel
theorem dX7_outcomeOf_6 : decode cX7_outcomeOf 6 = .ok (.if_icmp .ne 14, 3) := by decide +kernel
theorem dX7_outcomeOf_9 : decode cX7_outcomeOf 9 = .ok (.iload_n 3, 1) := by decide +kernel
theorem dX7_outcomeOf_10 : decode cX7_outcomeOf 10 = .ok (.iload_n 2, 1) := by decide +kernel
theorem dX7_outcomeOf_11 : decode cX7_outcomeOf 11 = .ok (.if_icmp .le 7, 3) := by decide +kernel
theorem dX7_outcomeOf_14 : decode cX7_outcomeOf 14 = .ok (.iconst 5, 1) := by decide +kernel
theorem dX7_outcomeOf_15 : decode cX7_outcomeOf 15 = .ok (.goto 4, 3) := by decide +kernel
theorem dX7_outcomeOf_18 : decode cX7_outcomeOf 18 = .ok (.iconst 4, 1) := by decide +kernel
theorem dX7_outcomeOf_19 : decode cX7_outcomeOf 19 = .ok (.ireturn, 1) := by decide +kernel
theorem dX7_outcomeOf_20 : decode cX7_outcomeOf 20 = .ok (.aload_n 1, 1) := by decide +kernel
theorem dX7_outcomeOf_21 : decode cX7_outcomeOf 21 = .ok (.getfield 21, 3) := by decide +kernel
theorem dX7_outcomeOf_24 : decode cX7_outcomeOf 24 = .ok (.iconst (-1), 1) := by decide +kernel
theorem dX7_outcomeOf_25 : decode cX7_outcomeOf 25 = .ok (.if_icmp .ne 5, 3) := by decide +kernel
theorem dX7_outcomeOf_28 : decode cX7_outcomeOf 28 = .ok (.iconst 3, 1) := by decide +kernel
theorem dX7_outcomeOf_29 : decode cX7_outcomeOf 29 = .ok (.ireturn, 1) := by decide +kernel
theorem dX7_outcomeOf_30 : decode cX7_outcomeOf 30 = .ok (.aload_n 0, 1) := by decide +kernel
theorem dX7_outcomeOf_31 : decode cX7_outcomeOf 31 = .ok (.aload_n 1, 1) := by decide +kernel
theorem dX7_outcomeOf_32 : decode cX7_outcomeOf 32 = .ok (.getfield 37, 3) := by decide +kernel
theorem dX7_outcomeOf_35 : decode cX7_outcomeOf 35 = .ok (.iload_n 2, 1) := by decide +kernel
theorem dX7_outcomeOf_36 : decode cX7_outcomeOf 36 = .ok (.iload_n 3, 1) := by decide +kernel
theorem dX7_outcomeOf_37 : decode cX7_outcomeOf 37 = .ok (.invokevirtual 69, 3) := by decide +kernel
theorem dX7_outcomeOf_40 : decode cX7_outcomeOf 40 = .ok (.ifCond .eq 7, 3) := by decide +kernel
theorem dX7_outcomeOf_43 : decode cX7_outcomeOf 43 = .ok (.iconst 1, 1) := by decide +kernel
theorem dX7_outcomeOf_44 : decode cX7_outcomeOf 44 = .ok (.goto 4, 3) := by decide +kernel
theorem dX7_outcomeOf_47 : decode cX7_outcomeOf 47 = .ok (.iconst 2, 1) := by decide +kernel
theorem dX7_outcomeOf_48 : decode cX7_outcomeOf 48 = .ok (.ireturn, 1) := by decide +kernel
set_option maxRecDepth 20000 in
theorem ggX7_keep_X3_open : GoodIn wsX7_keep wsX3_open := goodIn_r _ [8, 9, 10, 11, 12, 7, 13, 14, 15, 16, 17, 18, 19, 20, 21, 22, 23, 24, 25, 26, 27, 28, 29, 30, 31, 32, 33, 34, 35, 36, 37, 38, 39, 40, 41, 42, 43, 59, 60, 61, 62] (by decide +kernel) (by decide +kernel)
set_option maxRecDepth 20000 in
theorem gX7_keep_X3_open : GoodIn wsX7_keep (wsV RX7 77 RX3 yX3_open wsX3_open) := goodIn_app (goodIn_of _ (by decide +kernel)) ggX7_keep_X3_open
set_option maxRecDepth 20000 in
theorem ggX7_keep_X3_write : GoodIn wsX7_keep wsX3_write := goodIn_r _ [47, 9, 19, 20, 59, 60, 61, 62] (by decide +kernel) (by decide +kernel)
set_option maxRecDepth 20000 in
theorem gX7_keep_X3_write : GoodIn wsX7_keep (wsV RX7 88 RX3 yX3_write wsX3_write) := goodIn_app (goodIn_of _ (by decide +kernel)) ggX7_keep_X3_write
theorem dX7_keep_0 : decode cX7_keep 0 = .ok (.aload_n 0, 1) := by decide +kernel
theorem dX7_keep_1 : decode cX7_keep 1 = .ok (.getfield 73, 3) := by decide +kernel
theorem dX7_keep_4 : decode cX7_keep 4 = .ok (.invokevirtual 77, 3) := by decide +kernel
theorem dX7_keep_7 : decode cX7_keep 7 = .ok (.aload_n 0, 1) := by decide +kernel
theorem dX7_keep_8 : decode cX7_keep 8 = .ok (.getfield 73, 3) := by decide +kernel
theorem dX7_keep_11 : decode cX7_keep 11 = .ok (.iconst 0, 1) := by decide +kernel
theorem dX7_keep_12 : decode cX7_keep 12 = .ok (.aload_n 0, 1) := by decide +kernel
theorem dX7_keep_13 : decode cX7_keep 13 = .ok (.getfield 82, 3) := by decide +kernel
theorem dX7_keep_16 : decode cX7_keep 16 = .ok (.getfield 85, 3) := by decide +kernel
theorem dX7_keep_19 : decode cX7_keep 19 = .ok (.invokevirtual 88, 3) := by decide +kernel
theorem dX7_keep_22 : decode cX7_keep 22 = .ok (.aload_n 0, 1) := by decide +kernel
theorem dX7_keep_23 : decode cX7_keep 23 = .ok (.getfield 73, 3) := by decide +kernel
theorem dX7_keep_26 : decode cX7_keep 26 = .ok (.iconst 1, 1) := by decide +kernel
theorem dX7_keep_27 : decode cX7_keep 27 = .ok (.iload_n 1, 1) := by decide +kernel
theorem dX7_keep_28 : decode cX7_keep 28 = .ok (.invokevirtual 88, 3) := by decide +kernel
theorem dX7_keep_31 : decode cX7_keep 31 = .ok (.aload_n 0, 1) := by decide +kernel
theorem dX7_keep_32 : decode cX7_keep 32 = .ok (.getfield 73, 3) := by decide +kernel
theorem dX7_keep_35 : decode cX7_keep 35 = .ok (.iconst 2, 1) := by decide +kernel
theorem dX7_keep_36 : decode cX7_keep 36 = .ok (.iload_n 2, 1) := by decide +kernel
theorem dX7_keep_37 : decode cX7_keep 37 = .ok (.invokevirtual 88, 3) := by decide +kernel
theorem dX7_keep_40 : decode cX7_keep 40 = .ok (.aload_n 0, 1) := by decide +kernel
theorem dX7_keep_41 : decode cX7_keep 41 = .ok (.getfield 73, 3) := by decide +kernel
theorem dX7_keep_44 : decode cX7_keep 44 = .ok (.iconst 3, 1) := by decide +kernel
theorem dX7_keep_45 : decode cX7_keep 45 = .ok (.iload_n 3, 1) := by decide +kernel
theorem dX7_keep_46 : decode cX7_keep 46 = .ok (.invokevirtual 88, 3) := by decide +kernel
theorem dX7_keep_49 : decode cX7_keep 49 = .ok (.aload_n 0, 1) := by decide +kernel
theorem dX7_keep_50 : decode cX7_keep 50 = .ok (.getfield 73, 3) := by decide +kernel
theorem dX7_keep_53 : decode cX7_keep 53 = .ok (.iconst 4, 1) := by decide +kernel
theorem dX7_keep_54 : decode cX7_keep 54 = .ok (.iload 4, 2) := by decide +kernel
theorem dX7_keep_56 : decode cX7_keep 56 = .ok (.invokevirtual 88, 3) := by decide +kernel
theorem dX7_keep_59 : decode cX7_keep 59 = .ok (.return_, 1) := by decide +kernel
set_option maxRecDepth 20000 in
theorem ggX7_carryAlone_X5_at : GoodIn wsX7_carryAlone wsX5_at := goodIn_r _ [13, 14, 15, 94, 95] (by decide +kernel) (by decide +kernel)
set_option maxRecDepth 20000 in
theorem gX7_carryAlone_X5_at : GoodIn wsX7_carryAlone (wsV RX7 95 RX5 yX5_at wsX5_at) := goodIn_app (goodIn_of _ (by decide +kernel)) ggX7_carryAlone_X5_at
set_option maxRecDepth 20000 in
theorem ggX7_carryAlone_X9_become : GoodIn wsX7_carryAlone wsX9_become := goodIn_r _ [20, 21, 22, 23, 24, 25, 26, 27, 28, 29, 30, 31, 32, 33, 112, 113] (by decide +kernel) (by decide +kernel)
set_option maxRecDepth 20000 in
theorem gX7_carryAlone_X9_become : GoodIn wsX7_carryAlone (wsV RX7 106 RX9 yX9_become wsX9_become) := goodIn_app (goodIn_of _ (by decide +kernel)) ggX7_carryAlone_X9_become
set_option maxRecDepth 20000 in
theorem ggX7_carryAlone_X2_empty : GoodIn wsX7_carryAlone wsX2_empty := goodIn_r _ [38, 39, 40, 41, 114, 115, 116, 117, 118, 119, 120, 121] (by decide +kernel) (by decide +kernel)
set_option maxRecDepth 20000 in
theorem gX7_carryAlone_X2_empty : GoodIn wsX7_carryAlone (wsV RX7 115 RX2 yX2_empty wsX2_empty) := goodIn_app (goodIn_of _ (by decide +kernel)) ggX7_carryAlone_X2_empty
set_option maxRecDepth 20000 in
theorem ggX7_carryAlone_X4_amends : GoodIn wsX7_carryAlone wsX4_amends := goodIn_r _ [46, 47, 96, 97, 98, 99, 100, 101, 102, 103, 104, 105, 106, 107, 108, 109, 110, 111] (by decide +kernel) (by decide +kernel)
set_option maxRecDepth 20000 in
theorem gX7_carryAlone_X4_amends : GoodIn wsX7_carryAlone (wsV RX7 122 RX4 yX4_amends wsX4_amends) := goodIn_app (goodIn_of _ (by decide +kernel)) ggX7_carryAlone_X4_amends
set_option maxRecDepth 20000 in
theorem ggX7_carryAlone_X7_amend : GoodIn wsX7_carryAlone wsX7_amend := goodIn_r _ [51, 52, 53, 5, 54, 55, 56, 57, 58, 59, 60, 61, 62, 19, 63, 21, 22, 30, 31, 32, 33, 64, 65, 66, 67, 68, 69, 70, 71, 72, 73, 74, 75, 10, 11, 12, 13, 14, 15, 42, 43, 44, 45, 46, 47, 76, 77, 78, 79, 80, 81, 82, 96, 97, 98, 99, 100, 101, 102, 103, 104, 105, 106, 107, 108, 109, 110, 111, 112, 113, 83, 84, 85, 86, 87, 88, 89, 90, 91, 92, 93, 122, 123, 94, 95] (by decide +kernel) (by decide +kernel)
set_option maxRecDepth 20000 in
theorem gX7_carryAlone_X7_amend : GoodIn wsX7_carryAlone (va_wsS RX7 125 yX7_amend wsX7_amend) := goodIn_app (goodIn_of _ (by decide +kernel)) ggX7_carryAlone_X7_amend
theorem dX7_carryAlone_0 : decode cX7_carryAlone 0 = .ok (.aload_n 0, 1) := by decide +kernel
theorem dX7_carryAlone_1 : decode cX7_carryAlone 1 = .ok (.getfield 58, 3) := by decide +kernel
theorem dX7_carryAlone_4 : decode cX7_carryAlone 4 = .ok (.aload_n 0, 1) := by decide +kernel
theorem dX7_carryAlone_5 : decode cX7_carryAlone 5 = .ok (.getfield 58, 3) := by decide +kernel
theorem dX7_carryAlone_8 : decode cX7_carryAlone 8 = .ok (.getfield 92, 3) := by decide +kernel
theorem dX7_carryAlone_11 : decode cX7_carryAlone 11 = .ok (.iconst 2, 1) := by decide +kernel
theorem dX7_carryAlone_12 : decode cX7_carryAlone 12 = .ok (.isub, 1) := by decide +kernel
theorem dX7_carryAlone_13 : decode cX7_carryAlone 13 = .ok (.invokevirtual 95, 3) := by decide +kernel
theorem dX7_carryAlone_16 : decode cX7_carryAlone 16 = .ok (.astore_n 2, 1) := by decide +kernel
theorem dX7_carryAlone_17 : decode cX7_carryAlone 17 = .ok (.aload_n 1, 1) := by decide +kernel
theorem dX7_carryAlone_18 : decode cX7_carryAlone 18 = .ok (.getfield 37, 3) := by decide +kernel
theorem dX7_carryAlone_21 : decode cX7_carryAlone 21 = .ok (.iconst 1, 1) := by decide +kernel
theorem dX7_carryAlone_22 : decode cX7_carryAlone 22 = .ok (.if_icmp .ne 27, 3) := by decide +kernel
theorem dX7_carryAlone_25 : decode cX7_carryAlone 25 = .ok (.aload_n 0, 1) := by decide +kernel
theorem dX7_carryAlone_26 : decode cX7_carryAlone 26 = .ok (.getfield 99, 3) := by decide +kernel
theorem dX7_carryAlone_29 : decode cX7_carryAlone 29 = .ok (.aload_n 1, 1) := by decide +kernel
theorem dX7_carryAlone_30 : decode cX7_carryAlone 30 = .ok (.getfield 103, 3) := by decide +kernel
theorem dX7_carryAlone_33 : decode cX7_carryAlone 33 = .ok (.invokevirtual 106, 3) := by decide +kernel
theorem dX7_carryAlone_36 : decode cX7_carryAlone 36 = .ok (.aload_n 0, 1) := by decide +kernel
theorem dX7_carryAlone_37 : decode cX7_carryAlone 37 = .ok (.dup, 1) := by decide +kernel
theorem dX7_carryAlone_38 : decode cX7_carryAlone 38 = .ok (.getfield 112, 3) := by decide +kernel
theorem dX7_carryAlone_41 : decode cX7_carryAlone 41 = .ok (.iconst 1, 1) := by decide +kernel
theorem dX7_carryAlone_42 : decode cX7_carryAlone 42 = .ok (.iadd, 1) := by decide +kernel
theorem dX7_carryAlone_43 : decode cX7_carryAlone 43 = .ok (.putfield 112, 3) := by decide +kernel
theorem dX7_carryAlone_46 : decode cX7_carryAlone 46 = .ok (.goto 60, 3) := by decide +kernel
theorem dX7_carryAlone_49 : decode cX7_carryAlone 49 = .ok (.aload_n 1, 1) := by decide +kernel
theorem dX7_carryAlone_50 : decode cX7_carryAlone 50 = .ok (.getfield 37, 3) := by decide +kernel
theorem dX7_carryAlone_53 : decode cX7_carryAlone 53 = .ok (.bipush 8, 2) := by decide +kernel
theorem dX7_carryAlone_55 : decode cX7_carryAlone 55 = .ok (.if_icmp .ne 13, 3) := by decide +kernel
theorem dX7_carryAlone_58 : decode cX7_carryAlone 58 = .ok (.aload_n 0, 1) := by decide +kernel
theorem dX7_carryAlone_59 : decode cX7_carryAlone 59 = .ok (.getfield 9, 3) := by decide +kernel
theorem dX7_carryAlone_62 : decode cX7_carryAlone 62 = .ok (.invokevirtual 115, 3) := by decide +kernel
theorem dX7_carryAlone_65 : decode cX7_carryAlone 65 = .ok (.goto 41, 3) := by decide +kernel
theorem dX7_carryAlone_68 : decode cX7_carryAlone 68 = .ok (.aload_n 2, 1) := by decide +kernel
theorem dX7_carryAlone_69 : decode cX7_carryAlone 69 = .ok (.ifnull 20, 3) := by decide +kernel
theorem dX7_carryAlone_72 : decode cX7_carryAlone 72 = .ok (.aload_n 1, 1) := by decide +kernel
theorem dX7_carryAlone_73 : decode cX7_carryAlone 73 = .ok (.getfield 37, 3) := by decide +kernel
theorem dX7_carryAlone_76 : decode cX7_carryAlone 76 = .ok (.bipush 6, 2) := by decide +kernel
theorem dX7_carryAlone_78 : decode cX7_carryAlone 78 = .ok (.if_icmp .ne 11, 3) := by decide +kernel
theorem dX7_carryAlone_81 : decode cX7_carryAlone 81 = .ok (.aload_n 2, 1) := by decide +kernel
theorem dX7_carryAlone_82 : decode cX7_carryAlone 82 = .ok (.iconst 1, 1) := by decide +kernel
theorem dX7_carryAlone_83 : decode cX7_carryAlone 83 = .ok (.putfield 118, 3) := by decide +kernel
theorem dX7_carryAlone_86 : decode cX7_carryAlone 86 = .ok (.goto 20, 3) := by decide +kernel
theorem dX7_carryAlone_89 : decode cX7_carryAlone 89 = .ok (.aload_n 2, 1) := by decide +kernel
theorem dX7_carryAlone_90 : decode cX7_carryAlone 90 = .ok (.ifnull 16, 3) := by decide +kernel
theorem dX7_carryAlone_93 : decode cX7_carryAlone 93 = .ok (.aload_n 1, 1) := by decide +kernel
theorem dX7_carryAlone_94 : decode cX7_carryAlone 94 = .ok (.invokevirtual 122, 3) := by decide +kernel
theorem dX7_carryAlone_97 : decode cX7_carryAlone 97 = .ok (.ifCond .eq 9, 3) := by decide +kernel
theorem dX7_carryAlone_100 : decode cX7_carryAlone 100 = .ok (.aload_n 0, 1) := by decide +kernel
theorem dX7_carryAlone_101 : decode cX7_carryAlone 101 = .ok (.aload_n 2, 1) := by decide +kernel
theorem dX7_carryAlone_102 : decode cX7_carryAlone 102 = .ok (.aload_n 1, 1) := by decide +kernel
theorem dX7_carryAlone_103 : decode cX7_carryAlone 103 = .ok (.invokestatic 125, 3) := by decide +kernel
theorem dX7_carryAlone_106 : decode cX7_carryAlone 106 = .ok (.return_, 1) := by decide +kernel
set_option maxRecDepth 20000 in
theorem ggX7_amend_X9_replace : GoodIn wsX7_amend wsX9_replace := goodIn_r _ [14, 15, 16, 17, 18, 19, 20, 21, 22, 23, 13, 24, 68, 69] (by decide +kernel) (by decide +kernel)
set_option maxRecDepth 20000 in
theorem gX7_amend_X9_replace : GoodIn wsX7_amend (wsV RX7 136 RX9 yX9_replace wsX9_replace) := goodIn_app (goodIn_of _ (by decide +kernel)) ggX7_amend_X9_replace
set_option maxRecDepth 20000 in
theorem ggX7_amend_X6_motion : GoodIn wsX7_amend wsX6_motion := goodIn_r _ [29, 30, 31, 32, 33, 34, 35, 36, 37, 38, 81, 82, 83, 84] (by decide +kernel) (by decide +kernel)
set_option maxRecDepth 20000 in
theorem gX7_amend_X6_motion : GoodIn wsX7_amend (wsV RX7 144 RX6 yX6_motion wsX6_motion) := goodIn_app (goodIn_of _ (by decide +kernel)) ggX7_amend_X6_motion
set_option maxRecDepth 20000 in
theorem ggX7_amend_X4_amends : GoodIn wsX7_amend wsX4_amends := goodIn_r _ [43, 44, 52, 53, 54, 55, 56, 57, 58, 59, 60, 61, 62, 63, 64, 65, 66, 67] (by decide +kernel) (by decide +kernel)
set_option maxRecDepth 20000 in
theorem gX7_amend_X4_amends : GoodIn wsX7_amend (wsV RX7 122 RX4 yX4_amends wsX4_amends) := goodIn_app (goodIn_of _ (by decide +kernel)) ggX7_amend_X4_amends
set_option maxRecDepth 20000 in
theorem ggX7_amend_X4_follow : GoodIn wsX7_amend wsX4_follow := goodIn_r _ [48, 49, 50, 51, 52, 53, 54, 55, 56, 57, 58, 59, 60, 61, 62, 63, 64, 65, 66, 67] (by decide +kernel) (by decide +kernel)
set_option maxRecDepth 20000 in
theorem gX7_amend_X4_follow : GoodIn wsX7_amend (wsV RX7 163 RX4 yX4_follow wsX4_follow) := goodIn_app (goodIn_of _ (by decide +kernel)) ggX7_amend_X4_follow
theorem dX7_amend_0 : decode cX7_amend 0 = .ok (.aload_n 2, 1) := by decide +kernel
theorem dX7_amend_1 : decode cX7_amend 1 = .ok (.getfield 129, 3) := by decide +kernel
theorem dX7_amend_4 : decode cX7_amend 4 = .ok (.istore_n 3, 1) := by decide +kernel
theorem dX7_amend_5 : decode cX7_amend 5 = .ok (.aload_n 2, 1) := by decide +kernel
theorem dX7_amend_6 : decode cX7_amend 6 = .ok (.getfield 132, 3) := by decide +kernel
theorem dX7_amend_9 : decode cX7_amend 9 = .ok (.istore 4, 2) := by decide +kernel
theorem dX7_amend_11 : decode cX7_amend 11 = .ok (.aload_n 2, 1) := by decide +kernel
theorem dX7_amend_12 : decode cX7_amend 12 = .ok (.getfield 103, 3) := by decide +kernel
theorem dX7_amend_15 : decode cX7_amend 15 = .ok (.getfield 135, 3) := by decide +kernel
theorem dX7_amend_18 : decode cX7_amend 18 = .ok (.istore 5, 2) := by decide +kernel
theorem dX7_amend_20 : decode cX7_amend 20 = .ok (.aload_n 1, 1) := by decide +kernel
theorem dX7_amend_21 : decode cX7_amend 21 = .ok (.getfield 103, 3) := by decide +kernel
theorem dX7_amend_24 : decode cX7_amend 24 = .ok (.iload_n 3, 1) := by decide +kernel
theorem dX7_amend_25 : decode cX7_amend 25 = .ok (.iload 4, 2) := by decide +kernel
theorem dX7_amend_27 : decode cX7_amend 27 = .ok (.aload_n 2, 1) := by decide +kernel
theorem dX7_amend_28 : decode cX7_amend 28 = .ok (.getfield 103, 3) := by decide +kernel
theorem dX7_amend_31 : decode cX7_amend 31 = .ok (.invokevirtual 136, 3) := by decide +kernel
theorem dX7_amend_34 : decode cX7_amend 34 = .ok (.iconst (-1), 1) := by decide +kernel
theorem dX7_amend_35 : decode cX7_amend 35 = .ok (.istore 6, 2) := by decide +kernel
theorem dX7_amend_37 : decode cX7_amend 37 = .ok (.iload 6, 2) := by decide +kernel
theorem dX7_amend_39 : decode cX7_amend 39 = .ok (.bipush 8, 2) := by decide +kernel
theorem dX7_amend_41 : decode cX7_amend 41 = .ok (.if_icmp .ge 79, 3) := by decide +kernel
theorem dX7_amend_44 : decode cX7_amend 44 = .ok (.iload 6, 2) := by decide +kernel
theorem dX7_amend_46 : decode cX7_amend 46 = .ok (.ifCond .ge 13, 3) := by decide +kernel
theorem dX7_amend_49 : decode cX7_amend 49 = .ok (.aload_n 0, 1) := by decide +kernel
theorem dX7_amend_50 : decode cX7_amend 50 = .ok (.getfield 140, 3) := by decide +kernel
theorem dX7_amend_53 : decode cX7_amend 53 = .ok (.invokevirtual 144, 3) := by decide +kernel
theorem dX7_amend_56 : decode cX7_amend 56 = .ok (.goto 13, 3) := by decide +kernel
theorem dX7_amend_59 : decode cX7_amend 59 = .ok (.aload_n 0, 1) := by decide +kernel
theorem dX7_amend_60 : decode cX7_amend 60 = .ok (.getfield 150, 3) := by decide +kernel
theorem dX7_amend_63 : decode cX7_amend 63 = .ok (.iload 6, 2) := by decide +kernel
theorem dX7_amend_65 : decode cX7_amend 65 = .ok (.aaload, 1) := by decide +kernel
theorem dX7_amend_66 : decode cX7_amend 66 = .ok (.invokevirtual 144, 3) := by decide +kernel
theorem dX7_amend_69 : decode cX7_amend 69 = .ok (.astore 7, 2) := by decide +kernel
theorem dX7_amend_71 : decode cX7_amend 71 = .ok (.aload 7, 2) := by decide +kernel
theorem dX7_amend_73 : decode cX7_amend 73 = .ok (.ifnull 41, 3) := by decide +kernel
theorem dX7_amend_76 : decode cX7_amend 76 = .ok (.aload 7, 2) := by decide +kernel
theorem dX7_amend_78 : decode cX7_amend 78 = .ok (.getfield 154, 3) := by decide +kernel
theorem dX7_amend_81 : decode cX7_amend 81 = .ok (.ifCond .eq 33, 3) := by decide +kernel
theorem dX7_amend_84 : decode cX7_amend 84 = .ok (.aload 7, 2) := by decide +kernel
theorem dX7_amend_86 : decode cX7_amend 86 = .ok (.invokevirtual 122, 3) := by decide +kernel
theorem dX7_amend_89 : decode cX7_amend 89 = .ok (.ifCond .eq 25, 3) := by decide +kernel
theorem dX7_amend_92 : decode cX7_amend 92 = .ok (.aload 7, 2) := by decide +kernel
theorem dX7_amend_94 : decode cX7_amend 94 = .ok (.getfield 157, 3) := by decide +kernel
theorem dX7_amend_97 : decode cX7_amend 97 = .ok (.aload_n 1, 1) := by decide +kernel
theorem dX7_amend_98 : decode cX7_amend 98 = .ok (.getfield 160, 3) := by decide +kernel
theorem dX7_amend_101 : decode cX7_amend 101 = .ok (.if_icmp .ne 13, 3) := by decide +kernel
theorem dX7_amend_104 : decode cX7_amend 104 = .ok (.aload 7, 2) := by decide +kernel
theorem dX7_amend_106 : decode cX7_amend 106 = .ok (.iload_n 3, 1) := by decide +kernel
theorem dX7_amend_107 : decode cX7_amend 107 = .ok (.iload 4, 2) := by decide +kernel
theorem dX7_amend_109 : decode cX7_amend 109 = .ok (.iload 5, 2) := by decide +kernel
theorem dX7_amend_111 : decode cX7_amend 111 = .ok (.invokevirtual 163, 3) := by decide +kernel
theorem dX7_amend_114 : decode cX7_amend 114 = .ok (.iinc 6 1, 3) := by decide +kernel
theorem dX7_amend_117 : decode cX7_amend 117 = .ok (.goto (-80), 3) := by decide +kernel
theorem dX7_amend_120 : decode cX7_amend 120 = .ok (.return_, 1) := by decide +kernel
set_option maxRecDepth 20000 in
theorem ggX7_commit_X0_firstFreePlace : GoodIn wsX7_commit wsX0_firstFreePlace := goodIn_r _ [5, 6, 7, 8, 9, 10, 11, 12, 64, 65, 66, 67, 68, 69, 70, 71, 72, 73, 74, 75, 76] (by decide +kernel) (by decide +kernel)
set_option maxRecDepth 20000 in
theorem gX7_commit_X0_firstFreePlace : GoodIn wsX7_commit (wsV RX7 167 RX0 yX0_firstFreePlace wsX0_firstFreePlace) := goodIn_app (goodIn_of _ (by decide +kernel)) ggX7_commit_X0_firstFreePlace
set_option maxRecDepth 20000 in
theorem ggX7_commit_X0_pullLowest : GoodIn wsX7_commit wsX0_pullLowest := goodIn_r _ [16, 17, 18, 19, 20, 21, 4, 22, 23, 24, 25, 26, 27, 28, 29, 30, 31, 64, 65, 66, 67, 68, 69, 70, 71, 72, 73, 74, 77, 78, 79, 80, 81, 82, 83, 84, 85, 86, 87, 88, 89, 90, 91, 92, 93, 94] (by decide +kernel) (by decide +kernel)
set_option maxRecDepth 20000 in
theorem gX7_commit_X0_pullLowest : GoodIn wsX7_commit (wsV RX7 171 RX0 yX0_pullLowest wsX0_pullLowest) := goodIn_app (goodIn_of _ (by decide +kernel)) ggX7_commit_X0_pullLowest
set_option maxRecDepth 20000 in
theorem ggX7_commit_X4_keepTextAs : GoodIn wsX7_commit wsX4_keepTextAs := goodIn_r _ [36, 37, 38, 39, 40, 41, 42, 43, 44, 45, 46, 47, 48, 49, 50, 51, 52, 53, 54, 79, 80, 81, 82, 83, 84, 85, 86, 87, 88, 89, 90, 91, 92, 93, 94] (by decide +kernel) (by decide +kernel)
set_option maxRecDepth 20000 in
theorem gX7_commit_X4_keepTextAs : GoodIn wsX7_commit (wsV RX7 174 RX4 yX4_keepTextAs wsX4_keepTextAs) := goodIn_app (goodIn_of _ (by decide +kernel)) ggX7_commit_X4_keepTextAs
set_option maxRecDepth 20000 in
theorem ggX7_commit_X6_hold : GoodIn wsX7_commit wsX6_hold := goodIn_r _ [58, 12, 59, 60, 61, 62, 28, 63, 30, 31, 75, 76, 77, 78] (by decide +kernel) (by decide +kernel)
set_option maxRecDepth 20000 in
theorem gX7_commit_X6_hold : GoodIn wsX7_commit (wsV RX7 178 RX6 yX6_hold wsX6_hold) := goodIn_app (goodIn_of _ (by decide +kernel)) ggX7_commit_X6_hold
theorem dX7_commit_0 : decode cX7_commit 0 = .ok (.aload_n 0, 1) := by decide +kernel
theorem dX7_commit_1 : decode cX7_commit 1 = .ok (.invokevirtual 167, 3) := by decide +kernel
theorem dX7_commit_4 : decode cX7_commit 4 = .ok (.astore_n 1, 1) := by decide +kernel
theorem dX7_commit_5 : decode cX7_commit 5 = .ok (.aload_n 0, 1) := by decide +kernel
theorem dX7_commit_6 : decode cX7_commit 6 = .ok (.invokevirtual 171, 3) := by decide +kernel
theorem dX7_commit_9 : decode cX7_commit 9 = .ok (.astore_n 2, 1) := by decide +kernel
theorem dX7_commit_10 : decode cX7_commit 10 = .ok (.aload_n 2, 1) := by decide +kernel
theorem dX7_commit_11 : decode cX7_commit 11 = .ok (.ifnull 18, 3) := by decide +kernel
theorem dX7_commit_14 : decode cX7_commit 14 = .ok (.aload_n 1, 1) := by decide +kernel
theorem dX7_commit_15 : decode cX7_commit 15 = .ok (.ifnull 14, 3) := by decide +kernel
theorem dX7_commit_18 : decode cX7_commit 18 = .ok (.aload_n 2, 1) := by decide +kernel
theorem dX7_commit_19 : decode cX7_commit 19 = .ok (.iconst 1, 1) := by decide +kernel
theorem dX7_commit_20 : decode cX7_commit 20 = .ok (.invokevirtual 174, 3) := by decide +kernel
theorem dX7_commit_23 : decode cX7_commit 23 = .ok (.aload_n 1, 1) := by decide +kernel
theorem dX7_commit_24 : decode cX7_commit 24 = .ok (.iconst 1, 1) := by decide +kernel
theorem dX7_commit_25 : decode cX7_commit 25 = .ok (.aload_n 2, 1) := by decide +kernel
theorem dX7_commit_26 : decode cX7_commit 26 = .ok (.invokevirtual 178, 3) := by decide +kernel
theorem dX7_commit_29 : decode cX7_commit 29 = .ok (.return_, 1) := by decide +kernel
set_option maxRecDepth 20000 in
theorem ggX7_postpone_X0_firstFreePlace : GoodIn wsX7_postpone wsX0_firstFreePlace := goodIn_r _ [9, 10, 11, 12, 13, 14, 15, 16, 84, 85, 86, 87, 88, 89, 90, 91, 92, 93, 94, 95, 96] (by decide +kernel) (by decide +kernel)
set_option maxRecDepth 20000 in
theorem gX7_postpone_X0_firstFreePlace : GoodIn wsX7_postpone (wsV RX7 167 RX0 yX0_firstFreePlace wsX0_firstFreePlace) := goodIn_app (goodIn_of _ (by decide +kernel)) ggX7_postpone_X0_firstFreePlace
set_option maxRecDepth 20000 in
theorem ggX7_postpone_X0_pullLowest : GoodIn wsX7_postpone wsX0_pullLowest := goodIn_r _ [20, 21, 22, 23, 24, 25, 8, 26, 27, 28, 29, 30, 31, 32, 33, 34, 35, 84, 85, 86, 87, 88, 89, 90, 91, 92, 93, 94, 97, 98, 68, 69, 70, 71, 72, 73, 74, 75, 76, 77, 78, 79, 80, 81, 82, 83] (by decide +kernel) (by decide +kernel)
set_option maxRecDepth 20000 in
theorem gX7_postpone_X0_pullLowest : GoodIn wsX7_postpone (wsV RX7 171 RX0 yX0_pullLowest wsX0_pullLowest) := goodIn_app (goodIn_of _ (by decide +kernel)) ggX7_postpone_X0_pullLowest
set_option maxRecDepth 20000 in
theorem ggX7_postpone_X4_keepTextAs : GoodIn wsX7_postpone wsX4_keepTextAs := goodIn_r _ [40, 41, 42, 43, 44, 45, 46, 47, 48, 49, 50, 51, 52, 53, 54, 55, 56, 57, 58, 68, 69, 70, 71, 72, 73, 74, 75, 76, 77, 78, 79, 80, 81, 82, 83] (by decide +kernel) (by decide +kernel)
set_option maxRecDepth 20000 in
theorem gX7_postpone_X4_keepTextAs : GoodIn wsX7_postpone (wsV RX7 174 RX4 yX4_keepTextAs wsX4_keepTextAs) := goodIn_app (goodIn_of _ (by decide +kernel)) ggX7_postpone_X4_keepTextAs
set_option maxRecDepth 20000 in
theorem ggX7_postpone_X6_hold : GoodIn wsX7_postpone wsX6_hold := goodIn_r _ [62, 16, 63, 64, 65, 66, 32, 67, 34, 35, 95, 96, 97, 98] (by decide +kernel) (by decide +kernel)
set_option maxRecDepth 20000 in
theorem gX7_postpone_X6_hold : GoodIn wsX7_postpone (wsV RX7 178 RX6 yX6_hold wsX6_hold) := goodIn_app (goodIn_of _ (by decide +kernel)) ggX7_postpone_X6_hold
theorem dX7_postpone_0 : decode cX7_postpone 0 = .ok (.aload_n 0, 1) := by decide +kernel
theorem dX7_postpone_1 : decode cX7_postpone 1 = .ok (.invokevirtual 167, 3) := by decide +kernel
theorem dX7_postpone_4 : decode cX7_postpone 4 = .ok (.astore_n 1, 1) := by decide +kernel
theorem dX7_postpone_5 : decode cX7_postpone 5 = .ok (.aload_n 0, 1) := by decide +kernel
theorem dX7_postpone_6 : decode cX7_postpone 6 = .ok (.invokevirtual 171, 3) := by decide +kernel
theorem dX7_postpone_9 : decode cX7_postpone 9 = .ok (.astore_n 2, 1) := by decide +kernel
theorem dX7_postpone_10 : decode cX7_postpone 10 = .ok (.aload_n 2, 1) := by decide +kernel
theorem dX7_postpone_11 : decode cX7_postpone 11 = .ok (.ifnull 48, 3) := by decide +kernel
theorem dX7_postpone_14 : decode cX7_postpone 14 = .ok (.aload_n 1, 1) := by decide +kernel
theorem dX7_postpone_15 : decode cX7_postpone 15 = .ok (.ifnull 44, 3) := by decide +kernel
theorem dX7_postpone_18 : decode cX7_postpone 18 = .ok (.aload_n 2, 1) := by decide +kernel
theorem dX7_postpone_19 : decode cX7_postpone 19 = .ok (.getfield 182, 3) := by decide +kernel
theorem dX7_postpone_22 : decode cX7_postpone 22 = .ok (.istore_n 3, 1) := by decide +kernel
theorem dX7_postpone_23 : decode cX7_postpone 23 = .ok (.aload_n 2, 1) := by decide +kernel
theorem dX7_postpone_24 : decode cX7_postpone 24 = .ok (.getfield 21, 3) := by decide +kernel
theorem dX7_postpone_27 : decode cX7_postpone 27 = .ok (.istore 4, 2) := by decide +kernel
theorem dX7_postpone_29 : decode cX7_postpone 29 = .ok (.aload_n 2, 1) := by decide +kernel
theorem dX7_postpone_30 : decode cX7_postpone 30 = .ok (.aload_n 2, 1) := by decide +kernel
theorem dX7_postpone_31 : decode cX7_postpone 31 = .ok (.getfield 37, 3) := by decide +kernel
theorem dX7_postpone_34 : decode cX7_postpone 34 = .ok (.invokevirtual 174, 3) := by decide +kernel
theorem dX7_postpone_37 : decode cX7_postpone 37 = .ok (.aload_n 2, 1) := by decide +kernel
theorem dX7_postpone_38 : decode cX7_postpone 38 = .ok (.iload_n 3, 1) := by decide +kernel
theorem dX7_postpone_39 : decode cX7_postpone 39 = .ok (.putfield 182, 3) := by decide +kernel
theorem dX7_postpone_42 : decode cX7_postpone 42 = .ok (.aload_n 2, 1) := by decide +kernel
theorem dX7_postpone_43 : decode cX7_postpone 43 = .ok (.iload 4, 2) := by decide +kernel
theorem dX7_postpone_45 : decode cX7_postpone 45 = .ok (.putfield 21, 3) := by decide +kernel
theorem dX7_postpone_48 : decode cX7_postpone 48 = .ok (.aload_n 2, 1) := by decide +kernel
theorem dX7_postpone_49 : decode cX7_postpone 49 = .ok (.iconst 1, 1) := by decide +kernel
theorem dX7_postpone_50 : decode cX7_postpone 50 = .ok (.putfield 154, 3) := by decide +kernel
theorem dX7_postpone_53 : decode cX7_postpone 53 = .ok (.aload_n 1, 1) := by decide +kernel
theorem dX7_postpone_54 : decode cX7_postpone 54 = .ok (.iconst 2, 1) := by decide +kernel
theorem dX7_postpone_55 : decode cX7_postpone 55 = .ok (.aload_n 2, 1) := by decide +kernel
theorem dX7_postpone_56 : decode cX7_postpone 56 = .ok (.invokevirtual 178, 3) := by decide +kernel
theorem dX7_postpone_59 : decode cX7_postpone 59 = .ok (.return_, 1) := by decide +kernel
set_option maxRecDepth 20000 in
theorem ggX7_table_X0_firstFreePlace : GoodIn wsX7_table wsX0_firstFreePlace := goodIn_r _ [8, 9, 10, 11, 12, 13, 14, 15, 37, 38, 39, 40, 41, 42, 43, 44, 45, 46, 47, 48, 49] (by decide +kernel) (by decide +kernel)
set_option maxRecDepth 20000 in
theorem gX7_table_X0_firstFreePlace : GoodIn wsX7_table (wsV RX7 167 RX0 yX0_firstFreePlace wsX0_firstFreePlace) := goodIn_app (goodIn_of _ (by decide +kernel)) ggX7_table_X0_firstFreePlace
set_option maxRecDepth 20000 in
theorem ggX7_table_X0_dropTop : GoodIn wsX7_table wsX0_dropTop := goodIn_r _ [19, 20, 21, 22, 23, 24, 25, 26, 27, 28, 37, 38, 39, 40, 41, 42, 43, 44, 45, 46, 47, 50, 51, 52, 53, 54, 55, 56, 57, 58, 59, 60, 61, 62, 63, 64, 65, 66, 67] (by decide +kernel) (by decide +kernel)
set_option maxRecDepth 20000 in
theorem gX7_table_X0_dropTop : GoodIn wsX7_table (wsV RX7 62 RX0 yX0_dropTop wsX0_dropTop) := goodIn_app (goodIn_of _ (by decide +kernel)) ggX7_table_X0_dropTop
set_option maxRecDepth 20000 in
theorem ggX7_table_X5_pourInto : GoodIn wsX7_table wsX5_pourInto := goodIn_r _ [32, 27, 28, 33, 34, 35, 25, 36, 66, 67] (by decide +kernel) (by decide +kernel)
set_option maxRecDepth 20000 in
theorem gX7_table_X5_pourInto : GoodIn wsX7_table (wsV RX7 191 RX5 yX5_pourInto wsX5_pourInto) := goodIn_app (goodIn_of _ (by decide +kernel)) ggX7_table_X5_pourInto
theorem dX7_table_0 : decode cX7_table 0 = .ok (.aload_n 0, 1) := by decide +kernel
theorem dX7_table_1 : decode cX7_table 1 = .ok (.invokevirtual 167, 3) := by decide +kernel
theorem dX7_table_4 : decode cX7_table 4 = .ok (.astore_n 1, 1) := by decide +kernel
theorem dX7_table_5 : decode cX7_table 5 = .ok (.aload_n 0, 1) := by decide +kernel
theorem dX7_table_6 : decode cX7_table 6 = .ok (.aload_n 0, 1) := by decide +kernel
theorem dX7_table_7 : decode cX7_table 7 = .ok (.getfield 58, 3) := by decide +kernel
theorem dX7_table_10 : decode cX7_table 10 = .ok (.invokevirtual 62, 3) := by decide +kernel
theorem dX7_table_13 : decode cX7_table 13 = .ok (.aload_n 1, 1) := by decide +kernel
theorem dX7_table_14 : decode cX7_table 14 = .ok (.ifnull 19, 3) := by decide +kernel
theorem dX7_table_17 : decode cX7_table 17 = .ok (.aload_n 1, 1) := by decide +kernel
theorem dX7_table_18 : decode cX7_table 18 = .ok (.iconst 3, 1) := by decide +kernel
theorem dX7_table_19 : decode cX7_table 19 = .ok (.putfield 185, 3) := by decide +kernel
theorem dX7_table_22 : decode cX7_table 22 = .ok (.aload_n 0, 1) := by decide +kernel
theorem dX7_table_23 : decode cX7_table 23 = .ok (.getfield 58, 3) := by decide +kernel
theorem dX7_table_26 : decode cX7_table 26 = .ok (.aload_n 1, 1) := by decide +kernel
theorem dX7_table_27 : decode cX7_table 27 = .ok (.getfield 188, 3) := by decide +kernel
theorem dX7_table_30 : decode cX7_table 30 = .ok (.invokevirtual 191, 3) := by decide +kernel
theorem dX7_table_33 : decode cX7_table 33 = .ok (.return_, 1) := by decide +kernel
set_option maxRecDepth 20000 in
theorem ggX8_against_X8_againstOnFloor : GoodIn wsX8_against wsX8_againstOnFloor := goodIn_r _ [5, 6, 7, 8, 9, 4, 10, 11, 12, 13, 14, 15, 16, 17, 18, 19, 20, 21, 22, 23, 24, 25, 26, 27, 28, 29, 30, 31, 32, 33, 34, 35, 36, 37, 38, 39, 40, 41, 42, 43, 44, 45, 46, 47, 48, 49, 50, 51, 52, 53, 54, 55, 56, 57, 190, 191, 192, 193, 194, 195, 196, 197, 198, 199, 200, 201, 202, 203, 204, 205, 206, 207, 208, 209, 210, 211, 212, 213, 214, 215, 216, 217, 218, 219, 220, 221, 222, 223, 224, 225, 226] (by decide +kernel) (by decide +kernel)
set_option maxRecDepth 20000 in
theorem gX8_against_X8_againstOnFloor : GoodIn wsX8_against (va_wsS RX8 9 yX8_againstOnFloor wsX8_againstOnFloor) := goodIn_app (goodIn_of _ (by decide +kernel)) ggX8_against_X8_againstOnFloor
set_option maxRecDepth 20000 in
theorem ggX8_against_X8_againstOnPaper : GoodIn wsX8_against wsX8_againstOnPaper := goodIn_r _ [60, 61, 62, 4, 63, 64, 65, 66, 67, 68, 69, 70, 71, 72, 73, 45, 46, 41, 47, 43, 48, 74, 75, 76, 77, 78, 79, 80, 81, 82, 36, 83, 84, 85, 86, 87, 88, 89, 90, 28, 91, 92, 93, 94, 95, 96, 97, 98, 99, 100, 101, 38, 39, 40, 42, 44, 102, 103, 104, 105, 106, 107, 108, 109, 110, 111, 112, 113, 114, 115, 116, 117, 118, 119, 120, 121, 190, 191, 192, 193, 194, 195, 196, 197, 198, 199, 200, 211, 212, 213, 214, 215, 216, 217, 218, 219, 220, 221, 222, 223, 224, 225, 226, 227, 228, 209, 210, 229, 230] (by decide +kernel) (by decide +kernel)
set_option maxRecDepth 20000 in
theorem gX8_against_X8_againstOnPaper : GoodIn wsX8_against (va_wsS RX8 15 yX8_againstOnPaper wsX8_againstOnPaper) := goodIn_app (goodIn_of _ (by decide +kernel)) ggX8_against_X8_againstOnPaper
set_option maxRecDepth 20000 in
theorem ggX8_against_X8_againstOnMotion : GoodIn wsX8_against wsX8_againstOnMotion := goodIn_r _ [124, 6, 33, 28, 125, 126, 4, 127, 64, 52, 36, 98, 99, 100, 69, 101, 71, 66, 67, 68, 70, 72, 73, 45, 46, 41, 47, 43, 48, 38, 39, 40, 42, 44, 128, 129, 130, 74, 75, 76, 77, 78, 79, 102, 103, 104, 105, 131, 132, 133, 134, 135, 136, 137, 138, 139, 53, 54, 55, 14, 56, 57, 140, 141, 142, 143, 144, 145, 146, 147, 148, 149, 65, 150, 151, 91, 83, 84, 152, 153, 154, 29, 155, 116, 117, 118, 106, 107, 108, 95, 109, 97, 110, 156, 157, 158, 159, 160, 161, 162, 163, 164, 165, 166, 18, 19, 20, 21, 16, 17, 167, 168, 169, 170, 22, 23, 24, 11, 12, 13, 15, 171, 172, 173, 174, 175, 176, 177, 178, 179, 180, 181, 182, 190, 191, 192, 193, 194, 195, 196, 197, 198, 199, 200, 201, 202, 203, 204, 205, 206, 207, 208, 211, 212, 213, 214, 215, 216, 217, 218, 219, 220, 221, 222, 223, 224, 225, 226, 227, 228, 209, 210, 229, 230] (by decide +kernel) (by decide +kernel)
set_option maxRecDepth 20000 in
theorem gX8_against_X8_againstOnMotion : GoodIn wsX8_against (va_wsS RX8 19 yX8_againstOnMotion wsX8_againstOnMotion) := goodIn_app (goodIn_of _ (by decide +kernel)) ggX8_against_X8_againstOnMotion
set_option maxRecDepth 20000 in
theorem ggX8_against_X3_isFull : GoodIn wsX8_against wsX3_isFull := goodIn_r _ [187, 188, 189, 231, 232, 233, 234] (by decide +kernel) (by decide +kernel)
set_option maxRecDepth 20000 in
theorem gX8_against_X3_isFull : GoodIn wsX8_against (wsV RX8 28 RX3 yX3_isFull wsX3_isFull) := goodIn_app (goodIn_of _ (by decide +kernel)) ggX8_against_X3_isFull
theorem dX8_against_0 : decode cX8_against 0 = .ok (.iload_n 1, 1) := by decide +kernel
theorem dX8_against_1 : decode cX8_against 1 = .ok (.bipush 9, 2) := by decide +kernel
theorem dX8_against_3 : decode cX8_against 3 = .ok (.if_icmp .gt 15, 3) := by decide +kernel
theorem dX8_against_6 : decode cX8_against 6 = .ok (.aload_n 0, 1) := by decide +kernel
theorem dX8_against_7 : decode cX8_against 7 = .ok (.iload_n 1, 1) := by decide +kernel
theorem dX8_against_8 : decode cX8_against 8 = .ok (.iload_n 2, 1) := by decide +kernel
theorem dX8_against_9 : decode cX8_against 9 = .ok (.iload_n 3, 1) := by decide +kernel
theorem dX8_against_10 : decode cX8_against 10 = .ok (.invokestatic 9, 3) := by decide +kernel
theorem dX8_against_13 : decode cX8_against 13 = .ok (.istore 6, 2) := by decide +kernel
theorem dX8_against_15 : decode cX8_against 15 = .ok (.goto 34, 3) := by decide +kernel
theorem dX8_against_18 : decode cX8_against 18 = .ok (.iload_n 1, 1) := by decide +kernel
theorem dX8_against_19 : decode cX8_against 19 = .ok (.bipush 14, 2) := by decide +kernel
theorem dX8_against_21 : decode cX8_against 21 = .ok (.if_icmp .gt 19, 3) := by decide +kernel
theorem dX8_against_24 : decode cX8_against 24 = .ok (.aload_n 0, 1) := by decide +kernel
theorem dX8_against_25 : decode cX8_against 25 = .ok (.iload_n 1, 1) := by decide +kernel
theorem dX8_against_26 : decode cX8_against 26 = .ok (.iload_n 2, 1) := by decide +kernel
theorem dX8_against_27 : decode cX8_against 27 = .ok (.iload_n 3, 1) := by decide +kernel
theorem dX8_against_28 : decode cX8_against 28 = .ok (.iload 4, 2) := by decide +kernel
theorem dX8_against_30 : decode cX8_against 30 = .ok (.iload 5, 2) := by decide +kernel
theorem dX8_against_32 : decode cX8_against 32 = .ok (.invokestatic 15, 3) := by decide +kernel
theorem dX8_against_35 : decode cX8_against 35 = .ok (.istore 6, 2) := by decide +kernel
theorem dX8_against_37 : decode cX8_against 37 = .ok (.goto 12, 3) := by decide +kernel
theorem dX8_against_40 : decode cX8_against 40 = .ok (.aload_n 0, 1) := by decide +kernel
theorem dX8_against_41 : decode cX8_against 41 = .ok (.iload_n 1, 1) := by decide +kernel
theorem dX8_against_42 : decode cX8_against 42 = .ok (.iload_n 2, 1) := by decide +kernel
theorem dX8_against_43 : decode cX8_against 43 = .ok (.iload_n 3, 1) := by decide +kernel
theorem dX8_against_44 : decode cX8_against 44 = .ok (.invokestatic 19, 3) := by decide +kernel
theorem dX8_against_47 : decode cX8_against 47 = .ok (.istore 6, 2) := by decide +kernel
theorem dX8_against_49 : decode cX8_against 49 = .ok (.iload 6, 2) := by decide +kernel
theorem dX8_against_51 : decode cX8_against 51 = .ok (.ifCond .ne 18, 3) := by decide +kernel
theorem dX8_against_54 : decode cX8_against 54 = .ok (.aload_n 0, 1) := by decide +kernel
theorem dX8_against_55 : decode cX8_against 55 = .ok (.getfield 22, 3) := by decide +kernel
theorem dX8_against_58 : decode cX8_against 58 = .ok (.invokevirtual 28, 3) := by decide +kernel
theorem dX8_against_61 : decode cX8_against 61 = .ok (.ifCond .eq 8, 3) := by decide +kernel
theorem dX8_against_64 : decode cX8_against 64 = .ok (.bipush 10, 2) := by decide +kernel
theorem dX8_against_66 : decode cX8_against 66 = .ok (.goto 5, 3) := by decide +kernel
theorem dX8_against_69 : decode cX8_against 69 = .ok (.iload 6, 2) := by decide +kernel
theorem dX8_against_71 : decode cX8_against 71 = .ok (.ireturn, 1) := by decide +kernel
set_option maxRecDepth 20000 in
theorem ggX8_againstOnFloor_X8_againstThere : GoodIn wsX8_againstOnFloor wsX8_againstThere := goodIn_r _ [6, 7, 8, 9, 10, 11, 12, 13, 14, 15, 16, 17, 65, 66, 67, 68, 69, 70, 71, 72] (by decide +kernel) (by decide +kernel)
set_option maxRecDepth 20000 in
theorem gX8_againstOnFloor_X8_againstThere : GoodIn wsX8_againstOnFloor (va_wsS RX8 38 yX8_againstThere wsX8_againstThere) := goodIn_app (goodIn_of _ (by decide +kernel)) ggX8_againstOnFloor_X8_againstThere
set_option maxRecDepth 20000 in
theorem ggX8_againstOnFloor_X8_againstAbsent : GoodIn wsX8_againstOnFloor wsX8_againstAbsent := goodIn_r _ [20, 7, 8, 9, 10, 11, 12, 13, 14, 15, 16, 17, 65, 66, 67, 68, 69, 70, 71, 72] (by decide +kernel) (by decide +kernel)
set_option maxRecDepth 20000 in
theorem gX8_againstOnFloor_X8_againstAbsent : GoodIn wsX8_againstOnFloor (va_wsS RX8 42 yX8_againstAbsent wsX8_againstAbsent) := goodIn_app (goodIn_of _ (by decide +kernel)) ggX8_againstOnFloor_X8_againstAbsent
set_option maxRecDepth 20000 in
theorem ggX8_againstOnFloor_X8_againstSetting : GoodIn wsX8_againstOnFloor wsX8_againstSetting := goodIn_r _ [23, 24, 25, 54, 55, 56, 57, 58, 59, 60, 61, 62, 63, 64, 73, 74] (by decide +kernel) (by decide +kernel)
set_option maxRecDepth 20000 in
theorem gX8_againstOnFloor_X8_againstSetting : GoodIn wsX8_againstOnFloor (va_wsS RX8 45 yX8_againstSetting wsX8_againstSetting) := goodIn_app (goodIn_of _ (by decide +kernel)) ggX8_againstOnFloor_X8_againstSetting
set_option maxRecDepth 20000 in
theorem ggX8_againstOnFloor_X8_againstFloor : GoodIn wsX8_againstOnFloor wsX8_againstFloor := goodIn_r _ [28, 1, 29, 2, 24, 30, 31, 32, 33, 18, 19, 5, 20, 7, 8, 9, 10, 11, 12, 13, 14, 15, 16, 17, 34, 35, 36, 37, 38, 39, 40, 41, 42, 43, 44, 54, 55, 56, 57, 58, 59, 60, 61, 62, 63, 64, 65, 66, 67, 68, 69, 70, 71, 72, 75, 76, 77, 78, 79, 80, 81, 82, 83, 84, 85, 86, 87, 88, 89, 90, 73, 74] (by decide +kernel) (by decide +kernel)
set_option maxRecDepth 20000 in
theorem gX8_againstOnFloor_X8_againstFloor : GoodIn wsX8_againstOnFloor (va_wsS RX8 49 yX8_againstFloor wsX8_againstFloor) := goodIn_app (goodIn_of _ (by decide +kernel)) ggX8_againstOnFloor_X8_againstFloor
set_option maxRecDepth 20000 in
theorem ggX8_againstOnFloor_X8_againstDebate : GoodIn wsX8_againstOnFloor wsX8_againstDebate := goodIn_r _ [47, 24, 1, 48, 32, 34, 35, 36, 37, 38, 39, 40, 41, 42, 43, 44, 49, 50, 51, 10, 52, 53, 54, 55, 56, 57, 58, 59, 60, 61, 62, 63, 64, 75, 76, 77, 78, 79, 80, 81, 82, 83, 84, 85, 86, 87, 88, 89, 90, 73, 74, 65, 66, 67, 68, 69, 70, 71, 72] (by decide +kernel) (by decide +kernel)
set_option maxRecDepth 20000 in
theorem gX8_againstOnFloor_X8_againstDebate : GoodIn wsX8_againstOnFloor (va_wsS RX8 59 yX8_againstDebate wsX8_againstDebate) := goodIn_app (goodIn_of _ (by decide +kernel)) ggX8_againstOnFloor_X8_againstDebate
theorem dX8_againstOnFloor_0 : decode cX8_againstOnFloor 0 = .ok (.iload_n 1, 1) := by decide +kernel
theorem dX8_againstOnFloor_1 : decode cX8_againstOnFloor 1 = .ok (.tableswitch 179 1 9 #[51, 60, 69, 90, 99, 130, 150, 156, 173], 51) := by decide +kernel
theorem dX8_againstOnFloor_52 : decode cX8_againstOnFloor 52 = .ok (.aload_n 0, 1) := by decide +kernel
theorem dX8_againstOnFloor_53 : decode cX8_againstOnFloor 53 = .ok (.getfield 34, 3) := by decide +kernel
theorem dX8_againstOnFloor_56 : decode cX8_againstOnFloor 56 = .ok (.iload_n 2, 1) := by decide +kernel
theorem dX8_againstOnFloor_57 : decode cX8_againstOnFloor 57 = .ok (.invokestatic 38, 3) := by decide +kernel
theorem dX8_againstOnFloor_60 : decode cX8_againstOnFloor 60 = .ok (.ireturn, 1) := by decide +kernel
theorem dX8_againstOnFloor_61 : decode cX8_againstOnFloor 61 = .ok (.aload_n 0, 1) := by decide +kernel
theorem dX8_againstOnFloor_62 : decode cX8_againstOnFloor 62 = .ok (.getfield 34, 3) := by decide +kernel
theorem dX8_againstOnFloor_65 : decode cX8_againstOnFloor 65 = .ok (.iload_n 2, 1) := by decide +kernel
theorem dX8_againstOnFloor_66 : decode cX8_againstOnFloor 66 = .ok (.invokestatic 42, 3) := by decide +kernel
theorem dX8_againstOnFloor_69 : decode cX8_againstOnFloor 69 = .ok (.ireturn, 1) := by decide +kernel
theorem dX8_againstOnFloor_70 : decode cX8_againstOnFloor 70 = .ok (.aload_n 0, 1) := by decide +kernel
theorem dX8_againstOnFloor_71 : decode cX8_againstOnFloor 71 = .ok (.iload_n 2, 1) := by decide +kernel
theorem dX8_againstOnFloor_72 : decode cX8_againstOnFloor 72 = .ok (.ifCond .lt 14, 3) := by decide +kernel
theorem dX8_againstOnFloor_75 : decode cX8_againstOnFloor 75 = .ok (.iload_n 2, 1) := by decide +kernel
theorem dX8_againstOnFloor_76 : decode cX8_againstOnFloor 76 = .ok (.sipush 200, 3) := by decide +kernel
theorem dX8_againstOnFloor_79 : decode cX8_againstOnFloor 79 = .ok (.if_icmp .gt 7, 3) := by decide +kernel
theorem dX8_againstOnFloor_82 : decode cX8_againstOnFloor 82 = .ok (.iconst 1, 1) := by decide +kernel
theorem dX8_againstOnFloor_83 : decode cX8_againstOnFloor 83 = .ok (.goto 4, 3) := by decide +kernel
theorem dX8_againstOnFloor_86 : decode cX8_againstOnFloor 86 = .ok (.iconst 0, 1) := by decide +kernel
theorem dX8_againstOnFloor_87 : decode cX8_againstOnFloor 87 = .ok (.invokestatic 45, 3) := by decide +kernel
theorem dX8_againstOnFloor_90 : decode cX8_againstOnFloor 90 = .ok (.ireturn, 1) := by decide +kernel
theorem dX8_againstOnFloor_91 : decode cX8_againstOnFloor 91 = .ok (.aload_n 0, 1) := by decide +kernel
theorem dX8_againstOnFloor_92 : decode cX8_againstOnFloor 92 = .ok (.getfield 34, 3) := by decide +kernel
theorem dX8_againstOnFloor_95 : decode cX8_againstOnFloor 95 = .ok (.iload_n 2, 1) := by decide +kernel
theorem dX8_againstOnFloor_96 : decode cX8_againstOnFloor 96 = .ok (.invokestatic 42, 3) := by decide +kernel
theorem dX8_againstOnFloor_99 : decode cX8_againstOnFloor 99 = .ok (.ireturn, 1) := by decide +kernel
theorem dX8_againstOnFloor_100 : decode cX8_againstOnFloor 100 = .ok (.aload_n 0, 1) := by decide +kernel
theorem dX8_againstOnFloor_101 : decode cX8_againstOnFloor 101 = .ok (.iload_n 2, 1) := by decide +kernel
theorem dX8_againstOnFloor_102 : decode cX8_againstOnFloor 102 = .ok (.iconst 1, 1) := by decide +kernel
theorem dX8_againstOnFloor_103 : decode cX8_againstOnFloor 103 = .ok (.if_icmp .lt 23, 3) := by decide +kernel
theorem dX8_againstOnFloor_106 : decode cX8_againstOnFloor 106 = .ok (.iload_n 2, 1) := by decide +kernel
theorem dX8_againstOnFloor_107 : decode cX8_againstOnFloor 107 = .ok (.bipush 8, 2) := by decide +kernel
theorem dX8_againstOnFloor_109 : decode cX8_againstOnFloor 109 = .ok (.if_icmp .gt 17, 3) := by decide +kernel
theorem dX8_againstOnFloor_112 : decode cX8_againstOnFloor 112 = .ok (.iload_n 3, 1) := by decide +kernel
theorem dX8_againstOnFloor_113 : decode cX8_againstOnFloor 113 = .ok (.iconst 1, 1) := by decide +kernel
theorem dX8_againstOnFloor_114 : decode cX8_againstOnFloor 114 = .ok (.if_icmp .lt 12, 3) := by decide +kernel
theorem dX8_againstOnFloor_117 : decode cX8_againstOnFloor 117 = .ok (.iload_n 3, 1) := by decide +kernel
theorem dX8_againstOnFloor_118 : decode cX8_againstOnFloor 118 = .ok (.iconst 3, 1) := by decide +kernel
theorem dX8_againstOnFloor_119 : decode cX8_againstOnFloor 119 = .ok (.if_icmp .gt 7, 3) := by decide +kernel
theorem dX8_againstOnFloor_122 : decode cX8_againstOnFloor 122 = .ok (.iconst 1, 1) := by decide +kernel
theorem dX8_againstOnFloor_123 : decode cX8_againstOnFloor 123 = .ok (.goto 4, 3) := by decide +kernel
theorem dX8_againstOnFloor_126 : decode cX8_againstOnFloor 126 = .ok (.iconst 0, 1) := by decide +kernel
theorem dX8_againstOnFloor_127 : decode cX8_againstOnFloor 127 = .ok (.invokestatic 45, 3) := by decide +kernel
theorem dX8_againstOnFloor_130 : decode cX8_againstOnFloor 130 = .ok (.ireturn, 1) := by decide +kernel
theorem dX8_againstOnFloor_131 : decode cX8_againstOnFloor 131 = .ok (.aload_n 0, 1) := by decide +kernel
theorem dX8_againstOnFloor_132 : decode cX8_againstOnFloor 132 = .ok (.iload_n 2, 1) := by decide +kernel
theorem dX8_againstOnFloor_133 : decode cX8_againstOnFloor 133 = .ok (.ifCond .lt 13, 3) := by decide +kernel
theorem dX8_againstOnFloor_136 : decode cX8_againstOnFloor 136 = .ok (.iload_n 2, 1) := by decide +kernel
theorem dX8_againstOnFloor_137 : decode cX8_againstOnFloor 137 = .ok (.bipush 99, 2) := by decide +kernel
theorem dX8_againstOnFloor_139 : decode cX8_againstOnFloor 139 = .ok (.if_icmp .gt 7, 3) := by decide +kernel
theorem dX8_againstOnFloor_142 : decode cX8_againstOnFloor 142 = .ok (.iconst 1, 1) := by decide +kernel
theorem dX8_againstOnFloor_143 : decode cX8_againstOnFloor 143 = .ok (.goto 4, 3) := by decide +kernel
theorem dX8_againstOnFloor_146 : decode cX8_againstOnFloor 146 = .ok (.iconst 0, 1) := by decide +kernel
theorem dX8_againstOnFloor_147 : decode cX8_againstOnFloor 147 = .ok (.invokestatic 45, 3) := by decide +kernel
theorem dX8_againstOnFloor_150 : decode cX8_againstOnFloor 150 = .ok (.ireturn, 1) := by decide +kernel
theorem dX8_againstOnFloor_151 : decode cX8_againstOnFloor 151 = .ok (.aload_n 0, 1) := by decide +kernel
theorem dX8_againstOnFloor_152 : decode cX8_againstOnFloor 152 = .ok (.iload_n 2, 1) := by decide +kernel
theorem dX8_againstOnFloor_153 : decode cX8_againstOnFloor 153 = .ok (.invokestatic 49, 3) := by decide +kernel
theorem dX8_againstOnFloor_156 : decode cX8_againstOnFloor 156 = .ok (.ireturn, 1) := by decide +kernel
theorem dX8_againstOnFloor_157 : decode cX8_againstOnFloor 157 = .ok (.aload_n 0, 1) := by decide +kernel
theorem dX8_againstOnFloor_158 : decode cX8_againstOnFloor 158 = .ok (.getfield 34, 3) := by decide +kernel
theorem dX8_againstOnFloor_161 : decode cX8_againstOnFloor 161 = .ok (.getfield 53, 3) := by decide +kernel
theorem dX8_againstOnFloor_164 : decode cX8_againstOnFloor 164 = .ok (.iconst (-1), 1) := by decide +kernel
theorem dX8_againstOnFloor_165 : decode cX8_againstOnFloor 165 = .ok (.if_icmp .ne 7, 3) := by decide +kernel
theorem dX8_againstOnFloor_168 : decode cX8_againstOnFloor 168 = .ok (.iconst 2, 1) := by decide +kernel
theorem dX8_againstOnFloor_169 : decode cX8_againstOnFloor 169 = .ok (.goto 4, 3) := by decide +kernel
theorem dX8_againstOnFloor_172 : decode cX8_againstOnFloor 172 = .ok (.iconst 0, 1) := by decide +kernel
theorem dX8_againstOnFloor_173 : decode cX8_againstOnFloor 173 = .ok (.ireturn, 1) := by decide +kernel
theorem dX8_againstOnFloor_174 : decode cX8_againstOnFloor 174 = .ok (.aload_n 0, 1) := by decide +kernel
theorem dX8_againstOnFloor_175 : decode cX8_againstOnFloor 175 = .ok (.iload_n 2, 1) := by decide +kernel
theorem dX8_againstOnFloor_176 : decode cX8_againstOnFloor 176 = .ok (.invokestatic 59, 3) := by decide +kernel
theorem dX8_againstOnFloor_179 : decode cX8_againstOnFloor 179 = .ok (.ireturn, 1) := by decide +kernel
theorem dX8_againstOnFloor_180 : decode cX8_againstOnFloor 180 = .ok (.bipush 11, 2) := by decide +kernel
theorem dX8_againstOnFloor_182 : decode cX8_againstOnFloor 182 = .ok (.ireturn, 1) := by decide +kernel
set_option maxRecDepth 20000 in
theorem ggX8_againstOnPaper_X8_againstSpan : GoodIn wsX8_againstOnPaper wsX8_againstSpan := goodIn_r _ [4, 5, 6, 7, 8, 9, 10, 11, 12, 13, 14, 15, 16, 17, 18, 19, 20, 21, 22, 23, 24, 25, 26, 76, 77, 78, 79, 80, 81, 82, 83, 84, 85, 86, 87, 88, 89, 90, 91, 92, 93, 94, 95, 96, 97, 98, 99, 100, 101, 102, 103, 104, 105, 106] (by decide +kernel) (by decide +kernel)
set_option maxRecDepth 20000 in
theorem gX8_againstOnPaper_X8_againstSpan : GoodIn wsX8_againstOnPaper (va_wsS RX8 62 yX8_againstSpan wsX8_againstSpan) := goodIn_app (goodIn_of _ (by decide +kernel)) ggX8_againstOnPaper_X8_againstSpan
set_option maxRecDepth 20000 in
theorem ggX8_againstOnPaper_X8_againstWord : GoodIn wsX8_againstOnPaper wsX8_againstWord := goodIn_r _ [29, 5, 30, 6, 31, 32, 7, 8, 9, 10, 11, 12, 13, 14, 15, 16, 17, 18, 19, 20, 33, 34, 3, 35, 76, 77, 78, 79, 80, 81, 82, 83, 84, 85, 86, 87, 88, 89, 90, 91, 92, 93, 94, 95, 96, 97, 98, 99, 100, 101, 102, 107, 108, 103, 104, 105, 106] (by decide +kernel) (by decide +kernel)
set_option maxRecDepth 20000 in
theorem gX8_againstOnPaper_X8_againstWord : GoodIn wsX8_againstOnPaper (va_wsS RX8 66 yX8_againstWord wsX8_againstWord) := goodIn_app (goodIn_of _ (by decide +kernel)) ggX8_againstOnPaper_X8_againstWord
set_option maxRecDepth 20000 in
theorem ggX8_againstOnPaper_X8_againstLay : GoodIn wsX8_againstOnPaper wsX8_againstLay := goodIn_r _ [38, 5, 6, 39, 40, 31, 32, 41, 42, 43, 44, 45, 46, 47, 48, 49, 10, 50, 12, 7, 8, 9, 11, 13, 14, 15, 16, 17, 18, 19, 20, 21, 22, 23, 24, 25, 26, 51, 52, 53, 54, 55, 56, 57, 58, 59, 60, 61, 62, 63, 64, 65, 66, 67, 68, 69, 70, 71, 72, 76, 77, 78, 79, 80, 81, 82, 83, 84, 85, 86, 87, 88, 89, 90, 91, 92, 93, 94, 95, 96, 97, 98, 99, 100, 101, 102, 107, 108, 103, 104, 105, 106] (by decide +kernel) (by decide +kernel)
set_option maxRecDepth 20000 in
theorem gX8_againstOnPaper_X8_againstLay : GoodIn wsX8_againstOnPaper (va_wsS RX8 70 yX8_againstLay wsX8_againstLay) := goodIn_app (goodIn_of _ (by decide +kernel)) ggX8_againstOnPaper_X8_againstLay
set_option maxRecDepth 20000 in
theorem ggX8_againstOnPaper_X8_againstTake : GoodIn wsX8_againstOnPaper wsX8_againstTake := goodIn_r _ [75, 5, 41, 42, 43, 44, 45, 46, 47, 48, 49, 10, 50, 12, 76, 77, 78, 79, 80, 81, 82, 83, 84, 85, 86, 103, 104] (by decide +kernel) (by decide +kernel)
set_option maxRecDepth 20000 in
theorem gX8_againstOnPaper_X8_againstTake : GoodIn wsX8_againstOnPaper (va_wsS RX8 73 yX8_againstTake wsX8_againstTake) := goodIn_app (goodIn_of _ (by decide +kernel)) ggX8_againstOnPaper_X8_againstTake
theorem dX8_againstOnPaper_0 : decode cX8_againstOnPaper 0 = .ok (.iload_n 1, 1) := by decide +kernel
theorem dX8_againstOnPaper_1 : decode cX8_againstOnPaper 1 = .ok (.tableswitch 83 10 14 #[35, 53, 60, 71, 77], 35) := by decide +kernel
theorem dX8_againstOnPaper_36 : decode cX8_againstOnPaper 36 = .ok (.iload_n 2, 1) := by decide +kernel
theorem dX8_againstOnPaper_37 : decode cX8_againstOnPaper 37 = .ok (.iconst 1, 1) := by decide +kernel
theorem dX8_againstOnPaper_38 : decode cX8_againstOnPaper 38 = .ok (.if_icmp .lt 9, 3) := by decide +kernel
theorem dX8_againstOnPaper_41 : decode cX8_againstOnPaper 41 = .ok (.iload_n 2, 1) := by decide +kernel
theorem dX8_againstOnPaper_42 : decode cX8_againstOnPaper 42 = .ok (.bipush 8, 2) := by decide +kernel
theorem dX8_againstOnPaper_44 : decode cX8_againstOnPaper 44 = .ok (.if_icmp .le 8, 3) := by decide +kernel
theorem dX8_againstOnPaper_47 : decode cX8_againstOnPaper 47 = .ok (.bipush 9, 2) := by decide +kernel
theorem dX8_againstOnPaper_49 : decode cX8_againstOnPaper 49 = .ok (.goto 4, 3) := by decide +kernel
theorem dX8_againstOnPaper_52 : decode cX8_againstOnPaper 52 = .ok (.iconst 0, 1) := by decide +kernel
theorem dX8_againstOnPaper_53 : decode cX8_againstOnPaper 53 = .ok (.ireturn, 1) := by decide +kernel
theorem dX8_againstOnPaper_54 : decode cX8_againstOnPaper 54 = .ok (.aload_n 0, 1) := by decide +kernel
theorem dX8_againstOnPaper_55 : decode cX8_againstOnPaper 55 = .ok (.iload_n 2, 1) := by decide +kernel
theorem dX8_againstOnPaper_56 : decode cX8_againstOnPaper 56 = .ok (.iload_n 3, 1) := by decide +kernel
theorem dX8_againstOnPaper_57 : decode cX8_againstOnPaper 57 = .ok (.invokestatic 62, 3) := by decide +kernel
theorem dX8_againstOnPaper_60 : decode cX8_againstOnPaper 60 = .ok (.ireturn, 1) := by decide +kernel
theorem dX8_againstOnPaper_61 : decode cX8_againstOnPaper 61 = .ok (.aload_n 0, 1) := by decide +kernel
theorem dX8_againstOnPaper_62 : decode cX8_againstOnPaper 62 = .ok (.iload_n 2, 1) := by decide +kernel
theorem dX8_againstOnPaper_63 : decode cX8_againstOnPaper 63 = .ok (.iload_n 3, 1) := by decide +kernel
theorem dX8_againstOnPaper_64 : decode cX8_againstOnPaper 64 = .ok (.iload 4, 2) := by decide +kernel
theorem dX8_againstOnPaper_66 : decode cX8_againstOnPaper 66 = .ok (.iload 5, 2) := by decide +kernel
theorem dX8_againstOnPaper_68 : decode cX8_againstOnPaper 68 = .ok (.invokestatic 66, 3) := by decide +kernel
theorem dX8_againstOnPaper_71 : decode cX8_againstOnPaper 71 = .ok (.ireturn, 1) := by decide +kernel
theorem dX8_againstOnPaper_72 : decode cX8_againstOnPaper 72 = .ok (.aload_n 0, 1) := by decide +kernel
theorem dX8_againstOnPaper_73 : decode cX8_againstOnPaper 73 = .ok (.iload_n 2, 1) := by decide +kernel
theorem dX8_againstOnPaper_74 : decode cX8_againstOnPaper 74 = .ok (.invokestatic 70, 3) := by decide +kernel
theorem dX8_againstOnPaper_77 : decode cX8_againstOnPaper 77 = .ok (.ireturn, 1) := by decide +kernel
theorem dX8_againstOnPaper_78 : decode cX8_againstOnPaper 78 = .ok (.aload_n 0, 1) := by decide +kernel
theorem dX8_againstOnPaper_79 : decode cX8_againstOnPaper 79 = .ok (.iload_n 2, 1) := by decide +kernel
theorem dX8_againstOnPaper_80 : decode cX8_againstOnPaper 80 = .ok (.invokestatic 73, 3) := by decide +kernel
theorem dX8_againstOnPaper_83 : decode cX8_againstOnPaper 83 = .ok (.ireturn, 1) := by decide +kernel
theorem dX8_againstOnPaper_84 : decode cX8_againstOnPaper 84 = .ok (.bipush 11, 2) := by decide +kernel
theorem dX8_againstOnPaper_86 : decode cX8_againstOnPaper 86 = .ok (.ireturn, 1) := by decide +kernel
set_option maxRecDepth 20000 in
theorem ggX8_againstOnMotion_X8_againstMove : GoodIn wsX8_againstOnMotion wsX8_againstMove := goodIn_r _ [7, 8, 3, 1, 9, 10, 11, 12, 13, 14, 15, 16, 17, 18, 19, 20, 21, 22, 23, 24, 25, 26, 27, 28, 29, 30, 31, 32, 33, 34, 35, 6, 36, 37, 38, 39, 40, 41, 42, 43, 44, 45, 46, 47, 48, 49, 50, 51, 52, 53, 54, 55, 56, 57, 58, 59, 60, 61, 62, 63, 64, 65, 66, 67, 68, 69, 70, 71, 72, 73, 74, 75, 76, 77, 78, 79, 80, 81, 82, 83, 84, 85, 86, 87, 88, 89, 90, 91, 92, 93, 94, 95, 96, 97, 98, 99, 100, 101, 102, 103, 133, 134, 135, 136, 137, 138, 139, 140, 141, 142, 143, 152, 153, 154, 155, 156, 157, 158, 159, 160, 161, 162, 163, 164, 165, 166, 167, 168, 169, 170, 171, 144, 145, 146, 147, 148, 149, 150, 151, 172, 173] (by decide +kernel) (by decide +kernel)
set_option maxRecDepth 20000 in
theorem gX8_againstOnMotion_X8_againstMove : GoodIn wsX8_againstOnMotion (va_wsS RX8 76 yX8_againstMove wsX8_againstMove) := goodIn_app (goodIn_of _ (by decide +kernel)) ggX8_againstOnMotion_X8_againstMove
set_option maxRecDepth 20000 in
theorem ggX8_againstOnMotion_X2_isThere : GoodIn wsX8_againstOnMotion wsX2_isThere := goodIn_r _ [107, 108, 109, 144, 145, 146, 147, 148, 149, 150, 151] (by decide +kernel) (by decide +kernel)
set_option maxRecDepth 20000 in
theorem gX8_againstOnMotion_X2_isThere : GoodIn wsX8_againstOnMotion (wsV RX8 82 RX2 yX2_isThere wsX2_isThere) := goodIn_app (goodIn_of _ (by decide +kernel)) ggX8_againstOnMotion_X2_isThere
set_option maxRecDepth 20000 in
theorem ggX8_againstOnMotion_X5_top : GoodIn wsX8_againstOnMotion wsX5_top := goodIn_r _ [32, 27, 33, 23, 24, 25, 26, 28, 170, 171] (by decide +kernel) (by decide +kernel)
set_option maxRecDepth 20000 in
theorem gX8_againstOnMotion_X5_top : GoodIn wsX8_againstOnMotion (wsV RX8 90 RX5 yX5_top wsX5_top) := goodIn_app (goodIn_of _ (by decide +kernel)) ggX8_againstOnMotion_X5_top
set_option maxRecDepth 20000 in
theorem ggX8_againstOnMotion_X8_againstSecond : GoodIn wsX8_againstOnMotion wsX8_againstSecond := goodIn_r _ [112, 9, 10, 113, 2, 114, 115, 6, 116, 117, 118, 119, 59, 120, 108, 109, 104, 105, 106, 107, 152, 153, 154, 155, 156, 157, 158, 159, 160, 161, 162, 163, 164, 165, 166, 167, 144, 145, 146, 147, 148, 149, 150, 151] (by decide +kernel) (by decide +kernel)
set_option maxRecDepth 20000 in
theorem gX8_againstOnMotion_X8_againstSecond : GoodIn wsX8_againstOnMotion (va_wsS RX8 96 yX8_againstSecond wsX8_againstSecond) := goodIn_app (goodIn_of _ (by decide +kernel)) ggX8_againstOnMotion_X8_againstSecond
set_option maxRecDepth 20000 in
theorem ggX8_againstOnMotion_X8_againstVote : GoodIn wsX8_againstOnMotion wsX8_againstVote := goodIn_r _ [123, 9, 117, 118, 119, 59, 120, 108, 109, 104, 105, 106, 107, 152, 153, 154, 155, 156, 157, 158, 159, 160, 161, 162, 163, 164, 165, 166, 167, 144, 145, 146, 147, 148, 149, 150, 151] (by decide +kernel) (by decide +kernel)
set_option maxRecDepth 20000 in
theorem gX8_againstOnMotion_X8_againstVote : GoodIn wsX8_againstOnMotion (va_wsS RX8 100 yX8_againstVote wsX8_againstVote) := goodIn_app (goodIn_of _ (by decide +kernel)) ggX8_againstOnMotion_X8_againstVote
set_option maxRecDepth 20000 in
theorem ggX8_againstOnMotion_X8_againstWithdraw : GoodIn wsX8_againstOnMotion wsX8_againstWithdraw := goodIn_r _ [126, 113, 10, 104, 105, 106, 59, 107, 108, 109, 152, 153, 154, 155, 156, 157, 158, 159, 160, 161, 162, 163, 164, 165, 166, 167, 144, 145, 146, 147, 148, 149, 150, 151] (by decide +kernel) (by decide +kernel)
set_option maxRecDepth 20000 in
theorem gX8_againstOnMotion_X8_againstWithdraw : GoodIn wsX8_againstOnMotion (va_wsS RX8 104 yX8_againstWithdraw wsX8_againstWithdraw) := goodIn_app (goodIn_of _ (by decide +kernel)) ggX8_againstOnMotion_X8_againstWithdraw
set_option maxRecDepth 20000 in
theorem ggX8_againstOnMotion_X8_againstRule : GoodIn wsX8_againstOnMotion wsX8_againstRule := goodIn_r _ [129, 10, 3, 81, 152, 153, 154, 155, 156, 157, 158, 159, 160, 161, 162, 163, 164, 165, 166, 167, 133, 134, 135, 136, 137, 138, 139, 140, 141, 142, 143, 170, 171] (by decide +kernel) (by decide +kernel)
set_option maxRecDepth 20000 in
theorem gX8_againstOnMotion_X8_againstRule : GoodIn wsX8_againstOnMotion (va_wsS RX8 107 yX8_againstRule wsX8_againstRule) := goodIn_app (goodIn_of _ (by decide +kernel)) ggX8_againstOnMotion_X8_againstRule
set_option maxRecDepth 20000 in
theorem ggX8_againstOnMotion_X8_againstAppeal : GoodIn wsX8_againstOnMotion wsX8_againstAppeal := goodIn_r _ [132, 10, 9, 2, 114, 115, 6, 116, 117, 118, 119, 59, 120, 108, 109, 104, 105, 106, 107, 152, 153, 154, 155, 156, 157, 158, 159, 160, 161, 162, 163, 164, 165, 166, 167, 144, 145, 146, 147, 148, 149, 150, 151] (by decide +kernel) (by decide +kernel)
set_option maxRecDepth 20000 in
theorem gX8_againstOnMotion_X8_againstAppeal : GoodIn wsX8_againstOnMotion (va_wsS RX8 111 yX8_againstAppeal wsX8_againstAppeal) := goodIn_app (goodIn_of _ (by decide +kernel)) ggX8_againstOnMotion_X8_againstAppeal
theorem dX8_againstOnMotion_0 : decode cX8_againstOnMotion 0 = .ok (.iload_n 1, 1) := by decide +kernel
theorem dX8_againstOnMotion_1 : decode cX8_againstOnMotion 1 = .ok (.bipush 15, 2) := by decide +kernel
theorem dX8_againstOnMotion_3 : decode cX8_againstOnMotion 3 = .ok (.if_icmp .ne 9, 3) := by decide +kernel
theorem dX8_againstOnMotion_6 : decode cX8_againstOnMotion 6 = .ok (.aload_n 0, 1) := by decide +kernel
theorem dX8_againstOnMotion_7 : decode cX8_againstOnMotion 7 = .ok (.iload_n 2, 1) := by decide +kernel
theorem dX8_againstOnMotion_8 : decode cX8_againstOnMotion 8 = .ok (.invokestatic 76, 3) := by decide +kernel
theorem dX8_againstOnMotion_11 : decode cX8_againstOnMotion 11 = .ok (.ireturn, 1) := by decide +kernel
theorem dX8_againstOnMotion_12 : decode cX8_againstOnMotion 12 = .ok (.aload_n 0, 1) := by decide +kernel
theorem dX8_againstOnMotion_13 : decode cX8_againstOnMotion 13 = .ok (.getfield 34, 3) := by decide +kernel
theorem dX8_againstOnMotion_16 : decode cX8_againstOnMotion 16 = .ok (.aload_n 0, 1) := by decide +kernel
theorem dX8_againstOnMotion_17 : decode cX8_againstOnMotion 17 = .ok (.getfield 34, 3) := by decide +kernel
theorem dX8_againstOnMotion_20 : decode cX8_againstOnMotion 20 = .ok (.getfield 79, 3) := by decide +kernel
theorem dX8_againstOnMotion_23 : decode cX8_againstOnMotion 23 = .ok (.invokevirtual 82, 3) := by decide +kernel
theorem dX8_againstOnMotion_26 : decode cX8_againstOnMotion 26 = .ok (.istore 4, 2) := by decide +kernel
theorem dX8_againstOnMotion_28 : decode cX8_againstOnMotion 28 = .ok (.iload_n 1, 1) := by decide +kernel
theorem dX8_againstOnMotion_29 : decode cX8_againstOnMotion 29 = .ok (.bipush 22, 2) := by decide +kernel
theorem dX8_againstOnMotion_31 : decode cX8_againstOnMotion 31 = .ok (.if_icmp .ne 15, 3) := by decide +kernel
theorem dX8_againstOnMotion_34 : decode cX8_againstOnMotion 34 = .ok (.iload 4, 2) := by decide +kernel
theorem dX8_againstOnMotion_36 : decode cX8_againstOnMotion 36 = .ok (.ifCond .eq 7, 3) := by decide +kernel
theorem dX8_againstOnMotion_39 : decode cX8_againstOnMotion 39 = .ok (.iconst 0, 1) := by decide +kernel
theorem dX8_againstOnMotion_40 : decode cX8_againstOnMotion 40 = .ok (.goto 5, 3) := by decide +kernel
theorem dX8_againstOnMotion_43 : decode cX8_againstOnMotion 43 = .ok (.bipush 8, 2) := by decide +kernel
theorem dX8_againstOnMotion_45 : decode cX8_againstOnMotion 45 = .ok (.ireturn, 1) := by decide +kernel
theorem dX8_againstOnMotion_46 : decode cX8_againstOnMotion 46 = .ok (.iload_n 1, 1) := by decide +kernel
theorem dX8_againstOnMotion_47 : decode cX8_againstOnMotion 47 = .ok (.bipush 19, 2) := by decide +kernel
theorem dX8_againstOnMotion_49 : decode cX8_againstOnMotion 49 = .ok (.if_icmp .eq 9, 3) := by decide +kernel
theorem dX8_againstOnMotion_52 : decode cX8_againstOnMotion 52 = .ok (.iload_n 1, 1) := by decide +kernel
theorem dX8_againstOnMotion_53 : decode cX8_againstOnMotion 53 = .ok (.bipush 21, 2) := by decide +kernel
theorem dX8_againstOnMotion_55 : decode cX8_againstOnMotion 55 = .ok (.if_icmp .ne 11, 3) := by decide +kernel
theorem dX8_againstOnMotion_58 : decode cX8_againstOnMotion 58 = .ok (.iload 4, 2) := by decide +kernel
theorem dX8_againstOnMotion_60 : decode cX8_againstOnMotion 60 = .ok (.ifCond .ne 6, 3) := by decide +kernel
theorem dX8_againstOnMotion_63 : decode cX8_againstOnMotion 63 = .ok (.bipush 8, 2) := by decide +kernel
theorem dX8_againstOnMotion_65 : decode cX8_againstOnMotion 65 = .ok (.ireturn, 1) := by decide +kernel
theorem dX8_againstOnMotion_66 : decode cX8_againstOnMotion 66 = .ok (.aload_n 0, 1) := by decide +kernel
theorem dX8_againstOnMotion_67 : decode cX8_againstOnMotion 67 = .ok (.getfield 86, 3) := by decide +kernel
theorem dX8_againstOnMotion_70 : decode cX8_againstOnMotion 70 = .ok (.invokevirtual 90, 3) := by decide +kernel
theorem dX8_againstOnMotion_73 : decode cX8_againstOnMotion 73 = .ok (.astore 5, 2) := by decide +kernel
theorem dX8_againstOnMotion_75 : decode cX8_againstOnMotion 75 = .ok (.aload 5, 2) := by decide +kernel
theorem dX8_againstOnMotion_77 : decode cX8_againstOnMotion 77 = .ok (.ifnonnull 6, 3) := by decide +kernel
theorem dX8_againstOnMotion_80 : decode cX8_againstOnMotion 80 = .ok (.bipush 7, 2) := by decide +kernel
theorem dX8_againstOnMotion_82 : decode cX8_againstOnMotion 82 = .ok (.ireturn, 1) := by decide +kernel
theorem dX8_againstOnMotion_83 : decode cX8_againstOnMotion 83 = .ok (.iload_n 1, 1) := by decide +kernel
theorem dX8_againstOnMotion_84 : decode cX8_againstOnMotion 84 = .ok (.tableswitch 94 16 21 #[40, 51, 63, 74, 81, 92], 40) := by decide +kernel
theorem dX8_againstOnMotion_124 : decode cX8_againstOnMotion 124 = .ok (.aload_n 0, 1) := by decide +kernel
theorem dX8_againstOnMotion_125 : decode cX8_againstOnMotion 125 = .ok (.getfield 34, 3) := by decide +kernel
theorem dX8_againstOnMotion_128 : decode cX8_againstOnMotion 128 = .ok (.aload 5, 2) := by decide +kernel
theorem dX8_againstOnMotion_130 : decode cX8_againstOnMotion 130 = .ok (.iload_n 2, 1) := by decide +kernel
theorem dX8_againstOnMotion_131 : decode cX8_againstOnMotion 131 = .ok (.invokestatic 96, 3) := by decide +kernel
theorem dX8_againstOnMotion_134 : decode cX8_againstOnMotion 134 = .ok (.ireturn, 1) := by decide +kernel
theorem dX8_againstOnMotion_135 : decode cX8_againstOnMotion 135 = .ok (.aload_n 0, 1) := by decide +kernel
theorem dX8_againstOnMotion_136 : decode cX8_againstOnMotion 136 = .ok (.getfield 34, 3) := by decide +kernel
theorem dX8_againstOnMotion_139 : decode cX8_againstOnMotion 139 = .ok (.aload 5, 2) := by decide +kernel
theorem dX8_againstOnMotion_141 : decode cX8_againstOnMotion 141 = .ok (.iload_n 2, 1) := by decide +kernel
theorem dX8_againstOnMotion_142 : decode cX8_againstOnMotion 142 = .ok (.iload_n 3, 1) := by decide +kernel
theorem dX8_againstOnMotion_143 : decode cX8_againstOnMotion 143 = .ok (.invokestatic 100, 3) := by decide +kernel
theorem dX8_againstOnMotion_146 : decode cX8_againstOnMotion 146 = .ok (.ireturn, 1) := by decide +kernel
theorem dX8_againstOnMotion_147 : decode cX8_againstOnMotion 147 = .ok (.aload_n 0, 1) := by decide +kernel
theorem dX8_againstOnMotion_148 : decode cX8_againstOnMotion 148 = .ok (.getfield 34, 3) := by decide +kernel
theorem dX8_againstOnMotion_151 : decode cX8_againstOnMotion 151 = .ok (.aload 5, 2) := by decide +kernel
theorem dX8_againstOnMotion_153 : decode cX8_againstOnMotion 153 = .ok (.iload_n 2, 1) := by decide +kernel
theorem dX8_againstOnMotion_154 : decode cX8_againstOnMotion 154 = .ok (.invokestatic 104, 3) := by decide +kernel
theorem dX8_againstOnMotion_157 : decode cX8_againstOnMotion 157 = .ok (.ireturn, 1) := by decide +kernel
theorem dX8_againstOnMotion_158 : decode cX8_againstOnMotion 158 = .ok (.aload_n 0, 1) := by decide +kernel
theorem dX8_againstOnMotion_159 : decode cX8_againstOnMotion 159 = .ok (.aload 5, 2) := by decide +kernel
theorem dX8_againstOnMotion_161 : decode cX8_againstOnMotion 161 = .ok (.invokestatic 107, 3) := by decide +kernel
theorem dX8_againstOnMotion_164 : decode cX8_againstOnMotion 164 = .ok (.ireturn, 1) := by decide +kernel
theorem dX8_againstOnMotion_165 : decode cX8_againstOnMotion 165 = .ok (.aload_n 0, 1) := by decide +kernel
theorem dX8_againstOnMotion_166 : decode cX8_againstOnMotion 166 = .ok (.getfield 34, 3) := by decide +kernel
theorem dX8_againstOnMotion_169 : decode cX8_againstOnMotion 169 = .ok (.aload 5, 2) := by decide +kernel
theorem dX8_againstOnMotion_171 : decode cX8_againstOnMotion 171 = .ok (.iload_n 2, 1) := by decide +kernel
theorem dX8_againstOnMotion_172 : decode cX8_againstOnMotion 172 = .ok (.invokestatic 111, 3) := by decide +kernel
theorem dX8_againstOnMotion_175 : decode cX8_againstOnMotion 175 = .ok (.ireturn, 1) := by decide +kernel
theorem dX8_againstOnMotion_176 : decode cX8_againstOnMotion 176 = .ok (.iconst 0, 1) := by decide +kernel
theorem dX8_againstOnMotion_177 : decode cX8_againstOnMotion 177 = .ok (.ireturn, 1) := by decide +kernel
theorem dX8_againstOnMotion_178 : decode cX8_againstOnMotion 178 = .ok (.bipush 11, 2) := by decide +kernel
theorem dX8_againstOnMotion_180 : decode cX8_againstOnMotion 180 = .ok (.ireturn, 1) := by decide +kernel
set_option maxRecDepth 20000 in
theorem ggX8_againstThere_X2_has : GoodIn wsX8_againstThere wsX2_has := goodIn_r _ [5, 6, 7, 12, 13, 14, 15, 16, 17, 18, 19] (by decide +kernel) (by decide +kernel)
set_option maxRecDepth 20000 in
theorem gX8_againstThere_X2_has : GoodIn wsX8_againstThere (wsV RX8 114 RX2 yX2_has wsX2_has) := goodIn_app (goodIn_of _ (by decide +kernel)) ggX8_againstThere_X2_has
set_option maxRecDepth 20000 in
theorem ggX8_againstThere_X2_isThere : GoodIn wsX8_againstThere wsX2_isThere := goodIn_r _ [11, 6, 7, 12, 13, 14, 15, 16, 17, 18, 19] (by decide +kernel) (by decide +kernel)
set_option maxRecDepth 20000 in
theorem gX8_againstThere_X2_isThere : GoodIn wsX8_againstThere (wsV RX8 82 RX2 yX2_isThere wsX2_isThere) := goodIn_app (goodIn_of _ (by decide +kernel)) ggX8_againstThere_X2_isThere
theorem dX8_againstThere_0 : decode cX8_againstThere 0 = .ok (.aload_n 0, 1) := by decide +kernel
theorem dX8_againstThere_1 : decode cX8_againstThere 1 = .ok (.iload_n 1, 1) := by decide +kernel
theorem dX8_againstThere_2 : decode cX8_againstThere 2 = .ok (.invokevirtual 114, 3) := by decide +kernel
theorem dX8_againstThere_5 : decode cX8_againstThere 5 = .ok (.ifCond .ne 6, 3) := by decide +kernel
theorem dX8_againstThere_8 : decode cX8_againstThere 8 = .ok (.bipush 9, 2) := by decide +kernel
theorem dX8_againstThere_10 : decode cX8_againstThere 10 = .ok (.ireturn, 1) := by decide +kernel
theorem dX8_againstThere_11 : decode cX8_againstThere 11 = .ok (.aload_n 0, 1) := by decide +kernel
theorem dX8_againstThere_12 : decode cX8_againstThere 12 = .ok (.iload_n 1, 1) := by decide +kernel
theorem dX8_againstThere_13 : decode cX8_againstThere 13 = .ok (.invokevirtual 82, 3) := by decide +kernel
theorem dX8_againstThere_16 : decode cX8_againstThere 16 = .ok (.ifCond .eq 8, 3) := by decide +kernel
theorem dX8_againstThere_19 : decode cX8_againstThere 19 = .ok (.bipush 11, 2) := by decide +kernel
theorem dX8_againstThere_21 : decode cX8_againstThere 21 = .ok (.goto 4, 3) := by decide +kernel
theorem dX8_againstThere_24 : decode cX8_againstThere 24 = .ok (.iconst 0, 1) := by decide +kernel
theorem dX8_againstThere_25 : decode cX8_againstThere 25 = .ok (.ireturn, 1) := by decide +kernel
set_option maxRecDepth 20000 in
theorem ggX8_againstAbsent_X2_has : GoodIn wsX8_againstAbsent wsX2_has := goodIn_r _ [5, 6, 7, 12, 13, 14, 15, 16, 17, 18, 19] (by decide +kernel) (by decide +kernel)
set_option maxRecDepth 20000 in
theorem gX8_againstAbsent_X2_has : GoodIn wsX8_againstAbsent (wsV RX8 114 RX2 yX2_has wsX2_has) := goodIn_app (goodIn_of _ (by decide +kernel)) ggX8_againstAbsent_X2_has
set_option maxRecDepth 20000 in
theorem ggX8_againstAbsent_X2_isThere : GoodIn wsX8_againstAbsent wsX2_isThere := goodIn_r _ [11, 6, 7, 12, 13, 14, 15, 16, 17, 18, 19] (by decide +kernel) (by decide +kernel)
set_option maxRecDepth 20000 in
theorem gX8_againstAbsent_X2_isThere : GoodIn wsX8_againstAbsent (wsV RX8 82 RX2 yX2_isThere wsX2_isThere) := goodIn_app (goodIn_of _ (by decide +kernel)) ggX8_againstAbsent_X2_isThere
theorem dX8_againstAbsent_0 : decode cX8_againstAbsent 0 = .ok (.aload_n 0, 1) := by decide +kernel
theorem dX8_againstAbsent_1 : decode cX8_againstAbsent 1 = .ok (.iload_n 1, 1) := by decide +kernel
theorem dX8_againstAbsent_2 : decode cX8_againstAbsent 2 = .ok (.invokevirtual 114, 3) := by decide +kernel
theorem dX8_againstAbsent_5 : decode cX8_againstAbsent 5 = .ok (.ifCond .ne 6, 3) := by decide +kernel
theorem dX8_againstAbsent_8 : decode cX8_againstAbsent 8 = .ok (.bipush 9, 2) := by decide +kernel
theorem dX8_againstAbsent_10 : decode cX8_againstAbsent 10 = .ok (.ireturn, 1) := by decide +kernel
theorem dX8_againstAbsent_11 : decode cX8_againstAbsent 11 = .ok (.aload_n 0, 1) := by decide +kernel
theorem dX8_againstAbsent_12 : decode cX8_againstAbsent 12 = .ok (.iload_n 1, 1) := by decide +kernel
theorem dX8_againstAbsent_13 : decode cX8_againstAbsent 13 = .ok (.invokevirtual 82, 3) := by decide +kernel
theorem dX8_againstAbsent_16 : decode cX8_againstAbsent 16 = .ok (.ifCond .eq 7, 3) := by decide +kernel
theorem dX8_againstAbsent_19 : decode cX8_againstAbsent 19 = .ok (.iconst 0, 1) := by decide +kernel
theorem dX8_againstAbsent_20 : decode cX8_againstAbsent 20 = .ok (.goto 5, 3) := by decide +kernel
theorem dX8_againstAbsent_23 : decode cX8_againstAbsent 23 = .ok (.bipush 8, 2) := by decide +kernel
theorem dX8_againstAbsent_25 : decode cX8_againstAbsent 25 = .ok (.ireturn, 1) := by decide +kernel
theorem dX8_againstSetting_0 : decode cX8_againstSetting 0 = .ok (.iload_n 1, 1) := by decide +kernel
theorem dX8_againstSetting_1 : decode cX8_againstSetting 1 = .ok (.ifCond .ne 6, 3) := by decide +kernel
theorem dX8_againstSetting_4 : decode cX8_againstSetting 4 = .ok (.bipush 9, 2) := by decide +kernel
theorem dX8_againstSetting_6 : decode cX8_againstSetting 6 = .ok (.ireturn, 1) := by decide +kernel
theorem dX8_againstSetting_7 : decode cX8_againstSetting 7 = .ok (.aload_n 0, 1) := by decide +kernel
theorem dX8_againstSetting_8 : decode cX8_againstSetting 8 = .ok (.getfield 86, 3) := by decide +kernel
theorem dX8_againstSetting_11 : decode cX8_againstSetting 11 = .ok (.getfield 117, 3) := by decide +kernel
theorem dX8_againstSetting_14 : decode cX8_againstSetting 14 = .ok (.ifCond .le 8, 3) := by decide +kernel
theorem dX8_againstSetting_17 : decode cX8_againstSetting 17 = .ok (.bipush 11, 2) := by decide +kernel
theorem dX8_againstSetting_19 : decode cX8_againstSetting 19 = .ok (.goto 4, 3) := by decide +kernel
theorem dX8_againstSetting_22 : decode cX8_againstSetting 22 = .ok (.iconst 0, 1) := by decide +kernel
theorem dX8_againstSetting_23 : decode cX8_againstSetting 23 = .ok (.ireturn, 1) := by decide +kernel
set_option maxRecDepth 20000 in
theorem ggX8_againstFloor_X8_againstAbsent : GoodIn wsX8_againstFloor wsX8_againstAbsent := goodIn_r _ [12, 13, 14, 15, 16, 17, 18, 19, 20, 21, 22, 23, 46, 47, 48, 49, 50, 51, 52, 53] (by decide +kernel) (by decide +kernel)
set_option maxRecDepth 20000 in
theorem gX8_againstFloor_X8_againstAbsent : GoodIn wsX8_againstFloor (va_wsS RX8 42 yX8_againstAbsent wsX8_againstAbsent) := goodIn_app (goodIn_of _ (by decide +kernel)) ggX8_againstFloor_X8_againstAbsent
set_option maxRecDepth 20000 in
theorem ggX8_againstFloor_X5_top : GoodIn wsX8_againstFloor wsX5_top := goodIn_r _ [28, 29, 30, 31, 32, 27, 33, 34, 70, 71] (by decide +kernel) (by decide +kernel)
set_option maxRecDepth 20000 in
theorem gX8_againstFloor_X5_top : GoodIn wsX8_againstFloor (wsV RX8 90 RX5 yX5_top wsX5_top) := goodIn_app (goodIn_of _ (by decide +kernel)) ggX8_againstFloor_X5_top
theorem dX8_againstFloor_0 : decode cX8_againstFloor 0 = .ok (.aload_n 0, 1) := by decide +kernel
theorem dX8_againstFloor_1 : decode cX8_againstFloor 1 = .ok (.getfield 34, 3) := by decide +kernel
theorem dX8_againstFloor_4 : decode cX8_againstFloor 4 = .ok (.iload_n 1, 1) := by decide +kernel
theorem dX8_againstFloor_5 : decode cX8_againstFloor 5 = .ok (.invokestatic 42, 3) := by decide +kernel
theorem dX8_againstFloor_8 : decode cX8_againstFloor 8 = .ok (.istore_n 2, 1) := by decide +kernel
theorem dX8_againstFloor_9 : decode cX8_againstFloor 9 = .ok (.iload_n 2, 1) := by decide +kernel
theorem dX8_againstFloor_10 : decode cX8_againstFloor 10 = .ok (.ifCond .eq 5, 3) := by decide +kernel
theorem dX8_againstFloor_13 : decode cX8_againstFloor 13 = .ok (.iload_n 2, 1) := by decide +kernel
theorem dX8_againstFloor_14 : decode cX8_againstFloor 14 = .ok (.ireturn, 1) := by decide +kernel
theorem dX8_againstFloor_15 : decode cX8_againstFloor 15 = .ok (.iload_n 1, 1) := by decide +kernel
theorem dX8_againstFloor_16 : decode cX8_againstFloor 16 = .ok (.aload_n 0, 1) := by decide +kernel
theorem dX8_againstFloor_17 : decode cX8_againstFloor 17 = .ok (.getfield 34, 3) := by decide +kernel
theorem dX8_againstFloor_20 : decode cX8_againstFloor 20 = .ok (.getfield 79, 3) := by decide +kernel
theorem dX8_againstFloor_23 : decode cX8_againstFloor 23 = .ok (.if_icmp .eq 14, 3) := by decide +kernel
theorem dX8_againstFloor_26 : decode cX8_againstFloor 26 = .ok (.aload_n 0, 1) := by decide +kernel
theorem dX8_againstFloor_27 : decode cX8_againstFloor 27 = .ok (.getfield 34, 3) := by decide +kernel
theorem dX8_againstFloor_30 : decode cX8_againstFloor 30 = .ok (.getfield 53, 3) := by decide +kernel
theorem dX8_againstFloor_33 : decode cX8_againstFloor 33 = .ok (.iconst (-1), 1) := by decide +kernel
theorem dX8_againstFloor_34 : decode cX8_againstFloor 34 = .ok (.if_icmp .eq 5, 3) := by decide +kernel
theorem dX8_againstFloor_37 : decode cX8_againstFloor 37 = .ok (.iconst 2, 1) := by decide +kernel
theorem dX8_againstFloor_38 : decode cX8_againstFloor 38 = .ok (.ireturn, 1) := by decide +kernel
theorem dX8_againstFloor_39 : decode cX8_againstFloor 39 = .ok (.aload_n 0, 1) := by decide +kernel
theorem dX8_againstFloor_40 : decode cX8_againstFloor 40 = .ok (.getfield 86, 3) := by decide +kernel
theorem dX8_againstFloor_43 : decode cX8_againstFloor 43 = .ok (.invokevirtual 90, 3) := by decide +kernel
theorem dX8_againstFloor_46 : decode cX8_againstFloor 46 = .ok (.astore_n 3, 1) := by decide +kernel
theorem dX8_againstFloor_47 : decode cX8_againstFloor 47 = .ok (.aload_n 3, 1) := by decide +kernel
theorem dX8_againstFloor_48 : decode cX8_againstFloor 48 = .ok (.ifnonnull 5, 3) := by decide +kernel
theorem dX8_againstFloor_51 : decode cX8_againstFloor 51 = .ok (.iconst 0, 1) := by decide +kernel
theorem dX8_againstFloor_52 : decode cX8_againstFloor 52 = .ok (.ireturn, 1) := by decide +kernel
theorem dX8_againstFloor_53 : decode cX8_againstFloor 53 = .ok (.aload_n 0, 1) := by decide +kernel
theorem dX8_againstFloor_54 : decode cX8_againstFloor 54 = .ok (.getfield 34, 3) := by decide +kernel
theorem dX8_againstFloor_57 : decode cX8_againstFloor 57 = .ok (.getfield 120, 3) := by decide +kernel
theorem dX8_againstFloor_60 : decode cX8_againstFloor 60 = .ok (.ifCond .eq 21, 3) := by decide +kernel
theorem dX8_againstFloor_63 : decode cX8_againstFloor 63 = .ok (.aload_n 3, 1) := by decide +kernel
theorem dX8_againstFloor_64 : decode cX8_againstFloor 64 = .ok (.getfield 123, 3) := by decide +kernel
theorem dX8_againstFloor_67 : decode cX8_againstFloor 67 = .ok (.aload_n 0, 1) := by decide +kernel
theorem dX8_againstFloor_68 : decode cX8_againstFloor 68 = .ok (.getfield 34, 3) := by decide +kernel
theorem dX8_againstFloor_71 : decode cX8_againstFloor 71 = .ok (.getfield 120, 3) := by decide +kernel
theorem dX8_againstFloor_74 : decode cX8_againstFloor 74 = .ok (.if_icmp .lt 7, 3) := by decide +kernel
theorem dX8_againstFloor_77 : decode cX8_againstFloor 77 = .ok (.iconst 1, 1) := by decide +kernel
theorem dX8_againstFloor_78 : decode cX8_againstFloor 78 = .ok (.goto 4, 3) := by decide +kernel
theorem dX8_againstFloor_81 : decode cX8_againstFloor 81 = .ok (.iconst 0, 1) := by decide +kernel
theorem dX8_againstFloor_82 : decode cX8_againstFloor 82 = .ok (.istore 4, 2) := by decide +kernel
theorem dX8_againstFloor_84 : decode cX8_againstFloor 84 = .ok (.aload_n 3, 1) := by decide +kernel
theorem dX8_againstFloor_85 : decode cX8_againstFloor 85 = .ok (.getfield 128, 3) := by decide +kernel
theorem dX8_againstFloor_88 : decode cX8_againstFloor 88 = .ok (.bipush 6, 2) := by decide +kernel
theorem dX8_againstFloor_90 : decode cX8_againstFloor 90 = .ok (.if_icmp .eq 15, 3) := by decide +kernel
theorem dX8_againstFloor_93 : decode cX8_againstFloor 93 = .ok (.aload_n 3, 1) := by decide +kernel
theorem dX8_againstFloor_94 : decode cX8_againstFloor 94 = .ok (.getfield 131, 3) := by decide +kernel
theorem dX8_againstFloor_97 : decode cX8_againstFloor 97 = .ok (.ifCond .ne 8, 3) := by decide +kernel
theorem dX8_againstFloor_100 : decode cX8_againstFloor 100 = .ok (.iload 4, 2) := by decide +kernel
theorem dX8_againstFloor_102 : decode cX8_againstFloor 102 = .ok (.ifCond .eq 8, 3) := by decide +kernel
theorem dX8_againstFloor_105 : decode cX8_againstFloor 105 = .ok (.bipush 6, 2) := by decide +kernel
theorem dX8_againstFloor_107 : decode cX8_againstFloor 107 = .ok (.goto 4, 3) := by decide +kernel
theorem dX8_againstFloor_110 : decode cX8_againstFloor 110 = .ok (.iconst 0, 1) := by decide +kernel
theorem dX8_againstFloor_111 : decode cX8_againstFloor 111 = .ok (.ireturn, 1) := by decide +kernel
set_option maxRecDepth 20000 in
theorem ggX8_againstDebate_X5_top : GoodIn wsX8_againstDebate wsX5_top := goodIn_r _ [9, 10, 11, 12, 13, 8, 14, 15, 49, 50] (by decide +kernel) (by decide +kernel)
set_option maxRecDepth 20000 in
theorem gX8_againstDebate_X5_top : GoodIn wsX8_againstDebate (wsV RX8 90 RX5 yX5_top wsX5_top) := goodIn_app (goodIn_of _ (by decide +kernel)) ggX8_againstDebate_X5_top
set_option maxRecDepth 20000 in
theorem ggX8_againstDebate_X2_hasFloor : GoodIn wsX8_againstDebate wsX2_hasFloor := goodIn_r _ [20, 21, 51, 52, 53, 54, 55, 56, 57, 58] (by decide +kernel) (by decide +kernel)
set_option maxRecDepth 20000 in
theorem gX8_againstDebate_X2_hasFloor : GoodIn wsX8_againstDebate (wsV RX8 135 RX2 yX2_hasFloor wsX2_hasFloor) := goodIn_app (goodIn_of _ (by decide +kernel)) ggX8_againstDebate_X2_hasFloor
theorem dX8_againstDebate_0 : decode cX8_againstDebate 0 = .ok (.aload_n 0, 1) := by decide +kernel
theorem dX8_againstDebate_1 : decode cX8_againstDebate 1 = .ok (.getfield 86, 3) := by decide +kernel
theorem dX8_againstDebate_4 : decode cX8_againstDebate 4 = .ok (.invokevirtual 90, 3) := by decide +kernel
theorem dX8_againstDebate_7 : decode cX8_againstDebate 7 = .ok (.astore_n 2, 1) := by decide +kernel
theorem dX8_againstDebate_8 : decode cX8_againstDebate 8 = .ok (.aload_n 2, 1) := by decide +kernel
theorem dX8_againstDebate_9 : decode cX8_againstDebate 9 = .ok (.ifnonnull 6, 3) := by decide +kernel
theorem dX8_againstDebate_12 : decode cX8_againstDebate 12 = .ok (.bipush 7, 2) := by decide +kernel
theorem dX8_againstDebate_14 : decode cX8_againstDebate 14 = .ok (.ireturn, 1) := by decide +kernel
theorem dX8_againstDebate_15 : decode cX8_againstDebate 15 = .ok (.aload_n 0, 1) := by decide +kernel
theorem dX8_againstDebate_16 : decode cX8_againstDebate 16 = .ok (.getfield 34, 3) := by decide +kernel
theorem dX8_againstDebate_19 : decode cX8_againstDebate 19 = .ok (.iload_n 1, 1) := by decide +kernel
theorem dX8_againstDebate_20 : decode cX8_againstDebate 20 = .ok (.invokevirtual 135, 3) := by decide +kernel
theorem dX8_againstDebate_23 : decode cX8_againstDebate 23 = .ok (.ifCond .ne 5, 3) := by decide +kernel
theorem dX8_againstDebate_26 : decode cX8_againstDebate 26 = .ok (.iconst 2, 1) := by decide +kernel
theorem dX8_againstDebate_27 : decode cX8_againstDebate 27 = .ok (.ireturn, 1) := by decide +kernel
theorem dX8_againstDebate_28 : decode cX8_againstDebate 28 = .ok (.aload_n 2, 1) := by decide +kernel
theorem dX8_againstDebate_29 : decode cX8_againstDebate 29 = .ok (.getfield 138, 3) := by decide +kernel
theorem dX8_againstDebate_32 : decode cX8_againstDebate 32 = .ok (.iconst (-1), 1) := by decide +kernel
theorem dX8_againstDebate_33 : decode cX8_againstDebate 33 = .ok (.if_icmp .ne 5, 3) := by decide +kernel
theorem dX8_againstDebate_36 : decode cX8_againstDebate 36 = .ok (.iconst 3, 1) := by decide +kernel
theorem dX8_againstDebate_37 : decode cX8_againstDebate 37 = .ok (.ireturn, 1) := by decide +kernel
theorem dX8_againstDebate_38 : decode cX8_againstDebate 38 = .ok (.aload_n 2, 1) := by decide +kernel
theorem dX8_againstDebate_39 : decode cX8_againstDebate 39 = .ok (.getfield 128, 3) := by decide +kernel
theorem dX8_againstDebate_42 : decode cX8_againstDebate 42 = .ok (.bipush 6, 2) := by decide +kernel
theorem dX8_againstDebate_44 : decode cX8_againstDebate 44 = .ok (.if_icmp .eq 21, 3) := by decide +kernel
theorem dX8_againstDebate_47 : decode cX8_againstDebate 47 = .ok (.aload_n 2, 1) := by decide +kernel
theorem dX8_againstDebate_48 : decode cX8_againstDebate 48 = .ok (.getfield 128, 3) := by decide +kernel
theorem dX8_againstDebate_51 : decode cX8_againstDebate 51 = .ok (.bipush 7, 2) := by decide +kernel
theorem dX8_againstDebate_53 : decode cX8_againstDebate 53 = .ok (.if_icmp .eq 12, 3) := by decide +kernel
theorem dX8_againstDebate_56 : decode cX8_againstDebate 56 = .ok (.aload_n 2, 1) := by decide +kernel
theorem dX8_againstDebate_57 : decode cX8_againstDebate 57 = .ok (.getfield 128, 3) := by decide +kernel
theorem dX8_againstDebate_60 : decode cX8_againstDebate 60 = .ok (.bipush 8, 2) := by decide +kernel
theorem dX8_againstDebate_62 : decode cX8_againstDebate 62 = .ok (.if_icmp .ne 8, 3) := by decide +kernel
theorem dX8_againstDebate_65 : decode cX8_againstDebate 65 = .ok (.bipush 6, 2) := by decide +kernel
theorem dX8_againstDebate_67 : decode cX8_againstDebate 67 = .ok (.goto 4, 3) := by decide +kernel
theorem dX8_againstDebate_70 : decode cX8_againstDebate 70 = .ok (.iconst 0, 1) := by decide +kernel
theorem dX8_againstDebate_71 : decode cX8_againstDebate 71 = .ok (.ireturn, 1) := by decide +kernel
set_option maxRecDepth 20000 in
theorem ggX8_againstSpan_X6_motion : GoodIn wsX8_againstSpan wsX6_motion := goodIn_r _ [7, 8, 9, 10, 11, 12, 13, 14, 15, 16, 50, 51, 52, 53] (by decide +kernel) (by decide +kernel)
set_option maxRecDepth 20000 in
theorem gX8_againstSpan_X6_motion : GoodIn wsX8_againstSpan (wsV RX8 145 RX6 yX6_motion wsX6_motion) := goodIn_app (goodIn_of _ (by decide +kernel)) ggX8_againstSpan_X6_motion
set_option maxRecDepth 20000 in
theorem ggX8_againstSpan_X4_amends : GoodIn wsX8_againstSpan wsX4_amends := goodIn_r _ [21, 22, 34, 35, 36, 37, 38, 39, 40, 41, 42, 43, 44, 45, 46, 47, 48, 49] (by decide +kernel) (by decide +kernel)
set_option maxRecDepth 20000 in
theorem gX8_againstSpan_X4_amends : GoodIn wsX8_againstSpan (wsV RX8 150 RX4 yX4_amends wsX4_amends) := goodIn_app (goodIn_of _ (by decide +kernel)) ggX8_againstSpan_X4_amends
theorem dX8_againstSpan_0 : decode cX8_againstSpan 0 = .ok (.aload_n 0, 1) := by decide +kernel
theorem dX8_againstSpan_1 : decode cX8_againstSpan 1 = .ok (.getfield 141, 3) := by decide +kernel
theorem dX8_againstSpan_4 : decode cX8_againstSpan 4 = .ok (.invokevirtual 145, 3) := by decide +kernel
theorem dX8_againstSpan_7 : decode cX8_againstSpan 7 = .ok (.astore_n 3, 1) := by decide +kernel
theorem dX8_againstSpan_8 : decode cX8_againstSpan 8 = .ok (.aload_n 3, 1) := by decide +kernel
theorem dX8_againstSpan_9 : decode cX8_againstSpan 9 = .ok (.ifnull 17, 3) := by decide +kernel
theorem dX8_againstSpan_12 : decode cX8_againstSpan 12 = .ok (.aload_n 3, 1) := by decide +kernel
theorem dX8_againstSpan_13 : decode cX8_againstSpan 13 = .ok (.invokevirtual 150, 3) := by decide +kernel
theorem dX8_againstSpan_16 : decode cX8_againstSpan 16 = .ok (.ifCond .eq 10, 3) := by decide +kernel
theorem dX8_againstSpan_19 : decode cX8_againstSpan 19 = .ok (.aload_n 3, 1) := by decide +kernel
theorem dX8_againstSpan_20 : decode cX8_againstSpan 20 = .ok (.getfield 153, 3) := by decide +kernel
theorem dX8_againstSpan_23 : decode cX8_againstSpan 23 = .ok (.ifCond .eq 6, 3) := by decide +kernel
theorem dX8_againstSpan_26 : decode cX8_againstSpan 26 = .ok (.bipush 11, 2) := by decide +kernel
theorem dX8_againstSpan_28 : decode cX8_againstSpan 28 = .ok (.ireturn, 1) := by decide +kernel
theorem dX8_againstSpan_29 : decode cX8_againstSpan 29 = .ok (.iload_n 1, 1) := by decide +kernel
theorem dX8_againstSpan_30 : decode cX8_againstSpan 30 = .ok (.ifCond .lt 15, 3) := by decide +kernel
theorem dX8_againstSpan_33 : decode cX8_againstSpan 33 = .ok (.iload_n 2, 1) := by decide +kernel
theorem dX8_againstSpan_34 : decode cX8_againstSpan 34 = .ok (.iload_n 1, 1) := by decide +kernel
theorem dX8_againstSpan_35 : decode cX8_againstSpan 35 = .ok (.if_icmp .lt 10, 3) := by decide +kernel
theorem dX8_againstSpan_38 : decode cX8_againstSpan 38 = .ok (.iload_n 2, 1) := by decide +kernel
theorem dX8_againstSpan_39 : decode cX8_againstSpan 39 = .ok (.sipush 400, 3) := by decide +kernel
theorem dX8_againstSpan_42 : decode cX8_againstSpan 42 = .ok (.if_icmp .le 8, 3) := by decide +kernel
theorem dX8_againstSpan_45 : decode cX8_againstSpan 45 = .ok (.bipush 9, 2) := by decide +kernel
theorem dX8_againstSpan_47 : decode cX8_againstSpan 47 = .ok (.goto 4, 3) := by decide +kernel
theorem dX8_againstSpan_50 : decode cX8_againstSpan 50 = .ok (.iconst 0, 1) := by decide +kernel
theorem dX8_againstSpan_51 : decode cX8_againstSpan 51 = .ok (.ireturn, 1) := by decide +kernel
set_option maxRecDepth 20000 in
theorem ggX8_againstWord_X6_motion : GoodIn wsX8_againstWord wsX6_motion := goodIn_r _ [10, 11, 12, 13, 14, 15, 16, 17, 18, 19, 53, 54, 55, 56] (by decide +kernel) (by decide +kernel)
set_option maxRecDepth 20000 in
theorem gX8_againstWord_X6_motion : GoodIn wsX8_againstWord (wsV RX8 145 RX6 yX6_motion wsX6_motion) := goodIn_app (goodIn_of _ (by decide +kernel)) ggX8_againstWord_X6_motion
set_option maxRecDepth 20000 in
theorem ggX8_againstWord_X8_isWordOrZero : GoodIn wsX8_againstWord wsX8_isWordOrZero := goodIn_r _ [23] (by decide +kernel) (by decide +kernel)
set_option maxRecDepth 20000 in
theorem gX8_againstWord_X8_isWordOrZero : GoodIn wsX8_againstWord (va_wsS RX8 156 yX8_isWordOrZero wsX8_isWordOrZero) := goodIn_app (goodIn_of _ (by decide +kernel)) ggX8_againstWord_X8_isWordOrZero
theorem dX8_againstWord_0 : decode cX8_againstWord 0 = .ok (.aload_n 0, 1) := by decide +kernel
theorem dX8_againstWord_1 : decode cX8_againstWord 1 = .ok (.getfield 141, 3) := by decide +kernel
theorem dX8_againstWord_4 : decode cX8_againstWord 4 = .ok (.invokevirtual 145, 3) := by decide +kernel
theorem dX8_againstWord_7 : decode cX8_againstWord 7 = .ok (.astore 5, 2) := by decide +kernel
theorem dX8_againstWord_9 : decode cX8_againstWord 9 = .ok (.aload 5, 2) := by decide +kernel
theorem dX8_againstWord_11 : decode cX8_againstWord 11 = .ok (.ifnull 20, 3) := by decide +kernel
theorem dX8_againstWord_14 : decode cX8_againstWord 14 = .ok (.aload 5, 2) := by decide +kernel
theorem dX8_againstWord_16 : decode cX8_againstWord 16 = .ok (.getfield 128, 3) := by decide +kernel
theorem dX8_againstWord_19 : decode cX8_againstWord 19 = .ok (.iconst 5, 1) := by decide +kernel
theorem dX8_againstWord_20 : decode cX8_againstWord 20 = .ok (.if_icmp .gt 11, 3) := by decide +kernel
theorem dX8_againstWord_23 : decode cX8_againstWord 23 = .ok (.aload 5, 2) := by decide +kernel
theorem dX8_againstWord_25 : decode cX8_againstWord 25 = .ok (.getfield 153, 3) := by decide +kernel
theorem dX8_againstWord_28 : decode cX8_againstWord 28 = .ok (.ifCond .eq 6, 3) := by decide +kernel
theorem dX8_againstWord_31 : decode cX8_againstWord 31 = .ok (.bipush 11, 2) := by decide +kernel
theorem dX8_againstWord_33 : decode cX8_againstWord 33 = .ok (.ireturn, 1) := by decide +kernel
theorem dX8_againstWord_34 : decode cX8_againstWord 34 = .ok (.iload_n 1, 1) := by decide +kernel
theorem dX8_againstWord_35 : decode cX8_againstWord 35 = .ok (.ifCond .eq 32, 3) := by decide +kernel
theorem dX8_againstWord_38 : decode cX8_againstWord 38 = .ok (.iload_n 1, 1) := by decide +kernel
theorem dX8_againstWord_39 : decode cX8_againstWord 39 = .ok (.invokestatic 156, 3) := by decide +kernel
theorem dX8_againstWord_42 : decode cX8_againstWord 42 = .ok (.ifCond .eq 25, 3) := by decide +kernel
theorem dX8_againstWord_45 : decode cX8_againstWord 45 = .ok (.iload_n 2, 1) := by decide +kernel
theorem dX8_againstWord_46 : decode cX8_againstWord 46 = .ok (.invokestatic 156, 3) := by decide +kernel
theorem dX8_againstWord_49 : decode cX8_againstWord 49 = .ok (.ifCond .eq 18, 3) := by decide +kernel
theorem dX8_againstWord_52 : decode cX8_againstWord 52 = .ok (.iload_n 3, 1) := by decide +kernel
theorem dX8_againstWord_53 : decode cX8_againstWord 53 = .ok (.invokestatic 156, 3) := by decide +kernel
theorem dX8_againstWord_56 : decode cX8_againstWord 56 = .ok (.ifCond .eq 11, 3) := by decide +kernel
theorem dX8_againstWord_59 : decode cX8_againstWord 59 = .ok (.iload 4, 2) := by decide +kernel
theorem dX8_againstWord_61 : decode cX8_againstWord 61 = .ok (.invokestatic 156, 3) := by decide +kernel
theorem dX8_againstWord_64 : decode cX8_againstWord 64 = .ok (.ifCond .ne 6, 3) := by decide +kernel
theorem dX8_againstWord_67 : decode cX8_againstWord 67 = .ok (.bipush 9, 2) := by decide +kernel
theorem dX8_againstWord_69 : decode cX8_againstWord 69 = .ok (.ireturn, 1) := by decide +kernel
theorem dX8_againstWord_70 : decode cX8_againstWord 70 = .ok (.iconst 1, 1) := by decide +kernel
theorem dX8_againstWord_71 : decode cX8_againstWord 71 = .ok (.iload_n 2, 1) := by decide +kernel
theorem dX8_againstWord_72 : decode cX8_againstWord 72 = .ok (.ifCond .ne 7, 3) := by decide +kernel
theorem dX8_againstWord_75 : decode cX8_againstWord 75 = .ok (.iconst 0, 1) := by decide +kernel
theorem dX8_againstWord_76 : decode cX8_againstWord 76 = .ok (.goto 4, 3) := by decide +kernel
theorem dX8_againstWord_79 : decode cX8_againstWord 79 = .ok (.iconst 1, 1) := by decide +kernel
theorem dX8_againstWord_80 : decode cX8_againstWord 80 = .ok (.iadd, 1) := by decide +kernel
theorem dX8_againstWord_81 : decode cX8_againstWord 81 = .ok (.iload_n 3, 1) := by decide +kernel
theorem dX8_againstWord_82 : decode cX8_againstWord 82 = .ok (.ifCond .ne 7, 3) := by decide +kernel
theorem dX8_againstWord_85 : decode cX8_againstWord 85 = .ok (.iconst 0, 1) := by decide +kernel
theorem dX8_againstWord_86 : decode cX8_againstWord 86 = .ok (.goto 4, 3) := by decide +kernel
theorem dX8_againstWord_89 : decode cX8_againstWord 89 = .ok (.iconst 1, 1) := by decide +kernel
theorem dX8_againstWord_90 : decode cX8_againstWord 90 = .ok (.iadd, 1) := by decide +kernel
theorem dX8_againstWord_91 : decode cX8_againstWord 91 = .ok (.iload 4, 2) := by decide +kernel
theorem dX8_againstWord_93 : decode cX8_againstWord 93 = .ok (.ifCond .ne 7, 3) := by decide +kernel
theorem dX8_againstWord_96 : decode cX8_againstWord 96 = .ok (.iconst 0, 1) := by decide +kernel
theorem dX8_againstWord_97 : decode cX8_againstWord 97 = .ok (.goto 4, 3) := by decide +kernel
theorem dX8_againstWord_100 : decode cX8_againstWord 100 = .ok (.iconst 1, 1) := by decide +kernel
theorem dX8_againstWord_101 : decode cX8_againstWord 101 = .ok (.iadd, 1) := by decide +kernel
theorem dX8_againstWord_102 : decode cX8_againstWord 102 = .ok (.istore 6, 2) := by decide +kernel
theorem dX8_againstWord_104 : decode cX8_againstWord 104 = .ok (.aload 5, 2) := by decide +kernel
theorem dX8_againstWord_106 : decode cX8_againstWord 106 = .ok (.getfield 159, 3) := by decide +kernel
theorem dX8_againstWord_109 : decode cX8_againstWord 109 = .ok (.getfield 163, 3) := by decide +kernel
theorem dX8_againstWord_112 : decode cX8_againstWord 112 = .ok (.iload 6, 2) := by decide +kernel
theorem dX8_againstWord_114 : decode cX8_againstWord 114 = .ok (.iadd, 1) := by decide +kernel
theorem dX8_againstWord_115 : decode cX8_againstWord 115 = .ok (.sipush 400, 3) := by decide +kernel
theorem dX8_againstWord_118 : decode cX8_againstWord 118 = .ok (.if_icmp .le 8, 3) := by decide +kernel
theorem dX8_againstWord_121 : decode cX8_againstWord 121 = .ok (.bipush 10, 2) := by decide +kernel
theorem dX8_againstWord_123 : decode cX8_againstWord 123 = .ok (.goto 4, 3) := by decide +kernel
theorem dX8_againstWord_126 : decode cX8_againstWord 126 = .ok (.iconst 0, 1) := by decide +kernel
theorem dX8_againstWord_127 : decode cX8_againstWord 127 = .ok (.ireturn, 1) := by decide +kernel
theorem dX8_isWordOrZero_0 : decode cX8_isWordOrZero 0 = .ok (.iload_n 0, 1) := by decide +kernel
theorem dX8_isWordOrZero_1 : decode cX8_isWordOrZero 1 = .ok (.ifCond .lt 14, 3) := by decide +kernel
theorem dX8_isWordOrZero_4 : decode cX8_isWordOrZero 4 = .ok (.iload_n 0, 1) := by decide +kernel
theorem dX8_isWordOrZero_5 : decode cX8_isWordOrZero 5 = .ok (.sipush 30000, 3) := by decide +kernel
theorem dX8_isWordOrZero_8 : decode cX8_isWordOrZero 8 = .ok (.if_icmp .gt 7, 3) := by decide +kernel
theorem dX8_isWordOrZero_11 : decode cX8_isWordOrZero 11 = .ok (.iconst 1, 1) := by decide +kernel
theorem dX8_isWordOrZero_12 : decode cX8_isWordOrZero 12 = .ok (.goto 4, 3) := by decide +kernel
theorem dX8_isWordOrZero_15 : decode cX8_isWordOrZero 15 = .ok (.iconst 0, 1) := by decide +kernel
theorem dX8_isWordOrZero_16 : decode cX8_isWordOrZero 16 = .ok (.ireturn, 1) := by decide +kernel
set_option maxRecDepth 20000 in
theorem ggX8_againstLay_X0_placeAt : GoodIn wsX8_againstLay wsX0_placeAt := goodIn_r _ [11, 12, 59, 60, 61, 62, 63, 64, 65, 66, 67, 68, 69] (by decide +kernel) (by decide +kernel)
set_option maxRecDepth 20000 in
theorem gX8_againstLay_X0_placeAt : GoodIn wsX8_againstLay (wsV RX8 166 RX0 yX0_placeAt wsX0_placeAt) := goodIn_app (goodIn_of _ (by decide +kernel)) ggX8_againstLay_X0_placeAt
set_option maxRecDepth 20000 in
theorem ggX8_againstLay_X6_isEmpty : GoodIn wsX8_againstLay wsX6_isEmpty := goodIn_r _ [17, 18, 88, 89] (by decide +kernel) (by decide +kernel)
set_option maxRecDepth 20000 in
theorem gX8_againstLay_X6_isEmpty : GoodIn wsX8_againstLay (wsV RX8 170 RX6 yX6_isEmpty wsX6_isEmpty) := goodIn_app (goodIn_of _ (by decide +kernel)) ggX8_againstLay_X6_isEmpty
set_option maxRecDepth 20000 in
theorem ggX8_againstLay_X6_motion : GoodIn wsX8_againstLay wsX6_motion := goodIn_r _ [22, 18, 23, 24, 25, 26, 27, 28, 29, 30, 88, 89, 90, 91] (by decide +kernel) (by decide +kernel)
set_option maxRecDepth 20000 in
theorem gX8_againstLay_X6_motion : GoodIn wsX8_againstLay (wsV RX8 145 RX6 yX6_motion wsX6_motion) := goodIn_app (goodIn_of _ (by decide +kernel)) ggX8_againstLay_X6_motion
set_option maxRecDepth 20000 in
theorem ggX8_againstLay_X4_amends : GoodIn wsX8_againstLay wsX4_amends := goodIn_r _ [35, 36, 70, 71, 72, 73, 74, 75, 76, 77, 78, 79, 80, 81, 82, 83, 84, 85] (by decide +kernel) (by decide +kernel)
set_option maxRecDepth 20000 in
theorem gX8_againstLay_X4_amends : GoodIn wsX8_againstLay (wsV RX8 150 RX4 yX4_amends wsX4_amends) := goodIn_app (goodIn_of _ (by decide +kernel)) ggX8_againstLay_X4_amends
set_option maxRecDepth 20000 in
theorem ggX8_againstLay_X5_top : GoodIn wsX8_againstLay wsX5_top := goodIn_r _ [40, 29, 41, 25, 26, 27, 28, 30, 90, 91] (by decide +kernel) (by decide +kernel)
set_option maxRecDepth 20000 in
theorem gX8_againstLay_X5_top : GoodIn wsX8_againstLay (wsV RX8 90 RX5 yX5_top wsX5_top) := goodIn_app (goodIn_of _ (by decide +kernel)) ggX8_againstLay_X5_top
set_option maxRecDepth 20000 in
theorem ggX8_againstLay_X4_canBeAbout : GoodIn wsX8_againstLay wsX4_canBeAbout := goodIn_r _ [45, 36, 70, 71, 72, 73, 74, 75, 76, 77, 78, 79, 80, 81, 82, 83, 84, 85] (by decide +kernel) (by decide +kernel)
set_option maxRecDepth 20000 in
theorem gX8_againstLay_X4_canBeAbout : GoodIn wsX8_againstLay (wsV RX8 173 RX4 yX4_canBeAbout wsX4_canBeAbout) := goodIn_app (goodIn_of _ (by decide +kernel)) ggX8_againstLay_X4_canBeAbout
set_option maxRecDepth 20000 in
theorem ggX8_againstLay_X0_freePlaces : GoodIn wsX8_againstLay wsX0_freePlaces := goodIn_r _ [49, 12, 50, 14, 15, 16, 17, 18, 59, 60, 61, 62, 63, 64, 65, 66, 67, 68, 69, 88, 89] (by decide +kernel) (by decide +kernel)
set_option maxRecDepth 20000 in
theorem gX8_againstLay_X0_freePlaces : GoodIn wsX8_againstLay (wsV RX8 180 RX0 yX0_freePlaces wsX0_freePlaces) := goodIn_app (goodIn_of _ (by decide +kernel)) ggX8_againstLay_X0_freePlaces
set_option maxRecDepth 20000 in
theorem ggX8_againstLay_X5_needsPlace : GoodIn wsX8_againstLay wsX5_needsPlace := goodIn_r _ [54, 29, 41, 25, 26, 27, 28, 30, 55, 56, 57, 34, 58, 36, 90, 91, 70, 71, 72, 73, 74, 75, 76, 77, 78, 79, 80, 81, 82, 83, 84, 85] (by decide +kernel) (by decide +kernel)
set_option maxRecDepth 20000 in
theorem gX8_againstLay_X5_needsPlace : GoodIn wsX8_againstLay (wsV RX8 184 RX5 yX5_needsPlace wsX5_needsPlace) := goodIn_app (goodIn_of _ (by decide +kernel)) ggX8_againstLay_X5_needsPlace
theorem dX8_againstLay_0 : decode cX8_againstLay 0 = .ok (.aload_n 0, 1) := by decide +kernel
theorem dX8_againstLay_1 : decode cX8_againstLay 1 = .ok (.iload_n 1, 1) := by decide +kernel
theorem dX8_againstLay_2 : decode cX8_againstLay 2 = .ok (.invokevirtual 166, 3) := by decide +kernel
theorem dX8_againstLay_5 : decode cX8_againstLay 5 = .ok (.astore_n 2, 1) := by decide +kernel
theorem dX8_againstLay_6 : decode cX8_againstLay 6 = .ok (.aload_n 2, 1) := by decide +kernel
theorem dX8_againstLay_7 : decode cX8_againstLay 7 = .ok (.ifnonnull 6, 3) := by decide +kernel
theorem dX8_againstLay_10 : decode cX8_againstLay 10 = .ok (.bipush 9, 2) := by decide +kernel
theorem dX8_againstLay_12 : decode cX8_againstLay 12 = .ok (.ireturn, 1) := by decide +kernel
theorem dX8_againstLay_13 : decode cX8_againstLay 13 = .ok (.aload_n 0, 1) := by decide +kernel
theorem dX8_againstLay_14 : decode cX8_againstLay 14 = .ok (.getfield 141, 3) := by decide +kernel
theorem dX8_againstLay_17 : decode cX8_againstLay 17 = .ok (.invokevirtual 170, 3) := by decide +kernel
theorem dX8_againstLay_20 : decode cX8_againstLay 20 = .ok (.ifCond .ne 10, 3) := by decide +kernel
theorem dX8_againstLay_23 : decode cX8_againstLay 23 = .ok (.aload_n 2, 1) := by decide +kernel
theorem dX8_againstLay_24 : decode cX8_againstLay 24 = .ok (.invokevirtual 170, 3) := by decide +kernel
theorem dX8_againstLay_27 : decode cX8_againstLay 27 = .ok (.ifCond .ne 6, 3) := by decide +kernel
theorem dX8_againstLay_30 : decode cX8_againstLay 30 = .ok (.bipush 11, 2) := by decide +kernel
theorem dX8_againstLay_32 : decode cX8_againstLay 32 = .ok (.ireturn, 1) := by decide +kernel
theorem dX8_againstLay_33 : decode cX8_againstLay 33 = .ok (.aload_n 0, 1) := by decide +kernel
theorem dX8_againstLay_34 : decode cX8_againstLay 34 = .ok (.getfield 141, 3) := by decide +kernel
theorem dX8_againstLay_37 : decode cX8_againstLay 37 = .ok (.invokevirtual 145, 3) := by decide +kernel
theorem dX8_againstLay_40 : decode cX8_againstLay 40 = .ok (.astore_n 3, 1) := by decide +kernel
theorem dX8_againstLay_41 : decode cX8_againstLay 41 = .ok (.aload_n 3, 1) := by decide +kernel
theorem dX8_againstLay_42 : decode cX8_againstLay 42 = .ok (.ifnull 59, 3) := by decide +kernel
theorem dX8_againstLay_45 : decode cX8_againstLay 45 = .ok (.aload_n 3, 1) := by decide +kernel
theorem dX8_againstLay_46 : decode cX8_againstLay 46 = .ok (.invokevirtual 150, 3) := by decide +kernel
theorem dX8_againstLay_49 : decode cX8_againstLay 49 = .ok (.ifCond .eq 52, 3) := by decide +kernel
theorem dX8_againstLay_52 : decode cX8_againstLay 52 = .ok (.aload_n 3, 1) := by decide +kernel
theorem dX8_againstLay_53 : decode cX8_againstLay 53 = .ok (.getfield 153, 3) := by decide +kernel
theorem dX8_againstLay_56 : decode cX8_againstLay 56 = .ok (.ifCond .ne 45, 3) := by decide +kernel
theorem dX8_againstLay_59 : decode cX8_againstLay 59 = .ok (.aload_n 0, 1) := by decide +kernel
theorem dX8_againstLay_60 : decode cX8_againstLay 60 = .ok (.getfield 86, 3) := by decide +kernel
theorem dX8_againstLay_63 : decode cX8_againstLay 63 = .ok (.invokevirtual 90, 3) := by decide +kernel
theorem dX8_againstLay_66 : decode cX8_againstLay 66 = .ok (.astore 4, 2) := by decide +kernel
theorem dX8_againstLay_68 : decode cX8_againstLay 68 = .ok (.aload 4, 2) := by decide +kernel
theorem dX8_againstLay_70 : decode cX8_againstLay 70 = .ok (.ifnull 12, 3) := by decide +kernel
theorem dX8_againstLay_73 : decode cX8_againstLay 73 = .ok (.aload_n 3, 1) := by decide +kernel
theorem dX8_againstLay_74 : decode cX8_againstLay 74 = .ok (.aload 4, 2) := by decide +kernel
theorem dX8_againstLay_76 : decode cX8_againstLay 76 = .ok (.invokevirtual 173, 3) := by decide +kernel
theorem dX8_againstLay_79 : decode cX8_againstLay 79 = .ok (.ifCond .ne 5, 3) := by decide +kernel
theorem dX8_againstLay_82 : decode cX8_againstLay 82 = .ok (.iconst 1, 1) := by decide +kernel
theorem dX8_againstLay_83 : decode cX8_againstLay 83 = .ok (.ireturn, 1) := by decide +kernel
theorem dX8_againstLay_84 : decode cX8_againstLay 84 = .ok (.aload_n 3, 1) := by decide +kernel
theorem dX8_againstLay_85 : decode cX8_againstLay 85 = .ok (.getfield 177, 3) := by decide +kernel
theorem dX8_againstLay_88 : decode cX8_againstLay 88 = .ok (.aload 4, 2) := by decide +kernel
theorem dX8_againstLay_90 : decode cX8_againstLay 90 = .ok (.getfield 159, 3) := by decide +kernel
theorem dX8_againstLay_93 : decode cX8_againstLay 93 = .ok (.getfield 163, 3) := by decide +kernel
theorem dX8_againstLay_96 : decode cX8_againstLay 96 = .ok (.if_icmp .le 5, 3) := by decide +kernel
theorem dX8_againstLay_99 : decode cX8_againstLay 99 = .ok (.iconst 5, 1) := by decide +kernel
theorem dX8_againstLay_100 : decode cX8_againstLay 100 = .ok (.ireturn, 1) := by decide +kernel
theorem dX8_againstLay_101 : decode cX8_againstLay 101 = .ok (.aload_n 0, 1) := by decide +kernel
theorem dX8_againstLay_102 : decode cX8_againstLay 102 = .ok (.invokevirtual 180, 3) := by decide +kernel
theorem dX8_againstLay_105 : decode cX8_againstLay 105 = .ok (.iconst 1, 1) := by decide +kernel
theorem dX8_againstLay_106 : decode cX8_againstLay 106 = .ok (.if_icmp .ne 18, 3) := by decide +kernel
theorem dX8_againstLay_109 : decode cX8_againstLay 109 = .ok (.aload_n 0, 1) := by decide +kernel
theorem dX8_againstLay_110 : decode cX8_againstLay 110 = .ok (.getfield 86, 3) := by decide +kernel
theorem dX8_againstLay_113 : decode cX8_againstLay 113 = .ok (.invokevirtual 184, 3) := by decide +kernel
theorem dX8_againstLay_116 : decode cX8_againstLay 116 = .ok (.ifCond .eq 8, 3) := by decide +kernel
theorem dX8_againstLay_119 : decode cX8_againstLay 119 = .ok (.bipush 10, 2) := by decide +kernel
theorem dX8_againstLay_121 : decode cX8_againstLay 121 = .ok (.goto 4, 3) := by decide +kernel
theorem dX8_againstLay_124 : decode cX8_againstLay 124 = .ok (.iconst 0, 1) := by decide +kernel
theorem dX8_againstLay_125 : decode cX8_againstLay 125 = .ok (.ireturn, 1) := by decide +kernel
set_option maxRecDepth 20000 in
theorem ggX8_againstTake_X0_placeAt : GoodIn wsX8_againstTake wsX0_placeAt := goodIn_r _ [6, 7, 14, 15, 16, 17, 18, 19, 20, 21, 22, 23, 24] (by decide +kernel) (by decide +kernel)
set_option maxRecDepth 20000 in
theorem gX8_againstTake_X0_placeAt : GoodIn wsX8_againstTake (wsV RX8 166 RX0 yX0_placeAt wsX0_placeAt) := goodIn_app (goodIn_of _ (by decide +kernel)) ggX8_againstTake_X0_placeAt
set_option maxRecDepth 20000 in
theorem ggX8_againstTake_X6_isEmpty : GoodIn wsX8_againstTake wsX6_isEmpty := goodIn_r _ [12, 13, 25, 26] (by decide +kernel) (by decide +kernel)
set_option maxRecDepth 20000 in
theorem gX8_againstTake_X6_isEmpty : GoodIn wsX8_againstTake (wsV RX8 170 RX6 yX6_isEmpty wsX6_isEmpty) := goodIn_app (goodIn_of _ (by decide +kernel)) ggX8_againstTake_X6_isEmpty
theorem dX8_againstTake_0 : decode cX8_againstTake 0 = .ok (.aload_n 0, 1) := by decide +kernel
theorem dX8_againstTake_1 : decode cX8_againstTake 1 = .ok (.iload_n 1, 1) := by decide +kernel
theorem dX8_againstTake_2 : decode cX8_againstTake 2 = .ok (.invokevirtual 166, 3) := by decide +kernel
theorem dX8_againstTake_5 : decode cX8_againstTake 5 = .ok (.astore_n 2, 1) := by decide +kernel
theorem dX8_againstTake_6 : decode cX8_againstTake 6 = .ok (.aload_n 2, 1) := by decide +kernel
theorem dX8_againstTake_7 : decode cX8_againstTake 7 = .ok (.ifnonnull 6, 3) := by decide +kernel
theorem dX8_againstTake_10 : decode cX8_againstTake 10 = .ok (.bipush 9, 2) := by decide +kernel
theorem dX8_againstTake_12 : decode cX8_againstTake 12 = .ok (.ireturn, 1) := by decide +kernel
theorem dX8_againstTake_13 : decode cX8_againstTake 13 = .ok (.aload_n 0, 1) := by decide +kernel
theorem dX8_againstTake_14 : decode cX8_againstTake 14 = .ok (.getfield 141, 3) := by decide +kernel
theorem dX8_againstTake_17 : decode cX8_againstTake 17 = .ok (.invokevirtual 170, 3) := by decide +kernel
theorem dX8_againstTake_20 : decode cX8_againstTake 20 = .ok (.ifCond .eq 10, 3) := by decide +kernel
theorem dX8_againstTake_23 : decode cX8_againstTake 23 = .ok (.aload_n 2, 1) := by decide +kernel
theorem dX8_againstTake_24 : decode cX8_againstTake 24 = .ok (.invokevirtual 170, 3) := by decide +kernel
theorem dX8_againstTake_27 : decode cX8_againstTake 27 = .ok (.ifCond .eq 8, 3) := by decide +kernel
theorem dX8_againstTake_30 : decode cX8_againstTake 30 = .ok (.bipush 11, 2) := by decide +kernel
theorem dX8_againstTake_32 : decode cX8_againstTake 32 = .ok (.goto 4, 3) := by decide +kernel
theorem dX8_againstTake_35 : decode cX8_againstTake 35 = .ok (.iconst 0, 1) := by decide +kernel
theorem dX8_againstTake_36 : decode cX8_againstTake 36 = .ok (.ireturn, 1) := by decide +kernel
set_option maxRecDepth 20000 in
theorem ggX8_againstMove_X6_isEmpty : GoodIn wsX8_againstMove wsX6_isEmpty := goodIn_r _ [10, 11, 127, 128] (by decide +kernel) (by decide +kernel)
set_option maxRecDepth 20000 in
theorem gX8_againstMove_X6_isEmpty : GoodIn wsX8_againstMove (wsV RX8 170 RX6 yX6_isEmpty wsX6_isEmpty) := goodIn_app (goodIn_of _ (by decide +kernel)) ggX8_againstMove_X6_isEmpty
set_option maxRecDepth 20000 in
theorem ggX8_againstMove_X6_motion : GoodIn wsX8_againstMove wsX6_motion := goodIn_r _ [15, 11, 16, 17, 18, 19, 20, 21, 22, 23, 127, 128, 129, 130] (by decide +kernel) (by decide +kernel)
set_option maxRecDepth 20000 in
theorem gX8_againstMove_X6_motion : GoodIn wsX8_againstMove (wsV RX8 145 RX6 yX6_motion wsX6_motion) := goodIn_app (goodIn_of _ (by decide +kernel)) ggX8_againstMove_X6_motion
set_option maxRecDepth 20000 in
theorem ggX8_againstMove_X5_top : GoodIn wsX8_againstMove wsX5_top := goodIn_r _ [27, 22, 28, 18, 19, 20, 21, 23, 129, 130] (by decide +kernel) (by decide +kernel)
set_option maxRecDepth 20000 in
theorem gX8_againstMove_X5_top : GoodIn wsX8_againstMove (wsV RX8 90 RX5 yX5_top wsX5_top) := goodIn_app (goodIn_of _ (by decide +kernel)) ggX8_againstMove_X5_top
set_option maxRecDepth 20000 in
theorem ggX8_againstMove_X8_isOutOfRank : GoodIn wsX8_againstMove wsX8_isOutOfRank := goodIn_r _ [32, 5, 33, 34, 35, 36, 37, 38, 39, 40, 41, 42, 43, 44, 45, 20, 46, 22, 47, 48, 49, 50, 51, 28, 18, 19, 21, 23, 111, 112, 113, 114, 115, 116, 117, 118, 119, 120, 121, 122, 123, 124, 125, 126, 129, 130] (by decide +kernel) (by decide +kernel)
set_option maxRecDepth 20000 in
theorem gX8_againstMove_X8_isOutOfRank : GoodIn wsX8_againstMove (va_wsS RX8 187 yX8_isOutOfRank wsX8_isOutOfRank) := goodIn_app (goodIn_of _ (by decide +kernel)) ggX8_againstMove_X8_isOutOfRank
set_option maxRecDepth 20000 in
theorem ggX8_againstMove_X2_hasFloor : GoodIn wsX8_againstMove wsX2_hasFloor := goodIn_r _ [56, 57, 131, 132, 133, 134, 135, 136, 137, 138] (by decide +kernel) (by decide +kernel)
set_option maxRecDepth 20000 in
theorem gX8_againstMove_X2_hasFloor : GoodIn wsX8_againstMove (wsV RX8 135 RX2 yX2_hasFloor wsX2_hasFloor) := goodIn_app (goodIn_of _ (by decide +kernel)) ggX8_againstMove_X2_hasFloor
set_option maxRecDepth 20000 in
theorem ggX8_againstMove_X2_hasQuorum : GoodIn wsX8_againstMove wsX2_hasQuorum := goodIn_r _ [61, 62, 63, 131, 132, 133, 134, 135, 136, 137, 138] (by decide +kernel) (by decide +kernel)
set_option maxRecDepth 20000 in
theorem gX8_againstMove_X2_hasQuorum : GoodIn wsX8_againstMove (wsV RX8 191 RX2 yX2_hasQuorum wsX2_hasQuorum) := goodIn_app (goodIn_of _ (by decide +kernel)) ggX8_againstMove_X2_hasQuorum
set_option maxRecDepth 20000 in
theorem ggX8_againstMove_X4_amends : GoodIn wsX8_againstMove wsX4_amends := goodIn_r _ [37, 38, 111, 112, 113, 114, 115, 116, 117, 118, 119, 120, 121, 122, 123, 124, 125, 126] (by decide +kernel) (by decide +kernel)
set_option maxRecDepth 20000 in
theorem gX8_againstMove_X4_amends : GoodIn wsX8_againstMove (wsV RX8 150 RX4 yX4_amends wsX4_amends) := goodIn_app (goodIn_of _ (by decide +kernel)) ggX8_againstMove_X4_amends
set_option maxRecDepth 20000 in
theorem ggX8_againstMove_X8_isOffSubject : GoodIn wsX8_againstMove wsX8_isOffSubject := goodIn_r _ [66, 67, 68, 69, 70, 71, 72, 73, 111, 112, 113, 114, 115, 116, 117, 118, 119, 120, 121, 122, 123, 124, 125, 126, 139, 140] (by decide +kernel) (by decide +kernel)
set_option maxRecDepth 20000 in
theorem gX8_againstMove_X8_isOffSubject : GoodIn wsX8_againstMove (va_wsS RX8 194 yX8_isOffSubject wsX8_isOffSubject) := goodIn_app (goodIn_of _ (by decide +kernel)) ggX8_againstMove_X8_isOffSubject
set_option maxRecDepth 20000 in
theorem ggX8_againstMove_X8_lacksRoom : GoodIn wsX8_againstMove wsX8_lacksRoom := goodIn_r _ [76, 2, 77, 78, 79, 80, 36, 81, 38, 82, 83, 84, 85, 86, 87, 88, 7, 8, 9, 10, 11, 33, 34, 35, 37, 89, 90, 31, 91, 72, 92, 71, 73, 5, 93, 94, 95, 96, 97, 98, 99, 18, 19, 20, 21, 22, 23, 100, 101, 102, 103, 104, 105, 106, 107, 108, 109, 110, 129, 130, 111, 112, 113, 114, 115, 116, 117, 118, 119, 120, 121, 122, 123, 124, 125, 126, 127, 128, 139, 140] (by decide +kernel) (by decide +kernel)
set_option maxRecDepth 20000 in
theorem gX8_againstMove_X8_lacksRoom : GoodIn wsX8_againstMove (va_wsS RX8 198 yX8_lacksRoom wsX8_lacksRoom) := goodIn_app (goodIn_of _ (by decide +kernel)) ggX8_againstMove_X8_lacksRoom
theorem dX8_againstMove_0 : decode cX8_againstMove 0 = .ok (.aload_n 0, 1) := by decide +kernel
theorem dX8_againstMove_1 : decode cX8_againstMove 1 = .ok (.getfield 141, 3) := by decide +kernel
theorem dX8_againstMove_4 : decode cX8_againstMove 4 = .ok (.invokevirtual 170, 3) := by decide +kernel
theorem dX8_againstMove_7 : decode cX8_againstMove 7 = .ok (.ifCond .eq 6, 3) := by decide +kernel
theorem dX8_againstMove_10 : decode cX8_againstMove 10 = .ok (.bipush 11, 2) := by decide +kernel
theorem dX8_againstMove_12 : decode cX8_againstMove 12 = .ok (.ireturn, 1) := by decide +kernel
theorem dX8_againstMove_13 : decode cX8_againstMove 13 = .ok (.aload_n 0, 1) := by decide +kernel
theorem dX8_againstMove_14 : decode cX8_againstMove 14 = .ok (.getfield 141, 3) := by decide +kernel
theorem dX8_againstMove_17 : decode cX8_againstMove 17 = .ok (.invokevirtual 145, 3) := by decide +kernel
theorem dX8_againstMove_20 : decode cX8_againstMove 20 = .ok (.astore_n 2, 1) := by decide +kernel
theorem dX8_againstMove_21 : decode cX8_againstMove 21 = .ok (.aload_n 0, 1) := by decide +kernel
theorem dX8_againstMove_22 : decode cX8_againstMove 22 = .ok (.getfield 86, 3) := by decide +kernel
theorem dX8_againstMove_25 : decode cX8_againstMove 25 = .ok (.invokevirtual 90, 3) := by decide +kernel
theorem dX8_againstMove_28 : decode cX8_againstMove 28 = .ok (.astore_n 3, 1) := by decide +kernel
theorem dX8_againstMove_29 : decode cX8_againstMove 29 = .ok (.aload_n 0, 1) := by decide +kernel
theorem dX8_againstMove_30 : decode cX8_againstMove 30 = .ok (.getfield 86, 3) := by decide +kernel
theorem dX8_againstMove_33 : decode cX8_againstMove 33 = .ok (.aload_n 2, 1) := by decide +kernel
theorem dX8_againstMove_34 : decode cX8_againstMove 34 = .ok (.aload_n 3, 1) := by decide +kernel
theorem dX8_againstMove_35 : decode cX8_againstMove 35 = .ok (.invokestatic 187, 3) := by decide +kernel
theorem dX8_againstMove_38 : decode cX8_againstMove 38 = .ok (.ifCond .eq 5, 3) := by decide +kernel
theorem dX8_againstMove_41 : decode cX8_againstMove 41 = .ok (.iconst 1, 1) := by decide +kernel
theorem dX8_againstMove_42 : decode cX8_againstMove 42 = .ok (.ireturn, 1) := by decide +kernel
theorem dX8_againstMove_43 : decode cX8_againstMove 43 = .ok (.aload_n 0, 1) := by decide +kernel
theorem dX8_againstMove_44 : decode cX8_againstMove 44 = .ok (.getfield 34, 3) := by decide +kernel
theorem dX8_againstMove_47 : decode cX8_againstMove 47 = .ok (.iload_n 1, 1) := by decide +kernel
theorem dX8_againstMove_48 : decode cX8_againstMove 48 = .ok (.invokevirtual 135, 3) := by decide +kernel
theorem dX8_againstMove_51 : decode cX8_againstMove 51 = .ok (.ifCond .ne 5, 3) := by decide +kernel
theorem dX8_againstMove_54 : decode cX8_againstMove 54 = .ok (.iconst 2, 1) := by decide +kernel
theorem dX8_againstMove_55 : decode cX8_againstMove 55 = .ok (.ireturn, 1) := by decide +kernel
theorem dX8_againstMove_56 : decode cX8_againstMove 56 = .ok (.aload_n 3, 1) := by decide +kernel
theorem dX8_againstMove_57 : decode cX8_againstMove 57 = .ok (.ifnull 22, 3) := by decide +kernel
theorem dX8_againstMove_60 : decode cX8_againstMove 60 = .ok (.aload_n 3, 1) := by decide +kernel
theorem dX8_againstMove_61 : decode cX8_againstMove 61 = .ok (.getfield 138, 3) := by decide +kernel
theorem dX8_againstMove_64 : decode cX8_againstMove 64 = .ok (.iconst (-1), 1) := by decide +kernel
theorem dX8_againstMove_65 : decode cX8_againstMove 65 = .ok (.if_icmp .eq 12, 3) := by decide +kernel
theorem dX8_againstMove_68 : decode cX8_againstMove 68 = .ok (.aload_n 3, 1) := by decide +kernel
theorem dX8_againstMove_69 : decode cX8_againstMove 69 = .ok (.getfield 128, 3) := by decide +kernel
theorem dX8_againstMove_72 : decode cX8_againstMove 72 = .ok (.bipush 9, 2) := by decide +kernel
theorem dX8_againstMove_74 : decode cX8_againstMove 74 = .ok (.if_icmp .ne 5, 3) := by decide +kernel
theorem dX8_againstMove_77 : decode cX8_againstMove 77 = .ok (.iconst 3, 1) := by decide +kernel
theorem dX8_againstMove_78 : decode cX8_againstMove 78 = .ok (.ireturn, 1) := by decide +kernel
theorem dX8_againstMove_79 : decode cX8_againstMove 79 = .ok (.aload_n 0, 1) := by decide +kernel
theorem dX8_againstMove_80 : decode cX8_againstMove 80 = .ok (.getfield 34, 3) := by decide +kernel
theorem dX8_againstMove_83 : decode cX8_againstMove 83 = .ok (.invokevirtual 191, 3) := by decide +kernel
theorem dX8_againstMove_86 : decode cX8_againstMove 86 = .ok (.ifCond .ne 5, 3) := by decide +kernel
theorem dX8_againstMove_89 : decode cX8_againstMove 89 = .ok (.iconst 4, 1) := by decide +kernel
theorem dX8_againstMove_90 : decode cX8_againstMove 90 = .ok (.ireturn, 1) := by decide +kernel
theorem dX8_againstMove_91 : decode cX8_againstMove 91 = .ok (.aload_n 2, 1) := by decide +kernel
theorem dX8_againstMove_92 : decode cX8_againstMove 92 = .ok (.ifnonnull 5, 3) := by decide +kernel
theorem dX8_againstMove_95 : decode cX8_againstMove 95 = .ok (.iconst 0, 1) := by decide +kernel
theorem dX8_againstMove_96 : decode cX8_againstMove 96 = .ok (.ireturn, 1) := by decide +kernel
theorem dX8_againstMove_97 : decode cX8_againstMove 97 = .ok (.aload_n 2, 1) := by decide +kernel
theorem dX8_againstMove_98 : decode cX8_againstMove 98 = .ok (.invokevirtual 150, 3) := by decide +kernel
theorem dX8_againstMove_101 : decode cX8_againstMove 101 = .ok (.ifCond .eq 13, 3) := by decide +kernel
theorem dX8_againstMove_104 : decode cX8_againstMove 104 = .ok (.aload_n 2, 1) := by decide +kernel
theorem dX8_againstMove_105 : decode cX8_againstMove 105 = .ok (.aload_n 3, 1) := by decide +kernel
theorem dX8_againstMove_106 : decode cX8_againstMove 106 = .ok (.invokestatic 194, 3) := by decide +kernel
theorem dX8_againstMove_109 : decode cX8_againstMove 109 = .ok (.ifCond .eq 5, 3) := by decide +kernel
theorem dX8_againstMove_112 : decode cX8_againstMove 112 = .ok (.iconst 5, 1) := by decide +kernel
theorem dX8_againstMove_113 : decode cX8_againstMove 113 = .ok (.ireturn, 1) := by decide +kernel
theorem dX8_againstMove_114 : decode cX8_againstMove 114 = .ok (.aload_n 0, 1) := by decide +kernel
theorem dX8_againstMove_115 : decode cX8_againstMove 115 = .ok (.aload_n 2, 1) := by decide +kernel
theorem dX8_againstMove_116 : decode cX8_againstMove 116 = .ok (.aload_n 3, 1) := by decide +kernel
theorem dX8_againstMove_117 : decode cX8_againstMove 117 = .ok (.invokestatic 198, 3) := by decide +kernel
theorem dX8_againstMove_120 : decode cX8_againstMove 120 = .ok (.ifCond .eq 8, 3) := by decide +kernel
theorem dX8_againstMove_123 : decode cX8_againstMove 123 = .ok (.bipush 10, 2) := by decide +kernel
theorem dX8_againstMove_125 : decode cX8_againstMove 125 = .ok (.goto 4, 3) := by decide +kernel
theorem dX8_againstMove_128 : decode cX8_againstMove 128 = .ok (.iconst 0, 1) := by decide +kernel
theorem dX8_againstMove_129 : decode cX8_againstMove 129 = .ok (.ireturn, 1) := by decide +kernel
set_option maxRecDepth 20000 in
theorem ggX8_isOutOfRank_X4_amends : GoodIn wsX8_isOutOfRank wsX4_amends := goodIn_r _ [6, 7, 28, 29, 30, 31, 32, 33, 34, 35, 36, 37, 38, 39, 40, 41, 42, 43] (by decide +kernel) (by decide +kernel)
set_option maxRecDepth 20000 in
theorem gX8_isOutOfRank_X4_amends : GoodIn wsX8_isOutOfRank (wsV RX8 150 RX4 yX4_amends wsX4_amends) := goodIn_app (goodIn_of _ (by decide +kernel)) ggX8_isOutOfRank_X4_amends
set_option maxRecDepth 20000 in
theorem ggX8_isOutOfRank_X4_canBeAbout : GoodIn wsX8_isOutOfRank wsX4_canBeAbout := goodIn_r _ [11, 7, 28, 29, 30, 31, 32, 33, 34, 35, 36, 37, 38, 39, 40, 41, 42, 43] (by decide +kernel) (by decide +kernel)
set_option maxRecDepth 20000 in
theorem gX8_isOutOfRank_X4_canBeAbout : GoodIn wsX8_isOutOfRank (wsV RX8 173 RX4 yX4_canBeAbout wsX4_canBeAbout) := goodIn_app (goodIn_of _ (by decide +kernel)) ggX8_isOutOfRank_X4_canBeAbout
set_option maxRecDepth 20000 in
theorem ggX8_isOutOfRank_X5_highestRank : GoodIn wsX8_isOutOfRank wsX5_highestRank := goodIn_r _ [16, 17, 18, 19, 20, 21, 22, 23, 24, 25, 15, 26, 27, 44, 45, 28, 29, 30, 31, 32, 33, 34, 35, 36, 37, 38, 39, 40, 41, 42, 43] (by decide +kernel) (by decide +kernel)
set_option maxRecDepth 20000 in
theorem gX8_isOutOfRank_X5_highestRank : GoodIn wsX8_isOutOfRank (wsV RX8 202 RX5 yX5_highestRank wsX5_highestRank) := goodIn_app (goodIn_of _ (by decide +kernel)) ggX8_isOutOfRank_X5_highestRank
theorem dX8_isOutOfRank_0 : decode cX8_isOutOfRank 0 = .ok (.aload_n 1, 1) := by decide +kernel
theorem dX8_isOutOfRank_1 : decode cX8_isOutOfRank 1 = .ok (.ifnull 11, 3) := by decide +kernel
theorem dX8_isOutOfRank_4 : decode cX8_isOutOfRank 4 = .ok (.aload_n 1, 1) := by decide +kernel
theorem dX8_isOutOfRank_5 : decode cX8_isOutOfRank 5 = .ok (.getfield 128, 3) := by decide +kernel
theorem dX8_isOutOfRank_8 : decode cX8_isOutOfRank 8 = .ok (.iconst 1, 1) := by decide +kernel
theorem dX8_isOutOfRank_9 : decode cX8_isOutOfRank 9 = .ok (.if_icmp .ne 13, 3) := by decide +kernel
theorem dX8_isOutOfRank_12 : decode cX8_isOutOfRank 12 = .ok (.aload_n 2, 1) := by decide +kernel
theorem dX8_isOutOfRank_13 : decode cX8_isOutOfRank 13 = .ok (.ifnull 7, 3) := by decide +kernel
theorem dX8_isOutOfRank_16 : decode cX8_isOutOfRank 16 = .ok (.iconst 1, 1) := by decide +kernel
theorem dX8_isOutOfRank_17 : decode cX8_isOutOfRank 17 = .ok (.goto 4, 3) := by decide +kernel
theorem dX8_isOutOfRank_20 : decode cX8_isOutOfRank 20 = .ok (.iconst 0, 1) := by decide +kernel
theorem dX8_isOutOfRank_21 : decode cX8_isOutOfRank 21 = .ok (.ireturn, 1) := by decide +kernel
theorem dX8_isOutOfRank_22 : decode cX8_isOutOfRank 22 = .ok (.aload_n 1, 1) := by decide +kernel
theorem dX8_isOutOfRank_23 : decode cX8_isOutOfRank 23 = .ok (.invokevirtual 150, 3) := by decide +kernel
theorem dX8_isOutOfRank_26 : decode cX8_isOutOfRank 26 = .ok (.ifCond .eq 17, 3) := by decide +kernel
theorem dX8_isOutOfRank_29 : decode cX8_isOutOfRank 29 = .ok (.aload_n 1, 1) := by decide +kernel
theorem dX8_isOutOfRank_30 : decode cX8_isOutOfRank 30 = .ok (.aload_n 2, 1) := by decide +kernel
theorem dX8_isOutOfRank_31 : decode cX8_isOutOfRank 31 = .ok (.invokevirtual 173, 3) := by decide +kernel
theorem dX8_isOutOfRank_34 : decode cX8_isOutOfRank 34 = .ok (.ifCond .ne 7, 3) := by decide +kernel
theorem dX8_isOutOfRank_37 : decode cX8_isOutOfRank 37 = .ok (.iconst 1, 1) := by decide +kernel
theorem dX8_isOutOfRank_38 : decode cX8_isOutOfRank 38 = .ok (.goto 4, 3) := by decide +kernel
theorem dX8_isOutOfRank_41 : decode cX8_isOutOfRank 41 = .ok (.iconst 0, 1) := by decide +kernel
theorem dX8_isOutOfRank_42 : decode cX8_isOutOfRank 42 = .ok (.ireturn, 1) := by decide +kernel
theorem dX8_isOutOfRank_43 : decode cX8_isOutOfRank 43 = .ok (.aload_n 2, 1) := by decide +kernel
theorem dX8_isOutOfRank_44 : decode cX8_isOutOfRank 44 = .ok (.ifnull 14, 3) := by decide +kernel
theorem dX8_isOutOfRank_47 : decode cX8_isOutOfRank 47 = .ok (.aload_n 0, 1) := by decide +kernel
theorem dX8_isOutOfRank_48 : decode cX8_isOutOfRank 48 = .ok (.invokevirtual 202, 3) := by decide +kernel
theorem dX8_isOutOfRank_51 : decode cX8_isOutOfRank 51 = .ok (.aload_n 1, 1) := by decide +kernel
theorem dX8_isOutOfRank_52 : decode cX8_isOutOfRank 52 = .ok (.getfield 128, 3) := by decide +kernel
theorem dX8_isOutOfRank_55 : decode cX8_isOutOfRank 55 = .ok (.if_icmp .lt 7, 3) := by decide +kernel
theorem dX8_isOutOfRank_58 : decode cX8_isOutOfRank 58 = .ok (.iconst 1, 1) := by decide +kernel
theorem dX8_isOutOfRank_59 : decode cX8_isOutOfRank 59 = .ok (.goto 4, 3) := by decide +kernel
theorem dX8_isOutOfRank_62 : decode cX8_isOutOfRank 62 = .ok (.iconst 0, 1) := by decide +kernel
theorem dX8_isOutOfRank_63 : decode cX8_isOutOfRank 63 = .ok (.ireturn, 1) := by decide +kernel
theorem dX8_isOffSubject_0 : decode cX8_isOffSubject 0 = .ok (.aload_n 1, 1) := by decide +kernel
theorem dX8_isOffSubject_1 : decode cX8_isOffSubject 1 = .ok (.ifnull 10, 3) := by decide +kernel
theorem dX8_isOffSubject_4 : decode cX8_isOffSubject 4 = .ok (.aload_n 0, 1) := by decide +kernel
theorem dX8_isOffSubject_5 : decode cX8_isOffSubject 5 = .ok (.getfield 205, 3) := by decide +kernel
theorem dX8_isOffSubject_8 : decode cX8_isOffSubject 8 = .ok (.ifCond .eq 5, 3) := by decide +kernel
theorem dX8_isOffSubject_11 : decode cX8_isOffSubject 11 = .ok (.iconst 1, 1) := by decide +kernel
theorem dX8_isOffSubject_12 : decode cX8_isOffSubject 12 = .ok (.ireturn, 1) := by decide +kernel
theorem dX8_isOffSubject_13 : decode cX8_isOffSubject 13 = .ok (.aload_n 0, 1) := by decide +kernel
theorem dX8_isOffSubject_14 : decode cX8_isOffSubject 14 = .ok (.getfield 153, 3) := by decide +kernel
theorem dX8_isOffSubject_17 : decode cX8_isOffSubject 17 = .ok (.ifCond .eq 14, 3) := by decide +kernel
theorem dX8_isOffSubject_20 : decode cX8_isOffSubject 20 = .ok (.aload_n 0, 1) := by decide +kernel
theorem dX8_isOffSubject_21 : decode cX8_isOffSubject 21 = .ok (.getfield 208, 3) := by decide +kernel
theorem dX8_isOffSubject_24 : decode cX8_isOffSubject 24 = .ok (.aload_n 1, 1) := by decide +kernel
theorem dX8_isOffSubject_25 : decode cX8_isOffSubject 25 = .ok (.getfield 211, 3) := by decide +kernel
theorem dX8_isOffSubject_28 : decode cX8_isOffSubject 28 = .ok (.if_icmp .ne 17, 3) := by decide +kernel
theorem dX8_isOffSubject_31 : decode cX8_isOffSubject 31 = .ok (.aload_n 0, 1) := by decide +kernel
theorem dX8_isOffSubject_32 : decode cX8_isOffSubject 32 = .ok (.getfield 177, 3) := by decide +kernel
theorem dX8_isOffSubject_35 : decode cX8_isOffSubject 35 = .ok (.aload_n 1, 1) := by decide +kernel
theorem dX8_isOffSubject_36 : decode cX8_isOffSubject 36 = .ok (.getfield 159, 3) := by decide +kernel
theorem dX8_isOffSubject_39 : decode cX8_isOffSubject 39 = .ok (.getfield 163, 3) := by decide +kernel
theorem dX8_isOffSubject_42 : decode cX8_isOffSubject 42 = .ok (.if_icmp .le 7, 3) := by decide +kernel
theorem dX8_isOffSubject_45 : decode cX8_isOffSubject 45 = .ok (.iconst 1, 1) := by decide +kernel
theorem dX8_isOffSubject_46 : decode cX8_isOffSubject 46 = .ok (.goto 4, 3) := by decide +kernel
theorem dX8_isOffSubject_49 : decode cX8_isOffSubject 49 = .ok (.iconst 0, 1) := by decide +kernel
theorem dX8_isOffSubject_50 : decode cX8_isOffSubject 50 = .ok (.ireturn, 1) := by decide +kernel
set_option maxRecDepth 20000 in
theorem ggX8_lacksRoom_X4_needsPlace : GoodIn wsX8_lacksRoom wsX4_needsPlace := goodIn_r _ [7, 8, 60, 61, 62, 63, 64, 65, 66, 67, 68, 69, 70, 71, 72, 73, 74, 75] (by decide +kernel) (by decide +kernel)
set_option maxRecDepth 20000 in
theorem gX8_lacksRoom_X4_needsPlace : GoodIn wsX8_lacksRoom (wsV RX8 214 RX4 yX4_needsPlace wsX4_needsPlace) := goodIn_app (goodIn_of _ (by decide +kernel)) ggX8_lacksRoom_X4_needsPlace
set_option maxRecDepth 20000 in
theorem ggX8_lacksRoom_X0_freePlaces : GoodIn wsX8_lacksRoom wsX0_freePlaces := goodIn_r _ [13, 14, 15, 16, 17, 18, 19, 20, 47, 48, 49, 50, 51, 52, 53, 54, 55, 56, 57, 76, 77] (by decide +kernel) (by decide +kernel)
set_option maxRecDepth 20000 in
theorem gX8_lacksRoom_X0_freePlaces : GoodIn wsX8_lacksRoom (wsV RX8 180 RX0 yX0_freePlaces wsX0_freePlaces) := goodIn_app (goodIn_of _ (by decide +kernel)) ggX8_lacksRoom_X0_freePlaces
set_option maxRecDepth 20000 in
theorem ggX8_lacksRoom_X4_amends : GoodIn wsX8_lacksRoom wsX4_amends := goodIn_r _ [24, 8, 60, 61, 62, 63, 64, 65, 66, 67, 68, 69, 70, 71, 72, 73, 74, 75] (by decide +kernel) (by decide +kernel)
set_option maxRecDepth 20000 in
theorem gX8_lacksRoom_X4_amends : GoodIn wsX8_lacksRoom (wsV RX8 150 RX4 yX4_amends wsX4_amends) := goodIn_app (goodIn_of _ (by decide +kernel)) ggX8_lacksRoom_X4_amends
set_option maxRecDepth 20000 in
theorem ggX8_lacksRoom_X8_makesTextTooLong : GoodIn wsX8_lacksRoom wsX8_makesTextTooLong := goodIn_r _ [28, 29, 30, 31, 32, 2, 33, 34, 35, 36, 37, 38, 39, 40, 41, 42, 43, 44, 45, 46, 60, 61, 62, 63, 64, 65, 66, 67, 68, 69, 70, 71, 72, 73, 74, 75, 78, 79, 58, 59] (by decide +kernel) (by decide +kernel)
set_option maxRecDepth 20000 in
theorem gX8_lacksRoom_X8_makesTextTooLong : GoodIn wsX8_lacksRoom (va_wsS RX8 215 yX8_makesTextTooLong wsX8_makesTextTooLong) := goodIn_app (goodIn_of _ (by decide +kernel)) ggX8_lacksRoom_X8_makesTextTooLong
theorem dX8_lacksRoom_0 : decode cX8_lacksRoom 0 = .ok (.aload_n 0, 1) := by decide +kernel
theorem dX8_lacksRoom_1 : decode cX8_lacksRoom 1 = .ok (.getfield 86, 3) := by decide +kernel
theorem dX8_lacksRoom_4 : decode cX8_lacksRoom 4 = .ok (.getfield 117, 3) := by decide +kernel
theorem dX8_lacksRoom_7 : decode cX8_lacksRoom 7 = .ok (.bipush 9, 2) := by decide +kernel
theorem dX8_lacksRoom_9 : decode cX8_lacksRoom 9 = .ok (.if_icmp .lt 5, 3) := by decide +kernel
theorem dX8_lacksRoom_12 : decode cX8_lacksRoom 12 = .ok (.iconst 1, 1) := by decide +kernel
theorem dX8_lacksRoom_13 : decode cX8_lacksRoom 13 = .ok (.ireturn, 1) := by decide +kernel
theorem dX8_lacksRoom_14 : decode cX8_lacksRoom 14 = .ok (.aload_n 1, 1) := by decide +kernel
theorem dX8_lacksRoom_15 : decode cX8_lacksRoom 15 = .ok (.invokevirtual 214, 3) := by decide +kernel
theorem dX8_lacksRoom_18 : decode cX8_lacksRoom 18 = .ok (.ifCond .eq 16, 3) := by decide +kernel
theorem dX8_lacksRoom_21 : decode cX8_lacksRoom 21 = .ok (.aload_n 0, 1) := by decide +kernel
theorem dX8_lacksRoom_22 : decode cX8_lacksRoom 22 = .ok (.invokevirtual 180, 3) := by decide +kernel
theorem dX8_lacksRoom_25 : decode cX8_lacksRoom 25 = .ok (.ifCond .ne 7, 3) := by decide +kernel
theorem dX8_lacksRoom_28 : decode cX8_lacksRoom 28 = .ok (.iconst 1, 1) := by decide +kernel
theorem dX8_lacksRoom_29 : decode cX8_lacksRoom 29 = .ok (.goto 4, 3) := by decide +kernel
theorem dX8_lacksRoom_32 : decode cX8_lacksRoom 32 = .ok (.iconst 0, 1) := by decide +kernel
theorem dX8_lacksRoom_33 : decode cX8_lacksRoom 33 = .ok (.ireturn, 1) := by decide +kernel
theorem dX8_lacksRoom_34 : decode cX8_lacksRoom 34 = .ok (.aload_n 1, 1) := by decide +kernel
theorem dX8_lacksRoom_35 : decode cX8_lacksRoom 35 = .ok (.invokevirtual 150, 3) := by decide +kernel
theorem dX8_lacksRoom_38 : decode cX8_lacksRoom 38 = .ok (.ifCond .eq 23, 3) := by decide +kernel
theorem dX8_lacksRoom_41 : decode cX8_lacksRoom 41 = .ok (.aload_n 2, 1) := by decide +kernel
theorem dX8_lacksRoom_42 : decode cX8_lacksRoom 42 = .ok (.ifnull 19, 3) := by decide +kernel
theorem dX8_lacksRoom_45 : decode cX8_lacksRoom 45 = .ok (.aload_n 0, 1) := by decide +kernel
theorem dX8_lacksRoom_46 : decode cX8_lacksRoom 46 = .ok (.getfield 86, 3) := by decide +kernel
theorem dX8_lacksRoom_49 : decode cX8_lacksRoom 49 = .ok (.aload_n 1, 1) := by decide +kernel
theorem dX8_lacksRoom_50 : decode cX8_lacksRoom 50 = .ok (.aload_n 2, 1) := by decide +kernel
theorem dX8_lacksRoom_51 : decode cX8_lacksRoom 51 = .ok (.invokestatic 215, 3) := by decide +kernel
theorem dX8_lacksRoom_54 : decode cX8_lacksRoom 54 = .ok (.ifCond .eq 7, 3) := by decide +kernel
theorem dX8_lacksRoom_57 : decode cX8_lacksRoom 57 = .ok (.iconst 1, 1) := by decide +kernel
theorem dX8_lacksRoom_58 : decode cX8_lacksRoom 58 = .ok (.goto 4, 3) := by decide +kernel
theorem dX8_lacksRoom_61 : decode cX8_lacksRoom 61 = .ok (.iconst 0, 1) := by decide +kernel
theorem dX8_lacksRoom_62 : decode cX8_lacksRoom 62 = .ok (.ireturn, 1) := by decide +kernel
set_option maxRecDepth 20000 in
theorem ggX8_makesTextTooLong_X9_sizeWith : GoodIn wsX8_makesTextTooLong wsX9_sizeWith := goodIn_r _ [11, 12, 36, 37] (by decide +kernel) (by decide +kernel)
set_option maxRecDepth 20000 in
theorem gX8_makesTextTooLong_X9_sizeWith : GoodIn wsX8_makesTextTooLong (wsV RX8 221 RX9 yX9_sizeWith wsX9_sizeWith) := goodIn_app (goodIn_of _ (by decide +kernel)) ggX8_makesTextTooLong_X9_sizeWith
set_option maxRecDepth 20000 in
theorem ggX8_makesTextTooLong_X5_at : GoodIn wsX8_makesTextTooLong wsX5_at := goodIn_r _ [17, 18, 19, 38, 39] (by decide +kernel) (by decide +kernel)
set_option maxRecDepth 20000 in
theorem gX8_makesTextTooLong_X5_at : GoodIn wsX8_makesTextTooLong (wsV RX8 225 RX5 yX5_at wsX5_at) := goodIn_app (goodIn_of _ (by decide +kernel)) ggX8_makesTextTooLong_X5_at
theorem dX8_makesTextTooLong_0 : decode cX8_makesTextTooLong 0 = .ok (.aload_n 2, 1) := by decide +kernel
theorem dX8_makesTextTooLong_1 : decode cX8_makesTextTooLong 1 = .ok (.getfield 159, 3) := by decide +kernel
theorem dX8_makesTextTooLong_4 : decode cX8_makesTextTooLong 4 = .ok (.aload_n 1, 1) := by decide +kernel
theorem dX8_makesTextTooLong_5 : decode cX8_makesTextTooLong 5 = .ok (.getfield 218, 3) := by decide +kernel
theorem dX8_makesTextTooLong_8 : decode cX8_makesTextTooLong 8 = .ok (.aload_n 1, 1) := by decide +kernel
theorem dX8_makesTextTooLong_9 : decode cX8_makesTextTooLong 9 = .ok (.getfield 177, 3) := by decide +kernel
theorem dX8_makesTextTooLong_12 : decode cX8_makesTextTooLong 12 = .ok (.aload_n 1, 1) := by decide +kernel
theorem dX8_makesTextTooLong_13 : decode cX8_makesTextTooLong 13 = .ok (.getfield 159, 3) := by decide +kernel
theorem dX8_makesTextTooLong_16 : decode cX8_makesTextTooLong 16 = .ok (.getfield 163, 3) := by decide +kernel
theorem dX8_makesTextTooLong_19 : decode cX8_makesTextTooLong 19 = .ok (.invokevirtual 221, 3) := by decide +kernel
theorem dX8_makesTextTooLong_22 : decode cX8_makesTextTooLong 22 = .ok (.istore_n 3, 1) := by decide +kernel
theorem dX8_makesTextTooLong_23 : decode cX8_makesTextTooLong 23 = .ok (.aload_n 0, 1) := by decide +kernel
theorem dX8_makesTextTooLong_24 : decode cX8_makesTextTooLong 24 = .ok (.aload_n 0, 1) := by decide +kernel
theorem dX8_makesTextTooLong_25 : decode cX8_makesTextTooLong 25 = .ok (.getfield 117, 3) := by decide +kernel
theorem dX8_makesTextTooLong_28 : decode cX8_makesTextTooLong 28 = .ok (.iconst 2, 1) := by decide +kernel
theorem dX8_makesTextTooLong_29 : decode cX8_makesTextTooLong 29 = .ok (.isub, 1) := by decide +kernel
theorem dX8_makesTextTooLong_30 : decode cX8_makesTextTooLong 30 = .ok (.invokevirtual 225, 3) := by decide +kernel
theorem dX8_makesTextTooLong_33 : decode cX8_makesTextTooLong 33 = .ok (.astore 4, 2) := by decide +kernel
theorem dX8_makesTextTooLong_35 : decode cX8_makesTextTooLong 35 = .ok (.iload_n 3, 1) := by decide +kernel
theorem dX8_makesTextTooLong_36 : decode cX8_makesTextTooLong 36 = .ok (.sipush 400, 3) := by decide +kernel
theorem dX8_makesTextTooLong_39 : decode cX8_makesTextTooLong 39 = .ok (.if_icmp .le 5, 3) := by decide +kernel
theorem dX8_makesTextTooLong_42 : decode cX8_makesTextTooLong 42 = .ok (.iconst 1, 1) := by decide +kernel
theorem dX8_makesTextTooLong_43 : decode cX8_makesTextTooLong 43 = .ok (.ireturn, 1) := by decide +kernel
theorem dX8_makesTextTooLong_44 : decode cX8_makesTextTooLong 44 = .ok (.aload_n 1, 1) := by decide +kernel
theorem dX8_makesTextTooLong_45 : decode cX8_makesTextTooLong 45 = .ok (.getfield 128, 3) := by decide +kernel
theorem dX8_makesTextTooLong_48 : decode cX8_makesTextTooLong 48 = .ok (.iconst 3, 1) := by decide +kernel
theorem dX8_makesTextTooLong_49 : decode cX8_makesTextTooLong 49 = .ok (.if_icmp .ne 35, 3) := by decide +kernel
theorem dX8_makesTextTooLong_52 : decode cX8_makesTextTooLong 52 = .ok (.aload 4, 2) := by decide +kernel
theorem dX8_makesTextTooLong_54 : decode cX8_makesTextTooLong 54 = .ok (.ifnull 30, 3) := by decide +kernel
theorem dX8_makesTextTooLong_57 : decode cX8_makesTextTooLong 57 = .ok (.aload 4, 2) := by decide +kernel
theorem dX8_makesTextTooLong_59 : decode cX8_makesTextTooLong 59 = .ok (.getfield 159, 3) := by decide +kernel
theorem dX8_makesTextTooLong_62 : decode cX8_makesTextTooLong 62 = .ok (.aload_n 2, 1) := by decide +kernel
theorem dX8_makesTextTooLong_63 : decode cX8_makesTextTooLong 63 = .ok (.getfield 218, 3) := by decide +kernel
theorem dX8_makesTextTooLong_66 : decode cX8_makesTextTooLong 66 = .ok (.aload_n 2, 1) := by decide +kernel
theorem dX8_makesTextTooLong_67 : decode cX8_makesTextTooLong 67 = .ok (.getfield 177, 3) := by decide +kernel
theorem dX8_makesTextTooLong_70 : decode cX8_makesTextTooLong 70 = .ok (.iload_n 3, 1) := by decide +kernel
theorem dX8_makesTextTooLong_71 : decode cX8_makesTextTooLong 71 = .ok (.invokevirtual 221, 3) := by decide +kernel
theorem dX8_makesTextTooLong_74 : decode cX8_makesTextTooLong 74 = .ok (.sipush 400, 3) := by decide +kernel
theorem dX8_makesTextTooLong_77 : decode cX8_makesTextTooLong 77 = .ok (.if_icmp .le 7, 3) := by decide +kernel
theorem dX8_makesTextTooLong_80 : decode cX8_makesTextTooLong 80 = .ok (.iconst 1, 1) := by decide +kernel
theorem dX8_makesTextTooLong_81 : decode cX8_makesTextTooLong 81 = .ok (.goto 4, 3) := by decide +kernel
theorem dX8_makesTextTooLong_84 : decode cX8_makesTextTooLong 84 = .ok (.iconst 0, 1) := by decide +kernel
theorem dX8_makesTextTooLong_85 : decode cX8_makesTextTooLong 85 = .ok (.ireturn, 1) := by decide +kernel
set_option maxRecDepth 20000 in
theorem ggX8_againstSecond_X8_againstAbsent : GoodIn wsX8_againstSecond wsX8_againstAbsent := goodIn_r _ [8, 9, 10, 11, 12, 13, 14, 15, 16, 17, 18, 19, 36, 37, 38, 39, 40, 41, 42, 43] (by decide +kernel) (by decide +kernel)
set_option maxRecDepth 20000 in
theorem gX8_againstSecond_X8_againstAbsent : GoodIn wsX8_againstSecond (va_wsS RX8 42 yX8_againstAbsent wsX8_againstAbsent) := goodIn_app (goodIn_of _ (by decide +kernel)) ggX8_againstSecond_X8_againstAbsent
theorem dX8_againstSecond_0 : decode cX8_againstSecond 0 = .ok (.aload_n 0, 1) := by decide +kernel
theorem dX8_againstSecond_1 : decode cX8_againstSecond 1 = .ok (.iload_n 2, 1) := by decide +kernel
theorem dX8_againstSecond_2 : decode cX8_againstSecond 2 = .ok (.invokestatic 42, 3) := by decide +kernel
theorem dX8_againstSecond_5 : decode cX8_againstSecond 5 = .ok (.istore_n 3, 1) := by decide +kernel
theorem dX8_againstSecond_6 : decode cX8_againstSecond 6 = .ok (.iload_n 3, 1) := by decide +kernel
theorem dX8_againstSecond_7 : decode cX8_againstSecond 7 = .ok (.ifCond .eq 5, 3) := by decide +kernel
theorem dX8_againstSecond_10 : decode cX8_againstSecond 10 = .ok (.iload_n 3, 1) := by decide +kernel
theorem dX8_againstSecond_11 : decode cX8_againstSecond 11 = .ok (.ireturn, 1) := by decide +kernel
theorem dX8_againstSecond_12 : decode cX8_againstSecond 12 = .ok (.aload_n 1, 1) := by decide +kernel
theorem dX8_againstSecond_13 : decode cX8_againstSecond 13 = .ok (.getfield 138, 3) := by decide +kernel
theorem dX8_againstSecond_16 : decode cX8_againstSecond 16 = .ok (.iconst (-1), 1) := by decide +kernel
theorem dX8_againstSecond_17 : decode cX8_againstSecond 17 = .ok (.if_icmp .ne 12, 3) := by decide +kernel
theorem dX8_againstSecond_20 : decode cX8_againstSecond 20 = .ok (.aload_n 1, 1) := by decide +kernel
theorem dX8_againstSecond_21 : decode cX8_againstSecond 21 = .ok (.getfield 128, 3) := by decide +kernel
theorem dX8_againstSecond_24 : decode cX8_againstSecond 24 = .ok (.bipush 9, 2) := by decide +kernel
theorem dX8_againstSecond_26 : decode cX8_againstSecond 26 = .ok (.if_icmp .ne 5, 3) := by decide +kernel
theorem dX8_againstSecond_29 : decode cX8_againstSecond 29 = .ok (.iconst 3, 1) := by decide +kernel
theorem dX8_againstSecond_30 : decode cX8_againstSecond 30 = .ok (.ireturn, 1) := by decide +kernel
theorem dX8_againstSecond_31 : decode cX8_againstSecond 31 = .ok (.iload_n 2, 1) := by decide +kernel
theorem dX8_againstSecond_32 : decode cX8_againstSecond 32 = .ok (.aload_n 1, 1) := by decide +kernel
theorem dX8_againstSecond_33 : decode cX8_againstSecond 33 = .ok (.getfield 229, 3) := by decide +kernel
theorem dX8_againstSecond_36 : decode cX8_againstSecond 36 = .ok (.if_icmp .eq 11, 3) := by decide +kernel
theorem dX8_againstSecond_39 : decode cX8_againstSecond 39 = .ok (.iload_n 2, 1) := by decide +kernel
theorem dX8_againstSecond_40 : decode cX8_againstSecond 40 = .ok (.aload_n 0, 1) := by decide +kernel
theorem dX8_againstSecond_41 : decode cX8_againstSecond 41 = .ok (.getfield 79, 3) := by decide +kernel
theorem dX8_againstSecond_44 : decode cX8_againstSecond 44 = .ok (.if_icmp .ne 7, 3) := by decide +kernel
theorem dX8_againstSecond_47 : decode cX8_againstSecond 47 = .ok (.iconst 2, 1) := by decide +kernel
theorem dX8_againstSecond_48 : decode cX8_againstSecond 48 = .ok (.goto 4, 3) := by decide +kernel
theorem dX8_againstSecond_51 : decode cX8_againstSecond 51 = .ok (.iconst 0, 1) := by decide +kernel
theorem dX8_againstSecond_52 : decode cX8_againstSecond 52 = .ok (.ireturn, 1) := by decide +kernel
set_option maxRecDepth 20000 in
theorem ggX8_againstVote_X2_has : GoodIn wsX8_againstVote wsX2_has := goodIn_r _ [6, 7, 8, 29, 30, 31, 32, 33, 34, 35, 36] (by decide +kernel) (by decide +kernel)
set_option maxRecDepth 20000 in
theorem gX8_againstVote_X2_has : GoodIn wsX8_againstVote (wsV RX8 114 RX2 yX2_has wsX2_has) := goodIn_app (goodIn_of _ (by decide +kernel)) ggX8_againstVote_X2_has
set_option maxRecDepth 20000 in
theorem ggX8_againstVote_X2_isThere : GoodIn wsX8_againstVote wsX2_isThere := goodIn_r _ [12, 7, 8, 29, 30, 31, 32, 33, 34, 35, 36] (by decide +kernel) (by decide +kernel)
set_option maxRecDepth 20000 in
theorem gX8_againstVote_X2_isThere : GoodIn wsX8_againstVote (wsV RX8 82 RX2 yX2_isThere wsX2_isThere) := goodIn_app (goodIn_of _ (by decide +kernel)) ggX8_againstVote_X2_isThere
theorem dX8_againstVote_0 : decode cX8_againstVote 0 = .ok (.aload_n 0, 1) := by decide +kernel
theorem dX8_againstVote_1 : decode cX8_againstVote 1 = .ok (.iload_n 2, 1) := by decide +kernel
theorem dX8_againstVote_2 : decode cX8_againstVote 2 = .ok (.invokevirtual 114, 3) := by decide +kernel
theorem dX8_againstVote_5 : decode cX8_againstVote 5 = .ok (.ifCond .eq 12, 3) := by decide +kernel
theorem dX8_againstVote_8 : decode cX8_againstVote 8 = .ok (.iload_n 3, 1) := by decide +kernel
theorem dX8_againstVote_9 : decode cX8_againstVote 9 = .ok (.ifCond .lt 8, 3) := by decide +kernel
theorem dX8_againstVote_12 : decode cX8_againstVote 12 = .ok (.iload_n 3, 1) := by decide +kernel
theorem dX8_againstVote_13 : decode cX8_againstVote 13 = .ok (.iconst 2, 1) := by decide +kernel
theorem dX8_againstVote_14 : decode cX8_againstVote 14 = .ok (.if_icmp .le 6, 3) := by decide +kernel
theorem dX8_againstVote_17 : decode cX8_againstVote 17 = .ok (.bipush 9, 2) := by decide +kernel
theorem dX8_againstVote_19 : decode cX8_againstVote 19 = .ok (.ireturn, 1) := by decide +kernel
theorem dX8_againstVote_20 : decode cX8_againstVote 20 = .ok (.aload_n 0, 1) := by decide +kernel
theorem dX8_againstVote_21 : decode cX8_againstVote 21 = .ok (.iload_n 2, 1) := by decide +kernel
theorem dX8_againstVote_22 : decode cX8_againstVote 22 = .ok (.invokevirtual 82, 3) := by decide +kernel
theorem dX8_againstVote_25 : decode cX8_againstVote 25 = .ok (.ifCond .ne 6, 3) := by decide +kernel
theorem dX8_againstVote_28 : decode cX8_againstVote 28 = .ok (.bipush 8, 2) := by decide +kernel
theorem dX8_againstVote_30 : decode cX8_againstVote 30 = .ok (.ireturn, 1) := by decide +kernel
theorem dX8_againstVote_31 : decode cX8_againstVote 31 = .ok (.aload_n 1, 1) := by decide +kernel
theorem dX8_againstVote_32 : decode cX8_againstVote 32 = .ok (.getfield 138, 3) := by decide +kernel
theorem dX8_againstVote_35 : decode cX8_againstVote 35 = .ok (.iconst (-1), 1) := by decide +kernel
theorem dX8_againstVote_36 : decode cX8_againstVote 36 = .ok (.if_icmp .ne 7, 3) := by decide +kernel
theorem dX8_againstVote_39 : decode cX8_againstVote 39 = .ok (.iconst 3, 1) := by decide +kernel
theorem dX8_againstVote_40 : decode cX8_againstVote 40 = .ok (.goto 4, 3) := by decide +kernel
theorem dX8_againstVote_43 : decode cX8_againstVote 43 = .ok (.iconst 0, 1) := by decide +kernel
theorem dX8_againstVote_44 : decode cX8_againstVote 44 = .ok (.ireturn, 1) := by decide +kernel
set_option maxRecDepth 20000 in
theorem ggX8_againstWithdraw_X2_isThere : GoodIn wsX8_againstWithdraw wsX2_isThere := goodIn_r _ [7, 8, 9, 26, 27, 28, 29, 30, 31, 32, 33] (by decide +kernel) (by decide +kernel)
set_option maxRecDepth 20000 in
theorem gX8_againstWithdraw_X2_isThere : GoodIn wsX8_againstWithdraw (wsV RX8 82 RX2 yX2_isThere wsX2_isThere) := goodIn_app (goodIn_of _ (by decide +kernel)) ggX8_againstWithdraw_X2_isThere
theorem dX8_againstWithdraw_0 : decode cX8_againstWithdraw 0 = .ok (.iload_n 2, 1) := by decide +kernel
theorem dX8_againstWithdraw_1 : decode cX8_againstWithdraw 1 = .ok (.aload_n 1, 1) := by decide +kernel
theorem dX8_againstWithdraw_2 : decode cX8_againstWithdraw 2 = .ok (.getfield 229, 3) := by decide +kernel
theorem dX8_againstWithdraw_5 : decode cX8_againstWithdraw 5 = .ok (.if_icmp .ne 12, 3) := by decide +kernel
theorem dX8_againstWithdraw_8 : decode cX8_againstWithdraw 8 = .ok (.aload_n 1, 1) := by decide +kernel
theorem dX8_againstWithdraw_9 : decode cX8_againstWithdraw 9 = .ok (.getfield 128, 3) := by decide +kernel
theorem dX8_againstWithdraw_12 : decode cX8_againstWithdraw 12 = .ok (.bipush 9, 2) := by decide +kernel
theorem dX8_againstWithdraw_14 : decode cX8_againstWithdraw 14 = .ok (.if_icmp .ne 5, 3) := by decide +kernel
theorem dX8_againstWithdraw_17 : decode cX8_againstWithdraw 17 = .ok (.iconst 2, 1) := by decide +kernel
theorem dX8_againstWithdraw_18 : decode cX8_againstWithdraw 18 = .ok (.ireturn, 1) := by decide +kernel
theorem dX8_againstWithdraw_19 : decode cX8_againstWithdraw 19 = .ok (.aload_n 0, 1) := by decide +kernel
theorem dX8_againstWithdraw_20 : decode cX8_againstWithdraw 20 = .ok (.iload_n 2, 1) := by decide +kernel
theorem dX8_againstWithdraw_21 : decode cX8_againstWithdraw 21 = .ok (.invokevirtual 82, 3) := by decide +kernel
theorem dX8_againstWithdraw_24 : decode cX8_againstWithdraw 24 = .ok (.ifCond .eq 7, 3) := by decide +kernel
theorem dX8_againstWithdraw_27 : decode cX8_againstWithdraw 27 = .ok (.iconst 0, 1) := by decide +kernel
theorem dX8_againstWithdraw_28 : decode cX8_againstWithdraw 28 = .ok (.goto 5, 3) := by decide +kernel
theorem dX8_againstWithdraw_31 : decode cX8_againstWithdraw 31 = .ok (.bipush 8, 2) := by decide +kernel
theorem dX8_againstWithdraw_33 : decode cX8_againstWithdraw 33 = .ok (.ireturn, 1) := by decide +kernel
theorem dX8_againstRule_0 : decode cX8_againstRule 0 = .ok (.aload_n 1, 1) := by decide +kernel
theorem dX8_againstRule_1 : decode cX8_againstRule 1 = .ok (.getfield 128, 3) := by decide +kernel
theorem dX8_againstRule_4 : decode cX8_againstRule 4 = .ok (.bipush 9, 2) := by decide +kernel
theorem dX8_againstRule_6 : decode cX8_againstRule 6 = .ok (.if_icmp .ne 6, 3) := by decide +kernel
theorem dX8_againstRule_9 : decode cX8_againstRule 9 = .ok (.bipush 11, 2) := by decide +kernel
theorem dX8_againstRule_11 : decode cX8_againstRule 11 = .ok (.ireturn, 1) := by decide +kernel
theorem dX8_againstRule_12 : decode cX8_againstRule 12 = .ok (.aload_n 0, 1) := by decide +kernel
theorem dX8_againstRule_13 : decode cX8_againstRule 13 = .ok (.getfield 86, 3) := by decide +kernel
theorem dX8_againstRule_16 : decode cX8_againstRule 16 = .ok (.getfield 117, 3) := by decide +kernel
theorem dX8_againstRule_19 : decode cX8_againstRule 19 = .ok (.bipush 9, 2) := by decide +kernel
theorem dX8_againstRule_21 : decode cX8_againstRule 21 = .ok (.if_icmp .lt 8, 3) := by decide +kernel
theorem dX8_againstRule_24 : decode cX8_againstRule 24 = .ok (.bipush 10, 2) := by decide +kernel
theorem dX8_againstRule_26 : decode cX8_againstRule 26 = .ok (.goto 4, 3) := by decide +kernel
theorem dX8_againstRule_29 : decode cX8_againstRule 29 = .ok (.iconst 0, 1) := by decide +kernel
theorem dX8_againstRule_30 : decode cX8_againstRule 30 = .ok (.ireturn, 1) := by decide +kernel
set_option maxRecDepth 20000 in
theorem ggX8_againstAppeal_X8_againstAbsent : GoodIn wsX8_againstAppeal wsX8_againstAbsent := goodIn_r _ [7, 8, 9, 10, 11, 12, 13, 14, 15, 16, 17, 18, 35, 36, 37, 38, 39, 40, 41, 42] (by decide +kernel) (by decide +kernel)
set_option maxRecDepth 20000 in
theorem gX8_againstAppeal_X8_againstAbsent : GoodIn wsX8_againstAppeal (va_wsS RX8 42 yX8_againstAbsent wsX8_againstAbsent) := goodIn_app (goodIn_of _ (by decide +kernel)) ggX8_againstAppeal_X8_againstAbsent
theorem dX8_againstAppeal_0 : decode cX8_againstAppeal 0 = .ok (.aload_n 1, 1) := by decide +kernel
theorem dX8_againstAppeal_1 : decode cX8_againstAppeal 1 = .ok (.getfield 128, 3) := by decide +kernel
theorem dX8_againstAppeal_4 : decode cX8_againstAppeal 4 = .ok (.bipush 9, 2) := by decide +kernel
theorem dX8_againstAppeal_6 : decode cX8_againstAppeal 6 = .ok (.if_icmp .ne 11, 3) := by decide +kernel
theorem dX8_againstAppeal_9 : decode cX8_againstAppeal 9 = .ok (.aload_n 1, 1) := by decide +kernel
theorem dX8_againstAppeal_10 : decode cX8_againstAppeal 10 = .ok (.getfield 138, 3) := by decide +kernel
theorem dX8_againstAppeal_13 : decode cX8_againstAppeal 13 = .ok (.iconst (-1), 1) := by decide +kernel
theorem dX8_againstAppeal_14 : decode cX8_againstAppeal 14 = .ok (.if_icmp .eq 6, 3) := by decide +kernel
theorem dX8_againstAppeal_17 : decode cX8_againstAppeal 17 = .ok (.bipush 11, 2) := by decide +kernel
theorem dX8_againstAppeal_19 : decode cX8_againstAppeal 19 = .ok (.ireturn, 1) := by decide +kernel
theorem dX8_againstAppeal_20 : decode cX8_againstAppeal 20 = .ok (.aload_n 0, 1) := by decide +kernel
theorem dX8_againstAppeal_21 : decode cX8_againstAppeal 21 = .ok (.iload_n 2, 1) := by decide +kernel
theorem dX8_againstAppeal_22 : decode cX8_againstAppeal 22 = .ok (.invokestatic 42, 3) := by decide +kernel
theorem dX8_againstAppeal_25 : decode cX8_againstAppeal 25 = .ok (.istore_n 3, 1) := by decide +kernel
theorem dX8_againstAppeal_26 : decode cX8_againstAppeal 26 = .ok (.iload_n 3, 1) := by decide +kernel
theorem dX8_againstAppeal_27 : decode cX8_againstAppeal 27 = .ok (.ifCond .eq 5, 3) := by decide +kernel
theorem dX8_againstAppeal_30 : decode cX8_againstAppeal 30 = .ok (.iload_n 3, 1) := by decide +kernel
theorem dX8_againstAppeal_31 : decode cX8_againstAppeal 31 = .ok (.ireturn, 1) := by decide +kernel
theorem dX8_againstAppeal_32 : decode cX8_againstAppeal 32 = .ok (.iload_n 2, 1) := by decide +kernel
theorem dX8_againstAppeal_33 : decode cX8_againstAppeal 33 = .ok (.aload_n 0, 1) := by decide +kernel
theorem dX8_againstAppeal_34 : decode cX8_againstAppeal 34 = .ok (.getfield 79, 3) := by decide +kernel
theorem dX8_againstAppeal_37 : decode cX8_againstAppeal 37 = .ok (.if_icmp .ne 7, 3) := by decide +kernel
theorem dX8_againstAppeal_40 : decode cX8_againstAppeal 40 = .ok (.iconst 2, 1) := by decide +kernel
theorem dX8_againstAppeal_41 : decode cX8_againstAppeal 41 = .ok (.goto 4, 3) := by decide +kernel
theorem dX8_againstAppeal_44 : decode cX8_againstAppeal 44 = .ok (.iconst 0, 1) := by decide +kernel
theorem dX8_againstAppeal_45 : decode cX8_againstAppeal 45 = .ok (.ireturn, 1) := by decide +kernel
theorem dX9_init_0 : decode cX9_init 0 = .ok (.aload_n 0, 1) := by decide +kernel
theorem dX9_init_1 : decode cX9_init 1 = .ok (.invokespecial 3, 3) := by decide +kernel
theorem dX9_init_4 : decode cX9_init 4 = .ok (.aload_n 0, 1) := by decide +kernel
theorem dX9_init_5 : decode cX9_init 5 = .ok (.sipush 400, 3) := by decide +kernel
theorem dX9_init_8 : decode cX9_init 8 = .ok (.newarray .int, 2) := by decide +kernel
theorem dX9_init_10 : decode cX9_init 10 = .ok (.putfield 9, 3) := by decide +kernel
theorem dX9_init_13 : decode cX9_init 13 = .ok (.return_, 1) := by decide +kernel
theorem dX9_wordAt_0 : decode cX9_wordAt 0 = .ok (.iload_n 1, 1) := by decide +kernel
theorem dX9_wordAt_1 : decode cX9_wordAt 1 = .ok (.ifCond .lt 20, 3) := by decide +kernel
theorem dX9_wordAt_4 : decode cX9_wordAt 4 = .ok (.iload_n 1, 1) := by decide +kernel
theorem dX9_wordAt_5 : decode cX9_wordAt 5 = .ok (.aload_n 0, 1) := by decide +kernel
theorem dX9_wordAt_6 : decode cX9_wordAt 6 = .ok (.getfield 15, 3) := by decide +kernel
theorem dX9_wordAt_9 : decode cX9_wordAt 9 = .ok (.if_icmp .ge 12, 3) := by decide +kernel
theorem dX9_wordAt_12 : decode cX9_wordAt 12 = .ok (.iload_n 1, 1) := by decide +kernel
theorem dX9_wordAt_13 : decode cX9_wordAt 13 = .ok (.aload_n 0, 1) := by decide +kernel
theorem dX9_wordAt_14 : decode cX9_wordAt 14 = .ok (.getfield 9, 3) := by decide +kernel
theorem dX9_wordAt_17 : decode cX9_wordAt 17 = .ok (.arraylength, 1) := by decide +kernel
theorem dX9_wordAt_18 : decode cX9_wordAt 18 = .ok (.if_icmp .lt 7, 3) := by decide +kernel
theorem dX9_wordAt_21 : decode cX9_wordAt 21 = .ok (.iconst (-1), 1) := by decide +kernel
theorem dX9_wordAt_22 : decode cX9_wordAt 22 = .ok (.goto 9, 3) := by decide +kernel
theorem dX9_wordAt_25 : decode cX9_wordAt 25 = .ok (.aload_n 0, 1) := by decide +kernel
theorem dX9_wordAt_26 : decode cX9_wordAt 26 = .ok (.getfield 9, 3) := by decide +kernel
theorem dX9_wordAt_29 : decode cX9_wordAt 29 = .ok (.iload_n 1, 1) := by decide +kernel
theorem dX9_wordAt_30 : decode cX9_wordAt 30 = .ok (.iaload, 1) := by decide +kernel
theorem dX9_wordAt_31 : decode cX9_wordAt 31 = .ok (.ireturn, 1) := by decide +kernel
theorem dX9_append_0 : decode cX9_append 0 = .ok (.iload_n 1, 1) := by decide +kernel
theorem dX9_append_1 : decode cX9_append 1 = .ok (.ifCond .eq 35, 3) := by decide +kernel
theorem dX9_append_4 : decode cX9_append 4 = .ok (.aload_n 0, 1) := by decide +kernel
theorem dX9_append_5 : decode cX9_append 5 = .ok (.getfield 15, 3) := by decide +kernel
theorem dX9_append_8 : decode cX9_append 8 = .ok (.aload_n 0, 1) := by decide +kernel
theorem dX9_append_9 : decode cX9_append 9 = .ok (.getfield 9, 3) := by decide +kernel
theorem dX9_append_12 : decode cX9_append 12 = .ok (.arraylength, 1) := by decide +kernel
theorem dX9_append_13 : decode cX9_append 13 = .ok (.if_icmp .ge 23, 3) := by decide +kernel
theorem dX9_append_16 : decode cX9_append 16 = .ok (.aload_n 0, 1) := by decide +kernel
theorem dX9_append_17 : decode cX9_append 17 = .ok (.getfield 9, 3) := by decide +kernel
theorem dX9_append_20 : decode cX9_append 20 = .ok (.aload_n 0, 1) := by decide +kernel
theorem dX9_append_21 : decode cX9_append 21 = .ok (.getfield 15, 3) := by decide +kernel
theorem dX9_append_24 : decode cX9_append 24 = .ok (.iload_n 1, 1) := by decide +kernel
theorem dX9_append_25 : decode cX9_append 25 = .ok (.iastore, 1) := by decide +kernel
theorem dX9_append_26 : decode cX9_append 26 = .ok (.aload_n 0, 1) := by decide +kernel
theorem dX9_append_27 : decode cX9_append 27 = .ok (.dup, 1) := by decide +kernel
theorem dX9_append_28 : decode cX9_append 28 = .ok (.getfield 15, 3) := by decide +kernel
theorem dX9_append_31 : decode cX9_append 31 = .ok (.iconst 1, 1) := by decide +kernel
theorem dX9_append_32 : decode cX9_append 32 = .ok (.iadd, 1) := by decide +kernel
theorem dX9_append_33 : decode cX9_append 33 = .ok (.putfield 15, 3) := by decide +kernel
theorem dX9_append_36 : decode cX9_append 36 = .ok (.return_, 1) := by decide +kernel
theorem dX9_become_0 : decode cX9_become 0 = .ok (.aload_n 0, 1) := by decide +kernel
theorem dX9_become_1 : decode cX9_become 1 = .ok (.iconst 0, 1) := by decide +kernel
theorem dX9_become_2 : decode cX9_become 2 = .ok (.aload_n 1, 1) := by decide +kernel
theorem dX9_become_3 : decode cX9_become 3 = .ok (.getfield 15, 3) := by decide +kernel
theorem dX9_become_6 : decode cX9_become 6 = .ok (.aload_n 0, 1) := by decide +kernel
theorem dX9_become_7 : decode cX9_become 7 = .ok (.getfield 9, 3) := by decide +kernel
theorem dX9_become_10 : decode cX9_become 10 = .ok (.arraylength, 1) := by decide +kernel
theorem dX9_become_11 : decode cX9_become 11 = .ok (.invokestatic 19, 3) := by decide +kernel
theorem dX9_become_14 : decode cX9_become 14 = .ok (.invokestatic 25, 3) := by decide +kernel
theorem dX9_become_17 : decode cX9_become 17 = .ok (.putfield 15, 3) := by decide +kernel
theorem dX9_become_20 : decode cX9_become 20 = .ok (.aload_n 1, 1) := by decide +kernel
theorem dX9_become_21 : decode cX9_become 21 = .ok (.getfield 9, 3) := by decide +kernel
theorem dX9_become_24 : decode cX9_become 24 = .ok (.iconst 0, 1) := by decide +kernel
theorem dX9_become_25 : decode cX9_become 25 = .ok (.aload_n 0, 1) := by decide +kernel
theorem dX9_become_26 : decode cX9_become 26 = .ok (.getfield 9, 3) := by decide +kernel
theorem dX9_become_29 : decode cX9_become 29 = .ok (.iconst 0, 1) := by decide +kernel
theorem dX9_become_30 : decode cX9_become 30 = .ok (.aload_n 0, 1) := by decide +kernel
theorem dX9_become_31 : decode cX9_become 31 = .ok (.getfield 15, 3) := by decide +kernel
theorem dX9_become_34 : decode cX9_become 34 = .ok (.invokestatic 28, 3) := by decide +kernel
theorem dX9_become_37 : decode cX9_become 37 = .ok (.return_, 1) := by decide +kernel
theorem dX9_sizeWith_0 : decode cX9_sizeWith 0 = .ok (.aload_n 0, 1) := by decide +kernel
theorem dX9_sizeWith_1 : decode cX9_sizeWith 1 = .ok (.getfield 15, 3) := by decide +kernel
theorem dX9_sizeWith_4 : decode cX9_sizeWith 4 = .ok (.iload_n 2, 1) := by decide +kernel
theorem dX9_sizeWith_5 : decode cX9_sizeWith 5 = .ok (.iload_n 1, 1) := by decide +kernel
theorem dX9_sizeWith_6 : decode cX9_sizeWith 6 = .ok (.isub, 1) := by decide +kernel
theorem dX9_sizeWith_7 : decode cX9_sizeWith 7 = .ok (.isub, 1) := by decide +kernel
theorem dX9_sizeWith_8 : decode cX9_sizeWith 8 = .ok (.iload_n 3, 1) := by decide +kernel
theorem dX9_sizeWith_9 : decode cX9_sizeWith 9 = .ok (.iadd, 1) := by decide +kernel
theorem dX9_sizeWith_10 : decode cX9_sizeWith 10 = .ok (.ireturn, 1) := by decide +kernel
set_option maxRecDepth 20000 in
theorem ggX9_replace_X9_sizeWith : GoodIn wsX9_replace wsX9_sizeWith := goodIn_r _ [11, 1, 12, 13] (by decide +kernel) (by decide +kernel)
set_option maxRecDepth 20000 in
theorem gX9_replace_X9_sizeWith : GoodIn wsX9_replace (wsV RX9 34 RX9 yX9_sizeWith wsX9_sizeWith) := goodIn_app (goodIn_of _ (by decide +kernel)) ggX9_replace_X9_sizeWith
theorem dX9_replace_0 : decode cX9_replace 0 = .ok (.aload_n 0, 1) := by decide +kernel
theorem dX9_replace_1 : decode cX9_replace 1 = .ok (.iload_n 1, 1) := by decide +kernel
theorem dX9_replace_2 : decode cX9_replace 2 = .ok (.iload_n 2, 1) := by decide +kernel
theorem dX9_replace_3 : decode cX9_replace 3 = .ok (.aload_n 3, 1) := by decide +kernel
theorem dX9_replace_4 : decode cX9_replace 4 = .ok (.getfield 15, 3) := by decide +kernel
theorem dX9_replace_7 : decode cX9_replace 7 = .ok (.invokevirtual 34, 3) := by decide +kernel
theorem dX9_replace_10 : decode cX9_replace 10 = .ok (.istore 4, 2) := by decide +kernel
theorem dX9_replace_12 : decode cX9_replace 12 = .ok (.iload_n 1, 1) := by decide +kernel
theorem dX9_replace_13 : decode cX9_replace 13 = .ok (.ifCond .lt 26, 3) := by decide +kernel
theorem dX9_replace_16 : decode cX9_replace 16 = .ok (.iload_n 2, 1) := by decide +kernel
theorem dX9_replace_17 : decode cX9_replace 17 = .ok (.iload_n 1, 1) := by decide +kernel
theorem dX9_replace_18 : decode cX9_replace 18 = .ok (.if_icmp .lt 21, 3) := by decide +kernel
theorem dX9_replace_21 : decode cX9_replace 21 = .ok (.iload_n 2, 1) := by decide +kernel
theorem dX9_replace_22 : decode cX9_replace 22 = .ok (.aload_n 0, 1) := by decide +kernel
theorem dX9_replace_23 : decode cX9_replace 23 = .ok (.getfield 15, 3) := by decide +kernel
theorem dX9_replace_26 : decode cX9_replace 26 = .ok (.if_icmp .gt 13, 3) := by decide +kernel
theorem dX9_replace_29 : decode cX9_replace 29 = .ok (.iload 4, 2) := by decide +kernel
theorem dX9_replace_31 : decode cX9_replace 31 = .ok (.aload_n 0, 1) := by decide +kernel
theorem dX9_replace_32 : decode cX9_replace 32 = .ok (.getfield 9, 3) := by decide +kernel
theorem dX9_replace_35 : decode cX9_replace 35 = .ok (.arraylength, 1) := by decide +kernel
theorem dX9_replace_36 : decode cX9_replace 36 = .ok (.if_icmp .le 4, 3) := by decide +kernel
theorem dX9_replace_39 : decode cX9_replace 39 = .ok (.return_, 1) := by decide +kernel
theorem dX9_replace_40 : decode cX9_replace 40 = .ok (.aload_n 0, 1) := by decide +kernel
theorem dX9_replace_41 : decode cX9_replace 41 = .ok (.getfield 9, 3) := by decide +kernel
theorem dX9_replace_44 : decode cX9_replace 44 = .ok (.iload_n 2, 1) := by decide +kernel
theorem dX9_replace_45 : decode cX9_replace 45 = .ok (.aload_n 0, 1) := by decide +kernel
theorem dX9_replace_46 : decode cX9_replace 46 = .ok (.getfield 9, 3) := by decide +kernel
theorem dX9_replace_49 : decode cX9_replace 49 = .ok (.iload_n 1, 1) := by decide +kernel
theorem dX9_replace_50 : decode cX9_replace 50 = .ok (.aload_n 3, 1) := by decide +kernel
theorem dX9_replace_51 : decode cX9_replace 51 = .ok (.getfield 15, 3) := by decide +kernel
theorem dX9_replace_54 : decode cX9_replace 54 = .ok (.iadd, 1) := by decide +kernel
theorem dX9_replace_55 : decode cX9_replace 55 = .ok (.aload_n 0, 1) := by decide +kernel
theorem dX9_replace_56 : decode cX9_replace 56 = .ok (.getfield 15, 3) := by decide +kernel
theorem dX9_replace_59 : decode cX9_replace 59 = .ok (.iload_n 2, 1) := by decide +kernel
theorem dX9_replace_60 : decode cX9_replace 60 = .ok (.isub, 1) := by decide +kernel
theorem dX9_replace_61 : decode cX9_replace 61 = .ok (.invokestatic 28, 3) := by decide +kernel
theorem dX9_replace_64 : decode cX9_replace 64 = .ok (.aload_n 3, 1) := by decide +kernel
theorem dX9_replace_65 : decode cX9_replace 65 = .ok (.getfield 9, 3) := by decide +kernel
theorem dX9_replace_68 : decode cX9_replace 68 = .ok (.iconst 0, 1) := by decide +kernel
theorem dX9_replace_69 : decode cX9_replace 69 = .ok (.aload_n 0, 1) := by decide +kernel
theorem dX9_replace_70 : decode cX9_replace 70 = .ok (.getfield 9, 3) := by decide +kernel
theorem dX9_replace_73 : decode cX9_replace 73 = .ok (.iload_n 1, 1) := by decide +kernel
theorem dX9_replace_74 : decode cX9_replace 74 = .ok (.aload_n 3, 1) := by decide +kernel
theorem dX9_replace_75 : decode cX9_replace 75 = .ok (.getfield 15, 3) := by decide +kernel
theorem dX9_replace_78 : decode cX9_replace 78 = .ok (.invokestatic 28, 3) := by decide +kernel
theorem dX9_replace_81 : decode cX9_replace 81 = .ok (.aload_n 0, 1) := by decide +kernel
theorem dX9_replace_82 : decode cX9_replace 82 = .ok (.iload 4, 2) := by decide +kernel
theorem dX9_replace_84 : decode cX9_replace 84 = .ok (.putfield 15, 3) := by decide +kernel
theorem dX9_replace_87 : decode cX9_replace 87 = .ok (.return_, 1) := by decide +kernel
set_option maxRecDepth 20000 in
theorem ggX10_init_X0_init : GoodIn wsX10_init wsX0_init := goodIn_r _ [15, 16, 2, 3, 17, 18, 19, 20, 21, 22, 23, 24, 25, 26, 27, 28, 29, 30, 10, 11, 31, 32, 33, 34, 35, 36, 37, 38, 39, 40, 41, 42, 43, 44, 45, 46, 47, 48, 49, 50, 51, 52, 53, 54, 55, 56, 57, 58, 59, 60, 61, 62, 63, 64, 65, 66, 67, 68, 69, 70, 71, 72, 73, 74, 75, 76, 77, 78, 79, 80, 81, 82, 83, 84, 85, 86, 87, 109, 110, 111, 112, 113, 114, 115, 116, 89, 90, 91, 92, 93, 94, 95, 96, 97, 98, 99, 117, 118, 119, 120, 105, 106, 107, 108, 121, 122] (by decide +kernel) (by decide +kernel)
set_option maxRecDepth 20000 in
theorem gX10_init_X0_init : GoodIn wsX10_init (wsX0_init) := ggX10_init_X0_init
set_option maxRecDepth 20000 in
theorem ggX10_init_X3_init : GoodIn wsX10_init wsX3_init := goodIn_r _ [57, 58, 2, 3, 59, 60, 61, 62, 63, 64, 42, 65, 105, 106, 107, 108] (by decide +kernel) (by decide +kernel)
set_option maxRecDepth 20000 in
theorem gX10_init_X3_init : GoodIn wsX10_init (wsX3_init) := ggX10_init_X3_init
theorem dX10_init_0 : decode cX10_init 0 = .ok (.aload_n 0, 1) := by decide +kernel
theorem dX10_init_1 : decode cX10_init 1 = .ok (.invokespecial 1, 3) := by decide +kernel
theorem dX10_init_4 : decode cX10_init 4 = .ok (.aload_n 0, 1) := by decide +kernel
theorem dX10_init_5 : decode cX10_init 5 = .ok (.new 7, 3) := by decide +kernel
theorem dX10_init_8 : decode cX10_init 8 = .ok (.dup, 1) := by decide +kernel
theorem dX10_init_9 : decode cX10_init 9 = .ok (.invokespecial 9, 3) := by decide +kernel
theorem dX10_init_12 : decode cX10_init 12 = .ok (.putfield 10, 3) := by decide +kernel
theorem dX10_init_15 : decode cX10_init 15 = .ok (.aload_n 0, 1) := by decide +kernel
theorem dX10_init_16 : decode cX10_init 16 = .ok (.new 7, 3) := by decide +kernel
theorem dX10_init_19 : decode cX10_init 19 = .ok (.dup, 1) := by decide +kernel
theorem dX10_init_20 : decode cX10_init 20 = .ok (.invokespecial 9, 3) := by decide +kernel
theorem dX10_init_23 : decode cX10_init 23 = .ok (.putfield 16, 3) := by decide +kernel
theorem dX10_init_26 : decode cX10_init 26 = .ok (.aload_n 0, 1) := by decide +kernel
theorem dX10_init_27 : decode cX10_init 27 = .ok (.new 19, 3) := by decide +kernel
theorem dX10_init_30 : decode cX10_init 30 = .ok (.dup, 1) := by decide +kernel
theorem dX10_init_31 : decode cX10_init 31 = .ok (.bipush 6, 2) := by decide +kernel
theorem dX10_init_33 : decode cX10_init 33 = .ok (.sipush 600, 3) := by decide +kernel
theorem dX10_init_36 : decode cX10_init 36 = .ok (.invokespecial 21, 3) := by decide +kernel
theorem dX10_init_39 : decode cX10_init 39 = .ok (.putfield 24, 3) := by decide +kernel
theorem dX10_init_42 : decode cX10_init 42 = .ok (.return_, 1) := by decide +kernel
set_option maxRecDepth 20000 in
theorem ggX10_seats_X0_begin : GoodIn wsX10_seats wsX0_begin := goodIn_r _ [6, 7, 8, 9, 10, 11, 12, 13, 14, 15, 16, 17, 18, 5, 19, 20, 21, 22, 23, 24, 25, 26, 27, 28, 29, 30, 31, 32, 33, 34, 35, 36, 37, 38, 39, 40, 41, 42, 43, 44, 45, 46, 47, 48, 49, 50, 51, 52, 53, 54, 55, 56, 57, 58, 59, 60, 61, 62, 63, 64, 65, 66, 67, 73, 74, 75, 76, 77, 78, 79, 80, 81, 82, 83, 84, 85, 86, 87, 88, 89, 90, 91, 92, 93, 94, 95, 96, 97, 98, 99, 100, 101, 102, 103, 104, 105, 106, 107, 108, 109, 110, 111, 112, 113, 114, 115, 116, 117] (by decide +kernel) (by decide +kernel)
set_option maxRecDepth 20000 in
theorem gX10_seats_X0_begin : GoodIn wsX10_seats (wsV RX10 28 RX0 yX0_begin wsX0_begin) := goodIn_app (goodIn_of _ (by decide +kernel)) ggX10_seats_X0_begin
theorem dX10_seats_0 : decode cX10_seats 0 = .ok (.iload_n 1, 1) := by decide +kernel
theorem dX10_seats_1 : decode cX10_seats 1 = .ok (.iconst 1, 1) := by decide +kernel
theorem dX10_seats_2 : decode cX10_seats 2 = .ok (.if_icmp .lt 10, 3) := by decide +kernel
theorem dX10_seats_5 : decode cX10_seats 5 = .ok (.iload_n 1, 1) := by decide +kernel
theorem dX10_seats_6 : decode cX10_seats 6 = .ok (.sipush 200, 3) := by decide +kernel
theorem dX10_seats_9 : decode cX10_seats 9 = .ok (.if_icmp .le 6, 3) := by decide +kernel
theorem dX10_seats_12 : decode cX10_seats 12 = .ok (.bipush (-9), 2) := by decide +kernel
theorem dX10_seats_14 : decode cX10_seats 14 = .ok (.ireturn, 1) := by decide +kernel
theorem dX10_seats_15 : decode cX10_seats 15 = .ok (.aload_n 0, 1) := by decide +kernel
theorem dX10_seats_16 : decode cX10_seats 16 = .ok (.getfield 10, 3) := by decide +kernel
theorem dX10_seats_19 : decode cX10_seats 19 = .ok (.iload_n 1, 1) := by decide +kernel
theorem dX10_seats_20 : decode cX10_seats 20 = .ok (.invokevirtual 28, 3) := by decide +kernel
theorem dX10_seats_23 : decode cX10_seats 23 = .ok (.iload_n 1, 1) := by decide +kernel
theorem dX10_seats_24 : decode cX10_seats 24 = .ok (.ireturn, 1) := by decide +kernel
set_option maxRecDepth 20000 in
theorem ggX10_there_X0_enact : GoodIn wsX10_there wsX0_enact := goodIn_r _ [6, 7, 8, 9, 10, 11, 12, 13, 14, 15, 16, 17, 18, 19, 20, 21, 22, 23, 24, 25, 26, 27, 28, 29, 30, 31, 32, 33, 34, 35, 36, 37, 38, 39, 40, 41, 42, 43, 44, 45, 46, 47, 48, 49, 50, 51, 52, 53, 54, 55, 56, 57, 58, 59, 60, 61, 62, 63, 64, 65, 66, 67, 68, 69, 70, 71, 72, 73, 74, 75, 76, 77, 78, 79, 80, 81, 82, 83, 84, 85, 86, 87, 88, 89, 90, 91, 92, 93, 94, 95, 96, 97, 98, 99, 100, 101, 102, 103, 104, 105, 106, 107, 5, 108, 109, 110, 111, 112, 113, 114, 115, 116, 117, 118, 119, 120, 121, 122, 123, 124, 125, 126, 127, 128, 129, 130, 131, 132, 133, 134, 135, 136, 137, 138, 139, 140, 141, 142, 143, 144, 145, 146, 147, 148, 149, 150, 151, 152, 153, 154, 155, 156, 157, 158, 159, 160, 161, 162, 163, 164, 165, 166, 167, 168, 169, 170, 171, 172, 173, 174, 175, 176, 177, 178, 179, 180, 181, 182, 183, 184, 185, 186, 187, 188, 189, 190, 191, 192, 193, 194, 195, 196, 197, 198, 199, 200, 201, 202, 203, 204, 205, 206, 207, 208, 209, 210, 211, 212, 213, 214, 215, 216, 217, 218, 219, 220, 221, 222, 223, 224, 225, 226, 227, 228, 229, 230, 231, 232, 233, 234, 235, 236, 237, 238, 239, 240, 241, 242, 243, 244, 245, 246, 247, 248, 249, 250, 251, 252, 253, 254, 255, 256, 257, 258, 259, 260, 261, 262, 263, 264, 265, 266, 267, 268, 269, 270, 271, 272, 273, 274, 275, 276, 277, 278, 279, 280, 281, 282, 283, 284, 285, 286, 287, 288, 289, 290, 291, 292, 293, 294, 295, 296, 297, 298, 299, 300, 301, 302, 303, 304, 305, 306, 307, 308, 309, 310, 311, 312, 313, 314, 315, 316, 317, 318, 319, 320, 321, 322, 323, 324, 325, 326, 327, 328, 329, 330, 331, 332, 333, 334, 335, 336, 337, 338, 339, 340, 341, 342, 343, 344, 345, 346, 347, 348, 349, 350, 351, 352, 353, 354, 355, 356, 357, 358, 359, 360, 361, 362, 363, 364, 365, 366, 367, 368, 369, 370, 371, 372, 373, 374, 375, 376, 377, 378, 379, 380, 381, 382, 383, 384, 385, 386, 387, 388, 389, 390, 391, 392, 393, 394, 395, 396, 397, 398, 399, 400, 401, 402, 403, 404, 405, 406, 407, 408, 409, 410, 411, 412, 413, 414, 415, 416, 417, 418, 419, 420, 421, 422, 423, 424, 425, 426, 427, 428, 429, 430, 431, 432, 433, 434, 435, 436, 437, 438, 439, 440, 441, 442, 443, 444, 445, 446, 447, 448, 449, 450, 451, 452, 453, 454, 455, 456, 457, 458, 459, 460, 461, 462, 463, 464, 465, 466, 467, 468, 469, 470, 471, 472, 473, 474, 475, 476, 477, 478, 479, 480, 481, 482, 483, 484, 485, 486, 487, 488, 489, 490, 491, 492, 493, 494, 495, 496, 497, 498, 499, 500, 501, 502, 503, 504, 505, 506, 507, 508, 509, 510, 511, 512, 513, 514, 515, 516, 517, 518, 519, 520, 521, 522, 523, 524, 530, 531, 532, 533, 534, 535, 536, 537, 538, 539, 540, 541, 542, 543, 544, 545, 546, 547, 548, 549, 550, 551, 552, 553, 554, 555, 556, 557, 558, 559, 560, 561, 562, 563, 564, 565, 566, 567, 568, 569, 570, 571, 572, 573, 574] (by decide +kernel) (by decide +kernel)
set_option maxRecDepth 20000 in
theorem gX10_there_X0_enact : GoodIn wsX10_there (wsV RX10 32 RX0 yX0_enact wsX0_enact) := goodIn_app (goodIn_of _ (by decide +kernel)) ggX10_there_X0_enact
theorem dX10_there_0 : decode cX10_there 0 = .ok (.aload_n 0, 1) := by decide +kernel
theorem dX10_there_1 : decode cX10_there 1 = .ok (.getfield 10, 3) := by decide +kernel
theorem dX10_there_4 : decode cX10_there 4 = .ok (.iconst 1, 1) := by decide +kernel
theorem dX10_there_5 : decode cX10_there 5 = .ok (.iload_n 1, 1) := by decide +kernel
theorem dX10_there_6 : decode cX10_there 6 = .ok (.iconst 0, 1) := by decide +kernel
theorem dX10_there_7 : decode cX10_there 7 = .ok (.iconst 0, 1) := by decide +kernel
theorem dX10_there_8 : decode cX10_there 8 = .ok (.iconst 0, 1) := by decide +kernel
theorem dX10_there_9 : decode cX10_there 9 = .ok (.invokevirtual 32, 3) := by decide +kernel
theorem dX10_there_12 : decode cX10_there 12 = .ok (.ireturn, 1) := by decide +kernel
set_option maxRecDepth 20000 in
theorem ggX10_gone_X0_enact : GoodIn wsX10_gone wsX0_enact := goodIn_r _ [6, 7, 8, 9, 10, 11, 12, 13, 14, 15, 16, 17, 18, 19, 20, 21, 22, 23, 24, 25, 26, 27, 28, 29, 30, 31, 32, 33, 34, 35, 36, 37, 38, 39, 40, 41, 42, 43, 44, 45, 46, 47, 48, 49, 50, 51, 52, 53, 54, 55, 56, 57, 58, 59, 60, 61, 62, 63, 64, 65, 66, 67, 68, 69, 70, 71, 72, 73, 74, 75, 76, 77, 78, 79, 80, 81, 82, 83, 84, 85, 86, 87, 88, 89, 90, 91, 92, 93, 94, 95, 96, 97, 98, 99, 100, 101, 102, 103, 104, 105, 106, 107, 5, 108, 109, 110, 111, 112, 113, 114, 115, 116, 117, 118, 119, 120, 121, 122, 123, 124, 125, 126, 127, 128, 129, 130, 131, 132, 133, 134, 135, 136, 137, 138, 139, 140, 141, 142, 143, 144, 145, 146, 147, 148, 149, 150, 151, 152, 153, 154, 155, 156, 157, 158, 159, 160, 161, 162, 163, 164, 165, 166, 167, 168, 169, 170, 171, 172, 173, 174, 175, 176, 177, 178, 179, 180, 181, 182, 183, 184, 185, 186, 187, 188, 189, 190, 191, 192, 193, 194, 195, 196, 197, 198, 199, 200, 201, 202, 203, 204, 205, 206, 207, 208, 209, 210, 211, 212, 213, 214, 215, 216, 217, 218, 219, 220, 221, 222, 223, 224, 225, 226, 227, 228, 229, 230, 231, 232, 233, 234, 235, 236, 237, 238, 239, 240, 241, 242, 243, 244, 245, 246, 247, 248, 249, 250, 251, 252, 253, 254, 255, 256, 257, 258, 259, 260, 261, 262, 263, 264, 265, 266, 267, 268, 269, 270, 271, 272, 273, 274, 275, 276, 277, 278, 279, 280, 281, 282, 283, 284, 285, 286, 287, 288, 289, 290, 291, 292, 293, 294, 295, 296, 297, 298, 299, 300, 301, 302, 303, 304, 305, 306, 307, 308, 309, 310, 311, 312, 313, 314, 315, 316, 317, 318, 319, 320, 321, 322, 323, 324, 325, 326, 327, 328, 329, 330, 331, 332, 333, 334, 335, 336, 337, 338, 339, 340, 341, 342, 343, 344, 345, 346, 347, 348, 349, 350, 351, 352, 353, 354, 355, 356, 357, 358, 359, 360, 361, 362, 363, 364, 365, 366, 367, 368, 369, 370, 371, 372, 373, 374, 375, 376, 377, 378, 379, 380, 381, 382, 383, 384, 385, 386, 387, 388, 389, 390, 391, 392, 393, 394, 395, 396, 397, 398, 399, 400, 401, 402, 403, 404, 405, 406, 407, 408, 409, 410, 411, 412, 413, 414, 415, 416, 417, 418, 419, 420, 421, 422, 423, 424, 425, 426, 427, 428, 429, 430, 431, 432, 433, 434, 435, 436, 437, 438, 439, 440, 441, 442, 443, 444, 445, 446, 447, 448, 449, 450, 451, 452, 453, 454, 455, 456, 457, 458, 459, 460, 461, 462, 463, 464, 465, 466, 467, 468, 469, 470, 471, 472, 473, 474, 475, 476, 477, 478, 479, 480, 481, 482, 483, 484, 485, 486, 487, 488, 489, 490, 491, 492, 493, 494, 495, 496, 497, 498, 499, 500, 501, 502, 503, 504, 505, 506, 507, 508, 509, 510, 511, 512, 513, 514, 515, 516, 517, 518, 519, 520, 521, 522, 523, 524, 530, 531, 532, 533, 534, 535, 536, 537, 538, 539, 540, 541, 542, 543, 544, 545, 546, 547, 548, 549, 550, 551, 552, 553, 554, 555, 556, 557, 558, 559, 560, 561, 562, 563, 564, 565, 566, 567, 568, 569, 570, 571, 572, 573, 574] (by decide +kernel) (by decide +kernel)
set_option maxRecDepth 20000 in
theorem gX10_gone_X0_enact : GoodIn wsX10_gone (wsV RX10 32 RX0 yX0_enact wsX0_enact) := goodIn_app (goodIn_of _ (by decide +kernel)) ggX10_gone_X0_enact
theorem dX10_gone_0 : decode cX10_gone 0 = .ok (.aload_n 0, 1) := by decide +kernel
theorem dX10_gone_1 : decode cX10_gone 1 = .ok (.getfield 10, 3) := by decide +kernel
theorem dX10_gone_4 : decode cX10_gone 4 = .ok (.iconst 2, 1) := by decide +kernel
theorem dX10_gone_5 : decode cX10_gone 5 = .ok (.iload_n 1, 1) := by decide +kernel
theorem dX10_gone_6 : decode cX10_gone 6 = .ok (.iconst 0, 1) := by decide +kernel
theorem dX10_gone_7 : decode cX10_gone 7 = .ok (.iconst 0, 1) := by decide +kernel
theorem dX10_gone_8 : decode cX10_gone 8 = .ok (.iconst 0, 1) := by decide +kernel
theorem dX10_gone_9 : decode cX10_gone 9 = .ok (.invokevirtual 32, 3) := by decide +kernel
theorem dX10_gone_12 : decode cX10_gone 12 = .ok (.ireturn, 1) := by decide +kernel
set_option maxRecDepth 20000 in
theorem ggX10_quorum_X0_enact : GoodIn wsX10_quorum wsX0_enact := goodIn_r _ [6, 7, 8, 9, 10, 11, 12, 13, 14, 15, 16, 17, 18, 19, 20, 21, 22, 23, 24, 25, 26, 27, 28, 29, 30, 31, 32, 33, 34, 35, 36, 37, 38, 39, 40, 41, 42, 43, 44, 45, 46, 47, 48, 49, 50, 51, 52, 53, 54, 55, 56, 57, 58, 59, 60, 61, 62, 63, 64, 65, 66, 67, 68, 69, 70, 71, 72, 73, 74, 75, 76, 77, 78, 79, 80, 81, 82, 83, 84, 85, 86, 87, 88, 89, 90, 91, 92, 93, 94, 95, 96, 97, 98, 99, 100, 101, 102, 103, 104, 105, 106, 107, 5, 108, 109, 110, 111, 112, 113, 114, 115, 116, 117, 118, 119, 120, 121, 122, 123, 124, 125, 126, 127, 128, 129, 130, 131, 132, 133, 134, 135, 136, 137, 138, 139, 140, 141, 142, 143, 144, 145, 146, 147, 148, 149, 150, 151, 152, 153, 154, 155, 156, 157, 158, 159, 160, 161, 162, 163, 164, 165, 166, 167, 168, 169, 170, 171, 172, 173, 174, 175, 176, 177, 178, 179, 180, 181, 182, 183, 184, 185, 186, 187, 188, 189, 190, 191, 192, 193, 194, 195, 196, 197, 198, 199, 200, 201, 202, 203, 204, 205, 206, 207, 208, 209, 210, 211, 212, 213, 214, 215, 216, 217, 218, 219, 220, 221, 222, 223, 224, 225, 226, 227, 228, 229, 230, 231, 232, 233, 234, 235, 236, 237, 238, 239, 240, 241, 242, 243, 244, 245, 246, 247, 248, 249, 250, 251, 252, 253, 254, 255, 256, 257, 258, 259, 260, 261, 262, 263, 264, 265, 266, 267, 268, 269, 270, 271, 272, 273, 274, 275, 276, 277, 278, 279, 280, 281, 282, 283, 284, 285, 286, 287, 288, 289, 290, 291, 292, 293, 294, 295, 296, 297, 298, 299, 300, 301, 302, 303, 304, 305, 306, 307, 308, 309, 310, 311, 312, 313, 314, 315, 316, 317, 318, 319, 320, 321, 322, 323, 324, 325, 326, 327, 328, 329, 330, 331, 332, 333, 334, 335, 336, 337, 338, 339, 340, 341, 342, 343, 344, 345, 346, 347, 348, 349, 350, 351, 352, 353, 354, 355, 356, 357, 358, 359, 360, 361, 362, 363, 364, 365, 366, 367, 368, 369, 370, 371, 372, 373, 374, 375, 376, 377, 378, 379, 380, 381, 382, 383, 384, 385, 386, 387, 388, 389, 390, 391, 392, 393, 394, 395, 396, 397, 398, 399, 400, 401, 402, 403, 404, 405, 406, 407, 408, 409, 410, 411, 412, 413, 414, 415, 416, 417, 418, 419, 420, 421, 422, 423, 424, 425, 426, 427, 428, 429, 430, 431, 432, 433, 434, 435, 436, 437, 438, 439, 440, 441, 442, 443, 444, 445, 446, 447, 448, 449, 450, 451, 452, 453, 454, 455, 456, 457, 458, 459, 460, 461, 462, 463, 464, 465, 466, 467, 468, 469, 470, 471, 472, 473, 474, 475, 476, 477, 478, 479, 480, 481, 482, 483, 484, 485, 486, 487, 488, 489, 490, 491, 492, 493, 494, 495, 496, 497, 498, 499, 500, 501, 502, 503, 504, 505, 506, 507, 508, 509, 510, 511, 512, 513, 514, 515, 516, 517, 518, 519, 520, 521, 522, 523, 524, 530, 531, 532, 533, 534, 535, 536, 537, 538, 539, 540, 541, 542, 543, 544, 545, 546, 547, 548, 549, 550, 551, 552, 553, 554, 555, 556, 557, 558, 559, 560, 561, 562, 563, 564, 565, 566, 567, 568, 569, 570, 571, 572, 573, 574] (by decide +kernel) (by decide +kernel)
set_option maxRecDepth 20000 in
theorem gX10_quorum_X0_enact : GoodIn wsX10_quorum (wsV RX10 32 RX0 yX0_enact wsX0_enact) := goodIn_app (goodIn_of _ (by decide +kernel)) ggX10_quorum_X0_enact
theorem dX10_quorum_0 : decode cX10_quorum 0 = .ok (.aload_n 0, 1) := by decide +kernel
theorem dX10_quorum_1 : decode cX10_quorum 1 = .ok (.getfield 10, 3) := by decide +kernel
theorem dX10_quorum_4 : decode cX10_quorum 4 = .ok (.iconst 3, 1) := by decide +kernel
theorem dX10_quorum_5 : decode cX10_quorum 5 = .ok (.iload_n 1, 1) := by decide +kernel
theorem dX10_quorum_6 : decode cX10_quorum 6 = .ok (.iconst 0, 1) := by decide +kernel
theorem dX10_quorum_7 : decode cX10_quorum 7 = .ok (.iconst 0, 1) := by decide +kernel
theorem dX10_quorum_8 : decode cX10_quorum 8 = .ok (.iconst 0, 1) := by decide +kernel
theorem dX10_quorum_9 : decode cX10_quorum 9 = .ok (.invokevirtual 32, 3) := by decide +kernel
theorem dX10_quorum_12 : decode cX10_quorum 12 = .ok (.ireturn, 1) := by decide +kernel
set_option maxRecDepth 20000 in
theorem ggX10_chair_X0_enact : GoodIn wsX10_chair wsX0_enact := goodIn_r _ [6, 7, 8, 9, 10, 11, 12, 13, 14, 15, 16, 17, 18, 19, 20, 21, 22, 23, 24, 25, 26, 27, 28, 29, 30, 31, 32, 33, 34, 35, 36, 37, 38, 39, 40, 41, 42, 43, 44, 45, 46, 47, 48, 49, 50, 51, 52, 53, 54, 55, 56, 57, 58, 59, 60, 61, 62, 63, 64, 65, 66, 67, 68, 69, 70, 71, 72, 73, 74, 75, 76, 77, 78, 79, 80, 81, 82, 83, 84, 85, 86, 87, 88, 89, 90, 91, 92, 93, 94, 95, 96, 97, 98, 99, 100, 101, 102, 103, 104, 105, 106, 107, 5, 108, 109, 110, 111, 112, 113, 114, 115, 116, 117, 118, 119, 120, 121, 122, 123, 124, 125, 126, 127, 128, 129, 130, 131, 132, 133, 134, 135, 136, 137, 138, 139, 140, 141, 142, 143, 144, 145, 146, 147, 148, 149, 150, 151, 152, 153, 154, 155, 156, 157, 158, 159, 160, 161, 162, 163, 164, 165, 166, 167, 168, 169, 170, 171, 172, 173, 174, 175, 176, 177, 178, 179, 180, 181, 182, 183, 184, 185, 186, 187, 188, 189, 190, 191, 192, 193, 194, 195, 196, 197, 198, 199, 200, 201, 202, 203, 204, 205, 206, 207, 208, 209, 210, 211, 212, 213, 214, 215, 216, 217, 218, 219, 220, 221, 222, 223, 224, 225, 226, 227, 228, 229, 230, 231, 232, 233, 234, 235, 236, 237, 238, 239, 240, 241, 242, 243, 244, 245, 246, 247, 248, 249, 250, 251, 252, 253, 254, 255, 256, 257, 258, 259, 260, 261, 262, 263, 264, 265, 266, 267, 268, 269, 270, 271, 272, 273, 274, 275, 276, 277, 278, 279, 280, 281, 282, 283, 284, 285, 286, 287, 288, 289, 290, 291, 292, 293, 294, 295, 296, 297, 298, 299, 300, 301, 302, 303, 304, 305, 306, 307, 308, 309, 310, 311, 312, 313, 314, 315, 316, 317, 318, 319, 320, 321, 322, 323, 324, 325, 326, 327, 328, 329, 330, 331, 332, 333, 334, 335, 336, 337, 338, 339, 340, 341, 342, 343, 344, 345, 346, 347, 348, 349, 350, 351, 352, 353, 354, 355, 356, 357, 358, 359, 360, 361, 362, 363, 364, 365, 366, 367, 368, 369, 370, 371, 372, 373, 374, 375, 376, 377, 378, 379, 380, 381, 382, 383, 384, 385, 386, 387, 388, 389, 390, 391, 392, 393, 394, 395, 396, 397, 398, 399, 400, 401, 402, 403, 404, 405, 406, 407, 408, 409, 410, 411, 412, 413, 414, 415, 416, 417, 418, 419, 420, 421, 422, 423, 424, 425, 426, 427, 428, 429, 430, 431, 432, 433, 434, 435, 436, 437, 438, 439, 440, 441, 442, 443, 444, 445, 446, 447, 448, 449, 450, 451, 452, 453, 454, 455, 456, 457, 458, 459, 460, 461, 462, 463, 464, 465, 466, 467, 468, 469, 470, 471, 472, 473, 474, 475, 476, 477, 478, 479, 480, 481, 482, 483, 484, 485, 486, 487, 488, 489, 490, 491, 492, 493, 494, 495, 496, 497, 498, 499, 500, 501, 502, 503, 504, 505, 506, 507, 508, 509, 510, 511, 512, 513, 514, 515, 516, 517, 518, 519, 520, 521, 522, 523, 524, 530, 531, 532, 533, 534, 535, 536, 537, 538, 539, 540, 541, 542, 543, 544, 545, 546, 547, 548, 549, 550, 551, 552, 553, 554, 555, 556, 557, 558, 559, 560, 561, 562, 563, 564, 565, 566, 567, 568, 569, 570, 571, 572, 573, 574] (by decide +kernel) (by decide +kernel)
set_option maxRecDepth 20000 in
theorem gX10_chair_X0_enact : GoodIn wsX10_chair (wsV RX10 32 RX0 yX0_enact wsX0_enact) := goodIn_app (goodIn_of _ (by decide +kernel)) ggX10_chair_X0_enact
theorem dX10_chair_0 : decode cX10_chair 0 = .ok (.aload_n 0, 1) := by decide +kernel
theorem dX10_chair_1 : decode cX10_chair 1 = .ok (.getfield 10, 3) := by decide +kernel
theorem dX10_chair_4 : decode cX10_chair 4 = .ok (.iconst 4, 1) := by decide +kernel
theorem dX10_chair_5 : decode cX10_chair 5 = .ok (.iload_n 1, 1) := by decide +kernel
theorem dX10_chair_6 : decode cX10_chair 6 = .ok (.iconst 0, 1) := by decide +kernel
theorem dX10_chair_7 : decode cX10_chair 7 = .ok (.iconst 0, 1) := by decide +kernel
theorem dX10_chair_8 : decode cX10_chair 8 = .ok (.iconst 0, 1) := by decide +kernel
theorem dX10_chair_9 : decode cX10_chair 9 = .ok (.invokevirtual 32, 3) := by decide +kernel
theorem dX10_chair_12 : decode cX10_chair 12 = .ok (.ireturn, 1) := by decide +kernel
set_option maxRecDepth 20000 in
theorem ggX10_majority_X0_enact : GoodIn wsX10_majority wsX0_enact := goodIn_r _ [6, 7, 8, 9, 10, 11, 12, 13, 14, 15, 16, 17, 18, 19, 20, 21, 22, 23, 24, 25, 26, 27, 28, 29, 30, 31, 32, 33, 34, 35, 36, 37, 38, 39, 40, 41, 42, 43, 44, 45, 46, 47, 48, 49, 50, 51, 52, 53, 54, 55, 56, 57, 58, 59, 60, 61, 62, 63, 64, 65, 66, 67, 68, 69, 70, 71, 72, 73, 74, 75, 76, 77, 78, 79, 80, 81, 82, 83, 84, 85, 86, 87, 88, 89, 90, 91, 92, 93, 94, 95, 96, 97, 98, 99, 100, 101, 102, 103, 104, 105, 106, 107, 5, 108, 109, 110, 111, 112, 113, 114, 115, 116, 117, 118, 119, 120, 121, 122, 123, 124, 125, 126, 127, 128, 129, 130, 131, 132, 133, 134, 135, 136, 137, 138, 139, 140, 141, 142, 143, 144, 145, 146, 147, 148, 149, 150, 151, 152, 153, 154, 155, 156, 157, 158, 159, 160, 161, 162, 163, 164, 165, 166, 167, 168, 169, 170, 171, 172, 173, 174, 175, 176, 177, 178, 179, 180, 181, 182, 183, 184, 185, 186, 187, 188, 189, 190, 191, 192, 193, 194, 195, 196, 197, 198, 199, 200, 201, 202, 203, 204, 205, 206, 207, 208, 209, 210, 211, 212, 213, 214, 215, 216, 217, 218, 219, 220, 221, 222, 223, 224, 225, 226, 227, 228, 229, 230, 231, 232, 233, 234, 235, 236, 237, 238, 239, 240, 241, 242, 243, 244, 245, 246, 247, 248, 249, 250, 251, 252, 253, 254, 255, 256, 257, 258, 259, 260, 261, 262, 263, 264, 265, 266, 267, 268, 269, 270, 271, 272, 273, 274, 275, 276, 277, 278, 279, 280, 281, 282, 283, 284, 285, 286, 287, 288, 289, 290, 291, 292, 293, 294, 295, 296, 297, 298, 299, 300, 301, 302, 303, 304, 305, 306, 307, 308, 309, 310, 311, 312, 313, 314, 315, 316, 317, 318, 319, 320, 321, 322, 323, 324, 325, 326, 327, 328, 329, 330, 331, 332, 333, 334, 335, 336, 337, 338, 339, 340, 341, 342, 343, 344, 345, 346, 347, 348, 349, 350, 351, 352, 353, 354, 355, 356, 357, 358, 359, 360, 361, 362, 363, 364, 365, 366, 367, 368, 369, 370, 371, 372, 373, 374, 375, 376, 377, 378, 379, 380, 381, 382, 383, 384, 385, 386, 387, 388, 389, 390, 391, 392, 393, 394, 395, 396, 397, 398, 399, 400, 401, 402, 403, 404, 405, 406, 407, 408, 409, 410, 411, 412, 413, 414, 415, 416, 417, 418, 419, 420, 421, 422, 423, 424, 425, 426, 427, 428, 429, 430, 431, 432, 433, 434, 435, 436, 437, 438, 439, 440, 441, 442, 443, 444, 445, 446, 447, 448, 449, 450, 451, 452, 453, 454, 455, 456, 457, 458, 459, 460, 461, 462, 463, 464, 465, 466, 467, 468, 469, 470, 471, 472, 473, 474, 475, 476, 477, 478, 479, 480, 481, 482, 483, 484, 485, 486, 487, 488, 489, 490, 491, 492, 493, 494, 495, 496, 497, 498, 499, 500, 501, 502, 503, 504, 505, 506, 507, 508, 509, 510, 511, 512, 513, 514, 515, 516, 517, 518, 519, 520, 521, 522, 523, 524, 530, 531, 532, 533, 534, 535, 536, 537, 538, 539, 540, 541, 542, 543, 544, 545, 546, 547, 548, 549, 550, 551, 552, 553, 554, 555, 556, 557, 558, 559, 560, 561, 562, 563, 564, 565, 566, 567, 568, 569, 570, 571, 572, 573, 574] (by decide +kernel) (by decide +kernel)
set_option maxRecDepth 20000 in
theorem gX10_majority_X0_enact : GoodIn wsX10_majority (wsV RX10 32 RX0 yX0_enact wsX0_enact) := goodIn_app (goodIn_of _ (by decide +kernel)) ggX10_majority_X0_enact
theorem dX10_majority_0 : decode cX10_majority 0 = .ok (.aload_n 0, 1) := by decide +kernel
theorem dX10_majority_1 : decode cX10_majority 1 = .ok (.getfield 10, 3) := by decide +kernel
theorem dX10_majority_4 : decode cX10_majority 4 = .ok (.iconst 5, 1) := by decide +kernel
theorem dX10_majority_5 : decode cX10_majority 5 = .ok (.iload_n 1, 1) := by decide +kernel
theorem dX10_majority_6 : decode cX10_majority 6 = .ok (.iload_n 2, 1) := by decide +kernel
theorem dX10_majority_7 : decode cX10_majority 7 = .ok (.iconst 0, 1) := by decide +kernel
theorem dX10_majority_8 : decode cX10_majority 8 = .ok (.iconst 0, 1) := by decide +kernel
theorem dX10_majority_9 : decode cX10_majority 9 = .ok (.invokevirtual 32, 3) := by decide +kernel
theorem dX10_majority_12 : decode cX10_majority 12 = .ok (.ireturn, 1) := by decide +kernel
set_option maxRecDepth 20000 in
theorem ggX10_limit_X0_enact : GoodIn wsX10_limit wsX0_enact := goodIn_r _ [6, 7, 8, 9, 10, 11, 12, 13, 14, 15, 16, 17, 18, 19, 20, 21, 22, 23, 24, 25, 26, 27, 28, 29, 30, 31, 32, 33, 34, 35, 36, 37, 38, 39, 40, 41, 42, 43, 44, 45, 46, 47, 48, 49, 50, 51, 52, 53, 54, 55, 56, 57, 58, 59, 60, 61, 62, 63, 64, 65, 66, 67, 68, 69, 70, 71, 72, 73, 74, 75, 76, 77, 78, 79, 80, 81, 82, 83, 84, 85, 86, 87, 88, 89, 90, 91, 92, 93, 94, 95, 96, 97, 98, 99, 100, 101, 102, 103, 104, 105, 106, 107, 5, 108, 109, 110, 111, 112, 113, 114, 115, 116, 117, 118, 119, 120, 121, 122, 123, 124, 125, 126, 127, 128, 129, 130, 131, 132, 133, 134, 135, 136, 137, 138, 139, 140, 141, 142, 143, 144, 145, 146, 147, 148, 149, 150, 151, 152, 153, 154, 155, 156, 157, 158, 159, 160, 161, 162, 163, 164, 165, 166, 167, 168, 169, 170, 171, 172, 173, 174, 175, 176, 177, 178, 179, 180, 181, 182, 183, 184, 185, 186, 187, 188, 189, 190, 191, 192, 193, 194, 195, 196, 197, 198, 199, 200, 201, 202, 203, 204, 205, 206, 207, 208, 209, 210, 211, 212, 213, 214, 215, 216, 217, 218, 219, 220, 221, 222, 223, 224, 225, 226, 227, 228, 229, 230, 231, 232, 233, 234, 235, 236, 237, 238, 239, 240, 241, 242, 243, 244, 245, 246, 247, 248, 249, 250, 251, 252, 253, 254, 255, 256, 257, 258, 259, 260, 261, 262, 263, 264, 265, 266, 267, 268, 269, 270, 271, 272, 273, 274, 275, 276, 277, 278, 279, 280, 281, 282, 283, 284, 285, 286, 287, 288, 289, 290, 291, 292, 293, 294, 295, 296, 297, 298, 299, 300, 301, 302, 303, 304, 305, 306, 307, 308, 309, 310, 311, 312, 313, 314, 315, 316, 317, 318, 319, 320, 321, 322, 323, 324, 325, 326, 327, 328, 329, 330, 331, 332, 333, 334, 335, 336, 337, 338, 339, 340, 341, 342, 343, 344, 345, 346, 347, 348, 349, 350, 351, 352, 353, 354, 355, 356, 357, 358, 359, 360, 361, 362, 363, 364, 365, 366, 367, 368, 369, 370, 371, 372, 373, 374, 375, 376, 377, 378, 379, 380, 381, 382, 383, 384, 385, 386, 387, 388, 389, 390, 391, 392, 393, 394, 395, 396, 397, 398, 399, 400, 401, 402, 403, 404, 405, 406, 407, 408, 409, 410, 411, 412, 413, 414, 415, 416, 417, 418, 419, 420, 421, 422, 423, 424, 425, 426, 427, 428, 429, 430, 431, 432, 433, 434, 435, 436, 437, 438, 439, 440, 441, 442, 443, 444, 445, 446, 447, 448, 449, 450, 451, 452, 453, 454, 455, 456, 457, 458, 459, 460, 461, 462, 463, 464, 465, 466, 467, 468, 469, 470, 471, 472, 473, 474, 475, 476, 477, 478, 479, 480, 481, 482, 483, 484, 485, 486, 487, 488, 489, 490, 491, 492, 493, 494, 495, 496, 497, 498, 499, 500, 501, 502, 503, 504, 505, 506, 507, 508, 509, 510, 511, 512, 513, 514, 515, 516, 517, 518, 519, 520, 521, 522, 523, 524, 530, 531, 532, 533, 534, 535, 536, 537, 538, 539, 540, 541, 542, 543, 544, 545, 546, 547, 548, 549, 550, 551, 552, 553, 554, 555, 556, 557, 558, 559, 560, 561, 562, 563, 564, 565, 566, 567, 568, 569, 570, 571, 572, 573, 574] (by decide +kernel) (by decide +kernel)
set_option maxRecDepth 20000 in
theorem gX10_limit_X0_enact : GoodIn wsX10_limit (wsV RX10 32 RX0 yX0_enact wsX0_enact) := goodIn_app (goodIn_of _ (by decide +kernel)) ggX10_limit_X0_enact
theorem dX10_limit_0 : decode cX10_limit 0 = .ok (.aload_n 0, 1) := by decide +kernel
theorem dX10_limit_1 : decode cX10_limit 1 = .ok (.getfield 10, 3) := by decide +kernel
theorem dX10_limit_4 : decode cX10_limit 4 = .ok (.bipush 6, 2) := by decide +kernel
theorem dX10_limit_6 : decode cX10_limit 6 = .ok (.iload_n 1, 1) := by decide +kernel
theorem dX10_limit_7 : decode cX10_limit 7 = .ok (.iconst 0, 1) := by decide +kernel
theorem dX10_limit_8 : decode cX10_limit 8 = .ok (.iconst 0, 1) := by decide +kernel
theorem dX10_limit_9 : decode cX10_limit 9 = .ok (.iconst 0, 1) := by decide +kernel
theorem dX10_limit_10 : decode cX10_limit 10 = .ok (.invokevirtual 32, 3) := by decide +kernel
theorem dX10_limit_13 : decode cX10_limit 13 = .ok (.ireturn, 1) := by decide +kernel
set_option maxRecDepth 20000 in
theorem ggX10_floor_X0_enact : GoodIn wsX10_floor wsX0_enact := goodIn_r _ [6, 7, 8, 9, 10, 11, 12, 13, 14, 15, 16, 17, 18, 19, 20, 21, 22, 23, 24, 25, 26, 27, 28, 29, 30, 31, 32, 33, 34, 35, 36, 37, 38, 39, 40, 41, 42, 43, 44, 45, 46, 47, 48, 49, 50, 51, 52, 53, 54, 55, 56, 57, 58, 59, 60, 61, 62, 63, 64, 65, 66, 67, 68, 69, 70, 71, 72, 73, 74, 75, 76, 77, 78, 79, 80, 81, 82, 83, 84, 85, 86, 87, 88, 89, 90, 91, 92, 93, 94, 95, 96, 97, 98, 99, 100, 101, 102, 103, 104, 105, 106, 107, 5, 108, 109, 110, 111, 112, 113, 114, 115, 116, 117, 118, 119, 120, 121, 122, 123, 124, 125, 126, 127, 128, 129, 130, 131, 132, 133, 134, 135, 136, 137, 138, 139, 140, 141, 142, 143, 144, 145, 146, 147, 148, 149, 150, 151, 152, 153, 154, 155, 156, 157, 158, 159, 160, 161, 162, 163, 164, 165, 166, 167, 168, 169, 170, 171, 172, 173, 174, 175, 176, 177, 178, 179, 180, 181, 182, 183, 184, 185, 186, 187, 188, 189, 190, 191, 192, 193, 194, 195, 196, 197, 198, 199, 200, 201, 202, 203, 204, 205, 206, 207, 208, 209, 210, 211, 212, 213, 214, 215, 216, 217, 218, 219, 220, 221, 222, 223, 224, 225, 226, 227, 228, 229, 230, 231, 232, 233, 234, 235, 236, 237, 238, 239, 240, 241, 242, 243, 244, 245, 246, 247, 248, 249, 250, 251, 252, 253, 254, 255, 256, 257, 258, 259, 260, 261, 262, 263, 264, 265, 266, 267, 268, 269, 270, 271, 272, 273, 274, 275, 276, 277, 278, 279, 280, 281, 282, 283, 284, 285, 286, 287, 288, 289, 290, 291, 292, 293, 294, 295, 296, 297, 298, 299, 300, 301, 302, 303, 304, 305, 306, 307, 308, 309, 310, 311, 312, 313, 314, 315, 316, 317, 318, 319, 320, 321, 322, 323, 324, 325, 326, 327, 328, 329, 330, 331, 332, 333, 334, 335, 336, 337, 338, 339, 340, 341, 342, 343, 344, 345, 346, 347, 348, 349, 350, 351, 352, 353, 354, 355, 356, 357, 358, 359, 360, 361, 362, 363, 364, 365, 366, 367, 368, 369, 370, 371, 372, 373, 374, 375, 376, 377, 378, 379, 380, 381, 382, 383, 384, 385, 386, 387, 388, 389, 390, 391, 392, 393, 394, 395, 396, 397, 398, 399, 400, 401, 402, 403, 404, 405, 406, 407, 408, 409, 410, 411, 412, 413, 414, 415, 416, 417, 418, 419, 420, 421, 422, 423, 424, 425, 426, 427, 428, 429, 430, 431, 432, 433, 434, 435, 436, 437, 438, 439, 440, 441, 442, 443, 444, 445, 446, 447, 448, 449, 450, 451, 452, 453, 454, 455, 456, 457, 458, 459, 460, 461, 462, 463, 464, 465, 466, 467, 468, 469, 470, 471, 472, 473, 474, 475, 476, 477, 478, 479, 480, 481, 482, 483, 484, 485, 486, 487, 488, 489, 490, 491, 492, 493, 494, 495, 496, 497, 498, 499, 500, 501, 502, 503, 504, 505, 506, 507, 508, 509, 510, 511, 512, 513, 514, 515, 516, 517, 518, 519, 520, 521, 522, 523, 524, 530, 531, 532, 533, 534, 535, 536, 537, 538, 539, 540, 541, 542, 543, 544, 545, 546, 547, 548, 549, 550, 551, 552, 553, 554, 555, 556, 557, 558, 559, 560, 561, 562, 563, 564, 565, 566, 567, 568, 569, 570, 571, 572, 573, 574] (by decide +kernel) (by decide +kernel)
set_option maxRecDepth 20000 in
theorem gX10_floor_X0_enact : GoodIn wsX10_floor (wsV RX10 32 RX0 yX0_enact wsX0_enact) := goodIn_app (goodIn_of _ (by decide +kernel)) ggX10_floor_X0_enact
theorem dX10_floor_0 : decode cX10_floor 0 = .ok (.aload_n 0, 1) := by decide +kernel
theorem dX10_floor_1 : decode cX10_floor 1 = .ok (.getfield 10, 3) := by decide +kernel
theorem dX10_floor_4 : decode cX10_floor 4 = .ok (.bipush 7, 2) := by decide +kernel
theorem dX10_floor_6 : decode cX10_floor 6 = .ok (.iload_n 1, 1) := by decide +kernel
theorem dX10_floor_7 : decode cX10_floor 7 = .ok (.iconst 0, 1) := by decide +kernel
theorem dX10_floor_8 : decode cX10_floor 8 = .ok (.iconst 0, 1) := by decide +kernel
theorem dX10_floor_9 : decode cX10_floor 9 = .ok (.iconst 0, 1) := by decide +kernel
theorem dX10_floor_10 : decode cX10_floor 10 = .ok (.invokevirtual 32, 3) := by decide +kernel
theorem dX10_floor_13 : decode cX10_floor 13 = .ok (.ireturn, 1) := by decide +kernel
set_option maxRecDepth 20000 in
theorem ggX10_cede_X0_enact : GoodIn wsX10_cede wsX0_enact := goodIn_r _ [6, 7, 8, 9, 10, 11, 12, 13, 14, 15, 16, 17, 18, 19, 20, 21, 22, 23, 24, 25, 26, 27, 28, 29, 30, 31, 32, 33, 34, 35, 36, 37, 38, 39, 40, 41, 42, 43, 44, 45, 46, 47, 48, 49, 50, 51, 52, 53, 54, 55, 56, 57, 58, 59, 60, 61, 62, 63, 64, 65, 66, 67, 68, 69, 70, 71, 72, 73, 74, 75, 76, 77, 78, 79, 80, 81, 82, 83, 84, 85, 86, 87, 88, 89, 90, 91, 92, 93, 94, 95, 96, 97, 98, 99, 100, 101, 102, 103, 104, 105, 106, 107, 5, 108, 109, 110, 111, 112, 113, 114, 115, 116, 117, 118, 119, 120, 121, 122, 123, 124, 125, 126, 127, 128, 129, 130, 131, 132, 133, 134, 135, 136, 137, 138, 139, 140, 141, 142, 143, 144, 145, 146, 147, 148, 149, 150, 151, 152, 153, 154, 155, 156, 157, 158, 159, 160, 161, 162, 163, 164, 165, 166, 167, 168, 169, 170, 171, 172, 173, 174, 175, 176, 177, 178, 179, 180, 181, 182, 183, 184, 185, 186, 187, 188, 189, 190, 191, 192, 193, 194, 195, 196, 197, 198, 199, 200, 201, 202, 203, 204, 205, 206, 207, 208, 209, 210, 211, 212, 213, 214, 215, 216, 217, 218, 219, 220, 221, 222, 223, 224, 225, 226, 227, 228, 229, 230, 231, 232, 233, 234, 235, 236, 237, 238, 239, 240, 241, 242, 243, 244, 245, 246, 247, 248, 249, 250, 251, 252, 253, 254, 255, 256, 257, 258, 259, 260, 261, 262, 263, 264, 265, 266, 267, 268, 269, 270, 271, 272, 273, 274, 275, 276, 277, 278, 279, 280, 281, 282, 283, 284, 285, 286, 287, 288, 289, 290, 291, 292, 293, 294, 295, 296, 297, 298, 299, 300, 301, 302, 303, 304, 305, 306, 307, 308, 309, 310, 311, 312, 313, 314, 315, 316, 317, 318, 319, 320, 321, 322, 323, 324, 325, 326, 327, 328, 329, 330, 331, 332, 333, 334, 335, 336, 337, 338, 339, 340, 341, 342, 343, 344, 345, 346, 347, 348, 349, 350, 351, 352, 353, 354, 355, 356, 357, 358, 359, 360, 361, 362, 363, 364, 365, 366, 367, 368, 369, 370, 371, 372, 373, 374, 375, 376, 377, 378, 379, 380, 381, 382, 383, 384, 385, 386, 387, 388, 389, 390, 391, 392, 393, 394, 395, 396, 397, 398, 399, 400, 401, 402, 403, 404, 405, 406, 407, 408, 409, 410, 411, 412, 413, 414, 415, 416, 417, 418, 419, 420, 421, 422, 423, 424, 425, 426, 427, 428, 429, 430, 431, 432, 433, 434, 435, 436, 437, 438, 439, 440, 441, 442, 443, 444, 445, 446, 447, 448, 449, 450, 451, 452, 453, 454, 455, 456, 457, 458, 459, 460, 461, 462, 463, 464, 465, 466, 467, 468, 469, 470, 471, 472, 473, 474, 475, 476, 477, 478, 479, 480, 481, 482, 483, 484, 485, 486, 487, 488, 489, 490, 491, 492, 493, 494, 495, 496, 497, 498, 499, 500, 501, 502, 503, 504, 505, 506, 507, 508, 509, 510, 511, 512, 513, 514, 515, 516, 517, 518, 519, 520, 521, 522, 523, 524, 530, 531, 532, 533, 534, 535, 536, 537, 538, 539, 540, 541, 542, 543, 544, 545, 546, 547, 548, 549, 550, 551, 552, 553, 554, 555, 556, 557, 558, 559, 560, 561, 562, 563, 564, 565, 566, 567, 568, 569, 570, 571, 572, 573, 574] (by decide +kernel) (by decide +kernel)
set_option maxRecDepth 20000 in
theorem gX10_cede_X0_enact : GoodIn wsX10_cede (wsV RX10 32 RX0 yX0_enact wsX0_enact) := goodIn_app (goodIn_of _ (by decide +kernel)) ggX10_cede_X0_enact
theorem dX10_cede_0 : decode cX10_cede 0 = .ok (.aload_n 0, 1) := by decide +kernel
theorem dX10_cede_1 : decode cX10_cede 1 = .ok (.getfield 10, 3) := by decide +kernel
theorem dX10_cede_4 : decode cX10_cede 4 = .ok (.bipush 8, 2) := by decide +kernel
theorem dX10_cede_6 : decode cX10_cede 6 = .ok (.iconst 0, 1) := by decide +kernel
theorem dX10_cede_7 : decode cX10_cede 7 = .ok (.iconst 0, 1) := by decide +kernel
theorem dX10_cede_8 : decode cX10_cede 8 = .ok (.iconst 0, 1) := by decide +kernel
theorem dX10_cede_9 : decode cX10_cede 9 = .ok (.iconst 0, 1) := by decide +kernel
theorem dX10_cede_10 : decode cX10_cede 10 = .ok (.invokevirtual 32, 3) := by decide +kernel
theorem dX10_cede_13 : decode cX10_cede 13 = .ok (.ireturn, 1) := by decide +kernel
set_option maxRecDepth 20000 in
theorem ggX10_debate_X0_enact : GoodIn wsX10_debate wsX0_enact := goodIn_r _ [6, 7, 8, 9, 10, 11, 12, 13, 14, 15, 16, 17, 18, 19, 20, 21, 22, 23, 24, 25, 26, 27, 28, 29, 30, 31, 32, 33, 34, 35, 36, 37, 38, 39, 40, 41, 42, 43, 44, 45, 46, 47, 48, 49, 50, 51, 52, 53, 54, 55, 56, 57, 58, 59, 60, 61, 62, 63, 64, 65, 66, 67, 68, 69, 70, 71, 72, 73, 74, 75, 76, 77, 78, 79, 80, 81, 82, 83, 84, 85, 86, 87, 88, 89, 90, 91, 92, 93, 94, 95, 96, 97, 98, 99, 100, 101, 102, 103, 104, 105, 106, 107, 5, 108, 109, 110, 111, 112, 113, 114, 115, 116, 117, 118, 119, 120, 121, 122, 123, 124, 125, 126, 127, 128, 129, 130, 131, 132, 133, 134, 135, 136, 137, 138, 139, 140, 141, 142, 143, 144, 145, 146, 147, 148, 149, 150, 151, 152, 153, 154, 155, 156, 157, 158, 159, 160, 161, 162, 163, 164, 165, 166, 167, 168, 169, 170, 171, 172, 173, 174, 175, 176, 177, 178, 179, 180, 181, 182, 183, 184, 185, 186, 187, 188, 189, 190, 191, 192, 193, 194, 195, 196, 197, 198, 199, 200, 201, 202, 203, 204, 205, 206, 207, 208, 209, 210, 211, 212, 213, 214, 215, 216, 217, 218, 219, 220, 221, 222, 223, 224, 225, 226, 227, 228, 229, 230, 231, 232, 233, 234, 235, 236, 237, 238, 239, 240, 241, 242, 243, 244, 245, 246, 247, 248, 249, 250, 251, 252, 253, 254, 255, 256, 257, 258, 259, 260, 261, 262, 263, 264, 265, 266, 267, 268, 269, 270, 271, 272, 273, 274, 275, 276, 277, 278, 279, 280, 281, 282, 283, 284, 285, 286, 287, 288, 289, 290, 291, 292, 293, 294, 295, 296, 297, 298, 299, 300, 301, 302, 303, 304, 305, 306, 307, 308, 309, 310, 311, 312, 313, 314, 315, 316, 317, 318, 319, 320, 321, 322, 323, 324, 325, 326, 327, 328, 329, 330, 331, 332, 333, 334, 335, 336, 337, 338, 339, 340, 341, 342, 343, 344, 345, 346, 347, 348, 349, 350, 351, 352, 353, 354, 355, 356, 357, 358, 359, 360, 361, 362, 363, 364, 365, 366, 367, 368, 369, 370, 371, 372, 373, 374, 375, 376, 377, 378, 379, 380, 381, 382, 383, 384, 385, 386, 387, 388, 389, 390, 391, 392, 393, 394, 395, 396, 397, 398, 399, 400, 401, 402, 403, 404, 405, 406, 407, 408, 409, 410, 411, 412, 413, 414, 415, 416, 417, 418, 419, 420, 421, 422, 423, 424, 425, 426, 427, 428, 429, 430, 431, 432, 433, 434, 435, 436, 437, 438, 439, 440, 441, 442, 443, 444, 445, 446, 447, 448, 449, 450, 451, 452, 453, 454, 455, 456, 457, 458, 459, 460, 461, 462, 463, 464, 465, 466, 467, 468, 469, 470, 471, 472, 473, 474, 475, 476, 477, 478, 479, 480, 481, 482, 483, 484, 485, 486, 487, 488, 489, 490, 491, 492, 493, 494, 495, 496, 497, 498, 499, 500, 501, 502, 503, 504, 505, 506, 507, 508, 509, 510, 511, 512, 513, 514, 515, 516, 517, 518, 519, 520, 521, 522, 523, 524, 530, 531, 532, 533, 534, 535, 536, 537, 538, 539, 540, 541, 542, 543, 544, 545, 546, 547, 548, 549, 550, 551, 552, 553, 554, 555, 556, 557, 558, 559, 560, 561, 562, 563, 564, 565, 566, 567, 568, 569, 570, 571, 572, 573, 574] (by decide +kernel) (by decide +kernel)
set_option maxRecDepth 20000 in
theorem gX10_debate_X0_enact : GoodIn wsX10_debate (wsV RX10 32 RX0 yX0_enact wsX0_enact) := goodIn_app (goodIn_of _ (by decide +kernel)) ggX10_debate_X0_enact
theorem dX10_debate_0 : decode cX10_debate 0 = .ok (.aload_n 0, 1) := by decide +kernel
theorem dX10_debate_1 : decode cX10_debate 1 = .ok (.getfield 10, 3) := by decide +kernel
theorem dX10_debate_4 : decode cX10_debate 4 = .ok (.bipush 9, 2) := by decide +kernel
theorem dX10_debate_6 : decode cX10_debate 6 = .ok (.iload_n 1, 1) := by decide +kernel
theorem dX10_debate_7 : decode cX10_debate 7 = .ok (.iconst 0, 1) := by decide +kernel
theorem dX10_debate_8 : decode cX10_debate 8 = .ok (.iconst 0, 1) := by decide +kernel
theorem dX10_debate_9 : decode cX10_debate 9 = .ok (.iconst 0, 1) := by decide +kernel
theorem dX10_debate_10 : decode cX10_debate 10 = .ok (.invokevirtual 32, 3) := by decide +kernel
theorem dX10_debate_13 : decode cX10_debate 13 = .ok (.ireturn, 1) := by decide +kernel
set_option maxRecDepth 20000 in
theorem ggX10_draft_X0_enact : GoodIn wsX10_draft wsX0_enact := goodIn_r _ [6, 7, 8, 9, 10, 11, 12, 13, 14, 15, 16, 17, 18, 19, 20, 21, 22, 23, 24, 25, 26, 27, 28, 29, 30, 31, 32, 33, 34, 35, 36, 37, 38, 39, 40, 41, 42, 43, 44, 45, 46, 47, 48, 49, 50, 51, 52, 53, 54, 55, 56, 57, 58, 59, 60, 61, 62, 63, 64, 65, 66, 67, 68, 69, 70, 71, 72, 73, 74, 75, 76, 77, 78, 79, 80, 81, 82, 83, 84, 85, 86, 87, 88, 89, 90, 91, 92, 93, 94, 95, 96, 97, 98, 99, 100, 101, 102, 103, 104, 105, 106, 107, 5, 108, 109, 110, 111, 112, 113, 114, 115, 116, 117, 118, 119, 120, 121, 122, 123, 124, 125, 126, 127, 128, 129, 130, 131, 132, 133, 134, 135, 136, 137, 138, 139, 140, 141, 142, 143, 144, 145, 146, 147, 148, 149, 150, 151, 152, 153, 154, 155, 156, 157, 158, 159, 160, 161, 162, 163, 164, 165, 166, 167, 168, 169, 170, 171, 172, 173, 174, 175, 176, 177, 178, 179, 180, 181, 182, 183, 184, 185, 186, 187, 188, 189, 190, 191, 192, 193, 194, 195, 196, 197, 198, 199, 200, 201, 202, 203, 204, 205, 206, 207, 208, 209, 210, 211, 212, 213, 214, 215, 216, 217, 218, 219, 220, 221, 222, 223, 224, 225, 226, 227, 228, 229, 230, 231, 232, 233, 234, 235, 236, 237, 238, 239, 240, 241, 242, 243, 244, 245, 246, 247, 248, 249, 250, 251, 252, 253, 254, 255, 256, 257, 258, 259, 260, 261, 262, 263, 264, 265, 266, 267, 268, 269, 270, 271, 272, 273, 274, 275, 276, 277, 278, 279, 280, 281, 282, 283, 284, 285, 286, 287, 288, 289, 290, 291, 292, 293, 294, 295, 296, 297, 298, 299, 300, 301, 302, 303, 304, 305, 306, 307, 308, 309, 310, 311, 312, 313, 314, 315, 316, 317, 318, 319, 320, 321, 322, 323, 324, 325, 326, 327, 328, 329, 330, 331, 332, 333, 334, 335, 336, 337, 338, 339, 340, 341, 342, 343, 344, 345, 346, 347, 348, 349, 350, 351, 352, 353, 354, 355, 356, 357, 358, 359, 360, 361, 362, 363, 364, 365, 366, 367, 368, 369, 370, 371, 372, 373, 374, 375, 376, 377, 378, 379, 380, 381, 382, 383, 384, 385, 386, 387, 388, 389, 390, 391, 392, 393, 394, 395, 396, 397, 398, 399, 400, 401, 402, 403, 404, 405, 406, 407, 408, 409, 410, 411, 412, 413, 414, 415, 416, 417, 418, 419, 420, 421, 422, 423, 424, 425, 426, 427, 428, 429, 430, 431, 432, 433, 434, 435, 436, 437, 438, 439, 440, 441, 442, 443, 444, 445, 446, 447, 448, 449, 450, 451, 452, 453, 454, 455, 456, 457, 458, 459, 460, 461, 462, 463, 464, 465, 466, 467, 468, 469, 470, 471, 472, 473, 474, 475, 476, 477, 478, 479, 480, 481, 482, 483, 484, 485, 486, 487, 488, 489, 490, 491, 492, 493, 494, 495, 496, 497, 498, 499, 500, 501, 502, 503, 504, 505, 506, 507, 508, 509, 510, 511, 512, 513, 514, 515, 516, 517, 518, 519, 520, 521, 522, 523, 524, 530, 531, 532, 533, 534, 535, 536, 537, 538, 539, 540, 541, 542, 543, 544, 545, 546, 547, 548, 549, 550, 551, 552, 553, 554, 555, 556, 557, 558, 559, 560, 561, 562, 563, 564, 565, 566, 567, 568, 569, 570, 571, 572, 573, 574] (by decide +kernel) (by decide +kernel)
set_option maxRecDepth 20000 in
theorem gX10_draft_X0_enact : GoodIn wsX10_draft (wsV RX10 32 RX0 yX0_enact wsX0_enact) := goodIn_app (goodIn_of _ (by decide +kernel)) ggX10_draft_X0_enact
theorem dX10_draft_0 : decode cX10_draft 0 = .ok (.aload_n 0, 1) := by decide +kernel
theorem dX10_draft_1 : decode cX10_draft 1 = .ok (.getfield 10, 3) := by decide +kernel
theorem dX10_draft_4 : decode cX10_draft 4 = .ok (.bipush 10, 2) := by decide +kernel
theorem dX10_draft_6 : decode cX10_draft 6 = .ok (.iload_n 1, 1) := by decide +kernel
theorem dX10_draft_7 : decode cX10_draft 7 = .ok (.iconst 0, 1) := by decide +kernel
theorem dX10_draft_8 : decode cX10_draft 8 = .ok (.iconst 0, 1) := by decide +kernel
theorem dX10_draft_9 : decode cX10_draft 9 = .ok (.iconst 0, 1) := by decide +kernel
theorem dX10_draft_10 : decode cX10_draft 10 = .ok (.invokevirtual 32, 3) := by decide +kernel
theorem dX10_draft_13 : decode cX10_draft 13 = .ok (.ireturn, 1) := by decide +kernel
set_option maxRecDepth 20000 in
theorem ggX10_span_X0_enact : GoodIn wsX10_span wsX0_enact := goodIn_r _ [6, 7, 8, 9, 10, 11, 12, 13, 14, 15, 16, 17, 18, 19, 20, 21, 22, 23, 24, 25, 26, 27, 28, 29, 30, 31, 32, 33, 34, 35, 36, 37, 38, 39, 40, 41, 42, 43, 44, 45, 46, 47, 48, 49, 50, 51, 52, 53, 54, 55, 56, 57, 58, 59, 60, 61, 62, 63, 64, 65, 66, 67, 68, 69, 70, 71, 72, 73, 74, 75, 76, 77, 78, 79, 80, 81, 82, 83, 84, 85, 86, 87, 88, 89, 90, 91, 92, 93, 94, 95, 96, 97, 98, 99, 100, 101, 102, 103, 104, 105, 106, 107, 5, 108, 109, 110, 111, 112, 113, 114, 115, 116, 117, 118, 119, 120, 121, 122, 123, 124, 125, 126, 127, 128, 129, 130, 131, 132, 133, 134, 135, 136, 137, 138, 139, 140, 141, 142, 143, 144, 145, 146, 147, 148, 149, 150, 151, 152, 153, 154, 155, 156, 157, 158, 159, 160, 161, 162, 163, 164, 165, 166, 167, 168, 169, 170, 171, 172, 173, 174, 175, 176, 177, 178, 179, 180, 181, 182, 183, 184, 185, 186, 187, 188, 189, 190, 191, 192, 193, 194, 195, 196, 197, 198, 199, 200, 201, 202, 203, 204, 205, 206, 207, 208, 209, 210, 211, 212, 213, 214, 215, 216, 217, 218, 219, 220, 221, 222, 223, 224, 225, 226, 227, 228, 229, 230, 231, 232, 233, 234, 235, 236, 237, 238, 239, 240, 241, 242, 243, 244, 245, 246, 247, 248, 249, 250, 251, 252, 253, 254, 255, 256, 257, 258, 259, 260, 261, 262, 263, 264, 265, 266, 267, 268, 269, 270, 271, 272, 273, 274, 275, 276, 277, 278, 279, 280, 281, 282, 283, 284, 285, 286, 287, 288, 289, 290, 291, 292, 293, 294, 295, 296, 297, 298, 299, 300, 301, 302, 303, 304, 305, 306, 307, 308, 309, 310, 311, 312, 313, 314, 315, 316, 317, 318, 319, 320, 321, 322, 323, 324, 325, 326, 327, 328, 329, 330, 331, 332, 333, 334, 335, 336, 337, 338, 339, 340, 341, 342, 343, 344, 345, 346, 347, 348, 349, 350, 351, 352, 353, 354, 355, 356, 357, 358, 359, 360, 361, 362, 363, 364, 365, 366, 367, 368, 369, 370, 371, 372, 373, 374, 375, 376, 377, 378, 379, 380, 381, 382, 383, 384, 385, 386, 387, 388, 389, 390, 391, 392, 393, 394, 395, 396, 397, 398, 399, 400, 401, 402, 403, 404, 405, 406, 407, 408, 409, 410, 411, 412, 413, 414, 415, 416, 417, 418, 419, 420, 421, 422, 423, 424, 425, 426, 427, 428, 429, 430, 431, 432, 433, 434, 435, 436, 437, 438, 439, 440, 441, 442, 443, 444, 445, 446, 447, 448, 449, 450, 451, 452, 453, 454, 455, 456, 457, 458, 459, 460, 461, 462, 463, 464, 465, 466, 467, 468, 469, 470, 471, 472, 473, 474, 475, 476, 477, 478, 479, 480, 481, 482, 483, 484, 485, 486, 487, 488, 489, 490, 491, 492, 493, 494, 495, 496, 497, 498, 499, 500, 501, 502, 503, 504, 505, 506, 507, 508, 509, 510, 511, 512, 513, 514, 515, 516, 517, 518, 519, 520, 521, 522, 523, 524, 530, 531, 532, 533, 534, 535, 536, 537, 538, 539, 540, 541, 542, 543, 544, 545, 546, 547, 548, 549, 550, 551, 552, 553, 554, 555, 556, 557, 558, 559, 560, 561, 562, 563, 564, 565, 566, 567, 568, 569, 570, 571, 572, 573, 574] (by decide +kernel) (by decide +kernel)
set_option maxRecDepth 20000 in
theorem gX10_span_X0_enact : GoodIn wsX10_span (wsV RX10 32 RX0 yX0_enact wsX0_enact) := goodIn_app (goodIn_of _ (by decide +kernel)) ggX10_span_X0_enact
theorem dX10_span_0 : decode cX10_span 0 = .ok (.aload_n 0, 1) := by decide +kernel
theorem dX10_span_1 : decode cX10_span 1 = .ok (.getfield 10, 3) := by decide +kernel
theorem dX10_span_4 : decode cX10_span 4 = .ok (.bipush 11, 2) := by decide +kernel
theorem dX10_span_6 : decode cX10_span 6 = .ok (.iload_n 1, 1) := by decide +kernel
theorem dX10_span_7 : decode cX10_span 7 = .ok (.iload_n 2, 1) := by decide +kernel
theorem dX10_span_8 : decode cX10_span 8 = .ok (.iconst 0, 1) := by decide +kernel
theorem dX10_span_9 : decode cX10_span 9 = .ok (.iconst 0, 1) := by decide +kernel
theorem dX10_span_10 : decode cX10_span 10 = .ok (.invokevirtual 32, 3) := by decide +kernel
theorem dX10_span_13 : decode cX10_span 13 = .ok (.ireturn, 1) := by decide +kernel
set_option maxRecDepth 20000 in
theorem ggX10_word_X0_enact : GoodIn wsX10_word wsX0_enact := goodIn_r _ [6, 7, 8, 9, 10, 11, 12, 13, 14, 15, 16, 17, 18, 19, 20, 21, 22, 23, 24, 25, 26, 27, 28, 29, 30, 31, 32, 33, 34, 35, 36, 37, 38, 39, 40, 41, 42, 43, 44, 45, 46, 47, 48, 49, 50, 51, 52, 53, 54, 55, 56, 57, 58, 59, 60, 61, 62, 63, 64, 65, 66, 67, 68, 69, 70, 71, 72, 73, 74, 75, 76, 77, 78, 79, 80, 81, 82, 83, 84, 85, 86, 87, 88, 89, 90, 91, 92, 93, 94, 95, 96, 97, 98, 99, 100, 101, 102, 103, 104, 105, 106, 107, 5, 108, 109, 110, 111, 112, 113, 114, 115, 116, 117, 118, 119, 120, 121, 122, 123, 124, 125, 126, 127, 128, 129, 130, 131, 132, 133, 134, 135, 136, 137, 138, 139, 140, 141, 142, 143, 144, 145, 146, 147, 148, 149, 150, 151, 152, 153, 154, 155, 156, 157, 158, 159, 160, 161, 162, 163, 164, 165, 166, 167, 168, 169, 170, 171, 172, 173, 174, 175, 176, 177, 178, 179, 180, 181, 182, 183, 184, 185, 186, 187, 188, 189, 190, 191, 192, 193, 194, 195, 196, 197, 198, 199, 200, 201, 202, 203, 204, 205, 206, 207, 208, 209, 210, 211, 212, 213, 214, 215, 216, 217, 218, 219, 220, 221, 222, 223, 224, 225, 226, 227, 228, 229, 230, 231, 232, 233, 234, 235, 236, 237, 238, 239, 240, 241, 242, 243, 244, 245, 246, 247, 248, 249, 250, 251, 252, 253, 254, 255, 256, 257, 258, 259, 260, 261, 262, 263, 264, 265, 266, 267, 268, 269, 270, 271, 272, 273, 274, 275, 276, 277, 278, 279, 280, 281, 282, 283, 284, 285, 286, 287, 288, 289, 290, 291, 292, 293, 294, 295, 296, 297, 298, 299, 300, 301, 302, 303, 304, 305, 306, 307, 308, 309, 310, 311, 312, 313, 314, 315, 316, 317, 318, 319, 320, 321, 322, 323, 324, 325, 326, 327, 328, 329, 330, 331, 332, 333, 334, 335, 336, 337, 338, 339, 340, 341, 342, 343, 344, 345, 346, 347, 348, 349, 350, 351, 352, 353, 354, 355, 356, 357, 358, 359, 360, 361, 362, 363, 364, 365, 366, 367, 368, 369, 370, 371, 372, 373, 374, 375, 376, 377, 378, 379, 380, 381, 382, 383, 384, 385, 386, 387, 388, 389, 390, 391, 392, 393, 394, 395, 396, 397, 398, 399, 400, 401, 402, 403, 404, 405, 406, 407, 408, 409, 410, 411, 412, 413, 414, 415, 416, 417, 418, 419, 420, 421, 422, 423, 424, 425, 426, 427, 428, 429, 430, 431, 432, 433, 434, 435, 436, 437, 438, 439, 440, 441, 442, 443, 444, 445, 446, 447, 448, 449, 450, 451, 452, 453, 454, 455, 456, 457, 458, 459, 460, 461, 462, 463, 464, 465, 466, 467, 468, 469, 470, 471, 472, 473, 474, 475, 476, 477, 478, 479, 480, 481, 482, 483, 484, 485, 486, 487, 488, 489, 490, 491, 492, 493, 494, 495, 496, 497, 498, 499, 500, 501, 502, 503, 504, 505, 506, 507, 508, 509, 510, 511, 512, 513, 514, 515, 516, 517, 518, 519, 520, 521, 522, 523, 524, 530, 531, 532, 533, 534, 535, 536, 537, 538, 539, 540, 541, 542, 543, 544, 545, 546, 547, 548, 549, 550, 551, 552, 553, 554, 555, 556, 557, 558, 559, 560, 561, 562, 563, 564, 565, 566, 567, 568, 569, 570, 571, 572, 573, 574] (by decide +kernel) (by decide +kernel)
set_option maxRecDepth 20000 in
theorem gX10_word_X0_enact : GoodIn wsX10_word (wsV RX10 32 RX0 yX0_enact wsX0_enact) := goodIn_app (goodIn_of _ (by decide +kernel)) ggX10_word_X0_enact
theorem dX10_word_0 : decode cX10_word 0 = .ok (.aload_n 0, 1) := by decide +kernel
theorem dX10_word_1 : decode cX10_word 1 = .ok (.getfield 10, 3) := by decide +kernel
theorem dX10_word_4 : decode cX10_word 4 = .ok (.bipush 12, 2) := by decide +kernel
theorem dX10_word_6 : decode cX10_word 6 = .ok (.iload_n 1, 1) := by decide +kernel
theorem dX10_word_7 : decode cX10_word 7 = .ok (.iload_n 2, 1) := by decide +kernel
theorem dX10_word_8 : decode cX10_word 8 = .ok (.iload_n 3, 1) := by decide +kernel
theorem dX10_word_9 : decode cX10_word 9 = .ok (.iload 4, 2) := by decide +kernel
theorem dX10_word_11 : decode cX10_word 11 = .ok (.invokevirtual 32, 3) := by decide +kernel
theorem dX10_word_14 : decode cX10_word 14 = .ok (.ireturn, 1) := by decide +kernel
set_option maxRecDepth 20000 in
theorem ggX10_lay_X0_enact : GoodIn wsX10_lay wsX0_enact := goodIn_r _ [6, 7, 8, 9, 10, 11, 12, 13, 14, 15, 16, 17, 18, 19, 20, 21, 22, 23, 24, 25, 26, 27, 28, 29, 30, 31, 32, 33, 34, 35, 36, 37, 38, 39, 40, 41, 42, 43, 44, 45, 46, 47, 48, 49, 50, 51, 52, 53, 54, 55, 56, 57, 58, 59, 60, 61, 62, 63, 64, 65, 66, 67, 68, 69, 70, 71, 72, 73, 74, 75, 76, 77, 78, 79, 80, 81, 82, 83, 84, 85, 86, 87, 88, 89, 90, 91, 92, 93, 94, 95, 96, 97, 98, 99, 100, 101, 102, 103, 104, 105, 106, 107, 5, 108, 109, 110, 111, 112, 113, 114, 115, 116, 117, 118, 119, 120, 121, 122, 123, 124, 125, 126, 127, 128, 129, 130, 131, 132, 133, 134, 135, 136, 137, 138, 139, 140, 141, 142, 143, 144, 145, 146, 147, 148, 149, 150, 151, 152, 153, 154, 155, 156, 157, 158, 159, 160, 161, 162, 163, 164, 165, 166, 167, 168, 169, 170, 171, 172, 173, 174, 175, 176, 177, 178, 179, 180, 181, 182, 183, 184, 185, 186, 187, 188, 189, 190, 191, 192, 193, 194, 195, 196, 197, 198, 199, 200, 201, 202, 203, 204, 205, 206, 207, 208, 209, 210, 211, 212, 213, 214, 215, 216, 217, 218, 219, 220, 221, 222, 223, 224, 225, 226, 227, 228, 229, 230, 231, 232, 233, 234, 235, 236, 237, 238, 239, 240, 241, 242, 243, 244, 245, 246, 247, 248, 249, 250, 251, 252, 253, 254, 255, 256, 257, 258, 259, 260, 261, 262, 263, 264, 265, 266, 267, 268, 269, 270, 271, 272, 273, 274, 275, 276, 277, 278, 279, 280, 281, 282, 283, 284, 285, 286, 287, 288, 289, 290, 291, 292, 293, 294, 295, 296, 297, 298, 299, 300, 301, 302, 303, 304, 305, 306, 307, 308, 309, 310, 311, 312, 313, 314, 315, 316, 317, 318, 319, 320, 321, 322, 323, 324, 325, 326, 327, 328, 329, 330, 331, 332, 333, 334, 335, 336, 337, 338, 339, 340, 341, 342, 343, 344, 345, 346, 347, 348, 349, 350, 351, 352, 353, 354, 355, 356, 357, 358, 359, 360, 361, 362, 363, 364, 365, 366, 367, 368, 369, 370, 371, 372, 373, 374, 375, 376, 377, 378, 379, 380, 381, 382, 383, 384, 385, 386, 387, 388, 389, 390, 391, 392, 393, 394, 395, 396, 397, 398, 399, 400, 401, 402, 403, 404, 405, 406, 407, 408, 409, 410, 411, 412, 413, 414, 415, 416, 417, 418, 419, 420, 421, 422, 423, 424, 425, 426, 427, 428, 429, 430, 431, 432, 433, 434, 435, 436, 437, 438, 439, 440, 441, 442, 443, 444, 445, 446, 447, 448, 449, 450, 451, 452, 453, 454, 455, 456, 457, 458, 459, 460, 461, 462, 463, 464, 465, 466, 467, 468, 469, 470, 471, 472, 473, 474, 475, 476, 477, 478, 479, 480, 481, 482, 483, 484, 485, 486, 487, 488, 489, 490, 491, 492, 493, 494, 495, 496, 497, 498, 499, 500, 501, 502, 503, 504, 505, 506, 507, 508, 509, 510, 511, 512, 513, 514, 515, 516, 517, 518, 519, 520, 521, 522, 523, 524, 530, 531, 532, 533, 534, 535, 536, 537, 538, 539, 540, 541, 542, 543, 544, 545, 546, 547, 548, 549, 550, 551, 552, 553, 554, 555, 556, 557, 558, 559, 560, 561, 562, 563, 564, 565, 566, 567, 568, 569, 570, 571, 572, 573, 574] (by decide +kernel) (by decide +kernel)
set_option maxRecDepth 20000 in
theorem gX10_lay_X0_enact : GoodIn wsX10_lay (wsV RX10 32 RX0 yX0_enact wsX0_enact) := goodIn_app (goodIn_of _ (by decide +kernel)) ggX10_lay_X0_enact
theorem dX10_lay_0 : decode cX10_lay 0 = .ok (.aload_n 0, 1) := by decide +kernel
theorem dX10_lay_1 : decode cX10_lay 1 = .ok (.getfield 10, 3) := by decide +kernel
theorem dX10_lay_4 : decode cX10_lay 4 = .ok (.bipush 13, 2) := by decide +kernel
theorem dX10_lay_6 : decode cX10_lay 6 = .ok (.iload_n 1, 1) := by decide +kernel
theorem dX10_lay_7 : decode cX10_lay 7 = .ok (.iconst 0, 1) := by decide +kernel
theorem dX10_lay_8 : decode cX10_lay 8 = .ok (.iconst 0, 1) := by decide +kernel
theorem dX10_lay_9 : decode cX10_lay 9 = .ok (.iconst 0, 1) := by decide +kernel
theorem dX10_lay_10 : decode cX10_lay 10 = .ok (.invokevirtual 32, 3) := by decide +kernel
theorem dX10_lay_13 : decode cX10_lay 13 = .ok (.ireturn, 1) := by decide +kernel
set_option maxRecDepth 20000 in
theorem ggX10_take_X0_enact : GoodIn wsX10_take wsX0_enact := goodIn_r _ [6, 7, 8, 9, 10, 11, 12, 13, 14, 15, 16, 17, 18, 19, 20, 21, 22, 23, 24, 25, 26, 27, 28, 29, 30, 31, 32, 33, 34, 35, 36, 37, 38, 39, 40, 41, 42, 43, 44, 45, 46, 47, 48, 49, 50, 51, 52, 53, 54, 55, 56, 57, 58, 59, 60, 61, 62, 63, 64, 65, 66, 67, 68, 69, 70, 71, 72, 73, 74, 75, 76, 77, 78, 79, 80, 81, 82, 83, 84, 85, 86, 87, 88, 89, 90, 91, 92, 93, 94, 95, 96, 97, 98, 99, 100, 101, 102, 103, 104, 105, 106, 107, 5, 108, 109, 110, 111, 112, 113, 114, 115, 116, 117, 118, 119, 120, 121, 122, 123, 124, 125, 126, 127, 128, 129, 130, 131, 132, 133, 134, 135, 136, 137, 138, 139, 140, 141, 142, 143, 144, 145, 146, 147, 148, 149, 150, 151, 152, 153, 154, 155, 156, 157, 158, 159, 160, 161, 162, 163, 164, 165, 166, 167, 168, 169, 170, 171, 172, 173, 174, 175, 176, 177, 178, 179, 180, 181, 182, 183, 184, 185, 186, 187, 188, 189, 190, 191, 192, 193, 194, 195, 196, 197, 198, 199, 200, 201, 202, 203, 204, 205, 206, 207, 208, 209, 210, 211, 212, 213, 214, 215, 216, 217, 218, 219, 220, 221, 222, 223, 224, 225, 226, 227, 228, 229, 230, 231, 232, 233, 234, 235, 236, 237, 238, 239, 240, 241, 242, 243, 244, 245, 246, 247, 248, 249, 250, 251, 252, 253, 254, 255, 256, 257, 258, 259, 260, 261, 262, 263, 264, 265, 266, 267, 268, 269, 270, 271, 272, 273, 274, 275, 276, 277, 278, 279, 280, 281, 282, 283, 284, 285, 286, 287, 288, 289, 290, 291, 292, 293, 294, 295, 296, 297, 298, 299, 300, 301, 302, 303, 304, 305, 306, 307, 308, 309, 310, 311, 312, 313, 314, 315, 316, 317, 318, 319, 320, 321, 322, 323, 324, 325, 326, 327, 328, 329, 330, 331, 332, 333, 334, 335, 336, 337, 338, 339, 340, 341, 342, 343, 344, 345, 346, 347, 348, 349, 350, 351, 352, 353, 354, 355, 356, 357, 358, 359, 360, 361, 362, 363, 364, 365, 366, 367, 368, 369, 370, 371, 372, 373, 374, 375, 376, 377, 378, 379, 380, 381, 382, 383, 384, 385, 386, 387, 388, 389, 390, 391, 392, 393, 394, 395, 396, 397, 398, 399, 400, 401, 402, 403, 404, 405, 406, 407, 408, 409, 410, 411, 412, 413, 414, 415, 416, 417, 418, 419, 420, 421, 422, 423, 424, 425, 426, 427, 428, 429, 430, 431, 432, 433, 434, 435, 436, 437, 438, 439, 440, 441, 442, 443, 444, 445, 446, 447, 448, 449, 450, 451, 452, 453, 454, 455, 456, 457, 458, 459, 460, 461, 462, 463, 464, 465, 466, 467, 468, 469, 470, 471, 472, 473, 474, 475, 476, 477, 478, 479, 480, 481, 482, 483, 484, 485, 486, 487, 488, 489, 490, 491, 492, 493, 494, 495, 496, 497, 498, 499, 500, 501, 502, 503, 504, 505, 506, 507, 508, 509, 510, 511, 512, 513, 514, 515, 516, 517, 518, 519, 520, 521, 522, 523, 524, 530, 531, 532, 533, 534, 535, 536, 537, 538, 539, 540, 541, 542, 543, 544, 545, 546, 547, 548, 549, 550, 551, 552, 553, 554, 555, 556, 557, 558, 559, 560, 561, 562, 563, 564, 565, 566, 567, 568, 569, 570, 571, 572, 573, 574] (by decide +kernel) (by decide +kernel)
set_option maxRecDepth 20000 in
theorem gX10_take_X0_enact : GoodIn wsX10_take (wsV RX10 32 RX0 yX0_enact wsX0_enact) := goodIn_app (goodIn_of _ (by decide +kernel)) ggX10_take_X0_enact
theorem dX10_take_0 : decode cX10_take 0 = .ok (.aload_n 0, 1) := by decide +kernel
theorem dX10_take_1 : decode cX10_take 1 = .ok (.getfield 10, 3) := by decide +kernel
theorem dX10_take_4 : decode cX10_take 4 = .ok (.bipush 14, 2) := by decide +kernel
theorem dX10_take_6 : decode cX10_take 6 = .ok (.iload_n 1, 1) := by decide +kernel
theorem dX10_take_7 : decode cX10_take 7 = .ok (.iconst 0, 1) := by decide +kernel
theorem dX10_take_8 : decode cX10_take 8 = .ok (.iconst 0, 1) := by decide +kernel
theorem dX10_take_9 : decode cX10_take 9 = .ok (.iconst 0, 1) := by decide +kernel
theorem dX10_take_10 : decode cX10_take 10 = .ok (.invokevirtual 32, 3) := by decide +kernel
theorem dX10_take_13 : decode cX10_take 13 = .ok (.ireturn, 1) := by decide +kernel
set_option maxRecDepth 20000 in
theorem ggX10_move_X0_enact : GoodIn wsX10_move wsX0_enact := goodIn_r _ [6, 7, 8, 9, 10, 11, 12, 13, 14, 15, 16, 17, 18, 19, 20, 21, 22, 23, 24, 25, 26, 27, 28, 29, 30, 31, 32, 33, 34, 35, 36, 37, 38, 39, 40, 41, 42, 43, 44, 45, 46, 47, 48, 49, 50, 51, 52, 53, 54, 55, 56, 57, 58, 59, 60, 61, 62, 63, 64, 65, 66, 67, 68, 69, 70, 71, 72, 73, 74, 75, 76, 77, 78, 79, 80, 81, 82, 83, 84, 85, 86, 87, 88, 89, 90, 91, 92, 93, 94, 95, 96, 97, 98, 99, 100, 101, 102, 103, 104, 105, 106, 107, 5, 108, 109, 110, 111, 112, 113, 114, 115, 116, 117, 118, 119, 120, 121, 122, 123, 124, 125, 126, 127, 128, 129, 130, 131, 132, 133, 134, 135, 136, 137, 138, 139, 140, 141, 142, 143, 144, 145, 146, 147, 148, 149, 150, 151, 152, 153, 154, 155, 156, 157, 158, 159, 160, 161, 162, 163, 164, 165, 166, 167, 168, 169, 170, 171, 172, 173, 174, 175, 176, 177, 178, 179, 180, 181, 182, 183, 184, 185, 186, 187, 188, 189, 190, 191, 192, 193, 194, 195, 196, 197, 198, 199, 200, 201, 202, 203, 204, 205, 206, 207, 208, 209, 210, 211, 212, 213, 214, 215, 216, 217, 218, 219, 220, 221, 222, 223, 224, 225, 226, 227, 228, 229, 230, 231, 232, 233, 234, 235, 236, 237, 238, 239, 240, 241, 242, 243, 244, 245, 246, 247, 248, 249, 250, 251, 252, 253, 254, 255, 256, 257, 258, 259, 260, 261, 262, 263, 264, 265, 266, 267, 268, 269, 270, 271, 272, 273, 274, 275, 276, 277, 278, 279, 280, 281, 282, 283, 284, 285, 286, 287, 288, 289, 290, 291, 292, 293, 294, 295, 296, 297, 298, 299, 300, 301, 302, 303, 304, 305, 306, 307, 308, 309, 310, 311, 312, 313, 314, 315, 316, 317, 318, 319, 320, 321, 322, 323, 324, 325, 326, 327, 328, 329, 330, 331, 332, 333, 334, 335, 336, 337, 338, 339, 340, 341, 342, 343, 344, 345, 346, 347, 348, 349, 350, 351, 352, 353, 354, 355, 356, 357, 358, 359, 360, 361, 362, 363, 364, 365, 366, 367, 368, 369, 370, 371, 372, 373, 374, 375, 376, 377, 378, 379, 380, 381, 382, 383, 384, 385, 386, 387, 388, 389, 390, 391, 392, 393, 394, 395, 396, 397, 398, 399, 400, 401, 402, 403, 404, 405, 406, 407, 408, 409, 410, 411, 412, 413, 414, 415, 416, 417, 418, 419, 420, 421, 422, 423, 424, 425, 426, 427, 428, 429, 430, 431, 432, 433, 434, 435, 436, 437, 438, 439, 440, 441, 442, 443, 444, 445, 446, 447, 448, 449, 450, 451, 452, 453, 454, 455, 456, 457, 458, 459, 460, 461, 462, 463, 464, 465, 466, 467, 468, 469, 470, 471, 472, 473, 474, 475, 476, 477, 478, 479, 480, 481, 482, 483, 484, 485, 486, 487, 488, 489, 490, 491, 492, 493, 494, 495, 496, 497, 498, 499, 500, 501, 502, 503, 504, 505, 506, 507, 508, 509, 510, 511, 512, 513, 514, 515, 516, 517, 518, 519, 520, 521, 522, 523, 524, 530, 531, 532, 533, 534, 535, 536, 537, 538, 539, 540, 541, 542, 543, 544, 545, 546, 547, 548, 549, 550, 551, 552, 553, 554, 555, 556, 557, 558, 559, 560, 561, 562, 563, 564, 565, 566, 567, 568, 569, 570, 571, 572, 573, 574] (by decide +kernel) (by decide +kernel)
set_option maxRecDepth 20000 in
theorem gX10_move_X0_enact : GoodIn wsX10_move (wsV RX10 32 RX0 yX0_enact wsX0_enact) := goodIn_app (goodIn_of _ (by decide +kernel)) ggX10_move_X0_enact
theorem dX10_move_0 : decode cX10_move 0 = .ok (.aload_n 0, 1) := by decide +kernel
theorem dX10_move_1 : decode cX10_move 1 = .ok (.getfield 10, 3) := by decide +kernel
theorem dX10_move_4 : decode cX10_move 4 = .ok (.bipush 15, 2) := by decide +kernel
theorem dX10_move_6 : decode cX10_move 6 = .ok (.iload_n 1, 1) := by decide +kernel
theorem dX10_move_7 : decode cX10_move 7 = .ok (.iconst 0, 1) := by decide +kernel
theorem dX10_move_8 : decode cX10_move 8 = .ok (.iconst 0, 1) := by decide +kernel
theorem dX10_move_9 : decode cX10_move 9 = .ok (.iconst 0, 1) := by decide +kernel
theorem dX10_move_10 : decode cX10_move 10 = .ok (.invokevirtual 32, 3) := by decide +kernel
theorem dX10_move_13 : decode cX10_move 13 = .ok (.ireturn, 1) := by decide +kernel
set_option maxRecDepth 20000 in
theorem ggX10_second_X0_enact : GoodIn wsX10_second wsX0_enact := goodIn_r _ [6, 7, 8, 9, 10, 11, 12, 13, 14, 15, 16, 17, 18, 19, 20, 21, 22, 23, 24, 25, 26, 27, 28, 29, 30, 31, 32, 33, 34, 35, 36, 37, 38, 39, 40, 41, 42, 43, 44, 45, 46, 47, 48, 49, 50, 51, 52, 53, 54, 55, 56, 57, 58, 59, 60, 61, 62, 63, 64, 65, 66, 67, 68, 69, 70, 71, 72, 73, 74, 75, 76, 77, 78, 79, 80, 81, 82, 83, 84, 85, 86, 87, 88, 89, 90, 91, 92, 93, 94, 95, 96, 97, 98, 99, 100, 101, 102, 103, 104, 105, 106, 107, 5, 108, 109, 110, 111, 112, 113, 114, 115, 116, 117, 118, 119, 120, 121, 122, 123, 124, 125, 126, 127, 128, 129, 130, 131, 132, 133, 134, 135, 136, 137, 138, 139, 140, 141, 142, 143, 144, 145, 146, 147, 148, 149, 150, 151, 152, 153, 154, 155, 156, 157, 158, 159, 160, 161, 162, 163, 164, 165, 166, 167, 168, 169, 170, 171, 172, 173, 174, 175, 176, 177, 178, 179, 180, 181, 182, 183, 184, 185, 186, 187, 188, 189, 190, 191, 192, 193, 194, 195, 196, 197, 198, 199, 200, 201, 202, 203, 204, 205, 206, 207, 208, 209, 210, 211, 212, 213, 214, 215, 216, 217, 218, 219, 220, 221, 222, 223, 224, 225, 226, 227, 228, 229, 230, 231, 232, 233, 234, 235, 236, 237, 238, 239, 240, 241, 242, 243, 244, 245, 246, 247, 248, 249, 250, 251, 252, 253, 254, 255, 256, 257, 258, 259, 260, 261, 262, 263, 264, 265, 266, 267, 268, 269, 270, 271, 272, 273, 274, 275, 276, 277, 278, 279, 280, 281, 282, 283, 284, 285, 286, 287, 288, 289, 290, 291, 292, 293, 294, 295, 296, 297, 298, 299, 300, 301, 302, 303, 304, 305, 306, 307, 308, 309, 310, 311, 312, 313, 314, 315, 316, 317, 318, 319, 320, 321, 322, 323, 324, 325, 326, 327, 328, 329, 330, 331, 332, 333, 334, 335, 336, 337, 338, 339, 340, 341, 342, 343, 344, 345, 346, 347, 348, 349, 350, 351, 352, 353, 354, 355, 356, 357, 358, 359, 360, 361, 362, 363, 364, 365, 366, 367, 368, 369, 370, 371, 372, 373, 374, 375, 376, 377, 378, 379, 380, 381, 382, 383, 384, 385, 386, 387, 388, 389, 390, 391, 392, 393, 394, 395, 396, 397, 398, 399, 400, 401, 402, 403, 404, 405, 406, 407, 408, 409, 410, 411, 412, 413, 414, 415, 416, 417, 418, 419, 420, 421, 422, 423, 424, 425, 426, 427, 428, 429, 430, 431, 432, 433, 434, 435, 436, 437, 438, 439, 440, 441, 442, 443, 444, 445, 446, 447, 448, 449, 450, 451, 452, 453, 454, 455, 456, 457, 458, 459, 460, 461, 462, 463, 464, 465, 466, 467, 468, 469, 470, 471, 472, 473, 474, 475, 476, 477, 478, 479, 480, 481, 482, 483, 484, 485, 486, 487, 488, 489, 490, 491, 492, 493, 494, 495, 496, 497, 498, 499, 500, 501, 502, 503, 504, 505, 506, 507, 508, 509, 510, 511, 512, 513, 514, 515, 516, 517, 518, 519, 520, 521, 522, 523, 524, 530, 531, 532, 533, 534, 535, 536, 537, 538, 539, 540, 541, 542, 543, 544, 545, 546, 547, 548, 549, 550, 551, 552, 553, 554, 555, 556, 557, 558, 559, 560, 561, 562, 563, 564, 565, 566, 567, 568, 569, 570, 571, 572, 573, 574] (by decide +kernel) (by decide +kernel)
set_option maxRecDepth 20000 in
theorem gX10_second_X0_enact : GoodIn wsX10_second (wsV RX10 32 RX0 yX0_enact wsX0_enact) := goodIn_app (goodIn_of _ (by decide +kernel)) ggX10_second_X0_enact
theorem dX10_second_0 : decode cX10_second 0 = .ok (.aload_n 0, 1) := by decide +kernel
theorem dX10_second_1 : decode cX10_second 1 = .ok (.getfield 10, 3) := by decide +kernel
theorem dX10_second_4 : decode cX10_second 4 = .ok (.bipush 16, 2) := by decide +kernel
theorem dX10_second_6 : decode cX10_second 6 = .ok (.iload_n 1, 1) := by decide +kernel
theorem dX10_second_7 : decode cX10_second 7 = .ok (.iconst 0, 1) := by decide +kernel
theorem dX10_second_8 : decode cX10_second 8 = .ok (.iconst 0, 1) := by decide +kernel
theorem dX10_second_9 : decode cX10_second 9 = .ok (.iconst 0, 1) := by decide +kernel
theorem dX10_second_10 : decode cX10_second 10 = .ok (.invokevirtual 32, 3) := by decide +kernel
theorem dX10_second_13 : decode cX10_second 13 = .ok (.ireturn, 1) := by decide +kernel
set_option maxRecDepth 20000 in
theorem ggX10_vote_X0_enact : GoodIn wsX10_vote wsX0_enact := goodIn_r _ [6, 7, 8, 9, 10, 11, 12, 13, 14, 15, 16, 17, 18, 19, 20, 21, 22, 23, 24, 25, 26, 27, 28, 29, 30, 31, 32, 33, 34, 35, 36, 37, 38, 39, 40, 41, 42, 43, 44, 45, 46, 47, 48, 49, 50, 51, 52, 53, 54, 55, 56, 57, 58, 59, 60, 61, 62, 63, 64, 65, 66, 67, 68, 69, 70, 71, 72, 73, 74, 75, 76, 77, 78, 79, 80, 81, 82, 83, 84, 85, 86, 87, 88, 89, 90, 91, 92, 93, 94, 95, 96, 97, 98, 99, 100, 101, 102, 103, 104, 105, 106, 107, 5, 108, 109, 110, 111, 112, 113, 114, 115, 116, 117, 118, 119, 120, 121, 122, 123, 124, 125, 126, 127, 128, 129, 130, 131, 132, 133, 134, 135, 136, 137, 138, 139, 140, 141, 142, 143, 144, 145, 146, 147, 148, 149, 150, 151, 152, 153, 154, 155, 156, 157, 158, 159, 160, 161, 162, 163, 164, 165, 166, 167, 168, 169, 170, 171, 172, 173, 174, 175, 176, 177, 178, 179, 180, 181, 182, 183, 184, 185, 186, 187, 188, 189, 190, 191, 192, 193, 194, 195, 196, 197, 198, 199, 200, 201, 202, 203, 204, 205, 206, 207, 208, 209, 210, 211, 212, 213, 214, 215, 216, 217, 218, 219, 220, 221, 222, 223, 224, 225, 226, 227, 228, 229, 230, 231, 232, 233, 234, 235, 236, 237, 238, 239, 240, 241, 242, 243, 244, 245, 246, 247, 248, 249, 250, 251, 252, 253, 254, 255, 256, 257, 258, 259, 260, 261, 262, 263, 264, 265, 266, 267, 268, 269, 270, 271, 272, 273, 274, 275, 276, 277, 278, 279, 280, 281, 282, 283, 284, 285, 286, 287, 288, 289, 290, 291, 292, 293, 294, 295, 296, 297, 298, 299, 300, 301, 302, 303, 304, 305, 306, 307, 308, 309, 310, 311, 312, 313, 314, 315, 316, 317, 318, 319, 320, 321, 322, 323, 324, 325, 326, 327, 328, 329, 330, 331, 332, 333, 334, 335, 336, 337, 338, 339, 340, 341, 342, 343, 344, 345, 346, 347, 348, 349, 350, 351, 352, 353, 354, 355, 356, 357, 358, 359, 360, 361, 362, 363, 364, 365, 366, 367, 368, 369, 370, 371, 372, 373, 374, 375, 376, 377, 378, 379, 380, 381, 382, 383, 384, 385, 386, 387, 388, 389, 390, 391, 392, 393, 394, 395, 396, 397, 398, 399, 400, 401, 402, 403, 404, 405, 406, 407, 408, 409, 410, 411, 412, 413, 414, 415, 416, 417, 418, 419, 420, 421, 422, 423, 424, 425, 426, 427, 428, 429, 430, 431, 432, 433, 434, 435, 436, 437, 438, 439, 440, 441, 442, 443, 444, 445, 446, 447, 448, 449, 450, 451, 452, 453, 454, 455, 456, 457, 458, 459, 460, 461, 462, 463, 464, 465, 466, 467, 468, 469, 470, 471, 472, 473, 474, 475, 476, 477, 478, 479, 480, 481, 482, 483, 484, 485, 486, 487, 488, 489, 490, 491, 492, 493, 494, 495, 496, 497, 498, 499, 500, 501, 502, 503, 504, 505, 506, 507, 508, 509, 510, 511, 512, 513, 514, 515, 516, 517, 518, 519, 520, 521, 522, 523, 524, 530, 531, 532, 533, 534, 535, 536, 537, 538, 539, 540, 541, 542, 543, 544, 545, 546, 547, 548, 549, 550, 551, 552, 553, 554, 555, 556, 557, 558, 559, 560, 561, 562, 563, 564, 565, 566, 567, 568, 569, 570, 571, 572, 573, 574] (by decide +kernel) (by decide +kernel)
set_option maxRecDepth 20000 in
theorem gX10_vote_X0_enact : GoodIn wsX10_vote (wsV RX10 32 RX0 yX0_enact wsX0_enact) := goodIn_app (goodIn_of _ (by decide +kernel)) ggX10_vote_X0_enact
theorem dX10_vote_0 : decode cX10_vote 0 = .ok (.aload_n 0, 1) := by decide +kernel
theorem dX10_vote_1 : decode cX10_vote 1 = .ok (.getfield 10, 3) := by decide +kernel
theorem dX10_vote_4 : decode cX10_vote 4 = .ok (.bipush 17, 2) := by decide +kernel
theorem dX10_vote_6 : decode cX10_vote 6 = .ok (.iload_n 1, 1) := by decide +kernel
theorem dX10_vote_7 : decode cX10_vote 7 = .ok (.iload_n 2, 1) := by decide +kernel
theorem dX10_vote_8 : decode cX10_vote 8 = .ok (.iconst 0, 1) := by decide +kernel
theorem dX10_vote_9 : decode cX10_vote 9 = .ok (.iconst 0, 1) := by decide +kernel
theorem dX10_vote_10 : decode cX10_vote 10 = .ok (.invokevirtual 32, 3) := by decide +kernel
theorem dX10_vote_13 : decode cX10_vote 13 = .ok (.ireturn, 1) := by decide +kernel
set_option maxRecDepth 20000 in
theorem ggX10_withdraw_X0_enact : GoodIn wsX10_withdraw wsX0_enact := goodIn_r _ [6, 7, 8, 9, 10, 11, 12, 13, 14, 15, 16, 17, 18, 19, 20, 21, 22, 23, 24, 25, 26, 27, 28, 29, 30, 31, 32, 33, 34, 35, 36, 37, 38, 39, 40, 41, 42, 43, 44, 45, 46, 47, 48, 49, 50, 51, 52, 53, 54, 55, 56, 57, 58, 59, 60, 61, 62, 63, 64, 65, 66, 67, 68, 69, 70, 71, 72, 73, 74, 75, 76, 77, 78, 79, 80, 81, 82, 83, 84, 85, 86, 87, 88, 89, 90, 91, 92, 93, 94, 95, 96, 97, 98, 99, 100, 101, 102, 103, 104, 105, 106, 107, 5, 108, 109, 110, 111, 112, 113, 114, 115, 116, 117, 118, 119, 120, 121, 122, 123, 124, 125, 126, 127, 128, 129, 130, 131, 132, 133, 134, 135, 136, 137, 138, 139, 140, 141, 142, 143, 144, 145, 146, 147, 148, 149, 150, 151, 152, 153, 154, 155, 156, 157, 158, 159, 160, 161, 162, 163, 164, 165, 166, 167, 168, 169, 170, 171, 172, 173, 174, 175, 176, 177, 178, 179, 180, 181, 182, 183, 184, 185, 186, 187, 188, 189, 190, 191, 192, 193, 194, 195, 196, 197, 198, 199, 200, 201, 202, 203, 204, 205, 206, 207, 208, 209, 210, 211, 212, 213, 214, 215, 216, 217, 218, 219, 220, 221, 222, 223, 224, 225, 226, 227, 228, 229, 230, 231, 232, 233, 234, 235, 236, 237, 238, 239, 240, 241, 242, 243, 244, 245, 246, 247, 248, 249, 250, 251, 252, 253, 254, 255, 256, 257, 258, 259, 260, 261, 262, 263, 264, 265, 266, 267, 268, 269, 270, 271, 272, 273, 274, 275, 276, 277, 278, 279, 280, 281, 282, 283, 284, 285, 286, 287, 288, 289, 290, 291, 292, 293, 294, 295, 296, 297, 298, 299, 300, 301, 302, 303, 304, 305, 306, 307, 308, 309, 310, 311, 312, 313, 314, 315, 316, 317, 318, 319, 320, 321, 322, 323, 324, 325, 326, 327, 328, 329, 330, 331, 332, 333, 334, 335, 336, 337, 338, 339, 340, 341, 342, 343, 344, 345, 346, 347, 348, 349, 350, 351, 352, 353, 354, 355, 356, 357, 358, 359, 360, 361, 362, 363, 364, 365, 366, 367, 368, 369, 370, 371, 372, 373, 374, 375, 376, 377, 378, 379, 380, 381, 382, 383, 384, 385, 386, 387, 388, 389, 390, 391, 392, 393, 394, 395, 396, 397, 398, 399, 400, 401, 402, 403, 404, 405, 406, 407, 408, 409, 410, 411, 412, 413, 414, 415, 416, 417, 418, 419, 420, 421, 422, 423, 424, 425, 426, 427, 428, 429, 430, 431, 432, 433, 434, 435, 436, 437, 438, 439, 440, 441, 442, 443, 444, 445, 446, 447, 448, 449, 450, 451, 452, 453, 454, 455, 456, 457, 458, 459, 460, 461, 462, 463, 464, 465, 466, 467, 468, 469, 470, 471, 472, 473, 474, 475, 476, 477, 478, 479, 480, 481, 482, 483, 484, 485, 486, 487, 488, 489, 490, 491, 492, 493, 494, 495, 496, 497, 498, 499, 500, 501, 502, 503, 504, 505, 506, 507, 508, 509, 510, 511, 512, 513, 514, 515, 516, 517, 518, 519, 520, 521, 522, 523, 524, 530, 531, 532, 533, 534, 535, 536, 537, 538, 539, 540, 541, 542, 543, 544, 545, 546, 547, 548, 549, 550, 551, 552, 553, 554, 555, 556, 557, 558, 559, 560, 561, 562, 563, 564, 565, 566, 567, 568, 569, 570, 571, 572, 573, 574] (by decide +kernel) (by decide +kernel)
set_option maxRecDepth 20000 in
theorem gX10_withdraw_X0_enact : GoodIn wsX10_withdraw (wsV RX10 32 RX0 yX0_enact wsX0_enact) := goodIn_app (goodIn_of _ (by decide +kernel)) ggX10_withdraw_X0_enact
theorem dX10_withdraw_0 : decode cX10_withdraw 0 = .ok (.aload_n 0, 1) := by decide +kernel
theorem dX10_withdraw_1 : decode cX10_withdraw 1 = .ok (.getfield 10, 3) := by decide +kernel
theorem dX10_withdraw_4 : decode cX10_withdraw 4 = .ok (.bipush 18, 2) := by decide +kernel
theorem dX10_withdraw_6 : decode cX10_withdraw 6 = .ok (.iload_n 1, 1) := by decide +kernel
theorem dX10_withdraw_7 : decode cX10_withdraw 7 = .ok (.iconst 0, 1) := by decide +kernel
theorem dX10_withdraw_8 : decode cX10_withdraw 8 = .ok (.iconst 0, 1) := by decide +kernel
theorem dX10_withdraw_9 : decode cX10_withdraw 9 = .ok (.iconst 0, 1) := by decide +kernel
theorem dX10_withdraw_10 : decode cX10_withdraw 10 = .ok (.invokevirtual 32, 3) := by decide +kernel
theorem dX10_withdraw_13 : decode cX10_withdraw 13 = .ok (.ireturn, 1) := by decide +kernel
set_option maxRecDepth 20000 in
theorem ggX10_rule_X0_enact : GoodIn wsX10_rule wsX0_enact := goodIn_r _ [6, 7, 8, 9, 10, 11, 12, 13, 14, 15, 16, 17, 18, 19, 20, 21, 22, 23, 24, 25, 26, 27, 28, 29, 30, 31, 32, 33, 34, 35, 36, 37, 38, 39, 40, 41, 42, 43, 44, 45, 46, 47, 48, 49, 50, 51, 52, 53, 54, 55, 56, 57, 58, 59, 60, 61, 62, 63, 64, 65, 66, 67, 68, 69, 70, 71, 72, 73, 74, 75, 76, 77, 78, 79, 80, 81, 82, 83, 84, 85, 86, 87, 88, 89, 90, 91, 92, 93, 94, 95, 96, 97, 98, 99, 100, 101, 102, 103, 104, 105, 106, 107, 5, 108, 109, 110, 111, 112, 113, 114, 115, 116, 117, 118, 119, 120, 121, 122, 123, 124, 125, 126, 127, 128, 129, 130, 131, 132, 133, 134, 135, 136, 137, 138, 139, 140, 141, 142, 143, 144, 145, 146, 147, 148, 149, 150, 151, 152, 153, 154, 155, 156, 157, 158, 159, 160, 161, 162, 163, 164, 165, 166, 167, 168, 169, 170, 171, 172, 173, 174, 175, 176, 177, 178, 179, 180, 181, 182, 183, 184, 185, 186, 187, 188, 189, 190, 191, 192, 193, 194, 195, 196, 197, 198, 199, 200, 201, 202, 203, 204, 205, 206, 207, 208, 209, 210, 211, 212, 213, 214, 215, 216, 217, 218, 219, 220, 221, 222, 223, 224, 225, 226, 227, 228, 229, 230, 231, 232, 233, 234, 235, 236, 237, 238, 239, 240, 241, 242, 243, 244, 245, 246, 247, 248, 249, 250, 251, 252, 253, 254, 255, 256, 257, 258, 259, 260, 261, 262, 263, 264, 265, 266, 267, 268, 269, 270, 271, 272, 273, 274, 275, 276, 277, 278, 279, 280, 281, 282, 283, 284, 285, 286, 287, 288, 289, 290, 291, 292, 293, 294, 295, 296, 297, 298, 299, 300, 301, 302, 303, 304, 305, 306, 307, 308, 309, 310, 311, 312, 313, 314, 315, 316, 317, 318, 319, 320, 321, 322, 323, 324, 325, 326, 327, 328, 329, 330, 331, 332, 333, 334, 335, 336, 337, 338, 339, 340, 341, 342, 343, 344, 345, 346, 347, 348, 349, 350, 351, 352, 353, 354, 355, 356, 357, 358, 359, 360, 361, 362, 363, 364, 365, 366, 367, 368, 369, 370, 371, 372, 373, 374, 375, 376, 377, 378, 379, 380, 381, 382, 383, 384, 385, 386, 387, 388, 389, 390, 391, 392, 393, 394, 395, 396, 397, 398, 399, 400, 401, 402, 403, 404, 405, 406, 407, 408, 409, 410, 411, 412, 413, 414, 415, 416, 417, 418, 419, 420, 421, 422, 423, 424, 425, 426, 427, 428, 429, 430, 431, 432, 433, 434, 435, 436, 437, 438, 439, 440, 441, 442, 443, 444, 445, 446, 447, 448, 449, 450, 451, 452, 453, 454, 455, 456, 457, 458, 459, 460, 461, 462, 463, 464, 465, 466, 467, 468, 469, 470, 471, 472, 473, 474, 475, 476, 477, 478, 479, 480, 481, 482, 483, 484, 485, 486, 487, 488, 489, 490, 491, 492, 493, 494, 495, 496, 497, 498, 499, 500, 501, 502, 503, 504, 505, 506, 507, 508, 509, 510, 511, 512, 513, 514, 515, 516, 517, 518, 519, 520, 521, 522, 523, 524, 530, 531, 532, 533, 534, 535, 536, 537, 538, 539, 540, 541, 542, 543, 544, 545, 546, 547, 548, 549, 550, 551, 552, 553, 554, 555, 556, 557, 558, 559, 560, 561, 562, 563, 564, 565, 566, 567, 568, 569, 570, 571, 572, 573, 574] (by decide +kernel) (by decide +kernel)
set_option maxRecDepth 20000 in
theorem gX10_rule_X0_enact : GoodIn wsX10_rule (wsV RX10 32 RX0 yX0_enact wsX0_enact) := goodIn_app (goodIn_of _ (by decide +kernel)) ggX10_rule_X0_enact
theorem dX10_rule_0 : decode cX10_rule 0 = .ok (.aload_n 0, 1) := by decide +kernel
theorem dX10_rule_1 : decode cX10_rule 1 = .ok (.getfield 10, 3) := by decide +kernel
theorem dX10_rule_4 : decode cX10_rule 4 = .ok (.bipush 19, 2) := by decide +kernel
theorem dX10_rule_6 : decode cX10_rule 6 = .ok (.iconst 0, 1) := by decide +kernel
theorem dX10_rule_7 : decode cX10_rule 7 = .ok (.iconst 0, 1) := by decide +kernel
theorem dX10_rule_8 : decode cX10_rule 8 = .ok (.iconst 0, 1) := by decide +kernel
theorem dX10_rule_9 : decode cX10_rule 9 = .ok (.iconst 0, 1) := by decide +kernel
theorem dX10_rule_10 : decode cX10_rule 10 = .ok (.invokevirtual 32, 3) := by decide +kernel
theorem dX10_rule_13 : decode cX10_rule 13 = .ok (.ireturn, 1) := by decide +kernel
set_option maxRecDepth 20000 in
theorem ggX10_appeal_X0_enact : GoodIn wsX10_appeal wsX0_enact := goodIn_r _ [6, 7, 8, 9, 10, 11, 12, 13, 14, 15, 16, 17, 18, 19, 20, 21, 22, 23, 24, 25, 26, 27, 28, 29, 30, 31, 32, 33, 34, 35, 36, 37, 38, 39, 40, 41, 42, 43, 44, 45, 46, 47, 48, 49, 50, 51, 52, 53, 54, 55, 56, 57, 58, 59, 60, 61, 62, 63, 64, 65, 66, 67, 68, 69, 70, 71, 72, 73, 74, 75, 76, 77, 78, 79, 80, 81, 82, 83, 84, 85, 86, 87, 88, 89, 90, 91, 92, 93, 94, 95, 96, 97, 98, 99, 100, 101, 102, 103, 104, 105, 106, 107, 5, 108, 109, 110, 111, 112, 113, 114, 115, 116, 117, 118, 119, 120, 121, 122, 123, 124, 125, 126, 127, 128, 129, 130, 131, 132, 133, 134, 135, 136, 137, 138, 139, 140, 141, 142, 143, 144, 145, 146, 147, 148, 149, 150, 151, 152, 153, 154, 155, 156, 157, 158, 159, 160, 161, 162, 163, 164, 165, 166, 167, 168, 169, 170, 171, 172, 173, 174, 175, 176, 177, 178, 179, 180, 181, 182, 183, 184, 185, 186, 187, 188, 189, 190, 191, 192, 193, 194, 195, 196, 197, 198, 199, 200, 201, 202, 203, 204, 205, 206, 207, 208, 209, 210, 211, 212, 213, 214, 215, 216, 217, 218, 219, 220, 221, 222, 223, 224, 225, 226, 227, 228, 229, 230, 231, 232, 233, 234, 235, 236, 237, 238, 239, 240, 241, 242, 243, 244, 245, 246, 247, 248, 249, 250, 251, 252, 253, 254, 255, 256, 257, 258, 259, 260, 261, 262, 263, 264, 265, 266, 267, 268, 269, 270, 271, 272, 273, 274, 275, 276, 277, 278, 279, 280, 281, 282, 283, 284, 285, 286, 287, 288, 289, 290, 291, 292, 293, 294, 295, 296, 297, 298, 299, 300, 301, 302, 303, 304, 305, 306, 307, 308, 309, 310, 311, 312, 313, 314, 315, 316, 317, 318, 319, 320, 321, 322, 323, 324, 325, 326, 327, 328, 329, 330, 331, 332, 333, 334, 335, 336, 337, 338, 339, 340, 341, 342, 343, 344, 345, 346, 347, 348, 349, 350, 351, 352, 353, 354, 355, 356, 357, 358, 359, 360, 361, 362, 363, 364, 365, 366, 367, 368, 369, 370, 371, 372, 373, 374, 375, 376, 377, 378, 379, 380, 381, 382, 383, 384, 385, 386, 387, 388, 389, 390, 391, 392, 393, 394, 395, 396, 397, 398, 399, 400, 401, 402, 403, 404, 405, 406, 407, 408, 409, 410, 411, 412, 413, 414, 415, 416, 417, 418, 419, 420, 421, 422, 423, 424, 425, 426, 427, 428, 429, 430, 431, 432, 433, 434, 435, 436, 437, 438, 439, 440, 441, 442, 443, 444, 445, 446, 447, 448, 449, 450, 451, 452, 453, 454, 455, 456, 457, 458, 459, 460, 461, 462, 463, 464, 465, 466, 467, 468, 469, 470, 471, 472, 473, 474, 475, 476, 477, 478, 479, 480, 481, 482, 483, 484, 485, 486, 487, 488, 489, 490, 491, 492, 493, 494, 495, 496, 497, 498, 499, 500, 501, 502, 503, 504, 505, 506, 507, 508, 509, 510, 511, 512, 513, 514, 515, 516, 517, 518, 519, 520, 521, 522, 523, 524, 530, 531, 532, 533, 534, 535, 536, 537, 538, 539, 540, 541, 542, 543, 544, 545, 546, 547, 548, 549, 550, 551, 552, 553, 554, 555, 556, 557, 558, 559, 560, 561, 562, 563, 564, 565, 566, 567, 568, 569, 570, 571, 572, 573, 574] (by decide +kernel) (by decide +kernel)
set_option maxRecDepth 20000 in
theorem gX10_appeal_X0_enact : GoodIn wsX10_appeal (wsV RX10 32 RX0 yX0_enact wsX0_enact) := goodIn_app (goodIn_of _ (by decide +kernel)) ggX10_appeal_X0_enact
theorem dX10_appeal_0 : decode cX10_appeal 0 = .ok (.aload_n 0, 1) := by decide +kernel
theorem dX10_appeal_1 : decode cX10_appeal 1 = .ok (.getfield 10, 3) := by decide +kernel
theorem dX10_appeal_4 : decode cX10_appeal 4 = .ok (.bipush 20, 2) := by decide +kernel
theorem dX10_appeal_6 : decode cX10_appeal 6 = .ok (.iload_n 1, 1) := by decide +kernel
theorem dX10_appeal_7 : decode cX10_appeal 7 = .ok (.iconst 0, 1) := by decide +kernel
theorem dX10_appeal_8 : decode cX10_appeal 8 = .ok (.iconst 0, 1) := by decide +kernel
theorem dX10_appeal_9 : decode cX10_appeal 9 = .ok (.iconst 0, 1) := by decide +kernel
theorem dX10_appeal_10 : decode cX10_appeal 10 = .ok (.invokevirtual 32, 3) := by decide +kernel
theorem dX10_appeal_13 : decode cX10_appeal 13 = .ok (.ireturn, 1) := by decide +kernel
set_option maxRecDepth 20000 in
theorem ggX10_told_X0_enact : GoodIn wsX10_told wsX0_enact := goodIn_r _ [6, 7, 8, 9, 10, 11, 12, 13, 14, 15, 16, 17, 18, 19, 20, 21, 22, 23, 24, 25, 26, 27, 28, 29, 30, 31, 32, 33, 34, 35, 36, 37, 38, 39, 40, 41, 42, 43, 44, 45, 46, 47, 48, 49, 50, 51, 52, 53, 54, 55, 56, 57, 58, 59, 60, 61, 62, 63, 64, 65, 66, 67, 68, 69, 70, 71, 72, 73, 74, 75, 76, 77, 78, 79, 80, 81, 82, 83, 84, 85, 86, 87, 88, 89, 90, 91, 92, 93, 94, 95, 96, 97, 98, 99, 100, 101, 102, 103, 104, 105, 106, 107, 5, 108, 109, 110, 111, 112, 113, 114, 115, 116, 117, 118, 119, 120, 121, 122, 123, 124, 125, 126, 127, 128, 129, 130, 131, 132, 133, 134, 135, 136, 137, 138, 139, 140, 141, 142, 143, 144, 145, 146, 147, 148, 149, 150, 151, 152, 153, 154, 155, 156, 157, 158, 159, 160, 161, 162, 163, 164, 165, 166, 167, 168, 169, 170, 171, 172, 173, 174, 175, 176, 177, 178, 179, 180, 181, 182, 183, 184, 185, 186, 187, 188, 189, 190, 191, 192, 193, 194, 195, 196, 197, 198, 199, 200, 201, 202, 203, 204, 205, 206, 207, 208, 209, 210, 211, 212, 213, 214, 215, 216, 217, 218, 219, 220, 221, 222, 223, 224, 225, 226, 227, 228, 229, 230, 231, 232, 233, 234, 235, 236, 237, 238, 239, 240, 241, 242, 243, 244, 245, 246, 247, 248, 249, 250, 251, 252, 253, 254, 255, 256, 257, 258, 259, 260, 261, 262, 263, 264, 265, 266, 267, 268, 269, 270, 271, 272, 273, 274, 275, 276, 277, 278, 279, 280, 281, 282, 283, 284, 285, 286, 287, 288, 289, 290, 291, 292, 293, 294, 295, 296, 297, 298, 299, 300, 301, 302, 303, 304, 305, 306, 307, 308, 309, 310, 311, 312, 313, 314, 315, 316, 317, 318, 319, 320, 321, 322, 323, 324, 325, 326, 327, 328, 329, 330, 331, 332, 333, 334, 335, 336, 337, 338, 339, 340, 341, 342, 343, 344, 345, 346, 347, 348, 349, 350, 351, 352, 353, 354, 355, 356, 357, 358, 359, 360, 361, 362, 363, 364, 365, 366, 367, 368, 369, 370, 371, 372, 373, 374, 375, 376, 377, 378, 379, 380, 381, 382, 383, 384, 385, 386, 387, 388, 389, 390, 391, 392, 393, 394, 395, 396, 397, 398, 399, 400, 401, 402, 403, 404, 405, 406, 407, 408, 409, 410, 411, 412, 413, 414, 415, 416, 417, 418, 419, 420, 421, 422, 423, 424, 425, 426, 427, 428, 429, 430, 431, 432, 433, 434, 435, 436, 437, 438, 439, 440, 441, 442, 443, 444, 445, 446, 447, 448, 449, 450, 451, 452, 453, 454, 455, 456, 457, 458, 459, 460, 461, 462, 463, 464, 465, 466, 467, 468, 469, 470, 471, 472, 473, 474, 475, 476, 477, 478, 479, 480, 481, 482, 483, 484, 485, 486, 487, 488, 489, 490, 491, 492, 493, 494, 495, 496, 497, 498, 499, 500, 501, 502, 503, 504, 505, 506, 507, 508, 509, 510, 511, 512, 513, 514, 515, 516, 517, 518, 519, 520, 521, 522, 523, 524, 530, 531, 532, 533, 534, 535, 536, 537, 538, 539, 540, 541, 542, 543, 544, 545, 546, 547, 548, 549, 550, 551, 552, 553, 554, 555, 556, 557, 558, 559, 560, 561, 562, 563, 564, 565, 566, 567, 568, 569, 570, 571, 572, 573, 574] (by decide +kernel) (by decide +kernel)
set_option maxRecDepth 20000 in
theorem gX10_told_X0_enact : GoodIn wsX10_told (wsV RX10 32 RX0 yX0_enact wsX0_enact) := goodIn_app (goodIn_of _ (by decide +kernel)) ggX10_told_X0_enact
theorem dX10_told_0 : decode cX10_told 0 = .ok (.aload_n 0, 1) := by decide +kernel
theorem dX10_told_1 : decode cX10_told 1 = .ok (.getfield 10, 3) := by decide +kernel
theorem dX10_told_4 : decode cX10_told 4 = .ok (.bipush 21, 2) := by decide +kernel
theorem dX10_told_6 : decode cX10_told 6 = .ok (.iconst 0, 1) := by decide +kernel
theorem dX10_told_7 : decode cX10_told 7 = .ok (.iconst 0, 1) := by decide +kernel
theorem dX10_told_8 : decode cX10_told 8 = .ok (.iconst 0, 1) := by decide +kernel
theorem dX10_told_9 : decode cX10_told 9 = .ok (.iconst 0, 1) := by decide +kernel
theorem dX10_told_10 : decode cX10_told 10 = .ok (.invokevirtual 32, 3) := by decide +kernel
theorem dX10_told_13 : decode cX10_told 13 = .ok (.ireturn, 1) := by decide +kernel
set_option maxRecDepth 20000 in
theorem ggX10_adjourn_X0_enact : GoodIn wsX10_adjourn wsX0_enact := goodIn_r _ [6, 7, 8, 9, 10, 11, 12, 13, 14, 15, 16, 17, 18, 19, 20, 21, 22, 23, 24, 25, 26, 27, 28, 29, 30, 31, 32, 33, 34, 35, 36, 37, 38, 39, 40, 41, 42, 43, 44, 45, 46, 47, 48, 49, 50, 51, 52, 53, 54, 55, 56, 57, 58, 59, 60, 61, 62, 63, 64, 65, 66, 67, 68, 69, 70, 71, 72, 73, 74, 75, 76, 77, 78, 79, 80, 81, 82, 83, 84, 85, 86, 87, 88, 89, 90, 91, 92, 93, 94, 95, 96, 97, 98, 99, 100, 101, 102, 103, 104, 105, 106, 107, 5, 108, 109, 110, 111, 112, 113, 114, 115, 116, 117, 118, 119, 120, 121, 122, 123, 124, 125, 126, 127, 128, 129, 130, 131, 132, 133, 134, 135, 136, 137, 138, 139, 140, 141, 142, 143, 144, 145, 146, 147, 148, 149, 150, 151, 152, 153, 154, 155, 156, 157, 158, 159, 160, 161, 162, 163, 164, 165, 166, 167, 168, 169, 170, 171, 172, 173, 174, 175, 176, 177, 178, 179, 180, 181, 182, 183, 184, 185, 186, 187, 188, 189, 190, 191, 192, 193, 194, 195, 196, 197, 198, 199, 200, 201, 202, 203, 204, 205, 206, 207, 208, 209, 210, 211, 212, 213, 214, 215, 216, 217, 218, 219, 220, 221, 222, 223, 224, 225, 226, 227, 228, 229, 230, 231, 232, 233, 234, 235, 236, 237, 238, 239, 240, 241, 242, 243, 244, 245, 246, 247, 248, 249, 250, 251, 252, 253, 254, 255, 256, 257, 258, 259, 260, 261, 262, 263, 264, 265, 266, 267, 268, 269, 270, 271, 272, 273, 274, 275, 276, 277, 278, 279, 280, 281, 282, 283, 284, 285, 286, 287, 288, 289, 290, 291, 292, 293, 294, 295, 296, 297, 298, 299, 300, 301, 302, 303, 304, 305, 306, 307, 308, 309, 310, 311, 312, 313, 314, 315, 316, 317, 318, 319, 320, 321, 322, 323, 324, 325, 326, 327, 328, 329, 330, 331, 332, 333, 334, 335, 336, 337, 338, 339, 340, 341, 342, 343, 344, 345, 346, 347, 348, 349, 350, 351, 352, 353, 354, 355, 356, 357, 358, 359, 360, 361, 362, 363, 364, 365, 366, 367, 368, 369, 370, 371, 372, 373, 374, 375, 376, 377, 378, 379, 380, 381, 382, 383, 384, 385, 386, 387, 388, 389, 390, 391, 392, 393, 394, 395, 396, 397, 398, 399, 400, 401, 402, 403, 404, 405, 406, 407, 408, 409, 410, 411, 412, 413, 414, 415, 416, 417, 418, 419, 420, 421, 422, 423, 424, 425, 426, 427, 428, 429, 430, 431, 432, 433, 434, 435, 436, 437, 438, 439, 440, 441, 442, 443, 444, 445, 446, 447, 448, 449, 450, 451, 452, 453, 454, 455, 456, 457, 458, 459, 460, 461, 462, 463, 464, 465, 466, 467, 468, 469, 470, 471, 472, 473, 474, 475, 476, 477, 478, 479, 480, 481, 482, 483, 484, 485, 486, 487, 488, 489, 490, 491, 492, 493, 494, 495, 496, 497, 498, 499, 500, 501, 502, 503, 504, 505, 506, 507, 508, 509, 510, 511, 512, 513, 514, 515, 516, 517, 518, 519, 520, 521, 522, 523, 524, 530, 531, 532, 533, 534, 535, 536, 537, 538, 539, 540, 541, 542, 543, 544, 545, 546, 547, 548, 549, 550, 551, 552, 553, 554, 555, 556, 557, 558, 559, 560, 561, 562, 563, 564, 565, 566, 567, 568, 569, 570, 571, 572, 573, 574] (by decide +kernel) (by decide +kernel)
set_option maxRecDepth 20000 in
theorem gX10_adjourn_X0_enact : GoodIn wsX10_adjourn (wsV RX10 32 RX0 yX0_enact wsX0_enact) := goodIn_app (goodIn_of _ (by decide +kernel)) ggX10_adjourn_X0_enact
theorem dX10_adjourn_0 : decode cX10_adjourn 0 = .ok (.aload_n 0, 1) := by decide +kernel
theorem dX10_adjourn_1 : decode cX10_adjourn 1 = .ok (.getfield 10, 3) := by decide +kernel
theorem dX10_adjourn_4 : decode cX10_adjourn 4 = .ok (.bipush 22, 2) := by decide +kernel
theorem dX10_adjourn_6 : decode cX10_adjourn 6 = .ok (.iconst 0, 1) := by decide +kernel
theorem dX10_adjourn_7 : decode cX10_adjourn 7 = .ok (.iconst 0, 1) := by decide +kernel
theorem dX10_adjourn_8 : decode cX10_adjourn 8 = .ok (.iconst 0, 1) := by decide +kernel
theorem dX10_adjourn_9 : decode cX10_adjourn 9 = .ok (.iconst 0, 1) := by decide +kernel
theorem dX10_adjourn_10 : decode cX10_adjourn 10 = .ok (.invokevirtual 32, 3) := by decide +kernel
theorem dX10_adjourn_13 : decode cX10_adjourn 13 = .ok (.ireturn, 1) := by decide +kernel
set_option maxRecDepth 20000 in
theorem ggX10_order_X8_against : GoodIn wsX10_order wsX8_against := goodIn_r _ [6, 7, 8, 9, 5, 10, 11, 12, 13, 14, 15, 16, 17, 18, 19, 20, 21, 22, 23, 24, 25, 26, 27, 28, 29, 30, 31, 32, 33, 34, 35, 36, 37, 38, 39, 40, 41, 42, 43, 44, 45, 46, 47, 48, 49, 50, 51, 52, 53, 54, 55, 56, 57, 58, 59, 60, 61, 62, 63, 64, 65, 66, 67, 68, 69, 70, 71, 72, 73, 74, 75, 76, 77, 78, 79, 80, 81, 82, 83, 84, 85, 86, 87, 88, 89, 90, 91, 92, 93, 94, 95, 96, 97, 98, 99, 100, 101, 102, 103, 104, 105, 106, 107, 108, 109, 110, 111, 112, 113, 114, 115, 116, 117, 118, 119, 120, 121, 122, 123, 124, 125, 126, 127, 128, 129, 130, 131, 132, 133, 134, 135, 136, 137, 138, 139, 140, 141, 142, 143, 144, 145, 146, 147, 148, 149, 150, 151, 152, 153, 154, 155, 156, 157, 158, 159, 160, 161, 162, 163, 164, 165, 166, 167, 168, 169, 170, 171, 172, 173, 174, 175, 176, 177, 178, 179, 180, 181, 182, 183, 184, 185, 186, 187, 188, 189, 190, 191, 192, 193, 194, 200, 201, 202, 203, 204, 205, 206, 207, 208, 209, 210, 211, 212, 213, 214, 215, 216, 217, 218, 219, 220, 221, 222, 223, 224, 225, 226, 227, 228, 229, 230, 231, 232, 233, 234, 235, 236, 237, 238, 239, 240, 241, 242, 243, 244] (by decide +kernel) (by decide +kernel)
set_option maxRecDepth 20000 in
theorem gX10_order_X8_against : GoodIn wsX10_order (va_wsS RX10 36 yX8_against wsX8_against) := goodIn_app (goodIn_of _ (by decide +kernel)) ggX10_order_X8_against
theorem dX10_order_0 : decode cX10_order 0 = .ok (.aload_n 0, 1) := by decide +kernel
theorem dX10_order_1 : decode cX10_order 1 = .ok (.getfield 10, 3) := by decide +kernel
theorem dX10_order_4 : decode cX10_order 4 = .ok (.aload_n 0, 1) := by decide +kernel
theorem dX10_order_5 : decode cX10_order 5 = .ok (.getfield 10, 3) := by decide +kernel
theorem dX10_order_8 : decode cX10_order 8 = .ok (.bipush 15, 2) := by decide +kernel
theorem dX10_order_10 : decode cX10_order 10 = .ok (.iload_n 1, 1) := by decide +kernel
theorem dX10_order_11 : decode cX10_order 11 = .ok (.iconst 0, 1) := by decide +kernel
theorem dX10_order_12 : decode cX10_order 12 = .ok (.iconst 0, 1) := by decide +kernel
theorem dX10_order_13 : decode cX10_order 13 = .ok (.iconst 0, 1) := by decide +kernel
theorem dX10_order_14 : decode cX10_order 14 = .ok (.invokestatic 36, 3) := by decide +kernel
theorem dX10_order_17 : decode cX10_order 17 = .ok (.putfield 42, 3) := by decide +kernel
theorem dX10_order_20 : decode cX10_order 20 = .ok (.aload_n 0, 1) := by decide +kernel
theorem dX10_order_21 : decode cX10_order 21 = .ok (.getfield 10, 3) := by decide +kernel
theorem dX10_order_24 : decode cX10_order 24 = .ok (.getfield 42, 3) := by decide +kernel
theorem dX10_order_27 : decode cX10_order 27 = .ok (.ifCond .ne 7, 3) := by decide +kernel
theorem dX10_order_30 : decode cX10_order 30 = .ok (.iconst 1, 1) := by decide +kernel
theorem dX10_order_31 : decode cX10_order 31 = .ok (.goto 4, 3) := by decide +kernel
theorem dX10_order_34 : decode cX10_order 34 = .ok (.iconst 0, 1) := by decide +kernel
theorem dX10_order_35 : decode cX10_order 35 = .ok (.ireturn, 1) := by decide +kernel
theorem dX10_why_0 : decode cX10_why 0 = .ok (.aload_n 0, 1) := by decide +kernel
theorem dX10_why_1 : decode cX10_why 1 = .ok (.getfield 10, 3) := by decide +kernel
theorem dX10_why_4 : decode cX10_why 4 = .ok (.getfield 42, 3) := by decide +kernel
theorem dX10_why_7 : decode cX10_why 7 = .ok (.ireturn, 1) := by decide +kernel
set_option maxRecDepth 20000 in
theorem ggX10_pending_X5_at : GoodIn wsX10_pending wsX5_at := goodIn_r _ [7, 8, 9, 42, 43] (by decide +kernel) (by decide +kernel)
set_option maxRecDepth 20000 in
theorem gX10_pending_X5_at : GoodIn wsX10_pending (wsV RX10 50 RX5 yX5_at wsX5_at) := goodIn_app (goodIn_of _ (by decide +kernel)) ggX10_pending_X5_at
set_option maxRecDepth 20000 in
theorem ggX10_pending_X4_fact : GoodIn wsX10_pending wsX4_fact := goodIn_r _ [14, 15, 16, 17, 18, 19, 20, 21, 22, 23, 24, 25, 44, 45, 46, 47, 48, 49, 50, 51, 52, 53, 54, 55, 56, 57, 58, 59, 60, 61] (by decide +kernel) (by decide +kernel)
set_option maxRecDepth 20000 in
theorem gX10_pending_X4_fact : GoodIn wsX10_pending (wsV RX10 56 RX4 yX4_fact wsX4_fact) := goodIn_app (goodIn_of _ (by decide +kernel)) ggX10_pending_X4_fact
theorem dX10_pending_0 : decode cX10_pending 0 = .ok (.aload_n 0, 1) := by decide +kernel
theorem dX10_pending_1 : decode cX10_pending 1 = .ok (.getfield 10, 3) := by decide +kernel
theorem dX10_pending_4 : decode cX10_pending 4 = .ok (.getfield 46, 3) := by decide +kernel
theorem dX10_pending_7 : decode cX10_pending 7 = .ok (.iload_n 1, 1) := by decide +kernel
theorem dX10_pending_8 : decode cX10_pending 8 = .ok (.invokevirtual 50, 3) := by decide +kernel
theorem dX10_pending_11 : decode cX10_pending 11 = .ok (.astore_n 3, 1) := by decide +kernel
theorem dX10_pending_12 : decode cX10_pending 12 = .ok (.aload_n 3, 1) := by decide +kernel
theorem dX10_pending_13 : decode cX10_pending 13 = .ok (.ifnonnull 7, 3) := by decide +kernel
theorem dX10_pending_16 : decode cX10_pending 16 = .ok (.iconst (-1), 1) := by decide +kernel
theorem dX10_pending_17 : decode cX10_pending 17 = .ok (.goto 8, 3) := by decide +kernel
theorem dX10_pending_20 : decode cX10_pending 20 = .ok (.aload_n 3, 1) := by decide +kernel
theorem dX10_pending_21 : decode cX10_pending 21 = .ok (.iload_n 2, 1) := by decide +kernel
theorem dX10_pending_22 : decode cX10_pending 22 = .ok (.invokevirtual 56, 3) := by decide +kernel
theorem dX10_pending_25 : decode cX10_pending 25 = .ok (.ireturn, 1) := by decide +kernel
set_option maxRecDepth 20000 in
theorem ggX10_text_X0_wordOf : GoodIn wsX10_text wsX0_wordOf := goodIn_r _ [6, 7, 8, 9, 10, 11, 12, 13, 14, 15, 16, 17, 18, 19, 20, 21, 22, 23, 24, 25, 26, 27, 28, 29, 30, 31, 32, 38, 39, 40, 41, 42, 43, 44, 45, 46, 47, 48, 49, 50, 51, 52, 53, 54, 55, 56, 57, 58, 59, 60, 61, 62, 63, 64, 65, 66, 67, 68, 69, 70] (by decide +kernel) (by decide +kernel)
set_option maxRecDepth 20000 in
theorem gX10_text_X0_wordOf : GoodIn wsX10_text (wsV RX10 62 RX0 yX0_wordOf wsX0_wordOf) := goodIn_app (goodIn_of _ (by decide +kernel)) ggX10_text_X0_wordOf
theorem dX10_text_0 : decode cX10_text 0 = .ok (.aload_n 0, 1) := by decide +kernel
theorem dX10_text_1 : decode cX10_text 1 = .ok (.getfield 10, 3) := by decide +kernel
theorem dX10_text_4 : decode cX10_text 4 = .ok (.iload_n 1, 1) := by decide +kernel
theorem dX10_text_5 : decode cX10_text 5 = .ok (.iload_n 2, 1) := by decide +kernel
theorem dX10_text_6 : decode cX10_text 6 = .ok (.invokevirtual 62, 3) := by decide +kernel
theorem dX10_text_9 : decode cX10_text 9 = .ok (.ireturn, 1) := by decide +kernel
set_option maxRecDepth 20000 in
theorem ggX10_ballot_X5_top : GoodIn wsX10_ballot wsX5_top := goodIn_r _ [7, 8, 9, 10, 11, 6, 12, 13, 36, 37] (by decide +kernel) (by decide +kernel)
set_option maxRecDepth 20000 in
theorem gX10_ballot_X5_top : GoodIn wsX10_ballot (wsV RX10 66 RX5 yX5_top wsX5_top) := goodIn_app (goodIn_of _ (by decide +kernel)) ggX10_ballot_X5_top
set_option maxRecDepth 20000 in
theorem ggX10_ballot_X4_voteOf : GoodIn wsX10_ballot wsX4_voteOf := goodIn_r _ [18, 19, 38, 39, 40, 41, 42, 43, 44, 45, 46, 47, 48, 49, 50, 51, 52, 53] (by decide +kernel) (by decide +kernel)
set_option maxRecDepth 20000 in
theorem gX10_ballot_X4_voteOf : GoodIn wsX10_ballot (wsV RX10 70 RX4 yX4_voteOf wsX4_voteOf) := goodIn_app (goodIn_of _ (by decide +kernel)) ggX10_ballot_X4_voteOf
theorem dX10_ballot_0 : decode cX10_ballot 0 = .ok (.aload_n 0, 1) := by decide +kernel
theorem dX10_ballot_1 : decode cX10_ballot 1 = .ok (.getfield 10, 3) := by decide +kernel
theorem dX10_ballot_4 : decode cX10_ballot 4 = .ok (.getfield 46, 3) := by decide +kernel
theorem dX10_ballot_7 : decode cX10_ballot 7 = .ok (.invokevirtual 66, 3) := by decide +kernel
theorem dX10_ballot_10 : decode cX10_ballot 10 = .ok (.astore_n 2, 1) := by decide +kernel
theorem dX10_ballot_11 : decode cX10_ballot 11 = .ok (.aload_n 2, 1) := by decide +kernel
theorem dX10_ballot_12 : decode cX10_ballot 12 = .ok (.ifnonnull 7, 3) := by decide +kernel
theorem dX10_ballot_15 : decode cX10_ballot 15 = .ok (.iconst (-1), 1) := by decide +kernel
theorem dX10_ballot_16 : decode cX10_ballot 16 = .ok (.goto 8, 3) := by decide +kernel
theorem dX10_ballot_19 : decode cX10_ballot 19 = .ok (.aload_n 2, 1) := by decide +kernel
theorem dX10_ballot_20 : decode cX10_ballot 20 = .ok (.iload_n 1, 1) := by decide +kernel
theorem dX10_ballot_21 : decode cX10_ballot 21 = .ok (.invokevirtual 70, 3) := by decide +kernel
theorem dX10_ballot_24 : decode cX10_ballot 24 = .ok (.ireturn, 1) := by decide +kernel
set_option maxRecDepth 20000 in
theorem ggX10_desk_X0_placeAt : GoodIn wsX10_desk wsX0_placeAt := goodIn_r _ [6, 7, 42, 43, 44, 45, 46, 47, 48, 49, 50, 51, 52] (by decide +kernel) (by decide +kernel)
set_option maxRecDepth 20000 in
theorem gX10_desk_X0_placeAt : GoodIn wsX10_desk (wsV RX10 73 RX0 yX0_placeAt wsX0_placeAt) := goodIn_app (goodIn_of _ (by decide +kernel)) ggX10_desk_X0_placeAt
set_option maxRecDepth 20000 in
theorem ggX10_desk_X6_fact : GoodIn wsX10_desk wsX6_fact := goodIn_r _ [12, 13, 14, 15, 16, 17, 18, 19, 20, 21, 22, 23, 24, 25, 26, 27, 28, 29, 30, 11, 31, 32, 33, 34, 35, 36, 53, 54, 55, 56, 57, 58, 59, 60, 61, 62, 63, 64, 65, 66, 67, 68, 69, 70, 71, 72, 73, 74] (by decide +kernel) (by decide +kernel)
set_option maxRecDepth 20000 in
theorem gX10_desk_X6_fact : GoodIn wsX10_desk (wsV RX10 77 RX6 yX6_fact wsX6_fact) := goodIn_app (goodIn_of _ (by decide +kernel)) ggX10_desk_X6_fact
theorem dX10_desk_0 : decode cX10_desk 0 = .ok (.aload_n 0, 1) := by decide +kernel
theorem dX10_desk_1 : decode cX10_desk 1 = .ok (.getfield 10, 3) := by decide +kernel
theorem dX10_desk_4 : decode cX10_desk 4 = .ok (.iload_n 1, 1) := by decide +kernel
theorem dX10_desk_5 : decode cX10_desk 5 = .ok (.invokevirtual 73, 3) := by decide +kernel
theorem dX10_desk_8 : decode cX10_desk 8 = .ok (.astore_n 3, 1) := by decide +kernel
theorem dX10_desk_9 : decode cX10_desk 9 = .ok (.aload_n 3, 1) := by decide +kernel
theorem dX10_desk_10 : decode cX10_desk 10 = .ok (.ifnonnull 7, 3) := by decide +kernel
theorem dX10_desk_13 : decode cX10_desk 13 = .ok (.iconst (-1), 1) := by decide +kernel
theorem dX10_desk_14 : decode cX10_desk 14 = .ok (.goto 8, 3) := by decide +kernel
theorem dX10_desk_17 : decode cX10_desk 17 = .ok (.aload_n 3, 1) := by decide +kernel
theorem dX10_desk_18 : decode cX10_desk 18 = .ok (.iload_n 2, 1) := by decide +kernel
theorem dX10_desk_19 : decode cX10_desk 19 = .ok (.invokevirtual 77, 3) := by decide +kernel
theorem dX10_desk_22 : decode cX10_desk 22 = .ok (.ireturn, 1) := by decide +kernel
set_option maxRecDepth 20000 in
theorem ggX10_lying_X0_placeAt : GoodIn wsX10_lying wsX0_placeAt := goodIn_r _ [6, 7, 34, 35, 36, 37, 38, 39, 40, 41, 42, 43, 44] (by decide +kernel) (by decide +kernel)
set_option maxRecDepth 20000 in
theorem gX10_lying_X0_placeAt : GoodIn wsX10_lying (wsV RX10 73 RX0 yX0_placeAt wsX0_placeAt) := goodIn_app (goodIn_of _ (by decide +kernel)) ggX10_lying_X0_placeAt
set_option maxRecDepth 20000 in
theorem ggX10_lying_X6_wordAt : GoodIn wsX10_lying wsX6_wordAt := goodIn_r _ [12, 13, 14, 15, 16, 17, 18, 19, 20, 21, 22, 23, 24, 25, 26, 27, 28, 45, 46, 47, 48, 49, 50, 51, 52, 53, 54, 55, 56, 57, 58, 59, 60, 61, 62, 63, 64, 65, 66] (by decide +kernel) (by decide +kernel)
set_option maxRecDepth 20000 in
theorem gX10_lying_X6_wordAt : GoodIn wsX10_lying (wsV RX10 80 RX6 yX6_wordAt wsX6_wordAt) := goodIn_app (goodIn_of _ (by decide +kernel)) ggX10_lying_X6_wordAt
theorem dX10_lying_0 : decode cX10_lying 0 = .ok (.aload_n 0, 1) := by decide +kernel
theorem dX10_lying_1 : decode cX10_lying 1 = .ok (.getfield 10, 3) := by decide +kernel
theorem dX10_lying_4 : decode cX10_lying 4 = .ok (.iload_n 1, 1) := by decide +kernel
theorem dX10_lying_5 : decode cX10_lying 5 = .ok (.invokevirtual 73, 3) := by decide +kernel
theorem dX10_lying_8 : decode cX10_lying 8 = .ok (.astore_n 3, 1) := by decide +kernel
theorem dX10_lying_9 : decode cX10_lying 9 = .ok (.aload_n 3, 1) := by decide +kernel
theorem dX10_lying_10 : decode cX10_lying 10 = .ok (.ifnonnull 7, 3) := by decide +kernel
theorem dX10_lying_13 : decode cX10_lying 13 = .ok (.iconst (-1), 1) := by decide +kernel
theorem dX10_lying_14 : decode cX10_lying 14 = .ok (.goto 8, 3) := by decide +kernel
theorem dX10_lying_17 : decode cX10_lying 17 = .ok (.aload_n 3, 1) := by decide +kernel
theorem dX10_lying_18 : decode cX10_lying 18 = .ok (.iload_n 2, 1) := by decide +kernel
theorem dX10_lying_19 : decode cX10_lying 19 = .ok (.invokevirtual 80, 3) := by decide +kernel
theorem dX10_lying_22 : decode cX10_lying 22 = .ok (.ireturn, 1) := by decide +kernel
set_option maxRecDepth 20000 in
theorem ggX10_result_X3_at : GoodIn wsX10_result wsX3_at := goodIn_r _ [7, 8, 9, 10, 27, 28, 29, 30] (by decide +kernel) (by decide +kernel)
set_option maxRecDepth 20000 in
theorem gX10_result_X3_at : GoodIn wsX10_result (wsV RX10 86 RX3 yX3_at wsX3_at) := goodIn_app (goodIn_of _ (by decide +kernel)) ggX10_result_X3_at
theorem dX10_result_0 : decode cX10_result 0 = .ok (.aload_n 0, 1) := by decide +kernel
theorem dX10_result_1 : decode cX10_result 1 = .ok (.getfield 10, 3) := by decide +kernel
theorem dX10_result_4 : decode cX10_result 4 = .ok (.getfield 83, 3) := by decide +kernel
theorem dX10_result_7 : decode cX10_result 7 = .ok (.iload_n 1, 1) := by decide +kernel
theorem dX10_result_8 : decode cX10_result 8 = .ok (.iload_n 2, 1) := by decide +kernel
theorem dX10_result_9 : decode cX10_result 9 = .ok (.invokevirtual 86, 3) := by decide +kernel
theorem dX10_result_12 : decode cX10_result 12 = .ok (.ireturn, 1) := by decide +kernel
set_option maxRecDepth 20000 in
theorem ggX10_count_X6_kind : GoodIn wsX10_count wsX6_kind := goodIn_r _ [23, 24, 25, 26, 27, 28, 29, 30, 31, 32, 33, 66, 67, 68, 69, 70, 71, 72, 73, 74, 75, 76, 77, 78, 79, 80, 81, 82, 83, 58, 59] (by decide +kernel) (by decide +kernel)
set_option maxRecDepth 20000 in
theorem gX10_count_X6_kind : GoodIn wsX10_count (wsV RX10 119 RX6 yX6_kind wsX6_kind) := goodIn_app (goodIn_of _ (by decide +kernel)) ggX10_count_X6_kind
theorem dX10_count_0 : decode cX10_count 0 = .ok (.iload_n 1, 1) := by decide +kernel
theorem dX10_count_1 : decode cX10_count 1 = .ok (.tableswitch 218 0 12 #[67, 78, 89, 100, 111, 122, 133, 144, 155, 166, 177, 202, 210], 67) := by decide +kernel
theorem dX10_count_68 : decode cX10_count 68 = .ok (.aload_n 0, 1) := by decide +kernel
theorem dX10_count_69 : decode cX10_count 69 = .ok (.getfield 10, 3) := by decide +kernel
theorem dX10_count_72 : decode cX10_count 72 = .ok (.getfield 88, 3) := by decide +kernel
theorem dX10_count_75 : decode cX10_count 75 = .ok (.getfield 92, 3) := by decide +kernel
theorem dX10_count_78 : decode cX10_count 78 = .ok (.ireturn, 1) := by decide +kernel
theorem dX10_count_79 : decode cX10_count 79 = .ok (.aload_n 0, 1) := by decide +kernel
theorem dX10_count_80 : decode cX10_count 80 = .ok (.getfield 10, 3) := by decide +kernel
theorem dX10_count_83 : decode cX10_count 83 = .ok (.getfield 88, 3) := by decide +kernel
theorem dX10_count_86 : decode cX10_count 86 = .ok (.getfield 97, 3) := by decide +kernel
theorem dX10_count_89 : decode cX10_count 89 = .ok (.ireturn, 1) := by decide +kernel
theorem dX10_count_90 : decode cX10_count 90 = .ok (.aload_n 0, 1) := by decide +kernel
theorem dX10_count_91 : decode cX10_count 91 = .ok (.getfield 10, 3) := by decide +kernel
theorem dX10_count_94 : decode cX10_count 94 = .ok (.getfield 88, 3) := by decide +kernel
theorem dX10_count_97 : decode cX10_count 97 = .ok (.getfield 100, 3) := by decide +kernel
theorem dX10_count_100 : decode cX10_count 100 = .ok (.ireturn, 1) := by decide +kernel
theorem dX10_count_101 : decode cX10_count 101 = .ok (.aload_n 0, 1) := by decide +kernel
theorem dX10_count_102 : decode cX10_count 102 = .ok (.getfield 10, 3) := by decide +kernel
theorem dX10_count_105 : decode cX10_count 105 = .ok (.getfield 88, 3) := by decide +kernel
theorem dX10_count_108 : decode cX10_count 108 = .ok (.getfield 103, 3) := by decide +kernel
theorem dX10_count_111 : decode cX10_count 111 = .ok (.ireturn, 1) := by decide +kernel
theorem dX10_count_112 : decode cX10_count 112 = .ok (.aload_n 0, 1) := by decide +kernel
theorem dX10_count_113 : decode cX10_count 113 = .ok (.getfield 10, 3) := by decide +kernel
theorem dX10_count_116 : decode cX10_count 116 = .ok (.getfield 88, 3) := by decide +kernel
theorem dX10_count_119 : decode cX10_count 119 = .ok (.getfield 106, 3) := by decide +kernel
theorem dX10_count_122 : decode cX10_count 122 = .ok (.ireturn, 1) := by decide +kernel
theorem dX10_count_123 : decode cX10_count 123 = .ok (.aload_n 0, 1) := by decide +kernel
theorem dX10_count_124 : decode cX10_count 124 = .ok (.getfield 10, 3) := by decide +kernel
theorem dX10_count_127 : decode cX10_count 127 = .ok (.getfield 88, 3) := by decide +kernel
theorem dX10_count_130 : decode cX10_count 130 = .ok (.getfield 109, 3) := by decide +kernel
theorem dX10_count_133 : decode cX10_count 133 = .ok (.ireturn, 1) := by decide +kernel
theorem dX10_count_134 : decode cX10_count 134 = .ok (.aload_n 0, 1) := by decide +kernel
theorem dX10_count_135 : decode cX10_count 135 = .ok (.getfield 10, 3) := by decide +kernel
theorem dX10_count_138 : decode cX10_count 138 = .ok (.getfield 46, 3) := by decide +kernel
theorem dX10_count_141 : decode cX10_count 141 = .ok (.getfield 112, 3) := by decide +kernel
theorem dX10_count_144 : decode cX10_count 144 = .ok (.ireturn, 1) := by decide +kernel
theorem dX10_count_145 : decode cX10_count 145 = .ok (.aload_n 0, 1) := by decide +kernel
theorem dX10_count_146 : decode cX10_count 146 = .ok (.getfield 10, 3) := by decide +kernel
theorem dX10_count_149 : decode cX10_count 149 = .ok (.getfield 115, 3) := by decide +kernel
theorem dX10_count_152 : decode cX10_count 152 = .ok (.invokevirtual 119, 3) := by decide +kernel
theorem dX10_count_155 : decode cX10_count 155 = .ok (.ireturn, 1) := by decide +kernel
theorem dX10_count_156 : decode cX10_count 156 = .ok (.aload_n 0, 1) := by decide +kernel
theorem dX10_count_157 : decode cX10_count 157 = .ok (.getfield 10, 3) := by decide +kernel
theorem dX10_count_160 : decode cX10_count 160 = .ok (.getfield 123, 3) := by decide +kernel
theorem dX10_count_163 : decode cX10_count 163 = .ok (.getfield 126, 3) := by decide +kernel
theorem dX10_count_166 : decode cX10_count 166 = .ok (.ireturn, 1) := by decide +kernel
theorem dX10_count_167 : decode cX10_count 167 = .ok (.aload_n 0, 1) := by decide +kernel
theorem dX10_count_168 : decode cX10_count 168 = .ok (.getfield 10, 3) := by decide +kernel
theorem dX10_count_171 : decode cX10_count 171 = .ok (.getfield 83, 3) := by decide +kernel
theorem dX10_count_174 : decode cX10_count 174 = .ok (.getfield 126, 3) := by decide +kernel
theorem dX10_count_177 : decode cX10_count 177 = .ok (.ireturn, 1) := by decide +kernel
theorem dX10_count_178 : decode cX10_count 178 = .ok (.aload_n 0, 1) := by decide +kernel
theorem dX10_count_179 : decode cX10_count 179 = .ok (.getfield 10, 3) := by decide +kernel
theorem dX10_count_182 : decode cX10_count 182 = .ok (.getfield 127, 3) := by decide +kernel
theorem dX10_count_185 : decode cX10_count 185 = .ok (.ifCond .ne 7, 3) := by decide +kernel
theorem dX10_count_188 : decode cX10_count 188 = .ok (.iconst (-1), 1) := by decide +kernel
theorem dX10_count_189 : decode cX10_count 189 = .ok (.goto 13, 3) := by decide +kernel
theorem dX10_count_192 : decode cX10_count 192 = .ok (.aload_n 0, 1) := by decide +kernel
theorem dX10_count_193 : decode cX10_count 193 = .ok (.getfield 10, 3) := by decide +kernel
theorem dX10_count_196 : decode cX10_count 196 = .ok (.getfield 130, 3) := by decide +kernel
theorem dX10_count_199 : decode cX10_count 199 = .ok (.getfield 134, 3) := by decide +kernel
theorem dX10_count_202 : decode cX10_count 202 = .ok (.ireturn, 1) := by decide +kernel
theorem dX10_count_203 : decode cX10_count 203 = .ok (.aload_n 0, 1) := by decide +kernel
theorem dX10_count_204 : decode cX10_count 204 = .ok (.getfield 10, 3) := by decide +kernel
theorem dX10_count_207 : decode cX10_count 207 = .ok (.getfield 127, 3) := by decide +kernel
theorem dX10_count_210 : decode cX10_count 210 = .ok (.ireturn, 1) := by decide +kernel
theorem dX10_count_211 : decode cX10_count 211 = .ok (.aload_n 0, 1) := by decide +kernel
theorem dX10_count_212 : decode cX10_count 212 = .ok (.getfield 24, 3) := by decide +kernel
theorem dX10_count_215 : decode cX10_count 215 = .ok (.getfield 126, 3) := by decide +kernel
theorem dX10_count_218 : decode cX10_count 218 = .ok (.ireturn, 1) := by decide +kernel
theorem dX10_count_219 : decode cX10_count 219 = .ok (.iconst (-1), 1) := by decide +kernel
theorem dX10_count_220 : decode cX10_count 220 = .ok (.ireturn, 1) := by decide +kernel
set_option maxRecDepth 20000 in
theorem ggX10_seat_X2_has : GoodIn wsX10_seat wsX2_has := goodIn_r _ [7, 8, 9, 30, 31, 32, 33, 34, 35, 36, 37] (by decide +kernel) (by decide +kernel)
set_option maxRecDepth 20000 in
theorem gX10_seat_X2_has : GoodIn wsX10_seat (wsV RX10 137 RX2 yX2_has wsX2_has) := goodIn_app (goodIn_of _ (by decide +kernel)) ggX10_seat_X2_has
set_option maxRecDepth 20000 in
theorem ggX10_seat_X2_isThere : GoodIn wsX10_seat wsX2_isThere := goodIn_r _ [13, 8, 9, 30, 31, 32, 33, 34, 35, 36, 37] (by decide +kernel) (by decide +kernel)
set_option maxRecDepth 20000 in
theorem gX10_seat_X2_isThere : GoodIn wsX10_seat (wsV RX10 141 RX2 yX2_isThere wsX2_isThere) := goodIn_app (goodIn_of _ (by decide +kernel)) ggX10_seat_X2_isThere
theorem dX10_seat_0 : decode cX10_seat 0 = .ok (.aload_n 0, 1) := by decide +kernel
theorem dX10_seat_1 : decode cX10_seat 1 = .ok (.getfield 10, 3) := by decide +kernel
theorem dX10_seat_4 : decode cX10_seat 4 = .ok (.getfield 88, 3) := by decide +kernel
theorem dX10_seat_7 : decode cX10_seat 7 = .ok (.iload_n 1, 1) := by decide +kernel
theorem dX10_seat_8 : decode cX10_seat 8 = .ok (.invokevirtual 137, 3) := by decide +kernel
theorem dX10_seat_11 : decode cX10_seat 11 = .ok (.ifCond .ne 5, 3) := by decide +kernel
theorem dX10_seat_14 : decode cX10_seat 14 = .ok (.iconst (-1), 1) := by decide +kernel
theorem dX10_seat_15 : decode cX10_seat 15 = .ok (.ireturn, 1) := by decide +kernel
theorem dX10_seat_16 : decode cX10_seat 16 = .ok (.aload_n 0, 1) := by decide +kernel
theorem dX10_seat_17 : decode cX10_seat 17 = .ok (.getfield 10, 3) := by decide +kernel
theorem dX10_seat_20 : decode cX10_seat 20 = .ok (.getfield 88, 3) := by decide +kernel
theorem dX10_seat_23 : decode cX10_seat 23 = .ok (.iload_n 1, 1) := by decide +kernel
theorem dX10_seat_24 : decode cX10_seat 24 = .ok (.invokevirtual 141, 3) := by decide +kernel
theorem dX10_seat_27 : decode cX10_seat 27 = .ok (.ifCond .eq 7, 3) := by decide +kernel
theorem dX10_seat_30 : decode cX10_seat 30 = .ok (.iconst 1, 1) := by decide +kernel
theorem dX10_seat_31 : decode cX10_seat 31 = .ok (.goto 4, 3) := by decide +kernel
theorem dX10_seat_34 : decode cX10_seat 34 = .ok (.iconst 0, 1) := by decide +kernel
theorem dX10_seat_35 : decode cX10_seat 35 = .ok (.ireturn, 1) := by decide +kernel
set_option maxRecDepth 20000 in
theorem ggX10_journal_X3_at : GoodIn wsX10_journal wsX3_at := goodIn_r _ [7, 8, 9, 10, 27, 28, 29, 30] (by decide +kernel) (by decide +kernel)
set_option maxRecDepth 20000 in
theorem gX10_journal_X3_at : GoodIn wsX10_journal (wsV RX10 86 RX3 yX3_at wsX3_at) := goodIn_app (goodIn_of _ (by decide +kernel)) ggX10_journal_X3_at
theorem dX10_journal_0 : decode cX10_journal 0 = .ok (.iload_n 2, 1) := by decide +kernel
theorem dX10_journal_1 : decode cX10_journal 1 = .ok (.iconst 5, 1) := by decide +kernel
theorem dX10_journal_2 : decode cX10_journal 2 = .ok (.if_icmp .le 7, 3) := by decide +kernel
theorem dX10_journal_5 : decode cX10_journal 5 = .ok (.iconst (-1), 1) := by decide +kernel
theorem dX10_journal_6 : decode cX10_journal 6 = .ok (.goto 15, 3) := by decide +kernel
theorem dX10_journal_9 : decode cX10_journal 9 = .ok (.aload_n 0, 1) := by decide +kernel
theorem dX10_journal_10 : decode cX10_journal 10 = .ok (.getfield 10, 3) := by decide +kernel
theorem dX10_journal_13 : decode cX10_journal 13 = .ok (.getfield 123, 3) := by decide +kernel
theorem dX10_journal_16 : decode cX10_journal 16 = .ok (.iload_n 1, 1) := by decide +kernel
theorem dX10_journal_17 : decode cX10_journal 17 = .ok (.iload_n 2, 1) := by decide +kernel
theorem dX10_journal_18 : decode cX10_journal 18 = .ok (.invokevirtual 86, 3) := by decide +kernel
theorem dX10_journal_21 : decode cX10_journal 21 = .ok (.ireturn, 1) := by decide +kernel
set_option maxRecDepth 20000 in
theorem ggX10_before_X0_begin : GoodIn wsX10_before wsX0_begin := goodIn_r _ [11, 12, 13, 14, 15, 16, 17, 18, 19, 20, 21, 22, 23, 10, 24, 25, 26, 27, 28, 29, 30, 31, 32, 33, 34, 35, 36, 37, 38, 39, 40, 41, 42, 43, 44, 45, 46, 47, 48, 49, 50, 51, 52, 53, 54, 55, 56, 57, 58, 59, 60, 61, 62, 63, 64, 65, 66, 67, 68, 69, 70, 71, 72, 576, 577, 578, 579, 580, 581, 582, 583, 584, 585, 586, 587, 588, 589, 590, 599, 600, 601, 602, 603, 604, 605, 606, 607, 608, 609, 610, 611, 612, 613, 614, 615, 616, 617, 618, 619, 620, 591, 592, 593, 594, 595, 596, 597, 598] (by decide +kernel) (by decide +kernel)
set_option maxRecDepth 20000 in
theorem gX10_before_X0_begin : GoodIn wsX10_before (wsV RX10 28 RX0 yX0_begin wsX0_begin) := goodIn_app (goodIn_of _ (by decide +kernel)) ggX10_before_X0_begin
set_option maxRecDepth 20000 in
theorem ggX10_before_X3_at : GoodIn wsX10_before wsX3_at := goodIn_r _ [77, 78, 79, 80, 587, 588, 589, 590] (by decide +kernel) (by decide +kernel)
set_option maxRecDepth 20000 in
theorem gX10_before_X3_at : GoodIn wsX10_before (wsV RX10 86 RX3 yX3_at wsX3_at) := goodIn_app (goodIn_of _ (by decide +kernel)) ggX10_before_X3_at
set_option maxRecDepth 20000 in
theorem ggX10_before_X0_enact : GoodIn wsX10_before wsX0_enact := goodIn_r _ [84, 20, 13, 25, 32, 85, 86, 87, 88, 89, 90, 91, 92, 93, 94, 95, 96, 97, 98, 99, 100, 55, 101, 57, 66, 102, 103, 104, 105, 106, 107, 108, 109, 110, 111, 112, 113, 114, 115, 116, 117, 118, 119, 120, 121, 122, 123, 124, 42, 125, 44, 126, 127, 128, 129, 45, 130, 131, 132, 133, 134, 135, 136, 137, 68, 138, 139, 140, 141, 142, 143, 144, 145, 146, 147, 148, 149, 150, 151, 152, 153, 154, 155, 156, 157, 158, 159, 160, 161, 162, 163, 164, 165, 166, 167, 168, 169, 170, 171, 172, 173, 174, 10, 175, 27, 176, 177, 178, 179, 180, 181, 182, 183, 184, 185, 186, 187, 188, 189, 190, 191, 192, 193, 194, 195, 196, 197, 198, 199, 200, 201, 202, 203, 204, 205, 206, 207, 208, 209, 210, 211, 212, 213, 214, 215, 216, 217, 218, 219, 220, 221, 67, 58, 222, 223, 224, 225, 226, 227, 228, 229, 230, 231, 232, 233, 234, 235, 236, 237, 238, 239, 240, 241, 242, 243, 244, 245, 246, 247, 248, 249, 250, 251, 252, 253, 254, 255, 256, 257, 258, 259, 260, 261, 76, 262, 78, 263, 264, 265, 266, 267, 268, 269, 270, 271, 272, 273, 274, 275, 276, 277, 278, 279, 280, 281, 282, 283, 284, 285, 286, 287, 288, 289, 290, 291, 292, 60, 293, 294, 295, 296, 61, 297, 298, 299, 300, 301, 302, 303, 304, 305, 306, 307, 308, 309, 310, 311, 312, 313, 47, 48, 49, 50, 51, 28, 29, 30, 31, 33, 34, 35, 36, 37, 38, 39, 40, 41, 43, 314, 315, 316, 317, 318, 319, 320, 321, 322, 323, 324, 325, 326, 327, 328, 329, 330, 331, 332, 333, 334, 335, 336, 337, 338, 339, 340, 341, 342, 343, 344, 345, 346, 347, 348, 349, 350, 351, 352, 353, 354, 355, 356, 357, 71, 358, 359, 360, 361, 362, 363, 364, 365, 366, 367, 368, 369, 370, 371, 372, 373, 374, 375, 376, 377, 378, 379, 380, 381, 382, 383, 384, 385, 386, 387, 388, 389, 390, 391, 392, 393, 394, 395, 396, 397, 398, 399, 400, 401, 402, 403, 404, 405, 406, 407, 408, 409, 410, 411, 412, 413, 414, 415, 416, 417, 418, 419, 420, 421, 422, 423, 424, 425, 426, 427, 428, 429, 430, 431, 432, 433, 434, 435, 436, 437, 438, 439, 440, 441, 442, 443, 444, 445, 446, 447, 448, 449, 450, 451, 452, 453, 454, 455, 456, 457, 458, 459, 460, 461, 462, 463, 464, 465, 466, 467, 468, 79, 80, 469, 470, 471, 472, 473, 474, 475, 476, 477, 478, 479, 480, 481, 482, 483, 484, 485, 486, 487, 488, 489, 490, 491, 492, 493, 494, 495, 496, 497, 498, 499, 500, 501, 502, 503, 504, 505, 506, 507, 508, 509, 510, 511, 512, 513, 514, 515, 516, 517, 518, 519, 520, 521, 522, 523, 524, 525, 526, 527, 528, 529, 530, 531, 532, 63, 64, 65, 533, 534, 535, 536, 537, 538, 539, 540, 541, 542, 543, 544, 545, 546, 547, 548, 549, 550, 551, 552, 553, 554, 555, 556, 557, 558, 559, 576, 577, 578, 579, 580, 581, 582, 583, 584, 585, 586, 601, 602, 591, 592, 593, 594, 595, 596, 597, 598, 603, 604, 605, 606, 607, 608, 609, 610, 611, 612, 613, 614, 615, 616, 617, 618, 619, 620, 599, 600, 587, 588, 589, 590] (by decide +kernel) (by decide +kernel)
set_option maxRecDepth 20000 in
theorem gX10_before_X0_enact : GoodIn wsX10_before (wsV RX10 32 RX0 yX0_enact wsX0_enact) := goodIn_app (goodIn_of _ (by decide +kernel)) ggX10_before_X0_enact
set_option maxRecDepth 20000 in
theorem ggX10_before_X0_wordOf : GoodIn wsX10_before wsX0_wordOf := goodIn_r _ [563, 16, 26, 25, 564, 565, 566, 567, 239, 568, 241, 334, 569, 147, 148, 149, 150, 151, 152, 153, 127, 128, 42, 129, 44, 45, 570, 576, 577, 578, 579, 580, 581, 582, 583, 584, 585, 586, 603, 604, 605, 606, 607, 608, 609, 610, 611, 612, 613, 614, 615, 616, 617, 618, 599, 600, 619, 620, 601, 602] (by decide +kernel) (by decide +kernel)
set_option maxRecDepth 20000 in
theorem gX10_before_X0_wordOf : GoodIn wsX10_before (wsV RX10 62 RX0 yX0_wordOf wsX0_wordOf) := goodIn_app (goodIn_of _ (by decide +kernel)) ggX10_before_X0_wordOf
theorem dX10_before_0 : decode cX10_before 0 = .ok (.iload_n 1, 1) := by decide +kernel
theorem dX10_before_1 : decode cX10_before 1 = .ok (.ifCond .lt 17, 3) := by decide +kernel
theorem dX10_before_4 : decode cX10_before 4 = .ok (.iload_n 1, 1) := by decide +kernel
theorem dX10_before_5 : decode cX10_before 5 = .ok (.aload_n 0, 1) := by decide +kernel
theorem dX10_before_6 : decode cX10_before 6 = .ok (.getfield 10, 3) := by decide +kernel
theorem dX10_before_9 : decode cX10_before 9 = .ok (.getfield 123, 3) := by decide +kernel
theorem dX10_before_12 : decode cX10_before 12 = .ok (.getfield 126, 3) := by decide +kernel
theorem dX10_before_15 : decode cX10_before 15 = .ok (.if_icmp .le 5, 3) := by decide +kernel
theorem dX10_before_18 : decode cX10_before 18 = .ok (.iconst (-1), 1) := by decide +kernel
theorem dX10_before_19 : decode cX10_before 19 = .ok (.ireturn, 1) := by decide +kernel
theorem dX10_before_20 : decode cX10_before 20 = .ok (.aload_n 0, 1) := by decide +kernel
theorem dX10_before_21 : decode cX10_before 21 = .ok (.getfield 10, 3) := by decide +kernel
theorem dX10_before_24 : decode cX10_before 24 = .ok (.getfield 123, 3) := by decide +kernel
theorem dX10_before_27 : decode cX10_before 27 = .ok (.astore 4, 2) := by decide +kernel
theorem dX10_before_29 : decode cX10_before 29 = .ok (.aload_n 0, 1) := by decide +kernel
theorem dX10_before_30 : decode cX10_before 30 = .ok (.getfield 16, 3) := by decide +kernel
theorem dX10_before_33 : decode cX10_before 33 = .ok (.aload_n 0, 1) := by decide +kernel
theorem dX10_before_34 : decode cX10_before 34 = .ok (.getfield 10, 3) := by decide +kernel
theorem dX10_before_37 : decode cX10_before 37 = .ok (.getfield 88, 3) := by decide +kernel
theorem dX10_before_40 : decode cX10_before 40 = .ok (.getfield 92, 3) := by decide +kernel
theorem dX10_before_43 : decode cX10_before 43 = .ok (.invokevirtual 28, 3) := by decide +kernel
theorem dX10_before_46 : decode cX10_before 46 = .ok (.iconst 0, 1) := by decide +kernel
theorem dX10_before_47 : decode cX10_before 47 = .ok (.istore 5, 2) := by decide +kernel
theorem dX10_before_49 : decode cX10_before 49 = .ok (.iload 5, 2) := by decide +kernel
theorem dX10_before_51 : decode cX10_before 51 = .ok (.iload_n 1, 1) := by decide +kernel
theorem dX10_before_52 : decode cX10_before 52 = .ok (.if_icmp .ge 57, 3) := by decide +kernel
theorem dX10_before_55 : decode cX10_before 55 = .ok (.aload_n 0, 1) := by decide +kernel
theorem dX10_before_56 : decode cX10_before 56 = .ok (.getfield 16, 3) := by decide +kernel
theorem dX10_before_59 : decode cX10_before 59 = .ok (.aload 4, 2) := by decide +kernel
theorem dX10_before_61 : decode cX10_before 61 = .ok (.iload 5, 2) := by decide +kernel
theorem dX10_before_63 : decode cX10_before 63 = .ok (.iconst 0, 1) := by decide +kernel
theorem dX10_before_64 : decode cX10_before 64 = .ok (.invokevirtual 86, 3) := by decide +kernel
theorem dX10_before_67 : decode cX10_before 67 = .ok (.aload 4, 2) := by decide +kernel
theorem dX10_before_69 : decode cX10_before 69 = .ok (.iload 5, 2) := by decide +kernel
theorem dX10_before_71 : decode cX10_before 71 = .ok (.iconst 1, 1) := by decide +kernel
theorem dX10_before_72 : decode cX10_before 72 = .ok (.invokevirtual 86, 3) := by decide +kernel
theorem dX10_before_75 : decode cX10_before 75 = .ok (.aload 4, 2) := by decide +kernel
theorem dX10_before_77 : decode cX10_before 77 = .ok (.iload 5, 2) := by decide +kernel
theorem dX10_before_79 : decode cX10_before 79 = .ok (.iconst 2, 1) := by decide +kernel
theorem dX10_before_80 : decode cX10_before 80 = .ok (.invokevirtual 86, 3) := by decide +kernel
theorem dX10_before_83 : decode cX10_before 83 = .ok (.aload 4, 2) := by decide +kernel
theorem dX10_before_85 : decode cX10_before 85 = .ok (.iload 5, 2) := by decide +kernel
theorem dX10_before_87 : decode cX10_before 87 = .ok (.iconst 3, 1) := by decide +kernel
theorem dX10_before_88 : decode cX10_before 88 = .ok (.invokevirtual 86, 3) := by decide +kernel
theorem dX10_before_91 : decode cX10_before 91 = .ok (.aload 4, 2) := by decide +kernel
theorem dX10_before_93 : decode cX10_before 93 = .ok (.iload 5, 2) := by decide +kernel
theorem dX10_before_95 : decode cX10_before 95 = .ok (.iconst 4, 1) := by decide +kernel
theorem dX10_before_96 : decode cX10_before 96 = .ok (.invokevirtual 86, 3) := by decide +kernel
theorem dX10_before_99 : decode cX10_before 99 = .ok (.invokevirtual 32, 3) := by decide +kernel
theorem dX10_before_102 : decode cX10_before 102 = .ok (.pop, 1) := by decide +kernel
theorem dX10_before_103 : decode cX10_before 103 = .ok (.iinc 5 1, 3) := by decide +kernel
theorem dX10_before_106 : decode cX10_before 106 = .ok (.goto (-57), 3) := by decide +kernel
theorem dX10_before_109 : decode cX10_before 109 = .ok (.aload_n 0, 1) := by decide +kernel
theorem dX10_before_110 : decode cX10_before 110 = .ok (.getfield 16, 3) := by decide +kernel
theorem dX10_before_113 : decode cX10_before 113 = .ok (.iload_n 2, 1) := by decide +kernel
theorem dX10_before_114 : decode cX10_before 114 = .ok (.iload_n 3, 1) := by decide +kernel
theorem dX10_before_115 : decode cX10_before 115 = .ok (.invokevirtual 62, 3) := by decide +kernel
theorem dX10_before_118 : decode cX10_before 118 = .ok (.ireturn, 1) := by decide +kernel
set_option maxRecDepth 20000 in
theorem ggX10_again_X0_begin : GoodIn wsX10_again wsX0_begin := goodIn_r _ [13, 14, 15, 16, 17, 18, 19, 20, 21, 22, 23, 24, 25, 12, 26, 27, 28, 29, 30, 31, 32, 33, 34, 35, 36, 37, 38, 39, 40, 41, 42, 43, 44, 45, 46, 47, 48, 49, 50, 51, 52, 53, 54, 55, 56, 57, 58, 59, 60, 61, 62, 63, 64, 65, 66, 67, 68, 69, 70, 71, 72, 73, 74, 567, 568, 569, 570, 571, 572, 573, 574, 575, 576, 577, 586, 587, 588, 589, 592, 593, 590, 591, 594, 595, 596, 597, 598, 599, 600, 601, 602, 603, 604, 605, 606, 607, 608, 609, 610, 611, 578, 579, 580, 581, 582, 583, 584, 585] (by decide +kernel) (by decide +kernel)
set_option maxRecDepth 20000 in
theorem gX10_again_X0_begin : GoodIn wsX10_again (wsV RX10 28 RX0 yX0_begin wsX0_begin) := goodIn_app (goodIn_of _ (by decide +kernel)) ggX10_again_X0_begin
set_option maxRecDepth 20000 in
theorem ggX10_again_X3_at : GoodIn wsX10_again wsX3_at := goodIn_r _ [79, 80, 81, 82, 586, 587, 588, 589] (by decide +kernel) (by decide +kernel)
set_option maxRecDepth 20000 in
theorem gX10_again_X3_at : GoodIn wsX10_again (wsV RX10 86 RX3 yX3_at wsX3_at) := goodIn_app (goodIn_of _ (by decide +kernel)) ggX10_again_X3_at
set_option maxRecDepth 20000 in
theorem ggX10_again_X0_enact : GoodIn wsX10_again wsX0_enact := goodIn_r _ [86, 22, 15, 27, 34, 87, 88, 89, 90, 91, 92, 93, 94, 95, 96, 97, 98, 99, 100, 101, 102, 57, 103, 59, 68, 104, 105, 106, 107, 108, 109, 110, 111, 112, 113, 114, 115, 116, 117, 118, 119, 120, 121, 122, 123, 124, 125, 126, 44, 127, 46, 128, 129, 130, 131, 47, 132, 133, 134, 135, 136, 137, 138, 139, 70, 140, 141, 142, 143, 144, 145, 146, 147, 148, 149, 150, 151, 152, 153, 154, 155, 156, 157, 158, 159, 160, 161, 162, 163, 164, 165, 166, 167, 168, 169, 170, 171, 172, 173, 174, 175, 176, 12, 177, 29, 178, 179, 180, 181, 182, 183, 184, 185, 186, 187, 188, 189, 190, 191, 192, 193, 194, 195, 196, 197, 198, 199, 200, 201, 202, 203, 204, 205, 206, 207, 208, 209, 210, 211, 212, 213, 214, 215, 216, 217, 218, 219, 220, 221, 222, 223, 69, 60, 224, 225, 226, 227, 228, 229, 230, 231, 232, 233, 234, 235, 236, 237, 238, 239, 240, 241, 242, 243, 244, 245, 246, 247, 248, 249, 250, 251, 252, 253, 254, 255, 256, 257, 258, 259, 260, 261, 262, 263, 78, 264, 80, 265, 266, 267, 268, 269, 270, 271, 272, 273, 274, 275, 276, 277, 278, 279, 280, 281, 282, 283, 284, 285, 286, 287, 288, 289, 290, 291, 292, 293, 294, 62, 295, 296, 297, 298, 63, 299, 300, 301, 302, 303, 304, 305, 306, 307, 308, 309, 310, 311, 312, 313, 314, 315, 49, 50, 51, 52, 53, 30, 31, 32, 33, 35, 36, 37, 38, 39, 40, 41, 42, 43, 45, 316, 317, 318, 319, 320, 321, 322, 323, 324, 325, 326, 327, 328, 329, 330, 331, 332, 333, 334, 335, 336, 337, 338, 339, 340, 341, 342, 343, 344, 345, 346, 347, 348, 349, 350, 351, 352, 353, 354, 355, 356, 357, 358, 359, 73, 360, 361, 362, 363, 364, 365, 366, 367, 368, 369, 370, 371, 372, 373, 374, 375, 376, 377, 378, 379, 380, 381, 382, 383, 384, 385, 386, 387, 388, 389, 390, 391, 392, 393, 394, 395, 396, 397, 398, 399, 400, 401, 402, 403, 404, 405, 406, 407, 408, 409, 410, 411, 412, 413, 414, 415, 416, 417, 418, 419, 420, 421, 422, 423, 424, 425, 426, 427, 428, 429, 430, 431, 432, 433, 434, 435, 436, 437, 438, 439, 440, 441, 442, 443, 444, 445, 446, 447, 448, 449, 450, 451, 452, 453, 454, 455, 456, 457, 458, 459, 460, 461, 462, 463, 464, 465, 466, 467, 468, 469, 470, 81, 82, 471, 472, 473, 474, 475, 476, 477, 478, 479, 480, 481, 482, 483, 484, 485, 486, 487, 488, 489, 490, 491, 492, 493, 494, 495, 496, 497, 498, 499, 500, 501, 502, 503, 504, 505, 506, 507, 508, 509, 510, 511, 512, 513, 514, 515, 516, 517, 518, 519, 520, 521, 522, 523, 524, 525, 526, 527, 528, 529, 530, 531, 532, 533, 534, 65, 66, 67, 535, 536, 537, 538, 539, 540, 541, 542, 543, 544, 545, 546, 547, 548, 549, 550, 551, 552, 553, 554, 555, 556, 557, 558, 559, 560, 561, 567, 568, 569, 570, 571, 572, 573, 574, 575, 576, 577, 590, 591, 578, 579, 580, 581, 582, 583, 584, 585, 594, 595, 596, 597, 598, 599, 600, 601, 602, 603, 604, 605, 606, 607, 608, 609, 610, 611, 592, 593, 586, 587, 588, 589] (by decide +kernel) (by decide +kernel)
set_option maxRecDepth 20000 in
theorem gX10_again_X0_enact : GoodIn wsX10_again (wsV RX10 32 RX0 yX0_enact wsX0_enact) := goodIn_app (goodIn_of _ (by decide +kernel)) ggX10_again_X0_enact
theorem dX10_again_0 : decode cX10_again 0 = .ok (.aload_n 0, 1) := by decide +kernel
theorem dX10_again_1 : decode cX10_again 1 = .ok (.getfield 10, 3) := by decide +kernel
theorem dX10_again_4 : decode cX10_again 4 = .ok (.getfield 123, 3) := by decide +kernel
theorem dX10_again_7 : decode cX10_again 7 = .ok (.astore_n 1, 1) := by decide +kernel
theorem dX10_again_8 : decode cX10_again 8 = .ok (.aload_n 0, 1) := by decide +kernel
theorem dX10_again_9 : decode cX10_again 9 = .ok (.getfield 16, 3) := by decide +kernel
theorem dX10_again_12 : decode cX10_again 12 = .ok (.aload_n 0, 1) := by decide +kernel
theorem dX10_again_13 : decode cX10_again 13 = .ok (.getfield 10, 3) := by decide +kernel
theorem dX10_again_16 : decode cX10_again 16 = .ok (.getfield 88, 3) := by decide +kernel
theorem dX10_again_19 : decode cX10_again 19 = .ok (.getfield 92, 3) := by decide +kernel
theorem dX10_again_22 : decode cX10_again 22 = .ok (.invokevirtual 28, 3) := by decide +kernel
theorem dX10_again_25 : decode cX10_again 25 = .ok (.iconst 0, 1) := by decide +kernel
theorem dX10_again_26 : decode cX10_again 26 = .ok (.istore_n 2, 1) := by decide +kernel
theorem dX10_again_27 : decode cX10_again 27 = .ok (.iload_n 2, 1) := by decide +kernel
theorem dX10_again_28 : decode cX10_again 28 = .ok (.aload_n 1, 1) := by decide +kernel
theorem dX10_again_29 : decode cX10_again 29 = .ok (.getfield 126, 3) := by decide +kernel
theorem dX10_again_32 : decode cX10_again 32 = .ok (.if_icmp .ge 79, 3) := by decide +kernel
theorem dX10_again_35 : decode cX10_again 35 = .ok (.aload_n 0, 1) := by decide +kernel
theorem dX10_again_36 : decode cX10_again 36 = .ok (.getfield 16, 3) := by decide +kernel
theorem dX10_again_39 : decode cX10_again 39 = .ok (.aload_n 1, 1) := by decide +kernel
theorem dX10_again_40 : decode cX10_again 40 = .ok (.iload_n 2, 1) := by decide +kernel
theorem dX10_again_41 : decode cX10_again 41 = .ok (.iconst 0, 1) := by decide +kernel
theorem dX10_again_42 : decode cX10_again 42 = .ok (.invokevirtual 86, 3) := by decide +kernel
theorem dX10_again_45 : decode cX10_again 45 = .ok (.aload_n 1, 1) := by decide +kernel
theorem dX10_again_46 : decode cX10_again 46 = .ok (.iload_n 2, 1) := by decide +kernel
theorem dX10_again_47 : decode cX10_again 47 = .ok (.iconst 1, 1) := by decide +kernel
theorem dX10_again_48 : decode cX10_again 48 = .ok (.invokevirtual 86, 3) := by decide +kernel
theorem dX10_again_51 : decode cX10_again 51 = .ok (.aload_n 1, 1) := by decide +kernel
theorem dX10_again_52 : decode cX10_again 52 = .ok (.iload_n 2, 1) := by decide +kernel
theorem dX10_again_53 : decode cX10_again 53 = .ok (.iconst 2, 1) := by decide +kernel
theorem dX10_again_54 : decode cX10_again 54 = .ok (.invokevirtual 86, 3) := by decide +kernel
theorem dX10_again_57 : decode cX10_again 57 = .ok (.aload_n 1, 1) := by decide +kernel
theorem dX10_again_58 : decode cX10_again 58 = .ok (.iload_n 2, 1) := by decide +kernel
theorem dX10_again_59 : decode cX10_again 59 = .ok (.iconst 3, 1) := by decide +kernel
theorem dX10_again_60 : decode cX10_again 60 = .ok (.invokevirtual 86, 3) := by decide +kernel
theorem dX10_again_63 : decode cX10_again 63 = .ok (.aload_n 1, 1) := by decide +kernel
theorem dX10_again_64 : decode cX10_again 64 = .ok (.iload_n 2, 1) := by decide +kernel
theorem dX10_again_65 : decode cX10_again 65 = .ok (.iconst 4, 1) := by decide +kernel
theorem dX10_again_66 : decode cX10_again 66 = .ok (.invokevirtual 86, 3) := by decide +kernel
theorem dX10_again_69 : decode cX10_again 69 = .ok (.invokevirtual 32, 3) := by decide +kernel
theorem dX10_again_72 : decode cX10_again 72 = .ok (.istore_n 3, 1) := by decide +kernel
theorem dX10_again_73 : decode cX10_again 73 = .ok (.iload_n 3, 1) := by decide +kernel
theorem dX10_again_74 : decode cX10_again 74 = .ok (.aload_n 1, 1) := by decide +kernel
theorem dX10_again_75 : decode cX10_again 75 = .ok (.iload_n 2, 1) := by decide +kernel
theorem dX10_again_76 : decode cX10_again 76 = .ok (.iconst 5, 1) := by decide +kernel
theorem dX10_again_77 : decode cX10_again 77 = .ok (.invokevirtual 86, 3) := by decide +kernel
theorem dX10_again_80 : decode cX10_again 80 = .ok (.if_icmp .ne 23, 3) := by decide +kernel
theorem dX10_again_83 : decode cX10_again 83 = .ok (.aload_n 0, 1) := by decide +kernel
theorem dX10_again_84 : decode cX10_again 84 = .ok (.getfield 16, 3) := by decide +kernel
theorem dX10_again_87 : decode cX10_again 87 = .ok (.getfield 46, 3) := by decide +kernel
theorem dX10_again_90 : decode cX10_again 90 = .ok (.getfield 112, 3) := by decide +kernel
theorem dX10_again_93 : decode cX10_again 93 = .ok (.aload_n 1, 1) := by decide +kernel
theorem dX10_again_94 : decode cX10_again 94 = .ok (.iload_n 2, 1) := by decide +kernel
theorem dX10_again_95 : decode cX10_again 95 = .ok (.bipush 6, 2) := by decide +kernel
theorem dX10_again_97 : decode cX10_again 97 = .ok (.invokevirtual 86, 3) := by decide +kernel
theorem dX10_again_100 : decode cX10_again 100 = .ok (.if_icmp .eq 5, 3) := by decide +kernel
theorem dX10_again_103 : decode cX10_again 103 = .ok (.iload_n 2, 1) := by decide +kernel
theorem dX10_again_104 : decode cX10_again 104 = .ok (.ireturn, 1) := by decide +kernel
theorem dX10_again_105 : decode cX10_again 105 = .ok (.iinc 2 1, 3) := by decide +kernel
theorem dX10_again_108 : decode cX10_again 108 = .ok (.goto (-81), 3) := by decide +kernel
theorem dX10_again_111 : decode cX10_again 111 = .ok (.iconst (-1), 1) := by decide +kernel
theorem dX10_again_112 : decode cX10_again 112 = .ok (.ireturn, 1) := by decide +kernel
set_option maxRecDepth 20000 in
theorem ggX10_tell_X3_isFull : GoodIn wsX10_tell wsX3_isFull := goodIn_r _ [7, 8, 9, 53, 54, 55, 56] (by decide +kernel) (by decide +kernel)
set_option maxRecDepth 20000 in
theorem gX10_tell_X3_isFull : GoodIn wsX10_tell (wsV RX10 144 RX3 yX3_isFull wsX3_isFull) := goodIn_app (goodIn_of _ (by decide +kernel)) ggX10_tell_X3_isFull
set_option maxRecDepth 20000 in
theorem ggX10_tell_X3_open : GoodIn wsX10_tell wsX3_open := goodIn_r _ [13, 8, 14, 4, 5, 6, 7, 9, 15, 16, 17, 18, 19, 20, 21, 22, 23, 24, 25, 26, 27, 28, 29, 30, 31, 32, 33, 34, 35, 36, 37, 38, 39, 40, 41, 42, 43, 53, 54, 55, 56] (by decide +kernel) (by decide +kernel)
set_option maxRecDepth 20000 in
theorem gX10_tell_X3_open : GoodIn wsX10_tell (wsV RX10 148 RX3 yX3_open wsX3_open) := goodIn_app (goodIn_of _ (by decide +kernel)) ggX10_tell_X3_open
set_option maxRecDepth 20000 in
theorem ggX10_tell_X3_write : GoodIn wsX10_tell wsX3_write := goodIn_r _ [47, 8, 19, 20, 53, 54, 55, 56] (by decide +kernel) (by decide +kernel)
set_option maxRecDepth 20000 in
theorem gX10_tell_X3_write : GoodIn wsX10_tell (wsV RX10 151 RX3 yX3_write wsX3_write) := goodIn_app (goodIn_of _ (by decide +kernel)) ggX10_tell_X3_write
theorem dX10_tell_0 : decode cX10_tell 0 = .ok (.aload_n 0, 1) := by decide +kernel
theorem dX10_tell_1 : decode cX10_tell 1 = .ok (.getfield 24, 3) := by decide +kernel
theorem dX10_tell_4 : decode cX10_tell 4 = .ok (.invokevirtual 144, 3) := by decide +kernel
theorem dX10_tell_7 : decode cX10_tell 7 = .ok (.ifCond .eq 6, 3) := by decide +kernel
theorem dX10_tell_10 : decode cX10_tell 10 = .ok (.bipush (-10), 2) := by decide +kernel
theorem dX10_tell_12 : decode cX10_tell 12 = .ok (.ireturn, 1) := by decide +kernel
theorem dX10_tell_13 : decode cX10_tell 13 = .ok (.aload_n 0, 1) := by decide +kernel
theorem dX10_tell_14 : decode cX10_tell 14 = .ok (.getfield 24, 3) := by decide +kernel
theorem dX10_tell_17 : decode cX10_tell 17 = .ok (.invokevirtual 148, 3) := by decide +kernel
theorem dX10_tell_20 : decode cX10_tell 20 = .ok (.aload_n 0, 1) := by decide +kernel
theorem dX10_tell_21 : decode cX10_tell 21 = .ok (.getfield 24, 3) := by decide +kernel
theorem dX10_tell_24 : decode cX10_tell 24 = .ok (.iconst 0, 1) := by decide +kernel
theorem dX10_tell_25 : decode cX10_tell 25 = .ok (.iload_n 1, 1) := by decide +kernel
theorem dX10_tell_26 : decode cX10_tell 26 = .ok (.invokevirtual 151, 3) := by decide +kernel
theorem dX10_tell_29 : decode cX10_tell 29 = .ok (.aload_n 0, 1) := by decide +kernel
theorem dX10_tell_30 : decode cX10_tell 30 = .ok (.getfield 24, 3) := by decide +kernel
theorem dX10_tell_33 : decode cX10_tell 33 = .ok (.iconst 1, 1) := by decide +kernel
theorem dX10_tell_34 : decode cX10_tell 34 = .ok (.iload_n 2, 1) := by decide +kernel
theorem dX10_tell_35 : decode cX10_tell 35 = .ok (.invokevirtual 151, 3) := by decide +kernel
theorem dX10_tell_38 : decode cX10_tell 38 = .ok (.aload_n 0, 1) := by decide +kernel
theorem dX10_tell_39 : decode cX10_tell 39 = .ok (.getfield 24, 3) := by decide +kernel
theorem dX10_tell_42 : decode cX10_tell 42 = .ok (.iconst 2, 1) := by decide +kernel
theorem dX10_tell_43 : decode cX10_tell 43 = .ok (.iload_n 3, 1) := by decide +kernel
theorem dX10_tell_44 : decode cX10_tell 44 = .ok (.invokevirtual 151, 3) := by decide +kernel
theorem dX10_tell_47 : decode cX10_tell 47 = .ok (.aload_n 0, 1) := by decide +kernel
theorem dX10_tell_48 : decode cX10_tell 48 = .ok (.getfield 24, 3) := by decide +kernel
theorem dX10_tell_51 : decode cX10_tell 51 = .ok (.iconst 3, 1) := by decide +kernel
theorem dX10_tell_52 : decode cX10_tell 52 = .ok (.iload 4, 2) := by decide +kernel
theorem dX10_tell_54 : decode cX10_tell 54 = .ok (.invokevirtual 151, 3) := by decide +kernel
theorem dX10_tell_57 : decode cX10_tell 57 = .ok (.aload_n 0, 1) := by decide +kernel
theorem dX10_tell_58 : decode cX10_tell 58 = .ok (.getfield 24, 3) := by decide +kernel
theorem dX10_tell_61 : decode cX10_tell 61 = .ok (.iconst 4, 1) := by decide +kernel
theorem dX10_tell_62 : decode cX10_tell 62 = .ok (.iload 5, 2) := by decide +kernel
theorem dX10_tell_64 : decode cX10_tell 64 = .ok (.invokevirtual 151, 3) := by decide +kernel
theorem dX10_tell_67 : decode cX10_tell 67 = .ok (.aload_n 0, 1) := by decide +kernel
theorem dX10_tell_68 : decode cX10_tell 68 = .ok (.getfield 24, 3) := by decide +kernel
theorem dX10_tell_71 : decode cX10_tell 71 = .ok (.iconst 5, 1) := by decide +kernel
theorem dX10_tell_72 : decode cX10_tell 72 = .ok (.iload 6, 2) := by decide +kernel
theorem dX10_tell_74 : decode cX10_tell 74 = .ok (.invokevirtual 151, 3) := by decide +kernel
theorem dX10_tell_77 : decode cX10_tell 77 = .ok (.aload_n 0, 1) := by decide +kernel
theorem dX10_tell_78 : decode cX10_tell 78 = .ok (.getfield 24, 3) := by decide +kernel
theorem dX10_tell_81 : decode cX10_tell 81 = .ok (.getfield 126, 3) := by decide +kernel
theorem dX10_tell_84 : decode cX10_tell 84 = .ok (.ireturn, 1) := by decide +kernel
set_option maxRecDepth 20000 in
theorem ggX10_check_X0_begin : GoodIn wsX10_check wsX0_begin := goodIn_r _ [11, 12, 13, 14, 15, 16, 17, 18, 19, 20, 21, 22, 23, 10, 24, 25, 26, 27, 28, 29, 30, 31, 32, 33, 34, 35, 36, 37, 38, 39, 40, 41, 42, 43, 44, 45, 46, 47, 48, 49, 50, 51, 52, 53, 54, 55, 56, 57, 58, 59, 60, 61, 62, 63, 64, 65, 66, 67, 68, 69, 70, 71, 72, 571, 572, 573, 574, 575, 576, 577, 578, 579, 580, 581, 590, 591, 592, 593, 594, 595, 596, 597, 598, 599, 600, 601, 602, 603, 604, 605, 606, 607, 608, 609, 610, 611, 612, 613, 614, 615, 582, 583, 584, 585, 586, 587, 588, 589] (by decide +kernel) (by decide +kernel)
set_option maxRecDepth 20000 in
theorem gX10_check_X0_begin : GoodIn wsX10_check (wsV RX10 28 RX0 yX0_begin wsX0_begin) := goodIn_app (goodIn_of _ (by decide +kernel)) ggX10_check_X0_begin
set_option maxRecDepth 20000 in
theorem ggX10_check_X3_at : GoodIn wsX10_check wsX3_at := goodIn_r _ [77, 78, 79, 80, 590, 591, 592, 593] (by decide +kernel) (by decide +kernel)
set_option maxRecDepth 20000 in
theorem gX10_check_X3_at : GoodIn wsX10_check (wsV RX10 86 RX3 yX3_at wsX3_at) := goodIn_app (goodIn_of _ (by decide +kernel)) ggX10_check_X3_at
set_option maxRecDepth 20000 in
theorem ggX10_check_X10_canBeDone : GoodIn wsX10_check wsX10_canBeDone := goodIn_r _ [85, 5, 86, 73, 74, 75, 76, 77, 78, 79, 80, 566, 567, 568, 569, 570, 590, 591, 592, 593] (by decide +kernel) (by decide +kernel)
set_option maxRecDepth 20000 in
theorem gX10_check_X10_canBeDone : GoodIn wsX10_check (wsV RX10 154 RX10 yX10_canBeDone wsX10_canBeDone) := goodIn_app (goodIn_of _ (by decide +kernel)) ggX10_check_X10_canBeDone
set_option maxRecDepth 20000 in
theorem ggX10_check_X0_enact : GoodIn wsX10_check wsX0_enact := goodIn_r _ [90, 20, 13, 25, 32, 91, 92, 93, 94, 95, 96, 97, 98, 99, 100, 101, 102, 103, 104, 105, 106, 55, 107, 57, 66, 108, 109, 110, 111, 112, 113, 114, 115, 116, 117, 118, 119, 120, 121, 122, 123, 124, 125, 126, 127, 128, 129, 130, 42, 131, 44, 132, 133, 134, 135, 45, 136, 137, 138, 139, 140, 141, 142, 143, 68, 144, 145, 146, 147, 148, 149, 150, 151, 152, 153, 154, 155, 156, 157, 158, 159, 160, 161, 162, 163, 164, 165, 166, 167, 168, 169, 170, 171, 172, 173, 174, 175, 176, 177, 178, 179, 180, 10, 181, 27, 182, 183, 184, 185, 186, 187, 188, 189, 190, 191, 192, 193, 194, 195, 196, 197, 198, 199, 200, 201, 202, 203, 204, 205, 206, 207, 208, 209, 210, 211, 212, 213, 214, 215, 216, 217, 218, 219, 220, 221, 222, 223, 224, 225, 226, 227, 67, 58, 228, 229, 230, 231, 232, 233, 234, 235, 236, 237, 238, 239, 240, 241, 242, 243, 244, 245, 246, 247, 248, 249, 250, 251, 252, 253, 254, 255, 256, 257, 258, 259, 260, 261, 262, 263, 264, 265, 266, 267, 76, 268, 78, 269, 270, 271, 272, 273, 274, 275, 276, 277, 278, 279, 280, 281, 282, 283, 284, 285, 286, 287, 288, 289, 290, 291, 292, 293, 294, 295, 296, 297, 298, 60, 299, 300, 301, 302, 61, 303, 304, 305, 306, 307, 308, 309, 310, 311, 312, 313, 314, 315, 316, 317, 318, 319, 47, 48, 49, 50, 51, 28, 29, 30, 31, 33, 34, 35, 36, 37, 38, 39, 40, 41, 43, 320, 321, 322, 323, 324, 325, 326, 327, 328, 329, 330, 331, 332, 333, 334, 335, 336, 337, 338, 339, 340, 341, 342, 343, 344, 345, 346, 347, 348, 349, 350, 351, 352, 353, 354, 355, 356, 357, 358, 359, 360, 361, 362, 363, 71, 364, 365, 366, 367, 368, 369, 370, 371, 372, 373, 374, 375, 376, 377, 378, 379, 380, 381, 382, 383, 384, 385, 386, 387, 388, 389, 390, 391, 392, 393, 394, 395, 396, 397, 398, 399, 400, 401, 402, 403, 404, 405, 406, 407, 408, 409, 410, 411, 412, 413, 414, 415, 416, 417, 418, 419, 420, 421, 422, 423, 424, 425, 426, 427, 428, 429, 430, 431, 432, 433, 434, 435, 436, 437, 438, 439, 440, 441, 442, 443, 444, 445, 446, 447, 448, 449, 450, 451, 452, 453, 454, 455, 456, 457, 458, 459, 460, 461, 462, 463, 464, 465, 466, 467, 468, 469, 470, 471, 472, 473, 474, 79, 80, 475, 476, 477, 478, 479, 480, 481, 482, 483, 484, 485, 486, 487, 488, 489, 490, 491, 492, 493, 494, 495, 496, 497, 498, 499, 500, 501, 502, 503, 504, 505, 506, 507, 508, 509, 510, 511, 512, 513, 514, 515, 516, 517, 518, 519, 520, 521, 522, 523, 524, 525, 526, 527, 528, 529, 530, 531, 532, 533, 534, 535, 536, 537, 538, 63, 64, 65, 539, 540, 541, 542, 543, 544, 545, 546, 547, 548, 549, 550, 551, 552, 553, 554, 555, 556, 557, 558, 559, 560, 561, 562, 563, 564, 565, 571, 572, 573, 574, 575, 576, 577, 578, 579, 580, 581, 596, 597, 582, 583, 584, 585, 586, 587, 588, 589, 598, 599, 600, 601, 602, 603, 604, 605, 606, 607, 608, 609, 610, 611, 612, 613, 614, 615, 594, 595, 590, 591, 592, 593] (by decide +kernel) (by decide +kernel)
set_option maxRecDepth 20000 in
theorem gX10_check_X0_enact : GoodIn wsX10_check (wsV RX10 32 RX0 yX0_enact wsX0_enact) := goodIn_app (goodIn_of _ (by decide +kernel)) ggX10_check_X0_enact
theorem dX10_check_0 : decode cX10_check 0 = .ok (.aload_n 0, 1) := by decide +kernel
theorem dX10_check_1 : decode cX10_check 1 = .ok (.getfield 16, 3) := by decide +kernel
theorem dX10_check_4 : decode cX10_check 4 = .ok (.aload_n 0, 1) := by decide +kernel
theorem dX10_check_5 : decode cX10_check 5 = .ok (.getfield 10, 3) := by decide +kernel
theorem dX10_check_8 : decode cX10_check 8 = .ok (.getfield 88, 3) := by decide +kernel
theorem dX10_check_11 : decode cX10_check 11 = .ok (.getfield 92, 3) := by decide +kernel
theorem dX10_check_14 : decode cX10_check 14 = .ok (.invokevirtual 28, 3) := by decide +kernel
theorem dX10_check_17 : decode cX10_check 17 = .ok (.iconst 0, 1) := by decide +kernel
theorem dX10_check_18 : decode cX10_check 18 = .ok (.istore_n 1, 1) := by decide +kernel
theorem dX10_check_19 : decode cX10_check 19 = .ok (.iload_n 1, 1) := by decide +kernel
theorem dX10_check_20 : decode cX10_check 20 = .ok (.aload_n 0, 1) := by decide +kernel
theorem dX10_check_21 : decode cX10_check 21 = .ok (.getfield 24, 3) := by decide +kernel
theorem dX10_check_24 : decode cX10_check 24 = .ok (.getfield 126, 3) := by decide +kernel
theorem dX10_check_27 : decode cX10_check 27 = .ok (.if_icmp .ge 93, 3) := by decide +kernel
theorem dX10_check_30 : decode cX10_check 30 = .ok (.aload_n 0, 1) := by decide +kernel
theorem dX10_check_31 : decode cX10_check 31 = .ok (.getfield 24, 3) := by decide +kernel
theorem dX10_check_34 : decode cX10_check 34 = .ok (.iload_n 1, 1) := by decide +kernel
theorem dX10_check_35 : decode cX10_check 35 = .ok (.iconst 5, 1) := by decide +kernel
theorem dX10_check_36 : decode cX10_check 36 = .ok (.invokevirtual 86, 3) := by decide +kernel
theorem dX10_check_39 : decode cX10_check 39 = .ok (.istore_n 2, 1) := by decide +kernel
theorem dX10_check_40 : decode cX10_check 40 = .ok (.iload_n 2, 1) := by decide +kernel
theorem dX10_check_41 : decode cX10_check 41 = .ok (.ifCond .lt 11, 3) := by decide +kernel
theorem dX10_check_44 : decode cX10_check 44 = .ok (.aload_n 0, 1) := by decide +kernel
theorem dX10_check_45 : decode cX10_check 45 = .ok (.iload_n 1, 1) := by decide +kernel
theorem dX10_check_46 : decode cX10_check 46 = .ok (.invokevirtual 154, 3) := by decide +kernel
theorem dX10_check_49 : decode cX10_check 49 = .ok (.ifCond .ne 5, 3) := by decide +kernel
theorem dX10_check_52 : decode cX10_check 52 = .ok (.iload_n 1, 1) := by decide +kernel
theorem dX10_check_53 : decode cX10_check 53 = .ok (.ireturn, 1) := by decide +kernel
theorem dX10_check_54 : decode cX10_check 54 = .ok (.aload_n 0, 1) := by decide +kernel
theorem dX10_check_55 : decode cX10_check 55 = .ok (.getfield 16, 3) := by decide +kernel
theorem dX10_check_58 : decode cX10_check 58 = .ok (.aload_n 0, 1) := by decide +kernel
theorem dX10_check_59 : decode cX10_check 59 = .ok (.getfield 24, 3) := by decide +kernel
theorem dX10_check_62 : decode cX10_check 62 = .ok (.iload_n 1, 1) := by decide +kernel
theorem dX10_check_63 : decode cX10_check 63 = .ok (.iconst 0, 1) := by decide +kernel
theorem dX10_check_64 : decode cX10_check 64 = .ok (.invokevirtual 86, 3) := by decide +kernel
theorem dX10_check_67 : decode cX10_check 67 = .ok (.aload_n 0, 1) := by decide +kernel
theorem dX10_check_68 : decode cX10_check 68 = .ok (.getfield 24, 3) := by decide +kernel
theorem dX10_check_71 : decode cX10_check 71 = .ok (.iload_n 1, 1) := by decide +kernel
theorem dX10_check_72 : decode cX10_check 72 = .ok (.iconst 1, 1) := by decide +kernel
theorem dX10_check_73 : decode cX10_check 73 = .ok (.invokevirtual 86, 3) := by decide +kernel
theorem dX10_check_76 : decode cX10_check 76 = .ok (.aload_n 0, 1) := by decide +kernel
theorem dX10_check_77 : decode cX10_check 77 = .ok (.getfield 24, 3) := by decide +kernel
theorem dX10_check_80 : decode cX10_check 80 = .ok (.iload_n 1, 1) := by decide +kernel
theorem dX10_check_81 : decode cX10_check 81 = .ok (.iconst 2, 1) := by decide +kernel
theorem dX10_check_82 : decode cX10_check 82 = .ok (.invokevirtual 86, 3) := by decide +kernel
theorem dX10_check_85 : decode cX10_check 85 = .ok (.aload_n 0, 1) := by decide +kernel
theorem dX10_check_86 : decode cX10_check 86 = .ok (.getfield 24, 3) := by decide +kernel
theorem dX10_check_89 : decode cX10_check 89 = .ok (.iload_n 1, 1) := by decide +kernel
theorem dX10_check_90 : decode cX10_check 90 = .ok (.iconst 3, 1) := by decide +kernel
theorem dX10_check_91 : decode cX10_check 91 = .ok (.invokevirtual 86, 3) := by decide +kernel
theorem dX10_check_94 : decode cX10_check 94 = .ok (.aload_n 0, 1) := by decide +kernel
theorem dX10_check_95 : decode cX10_check 95 = .ok (.getfield 24, 3) := by decide +kernel
theorem dX10_check_98 : decode cX10_check 98 = .ok (.iload_n 1, 1) := by decide +kernel
theorem dX10_check_99 : decode cX10_check 99 = .ok (.iconst 4, 1) := by decide +kernel
theorem dX10_check_100 : decode cX10_check 100 = .ok (.invokevirtual 86, 3) := by decide +kernel
theorem dX10_check_103 : decode cX10_check 103 = .ok (.invokevirtual 32, 3) := by decide +kernel
theorem dX10_check_106 : decode cX10_check 106 = .ok (.istore_n 3, 1) := by decide +kernel
theorem dX10_check_107 : decode cX10_check 107 = .ok (.iload_n 3, 1) := by decide +kernel
theorem dX10_check_108 : decode cX10_check 108 = .ok (.iload_n 2, 1) := by decide +kernel
theorem dX10_check_109 : decode cX10_check 109 = .ok (.if_icmp .eq 5, 3) := by decide +kernel
theorem dX10_check_112 : decode cX10_check 112 = .ok (.iload_n 1, 1) := by decide +kernel
theorem dX10_check_113 : decode cX10_check 113 = .ok (.ireturn, 1) := by decide +kernel
theorem dX10_check_114 : decode cX10_check 114 = .ok (.iinc 1 1, 3) := by decide +kernel
theorem dX10_check_117 : decode cX10_check 117 = .ok (.goto (-98), 3) := by decide +kernel
theorem dX10_check_120 : decode cX10_check 120 = .ok (.iconst (-1), 1) := by decide +kernel
theorem dX10_check_121 : decode cX10_check 121 = .ok (.ireturn, 1) := by decide +kernel
theorem dX10_strike_0 : decode cX10_strike 0 = .ok (.aload_n 0, 1) := by decide +kernel
theorem dX10_strike_1 : decode cX10_strike 1 = .ok (.getfield 24, 3) := by decide +kernel
theorem dX10_strike_4 : decode cX10_strike 4 = .ok (.getfield 126, 3) := by decide +kernel
theorem dX10_strike_7 : decode cX10_strike 7 = .ok (.istore_n 1, 1) := by decide +kernel
theorem dX10_strike_8 : decode cX10_strike 8 = .ok (.aload_n 0, 1) := by decide +kernel
theorem dX10_strike_9 : decode cX10_strike 9 = .ok (.getfield 24, 3) := by decide +kernel
theorem dX10_strike_12 : decode cX10_strike 12 = .ok (.iconst 0, 1) := by decide +kernel
theorem dX10_strike_13 : decode cX10_strike 13 = .ok (.putfield 126, 3) := by decide +kernel
theorem dX10_strike_16 : decode cX10_strike 16 = .ok (.iload_n 1, 1) := by decide +kernel
theorem dX10_strike_17 : decode cX10_strike 17 = .ok (.ireturn, 1) := by decide +kernel
set_option maxRecDepth 20000 in
theorem ggX10_image_X10_imageOfNow : GoodIn wsX10_image wsX10_imageOfNow := goodIn_r _ [10, 11, 12, 13, 3, 14, 15, 16, 17, 18, 19, 20, 21, 22, 23, 24, 25, 26, 27, 28, 29, 30, 31, 32, 33, 34, 35, 36, 37, 38, 39, 40, 41, 42, 43, 44, 45, 46, 47, 48, 49, 50, 51, 52, 53, 54, 55, 56, 57, 58, 59, 60, 61, 62, 63, 64, 65, 66, 67, 68, 69, 70, 71, 72, 73, 74, 75, 76, 77, 78, 79, 80, 81, 82, 83, 84, 85, 86, 87, 88, 89, 90, 91, 92, 93, 94, 95, 96, 97, 98, 99, 100, 101, 102, 103, 104, 105, 106, 107, 108, 109, 110, 111, 112, 113, 114, 115, 116, 117, 118, 119, 120, 121, 122, 123, 124, 125, 126, 127, 128, 129, 130, 131, 132, 133, 134, 135, 136, 137, 138, 139, 140, 141, 142, 143, 144, 145, 146, 147, 148, 149, 150, 151, 152, 153, 154, 155, 156, 157, 158, 159, 160, 161, 162, 163, 164, 165, 166, 167, 168, 169, 170, 171, 172, 173, 174, 175, 176, 177, 178, 179, 180, 181, 182, 183, 184, 185, 186, 187, 188, 189, 190, 191, 192, 193, 194, 195, 196, 197, 198, 199, 200, 201, 202, 203, 204, 205, 206, 207, 208, 209, 210, 211, 212, 213, 214, 215, 216, 217, 218, 219, 220, 221, 222, 223, 229, 230, 231, 232, 233, 234, 235, 236, 237, 238, 239, 224, 225, 226, 227, 228, 244, 245, 246, 247, 248, 249, 250, 251, 252, 253, 254, 255, 240, 241, 242, 243, 256, 257, 258, 259, 260, 261, 262, 263, 264, 265, 266, 267, 268, 269, 270, 271, 272, 273] (by decide +kernel) (by decide +kernel)
set_option maxRecDepth 20000 in
theorem gX10_image_X10_imageOfNow : GoodIn wsX10_image (wsV RX10 160 RX10 yX10_imageOfNow wsX10_imageOfNow) := goodIn_app (goodIn_of _ (by decide +kernel)) ggX10_image_X10_imageOfNow
theorem dX10_image_0 : decode cX10_image 0 = .ok (.iload_n 1, 1) := by decide +kernel
theorem dX10_image_1 : decode cX10_image 1 = .ok (.ifCond .ne 18, 3) := by decide +kernel
theorem dX10_image_4 : decode cX10_image 4 = .ok (.aload_n 0, 1) := by decide +kernel
theorem dX10_image_5 : decode cX10_image 5 = .ok (.aload_n 0, 1) := by decide +kernel
theorem dX10_image_6 : decode cX10_image 6 = .ok (.aload_n 0, 1) := by decide +kernel
theorem dX10_image_7 : decode cX10_image 7 = .ok (.getfield 157, 3) := by decide +kernel
theorem dX10_image_10 : decode cX10_image 10 = .ok (.invokevirtual 160, 3) := by decide +kernel
theorem dX10_image_13 : decode cX10_image 13 = .ok (.putfield 157, 3) := by decide +kernel
theorem dX10_image_16 : decode cX10_image 16 = .ok (.goto 26, 3) := by decide +kernel
theorem dX10_image_19 : decode cX10_image 19 = .ok (.iload_n 1, 1) := by decide +kernel
theorem dX10_image_20 : decode cX10_image 20 = .ok (.iconst 1, 1) := by decide +kernel
