theorem dX0_init_0 : decode cX0_init 0 = .ok (.aload_n 0, 1) := by decide +kernel
theorem dX0_init_1 : decode cX0_init 1 = .ok (.invokespecial 3, 3) := by decide +kernel
theorem dX0_init_4 : decode cX0_init 4 = .ok (.aload_n 0, 1) := by decide +kernel
theorem dX0_init_5 : decode cX0_init 5 = .ok (.new 9, 3) := by decide +kernel
theorem dX0_init_8 : decode cX0_init 8 = .ok (.dup, 1) := by decide +kernel
theorem dX0_init_9 : decode cX0_init 9 = .ok (.invokespecial 11, 3) := by decide +kernel
theorem dX0_init_12 : decode cX0_init 12 = .ok (.putfield 12, 3) := by decide +kernel
theorem dX0_init_15 : decode cX0_init 15 = .ok (.aload_n 0, 1) := by decide +kernel
theorem dX0_init_16 : decode cX0_init 16 = .ok (.new 18, 3) := by decide +kernel
theorem dX0_init_19 : decode cX0_init 19 = .ok (.dup, 1) := by decide +kernel
theorem dX0_init_20 : decode cX0_init 20 = .ok (.invokespecial 20, 3) := by decide +kernel
theorem dX0_init_23 : decode cX0_init 23 = .ok (.putfield 21, 3) := by decide +kernel
theorem dX0_init_26 : decode cX0_init 26 = .ok (.aload_n 0, 1) := by decide +kernel
theorem dX0_init_27 : decode cX0_init 27 = .ok (.new 25, 3) := by decide +kernel
theorem dX0_init_30 : decode cX0_init 30 = .ok (.dup, 1) := by decide +kernel
theorem dX0_init_31 : decode cX0_init 31 = .ok (.invokespecial 27, 3) := by decide +kernel
theorem dX0_init_34 : decode cX0_init 34 = .ok (.putfield 28, 3) := by decide +kernel
theorem dX0_init_37 : decode cX0_init 37 = .ok (.aload_n 0, 1) := by decide +kernel
theorem dX0_init_38 : decode cX0_init 38 = .ok (.bipush 8, 2) := by decide +kernel
theorem dX0_init_40 : decode cX0_init 40 = .ok (.anewarray 25, 3) := by decide +kernel
theorem dX0_init_43 : decode cX0_init 43 = .ok (.putfield 32, 3) := by decide +kernel
theorem dX0_init_46 : decode cX0_init 46 = .ok (.aload_n 0, 1) := by decide +kernel
theorem dX0_init_47 : decode cX0_init 47 = .ok (.new 36, 3) := by decide +kernel
theorem dX0_init_50 : decode cX0_init 50 = .ok (.dup, 1) := by decide +kernel
theorem dX0_init_51 : decode cX0_init 51 = .ok (.bipush 7, 2) := by decide +kernel
theorem dX0_init_53 : decode cX0_init 53 = .ok (.sipush 600, 3) := by decide +kernel
theorem dX0_init_56 : decode cX0_init 56 = .ok (.invokespecial 38, 3) := by decide +kernel
theorem dX0_init_59 : decode cX0_init 59 = .ok (.putfield 41, 3) := by decide +kernel
theorem dX0_init_62 : decode cX0_init 62 = .ok (.aload_n 0, 1) := by decide +kernel
theorem dX0_init_63 : decode cX0_init 63 = .ok (.new 36, 3) := by decide +kernel
theorem dX0_init_66 : decode cX0_init 66 = .ok (.dup, 1) := by decide +kernel
theorem dX0_init_67 : decode cX0_init 67 = .ok (.iconst 5, 1) := by decide +kernel
theorem dX0_init_68 : decode cX0_init 68 = .ok (.sipush 600, 3) := by decide +kernel
theorem dX0_init_71 : decode cX0_init 71 = .ok (.invokespecial 38, 3) := by decide +kernel
theorem dX0_init_74 : decode cX0_init 74 = .ok (.putfield 45, 3) := by decide +kernel
theorem dX0_init_77 : decode cX0_init 77 = .ok (.aload_n 0, 1) := by decide +kernel
theorem dX0_init_78 : decode cX0_init 78 = .ok (.new 48, 3) := by decide +kernel
theorem dX0_init_81 : decode cX0_init 81 = .ok (.dup, 1) := by decide +kernel
theorem dX0_init_82 : decode cX0_init 82 = .ok (.invokespecial 50, 3) := by decide +kernel
theorem dX0_init_85 : decode cX0_init 85 = .ok (.putfield 51, 3) := by decide +kernel
theorem dX0_init_88 : decode cX0_init 88 = .ok (.iconst 0, 1) := by decide +kernel
theorem dX0_init_89 : decode cX0_init 89 = .ok (.istore_n 1, 1) := by decide +kernel
theorem dX0_init_90 : decode cX0_init 90 = .ok (.iload_n 1, 1) := by decide +kernel
theorem dX0_init_91 : decode cX0_init 91 = .ok (.bipush 8, 2) := by decide +kernel
theorem dX0_init_93 : decode cX0_init 93 = .ok (.if_icmp .ge 22, 3) := by decide +kernel
theorem dX0_init_96 : decode cX0_init 96 = .ok (.aload_n 0, 1) := by decide +kernel
theorem dX0_init_97 : decode cX0_init 97 = .ok (.getfield 32, 3) := by decide +kernel
theorem dX0_init_100 : decode cX0_init 100 = .ok (.iload_n 1, 1) := by decide +kernel
theorem dX0_init_101 : decode cX0_init 101 = .ok (.new 25, 3) := by decide +kernel
theorem dX0_init_104 : decode cX0_init 104 = .ok (.dup, 1) := by decide +kernel
theorem dX0_init_105 : decode cX0_init 105 = .ok (.invokespecial 27, 3) := by decide +kernel
theorem dX0_init_108 : decode cX0_init 108 = .ok (.aastore, 1) := by decide +kernel
theorem dX0_init_109 : decode cX0_init 109 = .ok (.iinc 1 1, 3) := by decide +kernel
theorem dX0_init_112 : decode cX0_init 112 = .ok (.goto (-22), 3) := by decide +kernel
theorem dX0_init_115 : decode cX0_init 115 = .ok (.aload_n 0, 1) := by decide +kernel
theorem dX0_init_116 : decode cX0_init 116 = .ok (.getfield 12, 3) := by decide +kernel
theorem dX0_init_119 : decode cX0_init 119 = .ok (.iconst 1, 1) := by decide +kernel
theorem dX0_init_120 : decode cX0_init 120 = .ok (.invokevirtual 55, 3) := by decide +kernel
theorem dX0_init_123 : decode cX0_init 123 = .ok (.return_, 1) := by decide +kernel
set_option maxRecDepth 20000 in
theorem ggX0_begin_X0_clear : GoodIn wsX0_begin wsX0_clear := goodIn_r _ [14, 15, 16, 17, 18, 19, 20, 13, 21, 22, 23, 24, 25, 26, 27, 28, 29, 30, 31, 32, 33, 34, 35, 36, 37, 38, 39, 40, 41, 63, 64, 65, 66, 67, 68, 69, 70, 71, 72, 73, 80, 81, 82, 83, 84, 85, 86, 87, 88, 89, 90, 91, 92, 93, 94, 95, 96, 97, 98, 99] (by decide +kernel) (by decide +kernel)
set_option maxRecDepth 20000 in
theorem gX0_begin_X0_clear : GoodIn wsX0_begin (wsV RX0 59 RX0 yX0_clear wsX0_clear) := goodIn_app (goodIn_of _ (by decide +kernel)) ggX0_begin_X0_clear
set_option maxRecDepth 20000 in
theorem ggX0_begin_X2_begin : GoodIn wsX0_begin wsX2_begin := goodIn_r _ [46, 47, 48, 49, 50, 51, 52, 53, 54, 45, 55, 56, 57, 58, 59, 60, 61, 62, 100, 101, 102, 103, 104, 105, 106, 107] (by decide +kernel) (by decide +kernel)
set_option maxRecDepth 20000 in
theorem gX0_begin_X2_begin : GoodIn wsX0_begin (wsV RX0 55 RX2 yX2_begin wsX2_begin) := goodIn_app (goodIn_of _ (by decide +kernel)) ggX0_begin_X2_begin
theorem dX0_begin_0 : decode cX0_begin 0 = .ok (.aload_n 0, 1) := by decide +kernel
theorem dX0_begin_1 : decode cX0_begin 1 = .ok (.invokevirtual 59, 3) := by decide +kernel
theorem dX0_begin_4 : decode cX0_begin 4 = .ok (.aload_n 0, 1) := by decide +kernel
theorem dX0_begin_5 : decode cX0_begin 5 = .ok (.getfield 12, 3) := by decide +kernel
theorem dX0_begin_8 : decode cX0_begin 8 = .ok (.iload_n 1, 1) := by decide +kernel
theorem dX0_begin_9 : decode cX0_begin 9 = .ok (.invokevirtual 55, 3) := by decide +kernel
theorem dX0_begin_12 : decode cX0_begin 12 = .ok (.aload_n 0, 1) := by decide +kernel
theorem dX0_begin_13 : decode cX0_begin 13 = .ok (.getfield 41, 3) := by decide +kernel
theorem dX0_begin_16 : decode cX0_begin 16 = .ok (.iconst 0, 1) := by decide +kernel
theorem dX0_begin_17 : decode cX0_begin 17 = .ok (.putfield 62, 3) := by decide +kernel
theorem dX0_begin_20 : decode cX0_begin 20 = .ok (.aload_n 0, 1) := by decide +kernel
theorem dX0_begin_21 : decode cX0_begin 21 = .ok (.getfield 45, 3) := by decide +kernel
theorem dX0_begin_24 : decode cX0_begin 24 = .ok (.iconst 0, 1) := by decide +kernel
theorem dX0_begin_25 : decode cX0_begin 25 = .ok (.putfield 62, 3) := by decide +kernel
theorem dX0_begin_28 : decode cX0_begin 28 = .ok (.aload_n 0, 1) := by decide +kernel
theorem dX0_begin_29 : decode cX0_begin 29 = .ok (.getfield 51, 3) := by decide +kernel
theorem dX0_begin_32 : decode cX0_begin 32 = .ok (.iconst 0, 1) := by decide +kernel
theorem dX0_begin_33 : decode cX0_begin 33 = .ok (.putfield 66, 3) := by decide +kernel
theorem dX0_begin_36 : decode cX0_begin 36 = .ok (.aload_n 0, 1) := by decide +kernel
theorem dX0_begin_37 : decode cX0_begin 37 = .ok (.iconst 0, 1) := by decide +kernel
theorem dX0_begin_38 : decode cX0_begin 38 = .ok (.putfield 67, 3) := by decide +kernel
theorem dX0_begin_41 : decode cX0_begin 41 = .ok (.aload_n 0, 1) := by decide +kernel
theorem dX0_begin_42 : decode cX0_begin 42 = .ok (.iconst 0, 1) := by decide +kernel
theorem dX0_begin_43 : decode cX0_begin 43 = .ok (.putfield 70, 3) := by decide +kernel
theorem dX0_begin_46 : decode cX0_begin 46 = .ok (.aload_n 0, 1) := by decide +kernel
theorem dX0_begin_47 : decode cX0_begin 47 = .ok (.iconst 0, 1) := by decide +kernel
theorem dX0_begin_48 : decode cX0_begin 48 = .ok (.putfield 73, 3) := by decide +kernel
theorem dX0_begin_51 : decode cX0_begin 51 = .ok (.return_, 1) := by decide +kernel
set_option maxRecDepth 20000 in
theorem ggX0_become_X0_clear : GoodIn wsX0_become wsX0_clear := goodIn_r _ [17, 2, 3, 6, 18, 19, 20, 16, 21, 22, 23, 24, 25, 26, 27, 28, 29, 30, 31, 32, 33, 34, 35, 36, 37, 38, 39, 5, 4, 165, 166, 167, 168, 169, 170, 171, 172, 173, 174, 175, 178, 179, 180, 181, 182, 183, 184, 185, 186, 187, 188, 189, 190, 191, 192, 193, 194, 195, 176, 177] (by decide +kernel) (by decide +kernel)
set_option maxRecDepth 20000 in
theorem gX0_become_X0_clear : GoodIn wsX0_become (wsV RX0 59 RX0 yX0_clear wsX0_clear) := goodIn_app (goodIn_of _ (by decide +kernel)) ggX0_become_X0_clear
set_option maxRecDepth 20000 in
theorem ggX0_become_X2_become : GoodIn wsX0_become wsX2_become := goodIn_r _ [44, 45, 46, 47, 48, 49, 50, 51, 52, 53, 54, 55, 56, 196, 197, 198, 199, 200, 201, 202, 203] (by decide +kernel) (by decide +kernel)
set_option maxRecDepth 20000 in
theorem gX0_become_X2_become : GoodIn wsX0_become (wsV RX0 76 RX2 yX2_become wsX2_become) := goodIn_app (goodIn_of _ (by decide +kernel)) ggX0_become_X2_become
set_option maxRecDepth 20000 in
theorem ggX0_become_X0_copy : GoodIn wsX0_become wsX0_copy := goodIn_r _ [60, 22, 61, 62, 63, 64, 32, 65, 34, 35, 66, 67, 68, 16, 69, 27, 70, 71, 72, 28, 73, 74, 75, 76, 77, 78, 79, 80, 81, 82, 83, 84, 85, 86, 87, 88, 89, 90, 91, 92, 93, 94, 95, 96, 97, 98, 99, 100, 101, 102, 103, 104, 105, 106, 107, 108, 109, 110, 111, 112, 113, 114, 115, 116, 117, 118, 119, 54, 55, 56, 120, 121, 122, 123, 124, 125, 126, 127, 128, 129, 130, 131, 132, 133, 134, 135, 136, 178, 179, 180, 181, 182, 183, 184, 185, 186, 187, 188, 189, 190, 191, 192, 193, 194, 195, 165, 166, 167, 168, 169, 170, 171, 172, 173, 174, 175, 204, 205] (by decide +kernel) (by decide +kernel)
set_option maxRecDepth 20000 in
theorem gX0_become_X0_copy : GoodIn wsX0_become (wsV RX0 80 RX0 yX0_copy wsX0_copy) := goodIn_app (goodIn_of _ (by decide +kernel)) ggX0_become_X0_copy
set_option maxRecDepth 20000 in
theorem ggX0_become_X3_become : GoodIn wsX0_become wsX3_become := goodIn_r _ [141, 142, 143, 144, 126, 127, 128, 145, 146, 147, 54, 55, 56, 148, 149, 150, 140, 151, 152, 130, 131, 153, 154, 113, 155, 156, 157, 158, 159, 160, 161, 87, 162, 163, 206, 207, 208, 209] (by decide +kernel) (by decide +kernel)
set_option maxRecDepth 20000 in
theorem gX0_become_X3_become : GoodIn wsX0_become (wsV RX0 90 RX3 yX3_become wsX3_become) := goodIn_app (goodIn_of _ (by decide +kernel)) ggX0_become_X3_become
set_option maxRecDepth 20000 in
theorem ggX0_become_X9_become : GoodIn wsX0_become wsX9_become := goodIn_r _ [123, 124, 88, 125, 126, 127, 128, 129, 130, 131, 132, 54, 55, 56, 204, 205] (by decide +kernel) (by decide +kernel)
set_option maxRecDepth 20000 in
theorem gX0_become_X9_become : GoodIn wsX0_become (wsV RX0 93 RX9 yX9_become wsX9_become) := goodIn_app (goodIn_of _ (by decide +kernel)) ggX0_become_X9_become
theorem dX0_become_0 : decode cX0_become 0 = .ok (.aload_n 0, 1) := by decide +kernel
theorem dX0_become_1 : decode cX0_become 1 = .ok (.invokevirtual 59, 3) := by decide +kernel
theorem dX0_become_4 : decode cX0_become 4 = .ok (.aload_n 0, 1) := by decide +kernel
theorem dX0_become_5 : decode cX0_become 5 = .ok (.getfield 12, 3) := by decide +kernel
theorem dX0_become_8 : decode cX0_become 8 = .ok (.aload_n 1, 1) := by decide +kernel
theorem dX0_become_9 : decode cX0_become 9 = .ok (.getfield 12, 3) := by decide +kernel
theorem dX0_become_12 : decode cX0_become 12 = .ok (.invokevirtual 76, 3) := by decide +kernel
theorem dX0_become_15 : decode cX0_become 15 = .ok (.aload_n 0, 1) := by decide +kernel
theorem dX0_become_16 : decode cX0_become 16 = .ok (.aload_n 1, 1) := by decide +kernel
theorem dX0_become_17 : decode cX0_become 17 = .ok (.getfield 21, 3) := by decide +kernel
theorem dX0_become_20 : decode cX0_become 20 = .ok (.aload_n 0, 1) := by decide +kernel
theorem dX0_become_21 : decode cX0_become 21 = .ok (.getfield 21, 3) := by decide +kernel
theorem dX0_become_24 : decode cX0_become 24 = .ok (.invokevirtual 80, 3) := by decide +kernel
theorem dX0_become_27 : decode cX0_become 27 = .ok (.aload_n 0, 1) := by decide +kernel
theorem dX0_become_28 : decode cX0_become 28 = .ok (.getfield 28, 3) := by decide +kernel
theorem dX0_become_31 : decode cX0_become 31 = .ok (.aload_n 1, 1) := by decide +kernel
theorem dX0_become_32 : decode cX0_become 32 = .ok (.getfield 28, 3) := by decide +kernel
theorem dX0_become_35 : decode cX0_become 35 = .ok (.getfield 84, 3) := by decide +kernel
theorem dX0_become_38 : decode cX0_become 38 = .ok (.putfield 84, 3) := by decide +kernel
theorem dX0_become_41 : decode cX0_become 41 = .ok (.aload_n 0, 1) := by decide +kernel
theorem dX0_become_42 : decode cX0_become 42 = .ok (.aload_n 1, 1) := by decide +kernel
theorem dX0_become_43 : decode cX0_become 43 = .ok (.getfield 28, 3) := by decide +kernel
theorem dX0_become_46 : decode cX0_become 46 = .ok (.getfield 87, 3) := by decide +kernel
theorem dX0_become_49 : decode cX0_become 49 = .ok (.aload_n 0, 1) := by decide +kernel
theorem dX0_become_50 : decode cX0_become 50 = .ok (.getfield 28, 3) := by decide +kernel
theorem dX0_become_53 : decode cX0_become 53 = .ok (.getfield 87, 3) := by decide +kernel
theorem dX0_become_56 : decode cX0_become 56 = .ok (.invokevirtual 80, 3) := by decide +kernel
theorem dX0_become_59 : decode cX0_become 59 = .ok (.iconst 0, 1) := by decide +kernel
theorem dX0_become_60 : decode cX0_become 60 = .ok (.istore_n 2, 1) := by decide +kernel
theorem dX0_become_61 : decode cX0_become 61 = .ok (.iload_n 2, 1) := by decide +kernel
theorem dX0_become_62 : decode cX0_become 62 = .ok (.bipush 8, 2) := by decide +kernel
theorem dX0_become_64 : decode cX0_become 64 = .ok (.if_icmp .ge 49, 3) := by decide +kernel
theorem dX0_become_67 : decode cX0_become 67 = .ok (.aload_n 0, 1) := by decide +kernel
theorem dX0_become_68 : decode cX0_become 68 = .ok (.getfield 32, 3) := by decide +kernel
theorem dX0_become_71 : decode cX0_become 71 = .ok (.iload_n 2, 1) := by decide +kernel
theorem dX0_become_72 : decode cX0_become 72 = .ok (.aaload, 1) := by decide +kernel
theorem dX0_become_73 : decode cX0_become 73 = .ok (.aload_n 1, 1) := by decide +kernel
theorem dX0_become_74 : decode cX0_become 74 = .ok (.getfield 32, 3) := by decide +kernel
theorem dX0_become_77 : decode cX0_become 77 = .ok (.iload_n 2, 1) := by decide +kernel
theorem dX0_become_78 : decode cX0_become 78 = .ok (.aaload, 1) := by decide +kernel
theorem dX0_become_79 : decode cX0_become 79 = .ok (.getfield 84, 3) := by decide +kernel
theorem dX0_become_82 : decode cX0_become 82 = .ok (.putfield 84, 3) := by decide +kernel
theorem dX0_become_85 : decode cX0_become 85 = .ok (.aload_n 0, 1) := by decide +kernel
theorem dX0_become_86 : decode cX0_become 86 = .ok (.aload_n 1, 1) := by decide +kernel
theorem dX0_become_87 : decode cX0_become 87 = .ok (.getfield 32, 3) := by decide +kernel
theorem dX0_become_90 : decode cX0_become 90 = .ok (.iload_n 2, 1) := by decide +kernel
theorem dX0_become_91 : decode cX0_become 91 = .ok (.aaload, 1) := by decide +kernel
theorem dX0_become_92 : decode cX0_become 92 = .ok (.getfield 87, 3) := by decide +kernel
theorem dX0_become_95 : decode cX0_become 95 = .ok (.aload_n 0, 1) := by decide +kernel
theorem dX0_become_96 : decode cX0_become 96 = .ok (.getfield 32, 3) := by decide +kernel
theorem dX0_become_99 : decode cX0_become 99 = .ok (.iload_n 2, 1) := by decide +kernel
theorem dX0_become_100 : decode cX0_become 100 = .ok (.aaload, 1) := by decide +kernel
theorem dX0_become_101 : decode cX0_become 101 = .ok (.getfield 87, 3) := by decide +kernel
theorem dX0_become_104 : decode cX0_become 104 = .ok (.invokevirtual 80, 3) := by decide +kernel
theorem dX0_become_107 : decode cX0_become 107 = .ok (.iinc 2 1, 3) := by decide +kernel
theorem dX0_become_110 : decode cX0_become 110 = .ok (.goto (-49), 3) := by decide +kernel
theorem dX0_become_113 : decode cX0_become 113 = .ok (.aload_n 0, 1) := by decide +kernel
theorem dX0_become_114 : decode cX0_become 114 = .ok (.getfield 41, 3) := by decide +kernel
theorem dX0_become_117 : decode cX0_become 117 = .ok (.aload_n 1, 1) := by decide +kernel
theorem dX0_become_118 : decode cX0_become 118 = .ok (.getfield 41, 3) := by decide +kernel
theorem dX0_become_121 : decode cX0_become 121 = .ok (.invokevirtual 90, 3) := by decide +kernel
theorem dX0_become_124 : decode cX0_become 124 = .ok (.aload_n 0, 1) := by decide +kernel
theorem dX0_become_125 : decode cX0_become 125 = .ok (.getfield 45, 3) := by decide +kernel
theorem dX0_become_128 : decode cX0_become 128 = .ok (.aload_n 1, 1) := by decide +kernel
theorem dX0_become_129 : decode cX0_become 129 = .ok (.getfield 45, 3) := by decide +kernel
theorem dX0_become_132 : decode cX0_become 132 = .ok (.invokevirtual 90, 3) := by decide +kernel
theorem dX0_become_135 : decode cX0_become 135 = .ok (.aload_n 0, 1) := by decide +kernel
theorem dX0_become_136 : decode cX0_become 136 = .ok (.getfield 51, 3) := by decide +kernel
theorem dX0_become_139 : decode cX0_become 139 = .ok (.aload_n 1, 1) := by decide +kernel
theorem dX0_become_140 : decode cX0_become 140 = .ok (.getfield 51, 3) := by decide +kernel
theorem dX0_become_143 : decode cX0_become 143 = .ok (.invokevirtual 93, 3) := by decide +kernel
theorem dX0_become_146 : decode cX0_become 146 = .ok (.aload_n 0, 1) := by decide +kernel
theorem dX0_become_147 : decode cX0_become 147 = .ok (.aload_n 1, 1) := by decide +kernel
theorem dX0_become_148 : decode cX0_become 148 = .ok (.getfield 67, 3) := by decide +kernel
theorem dX0_become_151 : decode cX0_become 151 = .ok (.putfield 67, 3) := by decide +kernel
theorem dX0_become_154 : decode cX0_become 154 = .ok (.aload_n 0, 1) := by decide +kernel
theorem dX0_become_155 : decode cX0_become 155 = .ok (.aload_n 1, 1) := by decide +kernel
theorem dX0_become_156 : decode cX0_become 156 = .ok (.getfield 70, 3) := by decide +kernel
theorem dX0_become_159 : decode cX0_become 159 = .ok (.putfield 70, 3) := by decide +kernel
theorem dX0_become_162 : decode cX0_become 162 = .ok (.aload_n 0, 1) := by decide +kernel
theorem dX0_become_163 : decode cX0_become 163 = .ok (.iconst 0, 1) := by decide +kernel
theorem dX0_become_164 : decode cX0_become 164 = .ok (.putfield 73, 3) := by decide +kernel
theorem dX0_become_167 : decode cX0_become 167 = .ok (.return_, 1) := by decide +kernel
set_option maxRecDepth 20000 in
theorem ggX0_copy_X5_at : GoodIn wsX0_copy wsX5_at := goodIn_r _ [7, 8, 9, 87, 88] (by decide +kernel) (by decide +kernel)
set_option maxRecDepth 20000 in
theorem gX0_copy_X5_at : GoodIn wsX0_copy (wsV RX0 97 RX5 yX5_at wsX5_at) := goodIn_app (goodIn_of _ (by decide +kernel)) ggX0_copy_X5_at
set_option maxRecDepth 20000 in
theorem ggX0_copy_X0_newMotion : GoodIn wsX0_copy wsX0_newMotion := goodIn_r _ [14, 15, 16, 17, 18, 19, 20, 21, 22, 23, 24, 25, 26, 27, 28, 29, 30, 31, 32, 33, 34, 35, 36, 37, 38, 39, 40, 41, 42, 43, 44, 45, 46, 47, 48, 49, 50, 51, 52, 53, 54, 55, 56, 57, 58, 59, 60, 61, 105, 106, 107, 108, 109, 110, 111, 112, 113, 114, 115, 89, 90, 91, 92, 93, 94, 95, 96, 97, 98, 99, 100, 101, 102, 103, 104, 116, 117] (by decide +kernel) (by decide +kernel)
set_option maxRecDepth 20000 in
theorem gX0_copy_X0_newMotion : GoodIn wsX0_copy (wsV RX0 106 RX0 yX0_newMotion wsX0_newMotion) := goodIn_app (goodIn_of _ (by decide +kernel)) ggX0_copy_X0_newMotion
set_option maxRecDepth 20000 in
theorem ggX0_copy_X4_become : GoodIn wsX0_copy wsX4_become := goodIn_r _ [65, 45, 46, 47, 48, 49, 50, 51, 52, 53, 54, 55, 56, 28, 30, 66, 67, 68, 69, 57, 70, 71, 72, 27, 73, 74, 35, 75, 76, 77, 78, 79, 80, 81, 82, 89, 90, 91, 92, 93, 94, 95, 96, 97, 98, 99, 100, 101, 102, 103, 104, 116, 117] (by decide +kernel) (by decide +kernel)
set_option maxRecDepth 20000 in
theorem gX0_copy_X4_become : GoodIn wsX0_copy (wsV RX0 109 RX4 yX4_become wsX4_become) := goodIn_app (goodIn_of _ (by decide +kernel)) ggX0_copy_X4_become
set_option maxRecDepth 20000 in
theorem ggX0_copy_X5_put : GoodIn wsX0_copy wsX5_put := goodIn_r _ [86, 8, 9, 87, 88] (by decide +kernel) (by decide +kernel)
set_option maxRecDepth 20000 in
theorem gX0_copy_X5_put : GoodIn wsX0_copy (wsV RX0 112 RX5 yX5_put wsX5_put) := goodIn_app (goodIn_of _ (by decide +kernel)) ggX0_copy_X5_put
theorem dX0_copy_0 : decode cX0_copy 0 = .ok (.iconst 0, 1) := by decide +kernel
theorem dX0_copy_1 : decode cX0_copy 1 = .ok (.istore_n 3, 1) := by decide +kernel
theorem dX0_copy_2 : decode cX0_copy 2 = .ok (.iload_n 3, 1) := by decide +kernel
theorem dX0_copy_3 : decode cX0_copy 3 = .ok (.aload_n 1, 1) := by decide +kernel
theorem dX0_copy_4 : decode cX0_copy 4 = .ok (.getfield 96, 3) := by decide +kernel
theorem dX0_copy_7 : decode cX0_copy 7 = .ok (.if_icmp .ge 45, 3) := by decide +kernel
theorem dX0_copy_10 : decode cX0_copy 10 = .ok (.aload_n 1, 1) := by decide +kernel
theorem dX0_copy_11 : decode cX0_copy 11 = .ok (.iload_n 3, 1) := by decide +kernel
theorem dX0_copy_12 : decode cX0_copy 12 = .ok (.invokevirtual 97, 3) := by decide +kernel
theorem dX0_copy_15 : decode cX0_copy 15 = .ok (.astore 4, 2) := by decide +kernel
theorem dX0_copy_17 : decode cX0_copy 17 = .ok (.aload 4, 2) := by decide +kernel
theorem dX0_copy_19 : decode cX0_copy 19 = .ok (.ifnull 27, 3) := by decide +kernel
theorem dX0_copy_22 : decode cX0_copy 22 = .ok (.aload_n 0, 1) := by decide +kernel
theorem dX0_copy_23 : decode cX0_copy 23 = .ok (.aload 4, 2) := by decide +kernel
theorem dX0_copy_25 : decode cX0_copy 25 = .ok (.getfield 101, 3) := by decide +kernel
theorem dX0_copy_28 : decode cX0_copy 28 = .ok (.invokevirtual 106, 3) := by decide +kernel
theorem dX0_copy_31 : decode cX0_copy 31 = .ok (.astore 5, 2) := by decide +kernel
theorem dX0_copy_33 : decode cX0_copy 33 = .ok (.aload 5, 2) := by decide +kernel
theorem dX0_copy_35 : decode cX0_copy 35 = .ok (.aload 4, 2) := by decide +kernel
theorem dX0_copy_37 : decode cX0_copy 37 = .ok (.invokevirtual 109, 3) := by decide +kernel
theorem dX0_copy_40 : decode cX0_copy 40 = .ok (.aload_n 2, 1) := by decide +kernel
theorem dX0_copy_41 : decode cX0_copy 41 = .ok (.aload 5, 2) := by decide +kernel
theorem dX0_copy_43 : decode cX0_copy 43 = .ok (.invokevirtual 112, 3) := by decide +kernel
theorem dX0_copy_46 : decode cX0_copy 46 = .ok (.iinc 3 1, 3) := by decide +kernel
theorem dX0_copy_49 : decode cX0_copy 49 = .ok (.goto (-47), 3) := by decide +kernel
theorem dX0_copy_52 : decode cX0_copy 52 = .ok (.return_, 1) := by decide +kernel
set_option maxRecDepth 20000 in
theorem ggX0_clear_X0_release : GoodIn wsX0_clear wsX0_release := goodIn_r _ [8, 9, 10, 11, 12, 7, 13, 14, 15, 16, 17, 18, 19, 20, 21, 22, 40, 41, 29, 30, 31, 32, 33, 34, 35, 36, 37, 38, 39, 42, 43, 44, 45, 46, 47, 48, 49, 50, 51, 52, 53, 54, 55, 56, 57] (by decide +kernel) (by decide +kernel)
set_option maxRecDepth 20000 in
theorem gX0_clear_X0_release : GoodIn wsX0_clear (wsV RX0 115 RX0 yX0_release wsX0_release) := goodIn_app (goodIn_of _ (by decide +kernel)) ggX0_clear_X0_release
set_option maxRecDepth 20000 in
theorem ggX0_clear_X0_discard : GoodIn wsX0_clear wsX0_discard := goodIn_r _ [26, 27, 28, 4, 5, 6, 7, 8, 9, 10, 11, 12, 13, 14, 15, 16, 17, 18, 19, 20, 21, 22, 58, 59, 40, 41, 29, 30, 31, 32, 33, 34, 35, 36, 37, 38, 39, 42, 43, 44, 45, 46, 47, 48, 49, 50, 51, 52, 53, 54, 55, 56, 57] (by decide +kernel) (by decide +kernel)
set_option maxRecDepth 20000 in
theorem gX0_clear_X0_discard : GoodIn wsX0_clear (wsV RX0 119 RX0 yX0_discard wsX0_discard) := goodIn_app (goodIn_of _ (by decide +kernel)) ggX0_clear_X0_discard
theorem dX0_clear_0 : decode cX0_clear 0 = .ok (.aload_n 0, 1) := by decide +kernel
theorem dX0_clear_1 : decode cX0_clear 1 = .ok (.aload_n 0, 1) := by decide +kernel
theorem dX0_clear_2 : decode cX0_clear 2 = .ok (.getfield 21, 3) := by decide +kernel
theorem dX0_clear_5 : decode cX0_clear 5 = .ok (.invokevirtual 115, 3) := by decide +kernel
theorem dX0_clear_8 : decode cX0_clear 8 = .ok (.aload_n 0, 1) := by decide +kernel
theorem dX0_clear_9 : decode cX0_clear 9 = .ok (.aload_n 0, 1) := by decide +kernel
theorem dX0_clear_10 : decode cX0_clear 10 = .ok (.getfield 28, 3) := by decide +kernel
theorem dX0_clear_13 : decode cX0_clear 13 = .ok (.invokevirtual 119, 3) := by decide +kernel
theorem dX0_clear_16 : decode cX0_clear 16 = .ok (.iconst 0, 1) := by decide +kernel
theorem dX0_clear_17 : decode cX0_clear 17 = .ok (.istore_n 1, 1) := by decide +kernel
theorem dX0_clear_18 : decode cX0_clear 18 = .ok (.iload_n 1, 1) := by decide +kernel
theorem dX0_clear_19 : decode cX0_clear 19 = .ok (.bipush 8, 2) := by decide +kernel
theorem dX0_clear_21 : decode cX0_clear 21 = .ok (.if_icmp .ge 19, 3) := by decide +kernel
theorem dX0_clear_24 : decode cX0_clear 24 = .ok (.aload_n 0, 1) := by decide +kernel
theorem dX0_clear_25 : decode cX0_clear 25 = .ok (.aload_n 0, 1) := by decide +kernel
theorem dX0_clear_26 : decode cX0_clear 26 = .ok (.getfield 32, 3) := by decide +kernel
theorem dX0_clear_29 : decode cX0_clear 29 = .ok (.iload_n 1, 1) := by decide +kernel
theorem dX0_clear_30 : decode cX0_clear 30 = .ok (.aaload, 1) := by decide +kernel
theorem dX0_clear_31 : decode cX0_clear 31 = .ok (.invokevirtual 119, 3) := by decide +kernel
theorem dX0_clear_34 : decode cX0_clear 34 = .ok (.iinc 1 1, 3) := by decide +kernel
theorem dX0_clear_37 : decode cX0_clear 37 = .ok (.goto (-19), 3) := by decide +kernel
theorem dX0_clear_40 : decode cX0_clear 40 = .ok (.return_, 1) := by decide +kernel
set_option maxRecDepth 20000 in
theorem ggX0_discard_X0_release : GoodIn wsX0_discard wsX0_release := goodIn_r _ [7, 8, 9, 10, 11, 6, 12, 13, 14, 15, 16, 17, 18, 19, 20, 21, 24, 25, 26, 27, 28, 29, 30, 31, 32, 33, 34, 35, 36, 37, 38, 39, 40, 41, 42, 43, 44, 45, 46, 47, 48, 49, 50, 51, 52] (by decide +kernel) (by decide +kernel)
set_option maxRecDepth 20000 in
theorem gX0_discard_X0_release : GoodIn wsX0_discard (wsV RX0 115 RX0 yX0_release wsX0_release) := goodIn_app (goodIn_of _ (by decide +kernel)) ggX0_discard_X0_release
theorem dX0_discard_0 : decode cX0_discard 0 = .ok (.aload_n 0, 1) := by decide +kernel
theorem dX0_discard_1 : decode cX0_discard 1 = .ok (.aload_n 1, 1) := by decide +kernel
theorem dX0_discard_2 : decode cX0_discard 2 = .ok (.getfield 87, 3) := by decide +kernel
theorem dX0_discard_5 : decode cX0_discard 5 = .ok (.invokevirtual 115, 3) := by decide +kernel
theorem dX0_discard_8 : decode cX0_discard 8 = .ok (.aload_n 1, 1) := by decide +kernel
theorem dX0_discard_9 : decode cX0_discard 9 = .ok (.iconst 0, 1) := by decide +kernel
theorem dX0_discard_10 : decode cX0_discard 10 = .ok (.putfield 84, 3) := by decide +kernel
theorem dX0_discard_13 : decode cX0_discard 13 = .ok (.return_, 1) := by decide +kernel
set_option maxRecDepth 20000 in
theorem ggX0_release_X0_dropTop : GoodIn wsX0_release wsX0_dropTop := goodIn_r _ [6, 7, 8, 9, 10, 11, 12, 13, 14, 15, 18, 19, 20, 21, 22, 23, 24, 25, 26, 27, 28, 29, 30, 31, 32, 33, 34, 35, 36, 37, 38, 39, 40, 41, 42, 43, 44, 16, 17] (by decide +kernel) (by decide +kernel)
set_option maxRecDepth 20000 in
theorem gX0_release_X0_dropTop : GoodIn wsX0_release (wsV RX0 123 RX0 yX0_dropTop wsX0_dropTop) := goodIn_app (goodIn_of _ (by decide +kernel)) ggX0_release_X0_dropTop
theorem dX0_release_0 : decode cX0_release 0 = .ok (.aload_n 1, 1) := by decide +kernel
theorem dX0_release_1 : decode cX0_release 1 = .ok (.getfield 96, 3) := by decide +kernel
theorem dX0_release_4 : decode cX0_release 4 = .ok (.istore_n 2, 1) := by decide +kernel
theorem dX0_release_5 : decode cX0_release 5 = .ok (.iload_n 2, 1) := by decide +kernel
theorem dX0_release_6 : decode cX0_release 6 = .ok (.ifCond .le 14, 3) := by decide +kernel
theorem dX0_release_9 : decode cX0_release 9 = .ok (.aload_n 0, 1) := by decide +kernel
theorem dX0_release_10 : decode cX0_release 10 = .ok (.aload_n 1, 1) := by decide +kernel
theorem dX0_release_11 : decode cX0_release 11 = .ok (.invokevirtual 123, 3) := by decide +kernel
theorem dX0_release_14 : decode cX0_release 14 = .ok (.iinc 2 (-1), 3) := by decide +kernel
theorem dX0_release_17 : decode cX0_release 17 = .ok (.goto (-12), 3) := by decide +kernel
theorem dX0_release_20 : decode cX0_release 20 = .ok (.return_, 1) := by decide +kernel
set_option maxRecDepth 20000 in
theorem ggX0_dropTop_X5_pull : GoodIn wsX0_dropTop wsX5_pull := goodIn_r _ [7, 8, 9, 37, 38] (by decide +kernel) (by decide +kernel)
set_option maxRecDepth 20000 in
theorem gX0_dropTop_X5_pull : GoodIn wsX0_dropTop (wsV RX0 126 RX5 yX5_pull wsX5_pull) := goodIn_app (goodIn_of _ (by decide +kernel)) ggX0_dropTop_X5_pull
theorem dX0_dropTop_0 : decode cX0_dropTop 0 = .ok (.aload_n 1, 1) := by decide +kernel
theorem dX0_dropTop_1 : decode cX0_dropTop 1 = .ok (.invokevirtual 126, 3) := by decide +kernel
theorem dX0_dropTop_4 : decode cX0_dropTop 4 = .ok (.astore_n 2, 1) := by decide +kernel
theorem dX0_dropTop_5 : decode cX0_dropTop 5 = .ok (.aload_n 2, 1) := by decide +kernel
theorem dX0_dropTop_6 : decode cX0_dropTop 6 = .ok (.ifnull 16, 3) := by decide +kernel
theorem dX0_dropTop_9 : decode cX0_dropTop 9 = .ok (.aload_n 2, 1) := by decide +kernel
theorem dX0_dropTop_10 : decode cX0_dropTop 10 = .ok (.aload_n 0, 1) := by decide +kernel
theorem dX0_dropTop_11 : decode cX0_dropTop 11 = .ok (.getfield 130, 3) := by decide +kernel
theorem dX0_dropTop_14 : decode cX0_dropTop 14 = .ok (.putfield 134, 3) := by decide +kernel
theorem dX0_dropTop_17 : decode cX0_dropTop 17 = .ok (.aload_n 0, 1) := by decide +kernel
theorem dX0_dropTop_18 : decode cX0_dropTop 18 = .ok (.aload_n 2, 1) := by decide +kernel
theorem dX0_dropTop_19 : decode cX0_dropTop 19 = .ok (.putfield 130, 3) := by decide +kernel
theorem dX0_dropTop_22 : decode cX0_dropTop 22 = .ok (.return_, 1) := by decide +kernel
set_option maxRecDepth 20000 in
theorem ggX0_pullLowest_X0_dropTop : GoodIn wsX0_pullLowest wsX0_dropTop := goodIn_r _ [7, 8, 9, 10, 11, 12, 13, 14, 15, 16, 17, 18, 19, 20, 21, 22, 23, 24, 25, 26, 27, 30, 31, 32, 33, 34, 35, 36, 37, 38, 39, 40, 41, 42, 43, 44, 45, 28, 29] (by decide +kernel) (by decide +kernel)
set_option maxRecDepth 20000 in
theorem gX0_pullLowest_X0_dropTop : GoodIn wsX0_pullLowest (wsV RX0 123 RX0 yX0_dropTop wsX0_dropTop) := goodIn_app (goodIn_of _ (by decide +kernel)) ggX0_pullLowest_X0_dropTop
set_option maxRecDepth 20000 in
theorem ggX0_pullLowest_X5_pull : GoodIn wsX0_pullLowest wsX5_pull := goodIn_r _ [14, 15, 16, 28, 29] (by decide +kernel) (by decide +kernel)
set_option maxRecDepth 20000 in
theorem gX0_pullLowest_X5_pull : GoodIn wsX0_pullLowest (wsV RX0 126 RX5 yX5_pull wsX5_pull) := goodIn_app (goodIn_of _ (by decide +kernel)) ggX0_pullLowest_X5_pull
theorem dX0_pullLowest_0 : decode cX0_pullLowest 0 = .ok (.aload_n 0, 1) := by decide +kernel
theorem dX0_pullLowest_1 : decode cX0_pullLowest 1 = .ok (.getfield 21, 3) := by decide +kernel
theorem dX0_pullLowest_4 : decode cX0_pullLowest 4 = .ok (.getfield 96, 3) := by decide +kernel
theorem dX0_pullLowest_7 : decode cX0_pullLowest 7 = .ok (.istore_n 1, 1) := by decide +kernel
theorem dX0_pullLowest_8 : decode cX0_pullLowest 8 = .ok (.iload_n 1, 1) := by decide +kernel
theorem dX0_pullLowest_9 : decode cX0_pullLowest 9 = .ok (.iconst 1, 1) := by decide +kernel
theorem dX0_pullLowest_10 : decode cX0_pullLowest 10 = .ok (.if_icmp .le 17, 3) := by decide +kernel
theorem dX0_pullLowest_13 : decode cX0_pullLowest 13 = .ok (.aload_n 0, 1) := by decide +kernel
theorem dX0_pullLowest_14 : decode cX0_pullLowest 14 = .ok (.aload_n 0, 1) := by decide +kernel
theorem dX0_pullLowest_15 : decode cX0_pullLowest 15 = .ok (.getfield 21, 3) := by decide +kernel
theorem dX0_pullLowest_18 : decode cX0_pullLowest 18 = .ok (.invokevirtual 123, 3) := by decide +kernel
theorem dX0_pullLowest_21 : decode cX0_pullLowest 21 = .ok (.iinc 1 (-1), 3) := by decide +kernel
theorem dX0_pullLowest_24 : decode cX0_pullLowest 24 = .ok (.goto (-16), 3) := by decide +kernel
theorem dX0_pullLowest_27 : decode cX0_pullLowest 27 = .ok (.aload_n 0, 1) := by decide +kernel
theorem dX0_pullLowest_28 : decode cX0_pullLowest 28 = .ok (.getfield 21, 3) := by decide +kernel
theorem dX0_pullLowest_31 : decode cX0_pullLowest 31 = .ok (.invokevirtual 126, 3) := by decide +kernel
theorem dX0_pullLowest_34 : decode cX0_pullLowest 34 = .ok (.areturn, 1) := by decide +kernel
set_option maxRecDepth 20000 in
theorem ggX0_newMotion_X4_init : GoodIn wsX0_newMotion wsX4_init := goodIn_r _ [7, 8, 9, 10, 11, 12, 13, 14, 15, 16, 17, 18, 19, 20, 21, 75, 76, 59, 60, 61, 62, 63, 64, 65, 66, 67, 68, 69, 70, 71, 72, 73, 74] (by decide +kernel) (by decide +kernel)
set_option maxRecDepth 20000 in
theorem gX0_newMotion_X4_init_n137 : GoodIn wsX0_newMotion (wsX4_init) := ggX0_newMotion_X4_init
set_option maxRecDepth 20000 in
theorem ggX0_newMotion_X4_renew : GoodIn wsX0_newMotion wsX4_renew := goodIn_r _ [25, 14, 26, 27, 28, 29, 4, 30, 31, 32, 33, 34, 35, 36, 37, 38, 39, 40, 41, 42, 43, 16, 44, 45, 46, 47, 59, 60, 61, 62, 63, 64, 65, 66, 67, 68, 69, 70, 71, 72, 73, 74, 75, 76] (by decide +kernel) (by decide +kernel)
set_option maxRecDepth 20000 in
theorem gX0_newMotion_X4_renew : GoodIn wsX0_newMotion (wsV RX0 138 RX4 yX4_renew wsX4_renew) := goodIn_app (goodIn_of _ (by decide +kernel)) ggX0_newMotion_X4_renew
theorem dX0_newMotion_0 : decode cX0_newMotion 0 = .ok (.aload_n 0, 1) := by decide +kernel
theorem dX0_newMotion_1 : decode cX0_newMotion 1 = .ok (.getfield 130, 3) := by decide +kernel
theorem dX0_newMotion_4 : decode cX0_newMotion 4 = .ok (.astore_n 2, 1) := by decide +kernel
theorem dX0_newMotion_5 : decode cX0_newMotion 5 = .ok (.aload_n 2, 1) := by decide +kernel
theorem dX0_newMotion_6 : decode cX0_newMotion 6 = .ok (.ifnonnull 14, 3) := by decide +kernel
theorem dX0_newMotion_9 : decode cX0_newMotion 9 = .ok (.new 102, 3) := by decide +kernel
theorem dX0_newMotion_12 : decode cX0_newMotion 12 = .ok (.dup, 1) := by decide +kernel
theorem dX0_newMotion_13 : decode cX0_newMotion 13 = .ok (.invokespecial 137, 3) := by decide +kernel
theorem dX0_newMotion_16 : decode cX0_newMotion 16 = .ok (.astore_n 2, 1) := by decide +kernel
theorem dX0_newMotion_17 : decode cX0_newMotion 17 = .ok (.goto 16, 3) := by decide +kernel
theorem dX0_newMotion_20 : decode cX0_newMotion 20 = .ok (.aload_n 0, 1) := by decide +kernel
theorem dX0_newMotion_21 : decode cX0_newMotion 21 = .ok (.aload_n 2, 1) := by decide +kernel
theorem dX0_newMotion_22 : decode cX0_newMotion 22 = .ok (.getfield 134, 3) := by decide +kernel
theorem dX0_newMotion_25 : decode cX0_newMotion 25 = .ok (.putfield 130, 3) := by decide +kernel
theorem dX0_newMotion_28 : decode cX0_newMotion 28 = .ok (.aload_n 2, 1) := by decide +kernel
theorem dX0_newMotion_29 : decode cX0_newMotion 29 = .ok (.aconst_null, 1) := by decide +kernel
theorem dX0_newMotion_30 : decode cX0_newMotion 30 = .ok (.putfield 134, 3) := by decide +kernel
theorem dX0_newMotion_33 : decode cX0_newMotion 33 = .ok (.aload_n 2, 1) := by decide +kernel
theorem dX0_newMotion_34 : decode cX0_newMotion 34 = .ok (.iload_n 1, 1) := by decide +kernel
theorem dX0_newMotion_35 : decode cX0_newMotion 35 = .ok (.invokevirtual 138, 3) := by decide +kernel
theorem dX0_newMotion_38 : decode cX0_newMotion 38 = .ok (.aload_n 2, 1) := by decide +kernel
theorem dX0_newMotion_39 : decode cX0_newMotion 39 = .ok (.areturn, 1) := by decide +kernel
theorem dX0_placeAt_0 : decode cX0_placeAt 0 = .ok (.iload_n 1, 1) := by decide +kernel
theorem dX0_placeAt_1 : decode cX0_placeAt 1 = .ok (.ifCond .lt 9, 3) := by decide +kernel
theorem dX0_placeAt_4 : decode cX0_placeAt 4 = .ok (.iload_n 1, 1) := by decide +kernel
theorem dX0_placeAt_5 : decode cX0_placeAt 5 = .ok (.bipush 8, 2) := by decide +kernel
theorem dX0_placeAt_7 : decode cX0_placeAt 7 = .ok (.if_icmp .lt 7, 3) := by decide +kernel
theorem dX0_placeAt_10 : decode cX0_placeAt 10 = .ok (.aconst_null, 1) := by decide +kernel
theorem dX0_placeAt_11 : decode cX0_placeAt 11 = .ok (.goto 9, 3) := by decide +kernel
theorem dX0_placeAt_14 : decode cX0_placeAt 14 = .ok (.aload_n 0, 1) := by decide +kernel
theorem dX0_placeAt_15 : decode cX0_placeAt 15 = .ok (.getfield 32, 3) := by decide +kernel
theorem dX0_placeAt_18 : decode cX0_placeAt 18 = .ok (.iload_n 1, 1) := by decide +kernel
theorem dX0_placeAt_19 : decode cX0_placeAt 19 = .ok (.aaload, 1) := by decide +kernel
theorem dX0_placeAt_20 : decode cX0_placeAt 20 = .ok (.areturn, 1) := by decide +kernel
set_option maxRecDepth 20000 in
theorem ggX0_freePlaces_X6_isEmpty : GoodIn wsX0_freePlaces wsX6_isEmpty := goodIn_r _ [6, 7, 19, 20] (by decide +kernel) (by decide +kernel)
set_option maxRecDepth 20000 in
theorem gX0_freePlaces_X6_isEmpty : GoodIn wsX0_freePlaces (wsV RX0 141 RX6 yX6_isEmpty wsX6_isEmpty) := goodIn_app (goodIn_of _ (by decide +kernel)) ggX0_freePlaces_X6_isEmpty
theorem dX0_freePlaces_0 : decode cX0_freePlaces 0 = .ok (.iconst 0, 1) := by decide +kernel
theorem dX0_freePlaces_1 : decode cX0_freePlaces 1 = .ok (.istore_n 1, 1) := by decide +kernel
theorem dX0_freePlaces_2 : decode cX0_freePlaces 2 = .ok (.iconst 0, 1) := by decide +kernel
theorem dX0_freePlaces_3 : decode cX0_freePlaces 3 = .ok (.istore_n 2, 1) := by decide +kernel
theorem dX0_freePlaces_4 : decode cX0_freePlaces 4 = .ok (.iload_n 2, 1) := by decide +kernel
theorem dX0_freePlaces_5 : decode cX0_freePlaces 5 = .ok (.bipush 8, 2) := by decide +kernel
theorem dX0_freePlaces_7 : decode cX0_freePlaces 7 = .ok (.if_icmp .ge 24, 3) := by decide +kernel
theorem dX0_freePlaces_10 : decode cX0_freePlaces 10 = .ok (.aload_n 0, 1) := by decide +kernel
theorem dX0_freePlaces_11 : decode cX0_freePlaces 11 = .ok (.getfield 32, 3) := by decide +kernel
theorem dX0_freePlaces_14 : decode cX0_freePlaces 14 = .ok (.iload_n 2, 1) := by decide +kernel
theorem dX0_freePlaces_15 : decode cX0_freePlaces 15 = .ok (.aaload, 1) := by decide +kernel
theorem dX0_freePlaces_16 : decode cX0_freePlaces 16 = .ok (.invokevirtual 141, 3) := by decide +kernel
theorem dX0_freePlaces_19 : decode cX0_freePlaces 19 = .ok (.ifCond .eq 6, 3) := by decide +kernel
theorem dX0_freePlaces_22 : decode cX0_freePlaces 22 = .ok (.iinc 1 1, 3) := by decide +kernel
theorem dX0_freePlaces_25 : decode cX0_freePlaces 25 = .ok (.iinc 2 1, 3) := by decide +kernel
theorem dX0_freePlaces_28 : decode cX0_freePlaces 28 = .ok (.goto (-24), 3) := by decide +kernel
theorem dX0_freePlaces_31 : decode cX0_freePlaces 31 = .ok (.iload_n 1, 1) := by decide +kernel
theorem dX0_freePlaces_32 : decode cX0_freePlaces 32 = .ok (.ireturn, 1) := by decide +kernel
set_option maxRecDepth 20000 in
theorem ggX0_firstFreePlace_X6_isEmpty : GoodIn wsX0_firstFreePlace wsX6_isEmpty := goodIn_r _ [6, 7, 19, 20] (by decide +kernel) (by decide +kernel)
set_option maxRecDepth 20000 in
theorem gX0_firstFreePlace_X6_isEmpty : GoodIn wsX0_firstFreePlace (wsV RX0 141 RX6 yX6_isEmpty wsX6_isEmpty) := goodIn_app (goodIn_of _ (by decide +kernel)) ggX0_firstFreePlace_X6_isEmpty
theorem dX0_firstFreePlace_0 : decode cX0_firstFreePlace 0 = .ok (.iconst 0, 1) := by decide +kernel
theorem dX0_firstFreePlace_1 : decode cX0_firstFreePlace 1 = .ok (.istore_n 1, 1) := by decide +kernel
theorem dX0_firstFreePlace_2 : decode cX0_firstFreePlace 2 = .ok (.iload_n 1, 1) := by decide +kernel
theorem dX0_firstFreePlace_3 : decode cX0_firstFreePlace 3 = .ok (.bipush 8, 2) := by decide +kernel
theorem dX0_firstFreePlace_5 : decode cX0_firstFreePlace 5 = .ok (.if_icmp .ge 28, 3) := by decide +kernel
theorem dX0_firstFreePlace_8 : decode cX0_firstFreePlace 8 = .ok (.aload_n 0, 1) := by decide +kernel
theorem dX0_firstFreePlace_9 : decode cX0_firstFreePlace 9 = .ok (.getfield 32, 3) := by decide +kernel
theorem dX0_firstFreePlace_12 : decode cX0_firstFreePlace 12 = .ok (.iload_n 1, 1) := by decide +kernel
theorem dX0_firstFreePlace_13 : decode cX0_firstFreePlace 13 = .ok (.aaload, 1) := by decide +kernel
theorem dX0_firstFreePlace_14 : decode cX0_firstFreePlace 14 = .ok (.invokevirtual 141, 3) := by decide +kernel
theorem dX0_firstFreePlace_17 : decode cX0_firstFreePlace 17 = .ok (.ifCond .eq 10, 3) := by decide +kernel
theorem dX0_firstFreePlace_20 : decode cX0_firstFreePlace 20 = .ok (.aload_n 0, 1) := by decide +kernel
theorem dX0_firstFreePlace_21 : decode cX0_firstFreePlace 21 = .ok (.getfield 32, 3) := by decide +kernel
theorem dX0_firstFreePlace_24 : decode cX0_firstFreePlace 24 = .ok (.iload_n 1, 1) := by decide +kernel
theorem dX0_firstFreePlace_25 : decode cX0_firstFreePlace 25 = .ok (.aaload, 1) := by decide +kernel
theorem dX0_firstFreePlace_26 : decode cX0_firstFreePlace 26 = .ok (.areturn, 1) := by decide +kernel
theorem dX0_firstFreePlace_27 : decode cX0_firstFreePlace 27 = .ok (.iinc 1 1, 3) := by decide +kernel
theorem dX0_firstFreePlace_30 : decode cX0_firstFreePlace 30 = .ok (.goto (-28), 3) := by decide +kernel
theorem dX0_firstFreePlace_33 : decode cX0_firstFreePlace 33 = .ok (.aconst_null, 1) := by decide +kernel
theorem dX0_firstFreePlace_34 : decode cX0_firstFreePlace 34 = .ok (.areturn, 1) := by decide +kernel
set_option maxRecDepth 20000 in
theorem ggX0_wordOf_X9_wordAt : GoodIn wsX0_wordOf wsX9_wordAt := goodIn_r _ [9, 10, 11, 54, 55] (by decide +kernel) (by decide +kernel)
set_option maxRecDepth 20000 in
theorem gX0_wordOf_X9_wordAt : GoodIn wsX0_wordOf (wsV RX0 145 RX9 yX9_wordAt wsX9_wordAt) := goodIn_app (goodIn_of _ (by decide +kernel)) ggX0_wordOf_X9_wordAt
set_option maxRecDepth 20000 in
theorem ggX0_wordOf_X6_motion : GoodIn wsX0_wordOf wsX6_motion := goodIn_r _ [16, 17, 18, 19, 20, 21, 22, 23, 24, 25, 56, 57, 58, 59] (by decide +kernel) (by decide +kernel)
set_option maxRecDepth 20000 in
theorem gX0_wordOf_X6_motion : GoodIn wsX0_wordOf (wsV RX0 149 RX6 yX6_motion wsX6_motion) := goodIn_app (goodIn_of _ (by decide +kernel)) ggX0_wordOf_X6_motion
set_option maxRecDepth 20000 in
theorem ggX0_wordOf_X5_at : GoodIn wsX0_wordOf wsX5_at := goodIn_r _ [23, 24, 25, 58, 59] (by decide +kernel) (by decide +kernel)
set_option maxRecDepth 20000 in
theorem gX0_wordOf_X5_at : GoodIn wsX0_wordOf (wsV RX0 97 RX5 yX5_at wsX5_at) := goodIn_app (goodIn_of _ (by decide +kernel)) ggX0_wordOf_X5_at
theorem dX0_wordOf_0 : decode cX0_wordOf 0 = .ok (.iload_n 1, 1) := by decide +kernel
theorem dX0_wordOf_1 : decode cX0_wordOf 1 = .ok (.iconst (-1), 1) := by decide +kernel
theorem dX0_wordOf_2 : decode cX0_wordOf 2 = .ok (.if_icmp .ne 12, 3) := by decide +kernel
theorem dX0_wordOf_5 : decode cX0_wordOf 5 = .ok (.aload_n 0, 1) := by decide +kernel
theorem dX0_wordOf_6 : decode cX0_wordOf 6 = .ok (.getfield 51, 3) := by decide +kernel
theorem dX0_wordOf_9 : decode cX0_wordOf 9 = .ok (.iload_n 2, 1) := by decide +kernel
theorem dX0_wordOf_10 : decode cX0_wordOf 10 = .ok (.invokevirtual 145, 3) := by decide +kernel
theorem dX0_wordOf_13 : decode cX0_wordOf 13 = .ok (.ireturn, 1) := by decide +kernel
theorem dX0_wordOf_14 : decode cX0_wordOf 14 = .ok (.iload_n 1, 1) := by decide +kernel
theorem dX0_wordOf_15 : decode cX0_wordOf 15 = .ok (.bipush 9, 2) := by decide +kernel
theorem dX0_wordOf_17 : decode cX0_wordOf 17 = .ok (.if_icmp .ne 13, 3) := by decide +kernel
theorem dX0_wordOf_20 : decode cX0_wordOf 20 = .ok (.aload_n 0, 1) := by decide +kernel
theorem dX0_wordOf_21 : decode cX0_wordOf 21 = .ok (.getfield 28, 3) := by decide +kernel
theorem dX0_wordOf_24 : decode cX0_wordOf 24 = .ok (.invokevirtual 149, 3) := by decide +kernel
theorem dX0_wordOf_27 : decode cX0_wordOf 27 = .ok (.goto 11, 3) := by decide +kernel
theorem dX0_wordOf_30 : decode cX0_wordOf 30 = .ok (.aload_n 0, 1) := by decide +kernel
theorem dX0_wordOf_31 : decode cX0_wordOf 31 = .ok (.getfield 21, 3) := by decide +kernel
theorem dX0_wordOf_34 : decode cX0_wordOf 34 = .ok (.iload_n 1, 1) := by decide +kernel
theorem dX0_wordOf_35 : decode cX0_wordOf 35 = .ok (.invokevirtual 97, 3) := by decide +kernel
theorem dX0_wordOf_38 : decode cX0_wordOf 38 = .ok (.astore_n 3, 1) := by decide +kernel
theorem dX0_wordOf_39 : decode cX0_wordOf 39 = .ok (.aload_n 3, 1) := by decide +kernel
theorem dX0_wordOf_40 : decode cX0_wordOf 40 = .ok (.ifnonnull 7, 3) := by decide +kernel
theorem dX0_wordOf_43 : decode cX0_wordOf 43 = .ok (.iconst (-1), 1) := by decide +kernel
theorem dX0_wordOf_44 : decode cX0_wordOf 44 = .ok (.goto 11, 3) := by decide +kernel
theorem dX0_wordOf_47 : decode cX0_wordOf 47 = .ok (.aload_n 3, 1) := by decide +kernel
theorem dX0_wordOf_48 : decode cX0_wordOf 48 = .ok (.getfield 152, 3) := by decide +kernel
theorem dX0_wordOf_51 : decode cX0_wordOf 51 = .ok (.iload_n 2, 1) := by decide +kernel
theorem dX0_wordOf_52 : decode cX0_wordOf 52 = .ok (.invokevirtual 145, 3) := by decide +kernel
theorem dX0_wordOf_55 : decode cX0_wordOf 55 = .ok (.ireturn, 1) := by decide +kernel
set_option maxRecDepth 20000 in
theorem ggX0_enact_X8_against : GoodIn wsX0_enact wsX8_against := goodIn_r _ [8, 9, 10, 11, 7, 12, 13, 14, 15, 16, 17, 18, 19, 20, 21, 22, 23, 24, 25, 26, 27, 28, 29, 30, 31, 32, 33, 34, 35, 36, 37, 38, 39, 40, 41, 42, 43, 44, 45, 46, 47, 48, 49, 50, 51, 52, 53, 54, 55, 56, 57, 58, 59, 60, 61, 62, 63, 64, 65, 66, 67, 68, 69, 70, 71, 72, 73, 74, 75, 76, 77, 78, 79, 80, 81, 82, 83, 84, 85, 86, 87, 88, 89, 90, 91, 92, 93, 94, 95, 96, 97, 98, 99, 100, 101, 102, 103, 104, 105, 106, 107, 108, 109, 110, 111, 112, 113, 114, 115, 116, 117, 118, 119, 120, 121, 122, 123, 124, 125, 126, 127, 128, 129, 130, 131, 132, 133, 134, 135, 136, 137, 138, 139, 140, 141, 142, 143, 144, 145, 146, 147, 148, 149, 150, 151, 152, 153, 154, 155, 156, 157, 158, 159, 160, 161, 162, 163, 164, 165, 166, 167, 168, 169, 170, 171, 172, 173, 174, 175, 176, 177, 178, 179, 180, 181, 182, 183, 184, 185, 186, 187, 188, 189, 190, 191, 192, 193, 194, 195, 196, 520, 521, 522, 523, 524, 525, 526, 527, 528, 529, 530, 533, 534, 535, 536, 537, 538, 539, 540, 531, 532, 541, 542, 543, 544, 545, 546, 547, 548, 549, 550, 551, 552, 553, 554, 555, 556, 557, 558, 559, 560, 561, 562, 563, 564] (by decide +kernel) (by decide +kernel)
set_option maxRecDepth 20000 in
theorem gX0_enact_X8_against : GoodIn wsX0_enact (va_wsS RX0 155 yX8_against wsX8_against) := goodIn_app (goodIn_of _ (by decide +kernel)) ggX0_enact_X8_against
set_option maxRecDepth 20000 in
theorem ggX0_enact_X1_perform : GoodIn wsX0_enact wsX1_perform := goodIn_r _ [200, 201, 202, 203, 204, 205, 206, 46, 47, 48, 49, 50, 51, 52, 53, 54, 55, 207, 208, 209, 21, 210, 24, 151, 211, 19, 20, 22, 23, 212, 213, 214, 215, 216, 26, 27, 28, 217, 218, 219, 220, 64, 221, 61, 62, 63, 222, 223, 224, 225, 226, 227, 228, 229, 230, 231, 232, 233, 199, 234, 235, 236, 237, 238, 239, 240, 241, 242, 243, 244, 245, 246, 247, 248, 249, 250, 102, 251, 252, 253, 254, 255, 256, 257, 4, 258, 259, 260, 261, 262, 263, 264, 265, 266, 267, 268, 269, 270, 271, 272, 273, 84, 274, 275, 276, 277, 278, 279, 280, 170, 281, 282, 283, 284, 285, 286, 287, 288, 289, 290, 291, 292, 293, 294, 295, 296, 297, 298, 299, 86, 300, 301, 302, 303, 304, 305, 306, 307, 308, 309, 310, 311, 312, 313, 314, 315, 316, 76, 317, 78, 79, 318, 319, 320, 321, 322, 323, 324, 325, 326, 327, 74, 75, 77, 80, 328, 329, 330, 331, 332, 333, 334, 335, 336, 172, 337, 338, 339, 340, 341, 342, 343, 100, 101, 103, 104, 344, 82, 83, 85, 345, 346, 347, 348, 349, 350, 351, 352, 353, 354, 355, 356, 357, 358, 359, 360, 361, 362, 363, 364, 365, 366, 367, 368, 369, 370, 371, 372, 373, 374, 375, 376, 377, 378, 379, 380, 381, 382, 383, 384, 385, 386, 387, 388, 389, 390, 391, 392, 393, 148, 149, 150, 152, 394, 395, 396, 397, 398, 399, 400, 401, 402, 403, 404, 405, 406, 407, 408, 409, 410, 411, 412, 413, 414, 415, 416, 417, 193, 418, 195, 419, 191, 192, 194, 196, 420, 421, 422, 423, 424, 425, 426, 144, 145, 146, 427, 428, 429, 430, 431, 432, 433, 434, 435, 436, 437, 438, 439, 440, 441, 442, 443, 444, 445, 446, 447, 448, 449, 450, 451, 452, 453, 454, 117, 106, 107, 108, 455, 456, 457, 458, 3, 459, 460, 461, 462, 463, 464, 465, 466, 467, 468, 469, 470, 471, 472, 473, 474, 475, 476, 477, 478, 479, 480, 481, 482, 483, 484, 485, 486, 487, 488, 489, 490, 491, 492, 493, 494, 495, 496, 497, 498, 499, 500, 501, 502, 503, 504, 505, 506, 507, 508, 168, 169, 171, 509, 510, 511, 512, 513, 514, 515, 516, 517, 520, 521, 522, 523, 524, 525, 526, 527, 528, 529, 530, 533, 534, 535, 536, 537, 538, 539, 540, 531, 532, 541, 542, 543, 544, 545, 546, 547, 548, 549, 550, 551, 552, 553, 554, 555, 556, 557, 558, 559, 560, 561, 562, 563, 564] (by decide +kernel) (by decide +kernel)
set_option maxRecDepth 20000 in
theorem gX0_enact_X1_perform : GoodIn wsX0_enact (va_wsS RX0 161 yX1_perform wsX1_perform) := goodIn_app (goodIn_of _ (by decide +kernel)) ggX0_enact_X1_perform
set_option maxRecDepth 20000 in
theorem ggX0_enact_X3_open : GoodIn wsX0_enact wsX3_open := goodIn_r _ [418, 195, 419, 191, 192, 193, 194, 196, 420, 421, 422, 423, 424, 425, 426, 144, 145, 146, 427, 428, 429, 430, 431, 312, 432, 433, 434, 435, 436, 437, 438, 287, 439, 440, 441, 442, 443, 561, 562, 563, 564] (by decide +kernel) (by decide +kernel)
set_option maxRecDepth 20000 in
theorem gX0_enact_X3_open : GoodIn wsX0_enact (wsV RX0 166 RX3 yX3_open wsX3_open) := goodIn_app (goodIn_of _ (by decide +kernel)) ggX0_enact_X3_open
set_option maxRecDepth 20000 in
theorem ggX0_enact_X3_write : GoodIn wsX0_enact wsX3_write := goodIn_r _ [447, 195, 424, 425, 561, 562, 563, 564] (by decide +kernel) (by decide +kernel)
set_option maxRecDepth 20000 in
theorem gX0_enact_X3_write : GoodIn wsX0_enact (wsV RX0 169 RX3 yX3_write wsX3_write) := goodIn_app (goodIn_of _ (by decide +kernel)) ggX0_enact_X3_write
theorem dX0_enact_0 : decode cX0_enact 0 = .ok (.aload_n 0, 1) := by decide +kernel
theorem dX0_enact_1 : decode cX0_enact 1 = .ok (.aload_n 0, 1) := by decide +kernel
theorem dX0_enact_2 : decode cX0_enact 2 = .ok (.iload_n 1, 1) := by decide +kernel
theorem dX0_enact_3 : decode cX0_enact 3 = .ok (.iload_n 2, 1) := by decide +kernel
theorem dX0_enact_4 : decode cX0_enact 4 = .ok (.iload_n 3, 1) := by decide +kernel
theorem dX0_enact_5 : decode cX0_enact 5 = .ok (.iload 4, 2) := by decide +kernel
theorem dX0_enact_7 : decode cX0_enact 7 = .ok (.iload 5, 2) := by decide +kernel
theorem dX0_enact_9 : decode cX0_enact 9 = .ok (.invokestatic 155, 3) := by decide +kernel
theorem dX0_enact_12 : decode cX0_enact 12 = .ok (.putfield 73, 3) := by decide +kernel
theorem dX0_enact_15 : decode cX0_enact 15 = .ok (.aload_n 0, 1) := by decide +kernel
theorem dX0_enact_16 : decode cX0_enact 16 = .ok (.getfield 73, 3) := by decide +kernel
theorem dX0_enact_19 : decode cX0_enact 19 = .ok (.ifCond .eq 9, 3) := by decide +kernel
theorem dX0_enact_22 : decode cX0_enact 22 = .ok (.aload_n 0, 1) := by decide +kernel
theorem dX0_enact_23 : decode cX0_enact 23 = .ok (.getfield 73, 3) := by decide +kernel
theorem dX0_enact_26 : decode cX0_enact 26 = .ok (.ineg, 1) := by decide +kernel
theorem dX0_enact_27 : decode cX0_enact 27 = .ok (.ireturn, 1) := by decide +kernel
theorem dX0_enact_28 : decode cX0_enact 28 = .ok (.aload_n 0, 1) := by decide +kernel
theorem dX0_enact_29 : decode cX0_enact 29 = .ok (.iload_n 1, 1) := by decide +kernel
theorem dX0_enact_30 : decode cX0_enact 30 = .ok (.iload_n 2, 1) := by decide +kernel
theorem dX0_enact_31 : decode cX0_enact 31 = .ok (.iload_n 3, 1) := by decide +kernel
theorem dX0_enact_32 : decode cX0_enact 32 = .ok (.iload 4, 2) := by decide +kernel
theorem dX0_enact_34 : decode cX0_enact 34 = .ok (.iload 5, 2) := by decide +kernel
theorem dX0_enact_36 : decode cX0_enact 36 = .ok (.invokestatic 161, 3) := by decide +kernel
theorem dX0_enact_39 : decode cX0_enact 39 = .ok (.istore 6, 2) := by decide +kernel
theorem dX0_enact_41 : decode cX0_enact 41 = .ok (.aload_n 0, 1) := by decide +kernel
theorem dX0_enact_42 : decode cX0_enact 42 = .ok (.getfield 41, 3) := by decide +kernel
theorem dX0_enact_45 : decode cX0_enact 45 = .ok (.invokevirtual 166, 3) := by decide +kernel
theorem dX0_enact_48 : decode cX0_enact 48 = .ok (.aload_n 0, 1) := by decide +kernel
theorem dX0_enact_49 : decode cX0_enact 49 = .ok (.getfield 41, 3) := by decide +kernel
theorem dX0_enact_52 : decode cX0_enact 52 = .ok (.iconst 0, 1) := by decide +kernel
theorem dX0_enact_53 : decode cX0_enact 53 = .ok (.iload_n 1, 1) := by decide +kernel
theorem dX0_enact_54 : decode cX0_enact 54 = .ok (.invokevirtual 169, 3) := by decide +kernel
theorem dX0_enact_57 : decode cX0_enact 57 = .ok (.aload_n 0, 1) := by decide +kernel
theorem dX0_enact_58 : decode cX0_enact 58 = .ok (.getfield 41, 3) := by decide +kernel
theorem dX0_enact_61 : decode cX0_enact 61 = .ok (.iconst 1, 1) := by decide +kernel
theorem dX0_enact_62 : decode cX0_enact 62 = .ok (.iload_n 2, 1) := by decide +kernel
theorem dX0_enact_63 : decode cX0_enact 63 = .ok (.invokevirtual 169, 3) := by decide +kernel
theorem dX0_enact_66 : decode cX0_enact 66 = .ok (.aload_n 0, 1) := by decide +kernel
theorem dX0_enact_67 : decode cX0_enact 67 = .ok (.getfield 41, 3) := by decide +kernel
theorem dX0_enact_70 : decode cX0_enact 70 = .ok (.iconst 2, 1) := by decide +kernel
theorem dX0_enact_71 : decode cX0_enact 71 = .ok (.iload_n 3, 1) := by decide +kernel
theorem dX0_enact_72 : decode cX0_enact 72 = .ok (.invokevirtual 169, 3) := by decide +kernel
theorem dX0_enact_75 : decode cX0_enact 75 = .ok (.aload_n 0, 1) := by decide +kernel
theorem dX0_enact_76 : decode cX0_enact 76 = .ok (.getfield 41, 3) := by decide +kernel
theorem dX0_enact_79 : decode cX0_enact 79 = .ok (.iconst 3, 1) := by decide +kernel
theorem dX0_enact_80 : decode cX0_enact 80 = .ok (.iload 4, 2) := by decide +kernel
theorem dX0_enact_82 : decode cX0_enact 82 = .ok (.invokevirtual 169, 3) := by decide +kernel
theorem dX0_enact_85 : decode cX0_enact 85 = .ok (.aload_n 0, 1) := by decide +kernel
theorem dX0_enact_86 : decode cX0_enact 86 = .ok (.getfield 41, 3) := by decide +kernel
theorem dX0_enact_89 : decode cX0_enact 89 = .ok (.iconst 4, 1) := by decide +kernel
theorem dX0_enact_90 : decode cX0_enact 90 = .ok (.iload 5, 2) := by decide +kernel
theorem dX0_enact_92 : decode cX0_enact 92 = .ok (.invokevirtual 169, 3) := by decide +kernel
theorem dX0_enact_95 : decode cX0_enact 95 = .ok (.aload_n 0, 1) := by decide +kernel
theorem dX0_enact_96 : decode cX0_enact 96 = .ok (.getfield 41, 3) := by decide +kernel
theorem dX0_enact_99 : decode cX0_enact 99 = .ok (.iconst 5, 1) := by decide +kernel
theorem dX0_enact_100 : decode cX0_enact 100 = .ok (.iload 6, 2) := by decide +kernel
theorem dX0_enact_102 : decode cX0_enact 102 = .ok (.invokevirtual 169, 3) := by decide +kernel
theorem dX0_enact_105 : decode cX0_enact 105 = .ok (.aload_n 0, 1) := by decide +kernel
theorem dX0_enact_106 : decode cX0_enact 106 = .ok (.getfield 41, 3) := by decide +kernel
theorem dX0_enact_109 : decode cX0_enact 109 = .ok (.bipush 6, 2) := by decide +kernel
theorem dX0_enact_111 : decode cX0_enact 111 = .ok (.aload_n 0, 1) := by decide +kernel
theorem dX0_enact_112 : decode cX0_enact 112 = .ok (.getfield 21, 3) := by decide +kernel
theorem dX0_enact_115 : decode cX0_enact 115 = .ok (.getfield 96, 3) := by decide +kernel
theorem dX0_enact_118 : decode cX0_enact 118 = .ok (.invokevirtual 169, 3) := by decide +kernel
theorem dX0_enact_121 : decode cX0_enact 121 = .ok (.iload 6, 2) := by decide +kernel
theorem dX0_enact_123 : decode cX0_enact 123 = .ok (.ireturn, 1) := by decide +kernel
set_option maxRecDepth 20000 in
theorem ggX1_perform_X5_top : GoodIn wsX1_perform wsX5_top := goodIn_r _ [10, 11, 12, 13, 14, 9, 15, 16, 403, 404] (by decide +kernel) (by decide +kernel)
set_option maxRecDepth 20000 in
theorem gX1_perform_X5_top : GoodIn wsX1_perform (wsV RX1 15 RX5 yX5_top wsX5_top) := goodIn_app (goodIn_of _ (by decide +kernel)) ggX1_perform_X5_top
set_option maxRecDepth 20000 in
theorem ggX1_perform_X2_arrive : GoodIn wsX1_perform wsX2_arrive := goodIn_r _ [21, 22, 23, 24, 25, 26, 20, 27, 28, 395, 396, 397, 398, 399, 400, 401, 402] (by decide +kernel) (by decide +kernel)
set_option maxRecDepth 20000 in
theorem gX1_perform_X2_arrive : GoodIn wsX1_perform (wsV RX1 25 RX2 yX2_arrive wsX2_arrive) := goodIn_app (goodIn_of _ (by decide +kernel)) ggX1_perform_X2_arrive
set_option maxRecDepth 20000 in
theorem ggX1_perform_X2_leave : GoodIn wsX1_perform wsX2_leave := goodIn_r _ [32, 22, 23, 33, 34, 35, 20, 36, 28, 37, 38, 39, 40, 41, 42, 43, 44, 45, 395, 396, 397, 398, 399, 400, 401, 402] (by decide +kernel) (by decide +kernel)
set_option maxRecDepth 20000 in
theorem gX1_perform_X2_leave : GoodIn wsX1_perform (wsV RX1 31 RX2 yX2_leave wsX2_leave) := goodIn_app (goodIn_of _ (by decide +kernel)) ggX1_perform_X2_leave
set_option maxRecDepth 20000 in
theorem ggX1_perform_X2_takeChair : GoodIn wsX1_perform wsX2_takeChair := goodIn_r _ [49, 50, 37, 38, 39, 20, 40, 41, 42, 43, 44, 45, 395, 396, 397, 398, 399, 400, 401, 402] (by decide +kernel) (by decide +kernel)
set_option maxRecDepth 20000 in
theorem gX1_perform_X2_takeChair : GoodIn wsX1_perform (wsV RX1 38 RX2 yX2_takeChair wsX2_takeChair) := goodIn_app (goodIn_of _ (by decide +kernel)) ggX1_perform_X2_takeChair
set_option maxRecDepth 20000 in
theorem ggX1_perform_X2_replaceMajority : GoodIn wsX1_perform wsX2_replaceMajority := goodIn_r _ [54, 55, 395, 396, 397, 398, 399, 400, 401, 402] (by decide +kernel) (by decide +kernel)
set_option maxRecDepth 20000 in
theorem gX1_perform_X2_replaceMajority : GoodIn wsX1_perform (wsV RX1 41 RX2 yX2_replaceMajority wsX2_replaceMajority) := goodIn_app (goodIn_of _ (by decide +kernel)) ggX1_perform_X2_replaceMajority
set_option maxRecDepth 20000 in
theorem ggX1_perform_X1_giveFloor : GoodIn wsX1_perform wsX1_giveFloor := goodIn_r _ [59, 60, 61, 395, 396, 397, 398, 399, 400, 401, 402, 405, 406, 407, 408, 409, 410, 411, 412, 413, 414, 415, 416, 417, 418, 419, 420] (by decide +kernel) (by decide +kernel)
set_option maxRecDepth 20000 in
theorem gX1_perform_X1_giveFloor : GoodIn wsX1_perform (va_wsS RX1 48 yX1_giveFloor wsX1_giveFloor) := goodIn_app (goodIn_of _ (by decide +kernel)) ggX1_perform_X1_giveFloor
set_option maxRecDepth 20000 in
theorem ggX1_perform_X1_cedeFloor : GoodIn wsX1_perform wsX1_cedeFloor := goodIn_r _ [64, 60, 395, 396, 397, 398, 399, 400, 401, 402] (by decide +kernel) (by decide +kernel)
set_option maxRecDepth 20000 in
theorem gX1_perform_X1_cedeFloor : GoodIn wsX1_perform (va_wsS RX1 54 yX1_cedeFloor wsX1_cedeFloor) := goodIn_app (goodIn_of _ (by decide +kernel)) ggX1_perform_X1_cedeFloor
set_option maxRecDepth 20000 in
theorem ggX1_perform_X1_speak : GoodIn wsX1_perform wsX1_speak := goodIn_r _ [67, 68, 405, 406, 407, 408, 409, 410, 411, 412, 413, 414, 415, 416, 417, 418, 419, 420] (by decide +kernel) (by decide +kernel)
set_option maxRecDepth 20000 in
theorem gX1_perform_X1_speak : GoodIn wsX1_perform (va_wsS RX1 58 yX1_speak wsX1_speak) := goodIn_app (goodIn_of _ (by decide +kernel)) ggX1_perform_X1_speak
set_option maxRecDepth 20000 in
theorem ggX1_perform_X1_begin : GoodIn wsX1_perform wsX1_begin := goodIn_r _ [71, 72, 73, 74, 75, 76, 77, 78, 79, 80, 81, 82, 83, 84, 85, 86, 87, 88, 89, 90, 91, 92, 93, 9, 94, 11, 16, 95, 96, 97, 98, 99, 100, 101, 102, 103, 104, 105, 106, 107, 108, 109, 110, 111, 112, 113, 114, 115, 116, 117, 118, 119, 120, 121, 122, 123, 124, 125, 126, 127, 128, 129, 130, 131, 132, 133, 134, 135, 136, 137, 138, 139, 140, 141, 142, 143, 144, 145, 146, 147, 148, 149, 150, 151, 152, 153, 154, 384, 385, 386, 387, 388, 389, 390, 391, 392, 393, 394, 421, 422, 403, 404, 405, 406, 407, 408, 409, 410, 411, 412, 413, 414, 415, 416, 417, 418, 419, 420, 423, 424] (by decide +kernel) (by decide +kernel)
set_option maxRecDepth 20000 in
theorem gX1_perform_X1_begin : GoodIn wsX1_perform (va_wsS RX1 62 yX1_begin wsX1_begin) := goodIn_app (goodIn_of _ (by decide +kernel)) ggX1_perform_X1_begin
set_option maxRecDepth 20000 in
theorem ggX1_perform_X1_setSpan : GoodIn wsX1_perform wsX1_setSpan := goodIn_r _ [157, 72, 158, 159, 160, 161, 162, 147, 163, 149, 150, 164, 13, 14, 9, 15, 11, 16, 384, 385, 386, 387, 388, 389, 390, 391, 392, 393, 394, 405, 406, 407, 408, 409, 410, 411, 412, 413, 414, 415, 416, 417, 418, 419, 420, 421, 422, 403, 404] (by decide +kernel) (by decide +kernel)
set_option maxRecDepth 20000 in
theorem gX1_perform_X1_setSpan : GoodIn wsX1_perform (va_wsS RX1 66 yX1_setSpan wsX1_setSpan) := goodIn_app (goodIn_of _ (by decide +kernel)) ggX1_perform_X1_setSpan
set_option maxRecDepth 20000 in
theorem ggX1_perform_X1_addWords : GoodIn wsX1_perform wsX1_addWords := goodIn_r _ [167, 72, 168, 169, 160, 161, 162, 147, 163, 149, 150, 164, 13, 14, 9, 15, 11, 16, 170, 171, 172, 109, 173, 174, 117, 384, 385, 386, 387, 388, 389, 390, 391, 392, 393, 394, 405, 406, 407, 408, 409, 410, 411, 412, 413, 414, 415, 416, 417, 418, 419, 420, 423, 424, 421, 422, 403, 404] (by decide +kernel) (by decide +kernel)
set_option maxRecDepth 20000 in
theorem gX1_perform_X1_addWords : GoodIn wsX1_perform (va_wsS RX1 70 yX1_addWords wsX1_addWords) := goodIn_app (goodIn_of _ (by decide +kernel)) ggX1_perform_X1_addWords
set_option maxRecDepth 20000 in
theorem ggX1_perform_X1_layDown : GoodIn wsX1_perform wsX1_layDown := goodIn_r _ [177, 72, 1, 178, 179, 180, 181, 182, 183, 76, 184, 185, 160, 161, 162, 147, 163, 149, 150, 164, 13, 14, 9, 15, 11, 16, 6, 7, 8, 10, 12, 186, 187, 188, 101, 189, 129, 190, 191, 192, 193, 194, 195, 196, 197, 198, 152, 153, 154, 384, 385, 386, 387, 388, 389, 390, 391, 392, 393, 394, 405, 406, 407, 408, 409, 410, 411, 412, 413, 414, 415, 416, 417, 418, 419, 420, 421, 422, 403, 404] (by decide +kernel) (by decide +kernel)
set_option maxRecDepth 20000 in
theorem gX1_perform_X1_layDown : GoodIn wsX1_perform (va_wsS RX1 74 yX1_layDown wsX1_layDown) := goodIn_app (goodIn_of _ (by decide +kernel)) ggX1_perform_X1_layDown
set_option maxRecDepth 20000 in
theorem ggX1_perform_X1_takeUp : GoodIn wsX1_perform wsX1_takeUp := goodIn_r _ [201, 72, 202, 181, 182, 183, 76, 184, 185, 190, 191, 192, 147, 193, 149, 150, 194, 195, 196, 9, 197, 11, 16, 198, 152, 153, 154, 203, 204, 205, 206, 207, 164, 13, 14, 15, 384, 385, 386, 387, 388, 389, 390, 391, 392, 393, 394, 421, 422, 403, 404, 405, 406, 407, 408, 409, 410, 411, 412, 413, 414, 415, 416, 417, 418, 419, 420] (by decide +kernel) (by decide +kernel)
set_option maxRecDepth 20000 in
theorem gX1_perform_X1_takeUp : GoodIn wsX1_perform (va_wsS RX1 77 yX1_takeUp wsX1_takeUp) := goodIn_app (goodIn_of _ (by decide +kernel)) ggX1_perform_X1_takeUp
set_option maxRecDepth 20000 in
theorem ggX1_perform_X1_bringUp : GoodIn wsX1_perform wsX1_bringUp := goodIn_r _ [210, 72, 211, 179, 212, 178, 213, 1, 202, 2, 60, 5, 160, 161, 162, 147, 163, 149, 150, 164, 13, 14, 9, 15, 11, 16, 214, 195, 196, 197, 198, 152, 153, 154, 384, 385, 386, 387, 388, 389, 390, 391, 392, 393, 394, 405, 406, 407, 408, 409, 410, 411, 412, 413, 414, 415, 416, 417, 418, 419, 420, 421, 422, 395, 396, 397, 398, 399, 400, 401, 402, 403, 404] (by decide +kernel) (by decide +kernel)
set_option maxRecDepth 20000 in
theorem gX1_perform_X1_bringUp : GoodIn wsX1_perform (va_wsS RX1 80 yX1_bringUp wsX1_bringUp) := goodIn_app (goodIn_of _ (by decide +kernel)) ggX1_perform_X1_bringUp
set_option maxRecDepth 20000 in
theorem ggX1_perform_X1_support : GoodIn wsX1_perform wsX1_support := goodIn_r _ [217, 218, 405, 406, 407, 408, 409, 410, 411, 412, 413, 414, 415, 416, 417, 418, 419, 420] (by decide +kernel) (by decide +kernel)
set_option maxRecDepth 20000 in
theorem gX1_perform_X1_support : GoodIn wsX1_perform (va_wsS RX1 83 yX1_support wsX1_support) := goodIn_app (goodIn_of _ (by decide +kernel)) ggX1_perform_X1_support
set_option maxRecDepth 20000 in
theorem ggX1_perform_X4_castVote : GoodIn wsX1_perform wsX4_castVote := goodIn_r _ [222, 112, 139, 405, 406, 407, 408, 409, 410, 411, 412, 413, 414, 415, 416, 417, 418, 419, 420] (by decide +kernel) (by decide +kernel)
set_option maxRecDepth 20000 in
theorem gX1_perform_X4_castVote : GoodIn wsX1_perform (wsV RX1 87 RX4 yX4_castVote wsX4_castVote) := goodIn_app (goodIn_of _ (by decide +kernel)) ggX1_perform_X4_castVote
set_option maxRecDepth 20000 in
theorem ggX1_perform_X0_dropTop : GoodIn wsX1_perform wsX0_dropTop := goodIn_r _ [88, 89, 90, 91, 92, 93, 9, 94, 11, 16, 384, 385, 386, 387, 388, 389, 390, 391, 392, 393, 394, 405, 406, 407, 408, 409, 410, 411, 412, 413, 414, 415, 416, 417, 418, 419, 420, 403, 404] (by decide +kernel) (by decide +kernel)
set_option maxRecDepth 20000 in
theorem gX1_perform_X0_dropTop : GoodIn wsX1_perform (wsV RX1 92 RX0 yX0_dropTop wsX0_dropTop) := goodIn_app (goodIn_of _ (by decide +kernel)) ggX1_perform_X0_dropTop
set_option maxRecDepth 20000 in
theorem ggX1_perform_X1_putRuling : GoodIn wsX1_perform wsX1_putRuling := goodIn_r _ [226, 2, 227, 212, 1, 95, 96, 97, 76, 98, 89, 99, 100, 101, 90, 102, 103, 104, 105, 106, 107, 108, 109, 110, 111, 112, 113, 114, 115, 116, 117, 118, 119, 120, 121, 122, 123, 124, 125, 126, 127, 128, 129, 130, 131, 132, 133, 134, 135, 136, 137, 138, 139, 140, 141, 142, 143, 228, 152, 153, 9, 154, 11, 16, 384, 385, 386, 387, 388, 389, 390, 391, 392, 393, 394, 395, 396, 397, 398, 399, 400, 401, 402, 405, 406, 407, 408, 409, 410, 411, 412, 413, 414, 415, 416, 417, 418, 419, 420, 423, 424, 403, 404] (by decide +kernel) (by decide +kernel)
set_option maxRecDepth 20000 in
theorem gX1_perform_X1_putRuling : GoodIn wsX1_perform (va_wsS RX1 99 yX1_putRuling wsX1_putRuling) := goodIn_app (goodIn_of _ (by decide +kernel)) ggX1_perform_X1_putRuling
set_option maxRecDepth 20000 in
theorem ggX1_perform_X7_announce : GoodIn wsX1_perform wsX7_announce := goodIn_r _ [232, 233, 234, 235, 236, 237, 238, 239, 240, 20, 241, 23, 242, 243, 244, 245, 246, 28, 33, 34, 35, 36, 22, 247, 248, 249, 101, 250, 112, 251, 252, 231, 253, 254, 255, 256, 257, 55, 258, 259, 260, 261, 262, 263, 264, 265, 266, 267, 268, 269, 270, 271, 272, 273, 274, 275, 276, 277, 278, 279, 280, 281, 282, 283, 284, 285, 286, 287, 288, 289, 142, 290, 291, 292, 293, 294, 295, 296, 116, 297, 298, 299, 300, 301, 302, 303, 304, 305, 306, 307, 308, 309, 310, 311, 76, 312, 185, 313, 314, 315, 147, 316, 149, 317, 318, 319, 320, 321, 84, 85, 86, 87, 88, 89, 90, 91, 92, 93, 9, 94, 11, 16, 322, 124, 125, 126, 127, 128, 129, 130, 131, 132, 133, 134, 135, 136, 137, 138, 139, 140, 141, 143, 323, 145, 146, 148, 150, 151, 152, 153, 154, 324, 325, 326, 327, 328, 329, 330, 331, 332, 333, 334, 335, 195, 196, 197, 198, 336, 337, 338, 339, 340, 341, 342, 343, 344, 13, 14, 15, 345, 346, 347, 109, 348, 174, 117, 349, 350, 351, 352, 353, 354, 355, 41, 356, 187, 188, 189, 357, 358, 359, 360, 361, 362, 363, 364, 365, 366, 367, 368, 369, 370, 371, 372, 373, 374, 375, 161, 162, 163, 164, 376, 377, 378, 379, 384, 385, 386, 387, 388, 389, 390, 391, 392, 393, 394, 405, 406, 407, 408, 409, 410, 411, 412, 413, 414, 415, 416, 417, 418, 419, 420, 395, 396, 397, 398, 399, 400, 401, 402, 425, 426, 427, 428, 421, 422, 403, 404, 423, 424] (by decide +kernel) (by decide +kernel)
set_option maxRecDepth 20000 in
theorem gX1_perform_X7_announce : GoodIn wsX1_perform (va_wsS RX1 103 yX7_announce wsX7_announce) := goodIn_app (goodIn_of _ (by decide +kernel)) ggX1_perform_X7_announce
set_option maxRecDepth 20000 in
theorem ggX1_perform_X1_endSitting : GoodIn wsX1_perform wsX1_endSitting := goodIn_r _ [382, 1, 5, 72, 2, 60, 383, 81, 82, 76, 83, 84, 85, 86, 87, 88, 89, 90, 91, 92, 93, 9, 94, 11, 16, 73, 74, 75, 77, 78, 79, 80, 384, 385, 386, 387, 388, 389, 390, 391, 392, 393, 394, 403, 404, 395, 396, 397, 398, 399, 400, 401, 402, 405, 406, 407, 408, 409, 410, 411, 412, 413, 414, 415, 416, 417, 418, 419, 420, 421, 422] (by decide +kernel) (by decide +kernel)
set_option maxRecDepth 20000 in
theorem gX1_perform_X1_endSitting : GoodIn wsX1_perform (va_wsS RX1 109 yX1_endSitting wsX1_endSitting) := goodIn_app (goodIn_of _ (by decide +kernel)) ggX1_perform_X1_endSitting
theorem dX1_perform_0 : decode cX1_perform 0 = .ok (.aload_n 0, 1) := by decide +kernel
theorem dX1_perform_1 : decode cX1_perform 1 = .ok (.getfield 9, 3) := by decide +kernel
theorem dX1_perform_4 : decode cX1_perform 4 = .ok (.invokevirtual 15, 3) := by decide +kernel
theorem dX1_perform_7 : decode cX1_perform 7 = .ok (.astore 6, 2) := by decide +kernel
theorem dX1_perform_9 : decode cX1_perform 9 = .ok (.iload_n 1, 1) := by decide +kernel
theorem dX1_perform_10 : decode cX1_perform 10 = .ok (.tableswitch 292 1 22 #[102, 111, 120, 130, 139, 149, 159, 170, 178, 184, 190, 197, 208, 214, 220, 226, 233, 250, 266, 226, 271, 287], 102) := by decide +kernel
theorem dX1_perform_112 : decode cX1_perform 112 = .ok (.aload_n 0, 1) := by decide +kernel
theorem dX1_perform_113 : decode cX1_perform 113 = .ok (.getfield 21, 3) := by decide +kernel
theorem dX1_perform_116 : decode cX1_perform 116 = .ok (.iload_n 2, 1) := by decide +kernel
theorem dX1_perform_117 : decode cX1_perform 117 = .ok (.invokevirtual 25, 3) := by decide +kernel
theorem dX1_perform_120 : decode cX1_perform 120 = .ok (.ireturn, 1) := by decide +kernel
theorem dX1_perform_121 : decode cX1_perform 121 = .ok (.aload_n 0, 1) := by decide +kernel
theorem dX1_perform_122 : decode cX1_perform 122 = .ok (.getfield 21, 3) := by decide +kernel
theorem dX1_perform_125 : decode cX1_perform 125 = .ok (.iload_n 2, 1) := by decide +kernel
theorem dX1_perform_126 : decode cX1_perform 126 = .ok (.invokevirtual 31, 3) := by decide +kernel
theorem dX1_perform_129 : decode cX1_perform 129 = .ok (.ireturn, 1) := by decide +kernel
theorem dX1_perform_130 : decode cX1_perform 130 = .ok (.aload_n 0, 1) := by decide +kernel
theorem dX1_perform_131 : decode cX1_perform 131 = .ok (.getfield 21, 3) := by decide +kernel
theorem dX1_perform_134 : decode cX1_perform 134 = .ok (.iload_n 2, 1) := by decide +kernel
theorem dX1_perform_135 : decode cX1_perform 135 = .ok (.putfield 34, 3) := by decide +kernel
theorem dX1_perform_138 : decode cX1_perform 138 = .ok (.iload_n 2, 1) := by decide +kernel
theorem dX1_perform_139 : decode cX1_perform 139 = .ok (.ireturn, 1) := by decide +kernel
theorem dX1_perform_140 : decode cX1_perform 140 = .ok (.aload_n 0, 1) := by decide +kernel
theorem dX1_perform_141 : decode cX1_perform 141 = .ok (.getfield 21, 3) := by decide +kernel
theorem dX1_perform_144 : decode cX1_perform 144 = .ok (.iload_n 2, 1) := by decide +kernel
theorem dX1_perform_145 : decode cX1_perform 145 = .ok (.invokevirtual 38, 3) := by decide +kernel
theorem dX1_perform_148 : decode cX1_perform 148 = .ok (.ireturn, 1) := by decide +kernel
theorem dX1_perform_149 : decode cX1_perform 149 = .ok (.aload_n 0, 1) := by decide +kernel
theorem dX1_perform_150 : decode cX1_perform 150 = .ok (.getfield 21, 3) := by decide +kernel
theorem dX1_perform_153 : decode cX1_perform 153 = .ok (.iload_n 2, 1) := by decide +kernel
theorem dX1_perform_154 : decode cX1_perform 154 = .ok (.iload_n 3, 1) := by decide +kernel
theorem dX1_perform_155 : decode cX1_perform 155 = .ok (.invokevirtual 41, 3) := by decide +kernel
theorem dX1_perform_158 : decode cX1_perform 158 = .ok (.ireturn, 1) := by decide +kernel
theorem dX1_perform_159 : decode cX1_perform 159 = .ok (.aload_n 0, 1) := by decide +kernel
theorem dX1_perform_160 : decode cX1_perform 160 = .ok (.getfield 21, 3) := by decide +kernel
theorem dX1_perform_163 : decode cX1_perform 163 = .ok (.iload_n 2, 1) := by decide +kernel
theorem dX1_perform_164 : decode cX1_perform 164 = .ok (.putfield 45, 3) := by decide +kernel
theorem dX1_perform_167 : decode cX1_perform 167 = .ok (.iload_n 2, 1) := by decide +kernel
theorem dX1_perform_168 : decode cX1_perform 168 = .ok (.ireturn, 1) := by decide +kernel
theorem dX1_perform_169 : decode cX1_perform 169 = .ok (.aload_n 0, 1) := by decide +kernel
theorem dX1_perform_170 : decode cX1_perform 170 = .ok (.getfield 21, 3) := by decide +kernel
theorem dX1_perform_173 : decode cX1_perform 173 = .ok (.aload 6, 2) := by decide +kernel
theorem dX1_perform_175 : decode cX1_perform 175 = .ok (.iload_n 2, 1) := by decide +kernel
theorem dX1_perform_176 : decode cX1_perform 176 = .ok (.invokestatic 48, 3) := by decide +kernel
theorem dX1_perform_179 : decode cX1_perform 179 = .ok (.ireturn, 1) := by decide +kernel
theorem dX1_perform_180 : decode cX1_perform 180 = .ok (.aload_n 0, 1) := by decide +kernel
theorem dX1_perform_181 : decode cX1_perform 181 = .ok (.getfield 21, 3) := by decide +kernel
theorem dX1_perform_184 : decode cX1_perform 184 = .ok (.invokestatic 54, 3) := by decide +kernel
theorem dX1_perform_187 : decode cX1_perform 187 = .ok (.ireturn, 1) := by decide +kernel
theorem dX1_perform_188 : decode cX1_perform 188 = .ok (.aload 6, 2) := by decide +kernel
theorem dX1_perform_190 : decode cX1_perform 190 = .ok (.invokestatic 58, 3) := by decide +kernel
theorem dX1_perform_193 : decode cX1_perform 193 = .ok (.ireturn, 1) := by decide +kernel
theorem dX1_perform_194 : decode cX1_perform 194 = .ok (.aload_n 0, 1) := by decide +kernel
theorem dX1_perform_195 : decode cX1_perform 195 = .ok (.iload_n 2, 1) := by decide +kernel
theorem dX1_perform_196 : decode cX1_perform 196 = .ok (.invokestatic 62, 3) := by decide +kernel
theorem dX1_perform_199 : decode cX1_perform 199 = .ok (.ireturn, 1) := by decide +kernel
theorem dX1_perform_200 : decode cX1_perform 200 = .ok (.aload_n 0, 1) := by decide +kernel
theorem dX1_perform_201 : decode cX1_perform 201 = .ok (.iload_n 2, 1) := by decide +kernel
theorem dX1_perform_202 : decode cX1_perform 202 = .ok (.iload_n 3, 1) := by decide +kernel
theorem dX1_perform_203 : decode cX1_perform 203 = .ok (.invokestatic 66, 3) := by decide +kernel
theorem dX1_perform_206 : decode cX1_perform 206 = .ok (.ireturn, 1) := by decide +kernel
theorem dX1_perform_207 : decode cX1_perform 207 = .ok (.aload_n 0, 1) := by decide +kernel
theorem dX1_perform_208 : decode cX1_perform 208 = .ok (.iload_n 2, 1) := by decide +kernel
theorem dX1_perform_209 : decode cX1_perform 209 = .ok (.iload_n 3, 1) := by decide +kernel
theorem dX1_perform_210 : decode cX1_perform 210 = .ok (.iload 4, 2) := by decide +kernel
theorem dX1_perform_212 : decode cX1_perform 212 = .ok (.iload 5, 2) := by decide +kernel
theorem dX1_perform_214 : decode cX1_perform 214 = .ok (.invokestatic 70, 3) := by decide +kernel
theorem dX1_perform_217 : decode cX1_perform 217 = .ok (.ireturn, 1) := by decide +kernel
theorem dX1_perform_218 : decode cX1_perform 218 = .ok (.aload_n 0, 1) := by decide +kernel
theorem dX1_perform_219 : decode cX1_perform 219 = .ok (.iload_n 2, 1) := by decide +kernel
theorem dX1_perform_220 : decode cX1_perform 220 = .ok (.invokestatic 74, 3) := by decide +kernel
theorem dX1_perform_223 : decode cX1_perform 223 = .ok (.ireturn, 1) := by decide +kernel
theorem dX1_perform_224 : decode cX1_perform 224 = .ok (.aload_n 0, 1) := by decide +kernel
theorem dX1_perform_225 : decode cX1_perform 225 = .ok (.iload_n 2, 1) := by decide +kernel
theorem dX1_perform_226 : decode cX1_perform 226 = .ok (.invokestatic 77, 3) := by decide +kernel
theorem dX1_perform_229 : decode cX1_perform 229 = .ok (.ireturn, 1) := by decide +kernel
theorem dX1_perform_230 : decode cX1_perform 230 = .ok (.aload_n 0, 1) := by decide +kernel
theorem dX1_perform_231 : decode cX1_perform 231 = .ok (.iload_n 2, 1) := by decide +kernel
theorem dX1_perform_232 : decode cX1_perform 232 = .ok (.invokestatic 80, 3) := by decide +kernel
theorem dX1_perform_235 : decode cX1_perform 235 = .ok (.ireturn, 1) := by decide +kernel
theorem dX1_perform_236 : decode cX1_perform 236 = .ok (.aload 6, 2) := by decide +kernel
theorem dX1_perform_238 : decode cX1_perform 238 = .ok (.iload_n 2, 1) := by decide +kernel
theorem dX1_perform_239 : decode cX1_perform 239 = .ok (.invokestatic 83, 3) := by decide +kernel
theorem dX1_perform_242 : decode cX1_perform 242 = .ok (.ireturn, 1) := by decide +kernel
theorem dX1_perform_243 : decode cX1_perform 243 = .ok (.aload 6, 2) := by decide +kernel
theorem dX1_perform_245 : decode cX1_perform 245 = .ok (.ifnonnull 7, 3) := by decide +kernel
theorem dX1_perform_248 : decode cX1_perform 248 = .ok (.iconst 0, 1) := by decide +kernel
theorem dX1_perform_249 : decode cX1_perform 249 = .ok (.goto 10, 3) := by decide +kernel
theorem dX1_perform_252 : decode cX1_perform 252 = .ok (.aload 6, 2) := by decide +kernel
theorem dX1_perform_254 : decode cX1_perform 254 = .ok (.iload_n 2, 1) := by decide +kernel
theorem dX1_perform_255 : decode cX1_perform 255 = .ok (.iload_n 3, 1) := by decide +kernel
theorem dX1_perform_256 : decode cX1_perform 256 = .ok (.invokevirtual 87, 3) := by decide +kernel
theorem dX1_perform_259 : decode cX1_perform 259 = .ok (.ireturn, 1) := by decide +kernel
theorem dX1_perform_260 : decode cX1_perform 260 = .ok (.aload_n 0, 1) := by decide +kernel
theorem dX1_perform_261 : decode cX1_perform 261 = .ok (.aload_n 0, 1) := by decide +kernel
theorem dX1_perform_262 : decode cX1_perform 262 = .ok (.getfield 9, 3) := by decide +kernel
theorem dX1_perform_265 : decode cX1_perform 265 = .ok (.invokevirtual 92, 3) := by decide +kernel
theorem dX1_perform_268 : decode cX1_perform 268 = .ok (.aload_n 0, 1) := by decide +kernel
theorem dX1_perform_269 : decode cX1_perform 269 = .ok (.getfield 9, 3) := by decide +kernel
theorem dX1_perform_272 : decode cX1_perform 272 = .ok (.getfield 96, 3) := by decide +kernel
theorem dX1_perform_275 : decode cX1_perform 275 = .ok (.ireturn, 1) := by decide +kernel
theorem dX1_perform_276 : decode cX1_perform 276 = .ok (.aload_n 0, 1) := by decide +kernel
theorem dX1_perform_277 : decode cX1_perform 277 = .ok (.invokestatic 99, 3) := by decide +kernel
theorem dX1_perform_280 : decode cX1_perform 280 = .ok (.ireturn, 1) := by decide +kernel
theorem dX1_perform_281 : decode cX1_perform 281 = .ok (.aload 6, 2) := by decide +kernel
theorem dX1_perform_283 : decode cX1_perform 283 = .ok (.ifnonnull 7, 3) := by decide +kernel
theorem dX1_perform_286 : decode cX1_perform 286 = .ok (.iconst 0, 1) := by decide +kernel
theorem dX1_perform_287 : decode cX1_perform 287 = .ok (.goto 9, 3) := by decide +kernel
theorem dX1_perform_290 : decode cX1_perform 290 = .ok (.aload_n 0, 1) := by decide +kernel
theorem dX1_perform_291 : decode cX1_perform 291 = .ok (.aload 6, 2) := by decide +kernel
theorem dX1_perform_293 : decode cX1_perform 293 = .ok (.invokestatic 103, 3) := by decide +kernel
theorem dX1_perform_296 : decode cX1_perform 296 = .ok (.ireturn, 1) := by decide +kernel
theorem dX1_perform_297 : decode cX1_perform 297 = .ok (.aload_n 0, 1) := by decide +kernel
theorem dX1_perform_298 : decode cX1_perform 298 = .ok (.invokestatic 109, 3) := by decide +kernel
theorem dX1_perform_301 : decode cX1_perform 301 = .ok (.ireturn, 1) := by decide +kernel
theorem dX1_perform_302 : decode cX1_perform 302 = .ok (.iconst 0, 1) := by decide +kernel
theorem dX1_perform_303 : decode cX1_perform 303 = .ok (.ireturn, 1) := by decide +kernel
theorem dX1_giveFloor_0 : decode cX1_giveFloor 0 = .ok (.aload_n 0, 1) := by decide +kernel
theorem dX1_giveFloor_1 : decode cX1_giveFloor 1 = .ok (.iload_n 2, 1) := by decide +kernel
theorem dX1_giveFloor_2 : decode cX1_giveFloor 2 = .ok (.putfield 112, 3) := by decide +kernel
theorem dX1_giveFloor_5 : decode cX1_giveFloor 5 = .ok (.aload_n 1, 1) := by decide +kernel
theorem dX1_giveFloor_6 : decode cX1_giveFloor 6 = .ok (.ifnonnull 5, 3) := by decide +kernel
theorem dX1_giveFloor_9 : decode cX1_giveFloor 9 = .ok (.iconst 0, 1) := by decide +kernel
theorem dX1_giveFloor_10 : decode cX1_giveFloor 10 = .ok (.ireturn, 1) := by decide +kernel
theorem dX1_giveFloor_11 : decode cX1_giveFloor 11 = .ok (.aload_n 1, 1) := by decide +kernel
theorem dX1_giveFloor_12 : decode cX1_giveFloor 12 = .ok (.dup, 1) := by decide +kernel
theorem dX1_giveFloor_13 : decode cX1_giveFloor 13 = .ok (.getfield 115, 3) := by decide +kernel
theorem dX1_giveFloor_16 : decode cX1_giveFloor 16 = .ok (.iconst 1, 1) := by decide +kernel
theorem dX1_giveFloor_17 : decode cX1_giveFloor 17 = .ok (.iadd, 1) := by decide +kernel
theorem dX1_giveFloor_18 : decode cX1_giveFloor 18 = .ok (.putfield 115, 3) := by decide +kernel
theorem dX1_giveFloor_21 : decode cX1_giveFloor 21 = .ok (.aload_n 1, 1) := by decide +kernel
theorem dX1_giveFloor_22 : decode cX1_giveFloor 22 = .ok (.getfield 115, 3) := by decide +kernel
theorem dX1_giveFloor_25 : decode cX1_giveFloor 25 = .ok (.ireturn, 1) := by decide +kernel
theorem dX1_cedeFloor_0 : decode cX1_cedeFloor 0 = .ok (.aload_n 0, 1) := by decide +kernel
theorem dX1_cedeFloor_1 : decode cX1_cedeFloor 1 = .ok (.getfield 112, 3) := by decide +kernel
theorem dX1_cedeFloor_4 : decode cX1_cedeFloor 4 = .ok (.istore_n 1, 1) := by decide +kernel
theorem dX1_cedeFloor_5 : decode cX1_cedeFloor 5 = .ok (.aload_n 0, 1) := by decide +kernel
theorem dX1_cedeFloor_6 : decode cX1_cedeFloor 6 = .ok (.iconst (-1), 1) := by decide +kernel
theorem dX1_cedeFloor_7 : decode cX1_cedeFloor 7 = .ok (.putfield 112, 3) := by decide +kernel
theorem dX1_cedeFloor_10 : decode cX1_cedeFloor 10 = .ok (.iload_n 1, 1) := by decide +kernel
theorem dX1_cedeFloor_11 : decode cX1_cedeFloor 11 = .ok (.ireturn, 1) := by decide +kernel
theorem dX1_speak_0 : decode cX1_speak 0 = .ok (.aload_n 0, 1) := by decide +kernel
theorem dX1_speak_1 : decode cX1_speak 1 = .ok (.ifnonnull 5, 3) := by decide +kernel
theorem dX1_speak_4 : decode cX1_speak 4 = .ok (.iconst 0, 1) := by decide +kernel
theorem dX1_speak_5 : decode cX1_speak 5 = .ok (.ireturn, 1) := by decide +kernel
theorem dX1_speak_6 : decode cX1_speak 6 = .ok (.aload_n 0, 1) := by decide +kernel
theorem dX1_speak_7 : decode cX1_speak 7 = .ok (.dup, 1) := by decide +kernel
theorem dX1_speak_8 : decode cX1_speak 8 = .ok (.getfield 118, 3) := by decide +kernel
theorem dX1_speak_11 : decode cX1_speak 11 = .ok (.iconst 1, 1) := by decide +kernel
theorem dX1_speak_12 : decode cX1_speak 12 = .ok (.iadd, 1) := by decide +kernel
theorem dX1_speak_13 : decode cX1_speak 13 = .ok (.putfield 118, 3) := by decide +kernel
theorem dX1_speak_16 : decode cX1_speak 16 = .ok (.aload_n 0, 1) := by decide +kernel
theorem dX1_speak_17 : decode cX1_speak 17 = .ok (.getfield 118, 3) := by decide +kernel
theorem dX1_speak_20 : decode cX1_speak 20 = .ok (.ireturn, 1) := by decide +kernel
set_option maxRecDepth 20000 in
theorem ggX1_begin_X0_discard : GoodIn wsX1_begin wsX0_discard := goodIn_r _ [6, 7, 8, 9, 10, 11, 5, 12, 13, 14, 15, 16, 17, 18, 19, 20, 21, 22, 23, 24, 25, 26, 98, 99, 100, 101, 87, 88, 89, 90, 91, 92, 93, 94, 95, 96, 97, 102, 103, 104, 105, 106, 107, 108, 109, 110, 111, 112, 113, 114, 115, 116, 117] (by decide +kernel) (by decide +kernel)
set_option maxRecDepth 20000 in
theorem gX1_begin_X0_discard : GoodIn wsX1_begin (wsV RX1 125 RX0 yX0_discard wsX0_discard) := goodIn_app (goodIn_of _ (by decide +kernel)) ggX1_begin_X0_discard
set_option maxRecDepth 20000 in
theorem ggX1_begin_X0_newMotion : GoodIn wsX1_begin wsX0_newMotion := goodIn_r _ [30, 18, 31, 32, 33, 19, 34, 35, 36, 37, 38, 39, 40, 41, 42, 43, 44, 45, 46, 47, 48, 49, 50, 51, 52, 53, 54, 55, 56, 57, 58, 59, 60, 61, 62, 63, 64, 65, 66, 67, 68, 69, 70, 71, 72, 73, 74, 75, 87, 88, 89, 90, 91, 92, 93, 94, 95, 96, 97, 102, 103, 104, 105, 106, 107, 108, 109, 110, 111, 112, 113, 114, 115, 116, 117, 118, 119] (by decide +kernel) (by decide +kernel)
set_option maxRecDepth 20000 in
theorem gX1_begin_X0_newMotion : GoodIn wsX1_begin (wsV RX1 129 RX0 yX0_newMotion wsX0_newMotion) := goodIn_app (goodIn_of _ (by decide +kernel)) ggX1_begin_X0_newMotion
set_option maxRecDepth 20000 in
theorem ggX1_begin_X6_hold : GoodIn wsX1_begin wsX6_hold := goodIn_r _ [80, 81, 82, 83, 84, 85, 23, 86, 25, 26, 98, 99, 100, 101] (by decide +kernel) (by decide +kernel)
set_option maxRecDepth 20000 in
theorem gX1_begin_X6_hold : GoodIn wsX1_begin (wsV RX1 133 RX6 yX6_hold wsX6_hold) := goodIn_app (goodIn_of _ (by decide +kernel)) ggX1_begin_X6_hold
theorem dX1_begin_0 : decode cX1_begin 0 = .ok (.aload_n 0, 1) := by decide +kernel
theorem dX1_begin_1 : decode cX1_begin 1 = .ok (.aload_n 0, 1) := by decide +kernel
theorem dX1_begin_2 : decode cX1_begin 2 = .ok (.getfield 121, 3) := by decide +kernel
theorem dX1_begin_5 : decode cX1_begin 5 = .ok (.invokevirtual 125, 3) := by decide +kernel
theorem dX1_begin_8 : decode cX1_begin 8 = .ok (.aload_n 0, 1) := by decide +kernel
theorem dX1_begin_9 : decode cX1_begin 9 = .ok (.getfield 121, 3) := by decide +kernel
theorem dX1_begin_12 : decode cX1_begin 12 = .ok (.iconst 2, 1) := by decide +kernel
theorem dX1_begin_13 : decode cX1_begin 13 = .ok (.aload_n 0, 1) := by decide +kernel
theorem dX1_begin_14 : decode cX1_begin 14 = .ok (.iload_n 1, 1) := by decide +kernel
theorem dX1_begin_15 : decode cX1_begin 15 = .ok (.invokevirtual 129, 3) := by decide +kernel
theorem dX1_begin_18 : decode cX1_begin 18 = .ok (.invokevirtual 133, 3) := by decide +kernel
theorem dX1_begin_21 : decode cX1_begin 21 = .ok (.iload_n 1, 1) := by decide +kernel
theorem dX1_begin_22 : decode cX1_begin 22 = .ok (.ireturn, 1) := by decide +kernel
set_option maxRecDepth 20000 in
theorem ggX1_setSpan_X6_motion : GoodIn wsX1_setSpan wsX6_motion := goodIn_r _ [8, 9, 10, 11, 12, 13, 14, 15, 16, 17, 45, 46, 47, 48] (by decide +kernel) (by decide +kernel)
set_option maxRecDepth 20000 in
theorem gX1_setSpan_X6_motion : GoodIn wsX1_setSpan (wsV RX1 139 RX6 yX6_motion wsX6_motion) := goodIn_app (goodIn_of _ (by decide +kernel)) ggX1_setSpan_X6_motion
theorem dX1_setSpan_0 : decode cX1_setSpan 0 = .ok (.aload_n 0, 1) := by decide +kernel
theorem dX1_setSpan_1 : decode cX1_setSpan 1 = .ok (.getfield 121, 3) := by decide +kernel
theorem dX1_setSpan_4 : decode cX1_setSpan 4 = .ok (.invokevirtual 139, 3) := by decide +kernel
theorem dX1_setSpan_7 : decode cX1_setSpan 7 = .ok (.astore_n 3, 1) := by decide +kernel
theorem dX1_setSpan_8 : decode cX1_setSpan 8 = .ok (.aload_n 3, 1) := by decide +kernel
theorem dX1_setSpan_9 : decode cX1_setSpan 9 = .ok (.ifnull 13, 3) := by decide +kernel
theorem dX1_setSpan_12 : decode cX1_setSpan 12 = .ok (.aload_n 3, 1) := by decide +kernel
theorem dX1_setSpan_13 : decode cX1_setSpan 13 = .ok (.iload_n 1, 1) := by decide +kernel
theorem dX1_setSpan_14 : decode cX1_setSpan 14 = .ok (.putfield 142, 3) := by decide +kernel
theorem dX1_setSpan_17 : decode cX1_setSpan 17 = .ok (.aload_n 3, 1) := by decide +kernel
theorem dX1_setSpan_18 : decode cX1_setSpan 18 = .ok (.iload_n 2, 1) := by decide +kernel
theorem dX1_setSpan_19 : decode cX1_setSpan 19 = .ok (.putfield 145, 3) := by decide +kernel
theorem dX1_setSpan_22 : decode cX1_setSpan 22 = .ok (.iload_n 2, 1) := by decide +kernel
theorem dX1_setSpan_23 : decode cX1_setSpan 23 = .ok (.iload_n 1, 1) := by decide +kernel
theorem dX1_setSpan_24 : decode cX1_setSpan 24 = .ok (.isub, 1) := by decide +kernel
theorem dX1_setSpan_25 : decode cX1_setSpan 25 = .ok (.ireturn, 1) := by decide +kernel
set_option maxRecDepth 20000 in
theorem ggX1_addWords_X6_motion : GoodIn wsX1_addWords wsX6_motion := goodIn_r _ [8, 9, 10, 11, 12, 13, 14, 15, 16, 17, 54, 55, 56, 57] (by decide +kernel) (by decide +kernel)
set_option maxRecDepth 20000 in
theorem gX1_addWords_X6_motion : GoodIn wsX1_addWords (wsV RX1 139 RX6 yX6_motion wsX6_motion) := goodIn_app (goodIn_of _ (by decide +kernel)) ggX1_addWords_X6_motion
set_option maxRecDepth 20000 in
theorem ggX1_addWords_X9_append : GoodIn wsX1_addWords wsX9_append := goodIn_r _ [22, 23, 24, 52, 53] (by decide +kernel) (by decide +kernel)
set_option maxRecDepth 20000 in
theorem gX1_addWords_X9_append : GoodIn wsX1_addWords (wsV RX1 152 RX9 yX9_append wsX9_append) := goodIn_app (goodIn_of _ (by decide +kernel)) ggX1_addWords_X9_append
theorem dX1_addWords_0 : decode cX1_addWords 0 = .ok (.aload_n 0, 1) := by decide +kernel
theorem dX1_addWords_1 : decode cX1_addWords 1 = .ok (.getfield 121, 3) := by decide +kernel
theorem dX1_addWords_4 : decode cX1_addWords 4 = .ok (.invokevirtual 139, 3) := by decide +kernel
theorem dX1_addWords_7 : decode cX1_addWords 7 = .ok (.astore 5, 2) := by decide +kernel
theorem dX1_addWords_9 : decode cX1_addWords 9 = .ok (.aload 5, 2) := by decide +kernel
theorem dX1_addWords_11 : decode cX1_addWords 11 = .ok (.ifnonnull 5, 3) := by decide +kernel
theorem dX1_addWords_14 : decode cX1_addWords 14 = .ok (.iconst 0, 1) := by decide +kernel
theorem dX1_addWords_15 : decode cX1_addWords 15 = .ok (.ireturn, 1) := by decide +kernel
theorem dX1_addWords_16 : decode cX1_addWords 16 = .ok (.aload 5, 2) := by decide +kernel
theorem dX1_addWords_18 : decode cX1_addWords 18 = .ok (.getfield 148, 3) := by decide +kernel
theorem dX1_addWords_21 : decode cX1_addWords 21 = .ok (.iload_n 1, 1) := by decide +kernel
theorem dX1_addWords_22 : decode cX1_addWords 22 = .ok (.invokevirtual 152, 3) := by decide +kernel
theorem dX1_addWords_25 : decode cX1_addWords 25 = .ok (.aload 5, 2) := by decide +kernel
theorem dX1_addWords_27 : decode cX1_addWords 27 = .ok (.getfield 148, 3) := by decide +kernel
theorem dX1_addWords_30 : decode cX1_addWords 30 = .ok (.iload_n 2, 1) := by decide +kernel
theorem dX1_addWords_31 : decode cX1_addWords 31 = .ok (.invokevirtual 152, 3) := by decide +kernel
theorem dX1_addWords_34 : decode cX1_addWords 34 = .ok (.aload 5, 2) := by decide +kernel
theorem dX1_addWords_36 : decode cX1_addWords 36 = .ok (.getfield 148, 3) := by decide +kernel
theorem dX1_addWords_39 : decode cX1_addWords 39 = .ok (.iload_n 3, 1) := by decide +kernel
theorem dX1_addWords_40 : decode cX1_addWords 40 = .ok (.invokevirtual 152, 3) := by decide +kernel
theorem dX1_addWords_43 : decode cX1_addWords 43 = .ok (.aload 5, 2) := by decide +kernel
theorem dX1_addWords_45 : decode cX1_addWords 45 = .ok (.getfield 148, 3) := by decide +kernel
theorem dX1_addWords_48 : decode cX1_addWords 48 = .ok (.iload 4, 2) := by decide +kernel
theorem dX1_addWords_50 : decode cX1_addWords 50 = .ok (.invokevirtual 152, 3) := by decide +kernel
theorem dX1_addWords_53 : decode cX1_addWords 53 = .ok (.aload 5, 2) := by decide +kernel
theorem dX1_addWords_55 : decode cX1_addWords 55 = .ok (.getfield 148, 3) := by decide +kernel
theorem dX1_addWords_58 : decode cX1_addWords 58 = .ok (.getfield 158, 3) := by decide +kernel
theorem dX1_addWords_61 : decode cX1_addWords 61 = .ok (.ireturn, 1) := by decide +kernel
set_option maxRecDepth 20000 in
theorem ggX1_layDown_X0_placeAt : GoodIn wsX1_layDown wsX0_placeAt := goodIn_r _ [10, 11, 49, 50, 51, 52, 53, 54, 55, 56, 57, 58, 59] (by decide +kernel) (by decide +kernel)
set_option maxRecDepth 20000 in
theorem gX1_layDown_X0_placeAt : GoodIn wsX1_layDown (wsV RX1 159 RX0 yX0_placeAt wsX0_placeAt) := goodIn_app (goodIn_of _ (by decide +kernel)) ggX1_layDown_X0_placeAt
set_option maxRecDepth 20000 in
theorem ggX1_layDown_X6_motion : GoodIn wsX1_layDown wsX6_motion := goodIn_r _ [16, 17, 18, 19, 20, 21, 22, 23, 24, 25, 76, 77, 78, 79] (by decide +kernel) (by decide +kernel)
set_option maxRecDepth 20000 in
theorem gX1_layDown_X6_motion : GoodIn wsX1_layDown (wsV RX1 139 RX6 yX6_motion wsX6_motion) := goodIn_app (goodIn_of _ (by decide +kernel)) ggX1_layDown_X6_motion
set_option maxRecDepth 20000 in
theorem ggX1_layDown_X5_top : GoodIn wsX1_layDown wsX5_top := goodIn_r _ [29, 24, 30, 20, 21, 22, 23, 25, 78, 79] (by decide +kernel) (by decide +kernel)
set_option maxRecDepth 20000 in
theorem gX1_layDown_X5_top : GoodIn wsX1_layDown (wsV RX1 15 RX5 yX5_top wsX5_top) := goodIn_app (goodIn_of _ (by decide +kernel)) ggX1_layDown_X5_top
set_option maxRecDepth 20000 in
theorem ggX1_layDown_X4_amends : GoodIn wsX1_layDown wsX4_amends := goodIn_r _ [35, 36, 60, 61, 62, 63, 64, 65, 66, 67, 68, 69, 70, 71, 72, 73, 74, 75] (by decide +kernel) (by decide +kernel)
set_option maxRecDepth 20000 in
theorem gX1_layDown_X4_amends : GoodIn wsX1_layDown (wsV RX1 167 RX4 yX4_amends wsX4_amends) := goodIn_app (goodIn_of _ (by decide +kernel)) ggX1_layDown_X4_amends
set_option maxRecDepth 20000 in
theorem ggX1_layDown_X6_takeFrom : GoodIn wsX1_layDown wsX6_takeFrom := goodIn_r _ [40, 17, 18, 41, 42, 43, 22, 44, 24, 25, 45, 46, 47, 48, 76, 77, 78, 79] (by decide +kernel) (by decide +kernel)
set_option maxRecDepth 20000 in
theorem gX1_layDown_X6_takeFrom : GoodIn wsX1_layDown (wsV RX1 177 RX6 yX6_takeFrom wsX6_takeFrom) := goodIn_app (goodIn_of _ (by decide +kernel)) ggX1_layDown_X6_takeFrom
theorem dX1_layDown_0 : decode cX1_layDown 0 = .ok (.aload_n 0, 1) := by decide +kernel
theorem dX1_layDown_1 : decode cX1_layDown 1 = .ok (.iload_n 1, 1) := by decide +kernel
theorem dX1_layDown_2 : decode cX1_layDown 2 = .ok (.invokevirtual 159, 3) := by decide +kernel
theorem dX1_layDown_5 : decode cX1_layDown 5 = .ok (.astore_n 2, 1) := by decide +kernel
theorem dX1_layDown_6 : decode cX1_layDown 6 = .ok (.aload_n 0, 1) := by decide +kernel
theorem dX1_layDown_7 : decode cX1_layDown 7 = .ok (.getfield 121, 3) := by decide +kernel
theorem dX1_layDown_10 : decode cX1_layDown 10 = .ok (.invokevirtual 139, 3) := by decide +kernel
theorem dX1_layDown_13 : decode cX1_layDown 13 = .ok (.astore_n 3, 1) := by decide +kernel
theorem dX1_layDown_14 : decode cX1_layDown 14 = .ok (.aload_n 0, 1) := by decide +kernel
theorem dX1_layDown_15 : decode cX1_layDown 15 = .ok (.getfield 9, 3) := by decide +kernel
theorem dX1_layDown_18 : decode cX1_layDown 18 = .ok (.invokevirtual 15, 3) := by decide +kernel
theorem dX1_layDown_21 : decode cX1_layDown 21 = .ok (.astore 4, 2) := by decide +kernel
theorem dX1_layDown_23 : decode cX1_layDown 23 = .ok (.aload_n 3, 1) := by decide +kernel
theorem dX1_layDown_24 : decode cX1_layDown 24 = .ok (.ifnull 40, 3) := by decide +kernel
theorem dX1_layDown_27 : decode cX1_layDown 27 = .ok (.aload_n 3, 1) := by decide +kernel
theorem dX1_layDown_28 : decode cX1_layDown 28 = .ok (.getfield 163, 3) := by decide +kernel
theorem dX1_layDown_31 : decode cX1_layDown 31 = .ok (.ifCond .ne 33, 3) := by decide +kernel
theorem dX1_layDown_34 : decode cX1_layDown 34 = .ok (.aload_n 3, 1) := by decide +kernel
theorem dX1_layDown_35 : decode cX1_layDown 35 = .ok (.iconst 1, 1) := by decide +kernel
theorem dX1_layDown_36 : decode cX1_layDown 36 = .ok (.putfield 163, 3) := by decide +kernel
theorem dX1_layDown_39 : decode cX1_layDown 39 = .ok (.aload_n 3, 1) := by decide +kernel
theorem dX1_layDown_40 : decode cX1_layDown 40 = .ok (.aload_n 3, 1) := by decide +kernel
theorem dX1_layDown_41 : decode cX1_layDown 41 = .ok (.invokevirtual 167, 3) := by decide +kernel
theorem dX1_layDown_44 : decode cX1_layDown 44 = .ok (.ifCond .eq 16, 3) := by decide +kernel
theorem dX1_layDown_47 : decode cX1_layDown 47 = .ok (.aload 4, 2) := by decide +kernel
theorem dX1_layDown_49 : decode cX1_layDown 49 = .ok (.ifnull 11, 3) := by decide +kernel
theorem dX1_layDown_52 : decode cX1_layDown 52 = .ok (.aload 4, 2) := by decide +kernel
theorem dX1_layDown_54 : decode cX1_layDown 54 = .ok (.getfield 171, 3) := by decide +kernel
theorem dX1_layDown_57 : decode cX1_layDown 57 = .ok (.goto 4, 3) := by decide +kernel
theorem dX1_layDown_60 : decode cX1_layDown 60 = .ok (.iconst 0, 1) := by decide +kernel
theorem dX1_layDown_61 : decode cX1_layDown 61 = .ok (.putfield 174, 3) := by decide +kernel
theorem dX1_layDown_64 : decode cX1_layDown 64 = .ok (.aload_n 2, 1) := by decide +kernel
theorem dX1_layDown_65 : decode cX1_layDown 65 = .ok (.ifnull 11, 3) := by decide +kernel
theorem dX1_layDown_68 : decode cX1_layDown 68 = .ok (.aload_n 2, 1) := by decide +kernel
theorem dX1_layDown_69 : decode cX1_layDown 69 = .ok (.aload_n 0, 1) := by decide +kernel
theorem dX1_layDown_70 : decode cX1_layDown 70 = .ok (.getfield 121, 3) := by decide +kernel
theorem dX1_layDown_73 : decode cX1_layDown 73 = .ok (.invokevirtual 177, 3) := by decide +kernel
theorem dX1_layDown_76 : decode cX1_layDown 76 = .ok (.iload_n 1, 1) := by decide +kernel
theorem dX1_layDown_77 : decode cX1_layDown 77 = .ok (.ireturn, 1) := by decide +kernel
set_option maxRecDepth 20000 in
theorem ggX1_takeUp_X0_placeAt : GoodIn wsX1_takeUp wsX0_placeAt := goodIn_r _ [7, 8, 36, 37, 38, 39, 40, 41, 42, 43, 44, 45, 46] (by decide +kernel) (by decide +kernel)
set_option maxRecDepth 20000 in
theorem gX1_takeUp_X0_placeAt : GoodIn wsX1_takeUp (wsV RX1 159 RX0 yX0_placeAt wsX0_placeAt) := goodIn_app (goodIn_of _ (by decide +kernel)) ggX1_takeUp_X0_placeAt
set_option maxRecDepth 20000 in
theorem ggX1_takeUp_X6_takeFrom : GoodIn wsX1_takeUp wsX6_takeFrom := goodIn_r _ [13, 14, 15, 16, 17, 18, 19, 20, 21, 22, 23, 24, 25, 26, 47, 48, 49, 50] (by decide +kernel) (by decide +kernel)
set_option maxRecDepth 20000 in
theorem gX1_takeUp_X6_takeFrom : GoodIn wsX1_takeUp (wsV RX1 177 RX6 yX6_takeFrom wsX6_takeFrom) := goodIn_app (goodIn_of _ (by decide +kernel)) ggX1_takeUp_X6_takeFrom
set_option maxRecDepth 20000 in
theorem ggX1_takeUp_X6_kind : GoodIn wsX1_takeUp wsX6_kind := goodIn_r _ [30, 15, 14, 31, 32, 33, 34, 19, 35, 21, 22, 47, 48, 51, 52, 53, 54, 55, 56, 57, 58, 59, 60, 61, 62, 63, 64, 65, 66, 49, 50] (by decide +kernel) (by decide +kernel)
set_option maxRecDepth 20000 in
theorem gX1_takeUp_X6_kind : GoodIn wsX1_takeUp (wsV RX1 183 RX6 yX6_kind wsX6_kind) := goodIn_app (goodIn_of _ (by decide +kernel)) ggX1_takeUp_X6_kind
theorem dX1_takeUp_0 : decode cX1_takeUp 0 = .ok (.aload_n 0, 1) := by decide +kernel
theorem dX1_takeUp_1 : decode cX1_takeUp 1 = .ok (.iload_n 1, 1) := by decide +kernel
theorem dX1_takeUp_2 : decode cX1_takeUp 2 = .ok (.invokevirtual 159, 3) := by decide +kernel
theorem dX1_takeUp_5 : decode cX1_takeUp 5 = .ok (.astore_n 2, 1) := by decide +kernel
theorem dX1_takeUp_6 : decode cX1_takeUp 6 = .ok (.aload_n 2, 1) := by decide +kernel
theorem dX1_takeUp_7 : decode cX1_takeUp 7 = .ok (.ifnull 11, 3) := by decide +kernel
theorem dX1_takeUp_10 : decode cX1_takeUp 10 = .ok (.aload_n 0, 1) := by decide +kernel
theorem dX1_takeUp_11 : decode cX1_takeUp 11 = .ok (.getfield 121, 3) := by decide +kernel
theorem dX1_takeUp_14 : decode cX1_takeUp 14 = .ok (.aload_n 2, 1) := by decide +kernel
theorem dX1_takeUp_15 : decode cX1_takeUp 15 = .ok (.invokevirtual 177, 3) := by decide +kernel
theorem dX1_takeUp_18 : decode cX1_takeUp 18 = .ok (.aload_n 0, 1) := by decide +kernel
theorem dX1_takeUp_19 : decode cX1_takeUp 19 = .ok (.getfield 121, 3) := by decide +kernel
theorem dX1_takeUp_22 : decode cX1_takeUp 22 = .ok (.getfield 180, 3) := by decide +kernel
theorem dX1_takeUp_25 : decode cX1_takeUp 25 = .ok (.iconst 1, 1) := by decide +kernel
theorem dX1_takeUp_26 : decode cX1_takeUp 26 = .ok (.if_icmp .ne 11, 3) := by decide +kernel
theorem dX1_takeUp_29 : decode cX1_takeUp 29 = .ok (.aload_n 0, 1) := by decide +kernel
theorem dX1_takeUp_30 : decode cX1_takeUp 30 = .ok (.getfield 121, 3) := by decide +kernel
theorem dX1_takeUp_33 : decode cX1_takeUp 33 = .ok (.iconst 2, 1) := by decide +kernel
theorem dX1_takeUp_34 : decode cX1_takeUp 34 = .ok (.putfield 180, 3) := by decide +kernel
theorem dX1_takeUp_37 : decode cX1_takeUp 37 = .ok (.aload_n 0, 1) := by decide +kernel
theorem dX1_takeUp_38 : decode cX1_takeUp 38 = .ok (.getfield 121, 3) := by decide +kernel
theorem dX1_takeUp_41 : decode cX1_takeUp 41 = .ok (.invokevirtual 183, 3) := by decide +kernel
theorem dX1_takeUp_44 : decode cX1_takeUp 44 = .ok (.ireturn, 1) := by decide +kernel
set_option maxRecDepth 20000 in
theorem ggX1_bringUp_X6_motion : GoodIn wsX1_bringUp wsX6_motion := goodIn_r _ [16, 17, 18, 19, 20, 21, 22, 23, 24, 25, 61, 62, 71, 72] (by decide +kernel) (by decide +kernel)
set_option maxRecDepth 20000 in
theorem gX1_bringUp_X6_motion : GoodIn wsX1_bringUp (wsV RX1 139 RX6 yX6_motion wsX6_motion) := goodIn_app (goodIn_of _ (by decide +kernel)) ggX1_bringUp_X6_motion
set_option maxRecDepth 20000 in
theorem ggX1_bringUp_X5_pourInto : GoodIn wsX1_bringUp wsX5_pourInto := goodIn_r _ [29, 24, 25, 30, 31, 32, 22, 33, 71, 72] (by decide +kernel) (by decide +kernel)
set_option maxRecDepth 20000 in
theorem gX1_bringUp_X5_pourInto : GoodIn wsX1_bringUp (wsV RX1 196 RX5 yX5_pourInto wsX5_pourInto) := goodIn_app (goodIn_of _ (by decide +kernel)) ggX1_bringUp_X5_pourInto
theorem dX1_bringUp_0 : decode cX1_bringUp 0 = .ok (.aload_n 0, 1) := by decide +kernel
theorem dX1_bringUp_1 : decode cX1_bringUp 1 = .ok (.getfield 121, 3) := by decide +kernel
theorem dX1_bringUp_4 : decode cX1_bringUp 4 = .ok (.invokevirtual 139, 3) := by decide +kernel
theorem dX1_bringUp_7 : decode cX1_bringUp 7 = .ok (.astore_n 2, 1) := by decide +kernel
theorem dX1_bringUp_8 : decode cX1_bringUp 8 = .ok (.aload_n 2, 1) := by decide +kernel
theorem dX1_bringUp_9 : decode cX1_bringUp 9 = .ok (.ifnull 31, 3) := by decide +kernel
theorem dX1_bringUp_12 : decode cX1_bringUp 12 = .ok (.aload_n 0, 1) := by decide +kernel
theorem dX1_bringUp_13 : decode cX1_bringUp 13 = .ok (.dup, 1) := by decide +kernel
theorem dX1_bringUp_14 : decode cX1_bringUp 14 = .ok (.getfield 187, 3) := by decide +kernel
theorem dX1_bringUp_17 : decode cX1_bringUp 17 = .ok (.iconst 1, 1) := by decide +kernel
theorem dX1_bringUp_18 : decode cX1_bringUp 18 = .ok (.iadd, 1) := by decide +kernel
theorem dX1_bringUp_19 : decode cX1_bringUp 19 = .ok (.putfield 187, 3) := by decide +kernel
theorem dX1_bringUp_22 : decode cX1_bringUp 22 = .ok (.aload_n 2, 1) := by decide +kernel
theorem dX1_bringUp_23 : decode cX1_bringUp 23 = .ok (.aload_n 0, 1) := by decide +kernel
theorem dX1_bringUp_24 : decode cX1_bringUp 24 = .ok (.getfield 187, 3) := by decide +kernel
theorem dX1_bringUp_27 : decode cX1_bringUp 27 = .ok (.putfield 171, 3) := by decide +kernel
theorem dX1_bringUp_30 : decode cX1_bringUp 30 = .ok (.aload_n 2, 1) := by decide +kernel
theorem dX1_bringUp_31 : decode cX1_bringUp 31 = .ok (.iload_n 1, 1) := by decide +kernel
theorem dX1_bringUp_32 : decode cX1_bringUp 32 = .ok (.putfield 190, 3) := by decide +kernel
theorem dX1_bringUp_35 : decode cX1_bringUp 35 = .ok (.aload_n 2, 1) := by decide +kernel
theorem dX1_bringUp_36 : decode cX1_bringUp 36 = .ok (.iconst 0, 1) := by decide +kernel
theorem dX1_bringUp_37 : decode cX1_bringUp 37 = .ok (.putfield 163, 3) := by decide +kernel
theorem dX1_bringUp_40 : decode cX1_bringUp 40 = .ok (.aload_n 0, 1) := by decide +kernel
theorem dX1_bringUp_41 : decode cX1_bringUp 41 = .ok (.getfield 121, 3) := by decide +kernel
theorem dX1_bringUp_44 : decode cX1_bringUp 44 = .ok (.getfield 193, 3) := by decide +kernel
theorem dX1_bringUp_47 : decode cX1_bringUp 47 = .ok (.aload_n 0, 1) := by decide +kernel
theorem dX1_bringUp_48 : decode cX1_bringUp 48 = .ok (.getfield 9, 3) := by decide +kernel
theorem dX1_bringUp_51 : decode cX1_bringUp 51 = .ok (.invokevirtual 196, 3) := by decide +kernel
theorem dX1_bringUp_54 : decode cX1_bringUp 54 = .ok (.aload_n 0, 1) := by decide +kernel
theorem dX1_bringUp_55 : decode cX1_bringUp 55 = .ok (.getfield 121, 3) := by decide +kernel
theorem dX1_bringUp_58 : decode cX1_bringUp 58 = .ok (.iconst 0, 1) := by decide +kernel
theorem dX1_bringUp_59 : decode cX1_bringUp 59 = .ok (.putfield 180, 3) := by decide +kernel
theorem dX1_bringUp_62 : decode cX1_bringUp 62 = .ok (.aload_n 0, 1) := by decide +kernel
theorem dX1_bringUp_63 : decode cX1_bringUp 63 = .ok (.getfield 21, 3) := by decide +kernel
theorem dX1_bringUp_66 : decode cX1_bringUp 66 = .ok (.iconst (-1), 1) := by decide +kernel
theorem dX1_bringUp_67 : decode cX1_bringUp 67 = .ok (.putfield 112, 3) := by decide +kernel
theorem dX1_bringUp_70 : decode cX1_bringUp 70 = .ok (.aload_n 0, 1) := by decide +kernel
theorem dX1_bringUp_71 : decode cX1_bringUp 71 = .ok (.getfield 9, 3) := by decide +kernel
theorem dX1_bringUp_74 : decode cX1_bringUp 74 = .ok (.getfield 96, 3) := by decide +kernel
theorem dX1_bringUp_77 : decode cX1_bringUp 77 = .ok (.ireturn, 1) := by decide +kernel
theorem dX1_support_0 : decode cX1_support 0 = .ok (.aload_n 0, 1) := by decide +kernel
theorem dX1_support_1 : decode cX1_support 1 = .ok (.ifnull 8, 3) := by decide +kernel
theorem dX1_support_4 : decode cX1_support 4 = .ok (.aload_n 0, 1) := by decide +kernel
theorem dX1_support_5 : decode cX1_support 5 = .ok (.iload_n 1, 1) := by decide +kernel
theorem dX1_support_6 : decode cX1_support 6 = .ok (.putfield 199, 3) := by decide +kernel
theorem dX1_support_9 : decode cX1_support 9 = .ok (.iconst 1, 1) := by decide +kernel
theorem dX1_support_10 : decode cX1_support 10 = .ok (.ireturn, 1) := by decide +kernel
set_option maxRecDepth 20000 in
theorem ggX1_putRuling_X0_newMotion : GoodIn wsX1_putRuling wsX0_newMotion := goodIn_r _ [9, 10, 11, 12, 13, 14, 15, 16, 17, 18, 19, 20, 21, 22, 23, 24, 25, 26, 27, 28, 29, 30, 31, 32, 33, 34, 35, 36, 37, 38, 39, 40, 41, 42, 43, 44, 45, 46, 47, 48, 49, 50, 51, 52, 53, 54, 55, 56, 64, 65, 66, 67, 68, 69, 70, 71, 72, 73, 74, 83, 84, 85, 86, 87, 88, 89, 90, 91, 92, 93, 94, 95, 96, 97, 98, 99, 100] (by decide +kernel) (by decide +kernel)
set_option maxRecDepth 20000 in
theorem gX1_putRuling_X0_newMotion : GoodIn wsX1_putRuling (wsV RX1 129 RX0 yX0_newMotion wsX0_newMotion) := goodIn_app (goodIn_of _ (by decide +kernel)) ggX1_putRuling_X0_newMotion
set_option maxRecDepth 20000 in
theorem ggX1_putRuling_X5_put : GoodIn wsX1_putRuling wsX5_put := goodIn_r _ [61, 62, 63, 101, 102] (by decide +kernel) (by decide +kernel)
set_option maxRecDepth 20000 in
theorem gX1_putRuling_X5_put : GoodIn wsX1_putRuling (wsV RX1 205 RX5 yX5_put wsX5_put) := goodIn_app (goodIn_of _ (by decide +kernel)) ggX1_putRuling_X5_put
theorem dX1_putRuling_0 : decode cX1_putRuling 0 = .ok (.aload_n 0, 1) := by decide +kernel
theorem dX1_putRuling_1 : decode cX1_putRuling 1 = .ok (.bipush 9, 2) := by decide +kernel
theorem dX1_putRuling_3 : decode cX1_putRuling 3 = .ok (.invokevirtual 129, 3) := by decide +kernel
theorem dX1_putRuling_6 : decode cX1_putRuling 6 = .ok (.astore_n 1, 1) := by decide +kernel
theorem dX1_putRuling_7 : decode cX1_putRuling 7 = .ok (.aload_n 1, 1) := by decide +kernel
theorem dX1_putRuling_8 : decode cX1_putRuling 8 = .ok (.aload_n 0, 1) := by decide +kernel
theorem dX1_putRuling_9 : decode cX1_putRuling 9 = .ok (.getfield 21, 3) := by decide +kernel
theorem dX1_putRuling_12 : decode cX1_putRuling 12 = .ok (.getfield 202, 3) := by decide +kernel
theorem dX1_putRuling_15 : decode cX1_putRuling 15 = .ok (.putfield 190, 3) := by decide +kernel
theorem dX1_putRuling_18 : decode cX1_putRuling 18 = .ok (.aload_n 0, 1) := by decide +kernel
theorem dX1_putRuling_19 : decode cX1_putRuling 19 = .ok (.getfield 9, 3) := by decide +kernel
theorem dX1_putRuling_22 : decode cX1_putRuling 22 = .ok (.aload_n 1, 1) := by decide +kernel
theorem dX1_putRuling_23 : decode cX1_putRuling 23 = .ok (.invokevirtual 205, 3) := by decide +kernel
theorem dX1_putRuling_26 : decode cX1_putRuling 26 = .ok (.bipush 9, 2) := by decide +kernel
theorem dX1_putRuling_28 : decode cX1_putRuling 28 = .ok (.ireturn, 1) := by decide +kernel
set_option maxRecDepth 20000 in
theorem ggX1_endSitting_X0_release : GoodIn wsX1_endSitting wsX0_release := goodIn_r _ [10, 11, 12, 13, 14, 9, 15, 16, 17, 18, 19, 20, 21, 22, 23, 24, 43, 44, 32, 33, 34, 35, 36, 37, 38, 39, 40, 41, 42, 53, 54, 55, 56, 57, 58, 59, 60, 61, 62, 63, 64, 65, 66, 67, 68] (by decide +kernel) (by decide +kernel)
set_option maxRecDepth 20000 in
theorem gX1_endSitting_X0_release : GoodIn wsX1_endSitting (wsV RX1 209 RX0 yX0_release wsX0_release) := goodIn_app (goodIn_of _ (by decide +kernel)) ggX1_endSitting_X0_release
set_option maxRecDepth 20000 in
theorem ggX1_endSitting_X0_discard : GoodIn wsX1_endSitting wsX0_discard := goodIn_r _ [28, 29, 30, 31, 7, 8, 9, 10, 11, 12, 13, 14, 15, 16, 17, 18, 19, 20, 21, 22, 23, 24, 69, 70, 43, 44, 32, 33, 34, 35, 36, 37, 38, 39, 40, 41, 42, 53, 54, 55, 56, 57, 58, 59, 60, 61, 62, 63, 64, 65, 66, 67, 68] (by decide +kernel) (by decide +kernel)
set_option maxRecDepth 20000 in
theorem gX1_endSitting_X0_discard : GoodIn wsX1_endSitting (wsV RX1 125 RX0 yX0_discard wsX0_discard) := goodIn_app (goodIn_of _ (by decide +kernel)) ggX1_endSitting_X0_discard
theorem dX1_endSitting_0 : decode cX1_endSitting 0 = .ok (.aload_n 0, 1) := by decide +kernel
theorem dX1_endSitting_1 : decode cX1_endSitting 1 = .ok (.getfield 9, 3) := by decide +kernel
theorem dX1_endSitting_4 : decode cX1_endSitting 4 = .ok (.getfield 96, 3) := by decide +kernel
theorem dX1_endSitting_7 : decode cX1_endSitting 7 = .ok (.istore_n 1, 1) := by decide +kernel
theorem dX1_endSitting_8 : decode cX1_endSitting 8 = .ok (.aload_n 0, 1) := by decide +kernel
theorem dX1_endSitting_9 : decode cX1_endSitting 9 = .ok (.aload_n 0, 1) := by decide +kernel
theorem dX1_endSitting_10 : decode cX1_endSitting 10 = .ok (.getfield 9, 3) := by decide +kernel
theorem dX1_endSitting_13 : decode cX1_endSitting 13 = .ok (.invokevirtual 209, 3) := by decide +kernel
theorem dX1_endSitting_16 : decode cX1_endSitting 16 = .ok (.aload_n 0, 1) := by decide +kernel
theorem dX1_endSitting_17 : decode cX1_endSitting 17 = .ok (.aload_n 0, 1) := by decide +kernel
theorem dX1_endSitting_18 : decode cX1_endSitting 18 = .ok (.getfield 121, 3) := by decide +kernel
theorem dX1_endSitting_21 : decode cX1_endSitting 21 = .ok (.invokevirtual 125, 3) := by decide +kernel
theorem dX1_endSitting_24 : decode cX1_endSitting 24 = .ok (.aload_n 0, 1) := by decide +kernel
theorem dX1_endSitting_25 : decode cX1_endSitting 25 = .ok (.getfield 21, 3) := by decide +kernel
theorem dX1_endSitting_28 : decode cX1_endSitting 28 = .ok (.iconst (-1), 1) := by decide +kernel
theorem dX1_endSitting_29 : decode cX1_endSitting 29 = .ok (.putfield 112, 3) := by decide +kernel
theorem dX1_endSitting_32 : decode cX1_endSitting 32 = .ok (.iload_n 1, 1) := by decide +kernel
theorem dX1_endSitting_33 : decode cX1_endSitting 33 = .ok (.ireturn, 1) := by decide +kernel
theorem dX2_init_0 : decode cX2_init 0 = .ok (.aload_n 0, 1) := by decide +kernel
theorem dX2_init_1 : decode cX2_init 1 = .ok (.invokespecial 3, 3) := by decide +kernel
theorem dX2_init_4 : decode cX2_init 4 = .ok (.aload_n 0, 1) := by decide +kernel
theorem dX2_init_5 : decode cX2_init 5 = .ok (.sipush 200, 3) := by decide +kernel
theorem dX2_init_8 : decode cX2_init 8 = .ok (.newarray .boolean, 2) := by decide +kernel
theorem dX2_init_10 : decode cX2_init 10 = .ok (.putfield 9, 3) := by decide +kernel
theorem dX2_init_13 : decode cX2_init 13 = .ok (.aload_n 0, 1) := by decide +kernel
theorem dX2_init_14 : decode cX2_init 14 = .ok (.bipush 9, 2) := by decide +kernel
theorem dX2_init_16 : decode cX2_init 16 = .ok (.newarray .int, 2) := by decide +kernel
theorem dX2_init_18 : decode cX2_init 18 = .ok (.putfield 15, 3) := by decide +kernel
theorem dX2_init_21 : decode cX2_init 21 = .ok (.return_, 1) := by decide +kernel
set_option maxRecDepth 20000 in
theorem ggX2_begin_X2_empty : GoodIn wsX2_begin wsX2_empty := goodIn_r _ [10, 11, 12, 13, 18, 19, 20, 21, 22, 23, 24, 25] (by decide +kernel) (by decide +kernel)
set_option maxRecDepth 20000 in
theorem gX2_begin_X2_empty : GoodIn wsX2_begin (wsV RX2 32 RX2 yX2_empty wsX2_empty) := goodIn_app (goodIn_of _ (by decide +kernel)) ggX2_begin_X2_empty
set_option maxRecDepth 20000 in
theorem ggX2_begin_J7_fill_53178 : GoodIn wsX2_begin wsJ7_fill_53178 := goodIn_r _ [17] (by decide +kernel) (by decide +kernel)
set_option maxRecDepth 20000 in
theorem gX2_begin_J7_fill_53178 : GoodIn wsX2_begin (va_wsS RX2 35 yJ7_fill_53178 wsJ7_fill_53178) := goodIn_app (goodIn_of _ (by decide +kernel)) ggX2_begin_J7_fill_53178
theorem dX2_begin_0 : decode cX2_begin 0 = .ok (.aload_n 0, 1) := by decide +kernel
theorem dX2_begin_1 : decode cX2_begin 1 = .ok (.iload_n 1, 1) := by decide +kernel
theorem dX2_begin_2 : decode cX2_begin 2 = .ok (.putfield 19, 3) := by decide +kernel
theorem dX2_begin_5 : decode cX2_begin 5 = .ok (.aload_n 0, 1) := by decide +kernel
theorem dX2_begin_6 : decode cX2_begin 6 = .ok (.iconst 0, 1) := by decide +kernel
theorem dX2_begin_7 : decode cX2_begin 7 = .ok (.putfield 23, 3) := by decide +kernel
theorem dX2_begin_10 : decode cX2_begin 10 = .ok (.aload_n 0, 1) := by decide +kernel
theorem dX2_begin_11 : decode cX2_begin 11 = .ok (.iconst 0, 1) := by decide +kernel
theorem dX2_begin_12 : decode cX2_begin 12 = .ok (.putfield 26, 3) := by decide +kernel
theorem dX2_begin_15 : decode cX2_begin 15 = .ok (.aload_n 0, 1) := by decide +kernel
theorem dX2_begin_16 : decode cX2_begin 16 = .ok (.iconst (-1), 1) := by decide +kernel
theorem dX2_begin_17 : decode cX2_begin 17 = .ok (.putfield 29, 3) := by decide +kernel
theorem dX2_begin_20 : decode cX2_begin 20 = .ok (.aload_n 0, 1) := by decide +kernel
theorem dX2_begin_21 : decode cX2_begin 21 = .ok (.invokevirtual 32, 3) := by decide +kernel
theorem dX2_begin_24 : decode cX2_begin 24 = .ok (.aload_n 0, 1) := by decide +kernel
theorem dX2_begin_25 : decode cX2_begin 25 = .ok (.getfield 15, 3) := by decide +kernel
theorem dX2_begin_28 : decode cX2_begin 28 = .ok (.iconst 1, 1) := by decide +kernel
theorem dX2_begin_29 : decode cX2_begin 29 = .ok (.invokestatic 35, 3) := by decide +kernel
theorem dX2_begin_32 : decode cX2_begin 32 = .ok (.aload_n 0, 1) := by decide +kernel
theorem dX2_begin_33 : decode cX2_begin 33 = .ok (.getfield 15, 3) := by decide +kernel
theorem dX2_begin_36 : decode cX2_begin 36 = .ok (.bipush 6, 2) := by decide +kernel
theorem dX2_begin_38 : decode cX2_begin 38 = .ok (.iconst 2, 1) := by decide +kernel
theorem dX2_begin_39 : decode cX2_begin 39 = .ok (.iastore, 1) := by decide +kernel
theorem dX2_begin_40 : decode cX2_begin 40 = .ok (.return_, 1) := by decide +kernel
theorem dX2_become_0 : decode cX2_become 0 = .ok (.aload_n 0, 1) := by decide +kernel
theorem dX2_become_1 : decode cX2_become 1 = .ok (.aload_n 1, 1) := by decide +kernel
theorem dX2_become_2 : decode cX2_become 2 = .ok (.getfield 19, 3) := by decide +kernel
theorem dX2_become_5 : decode cX2_become 5 = .ok (.putfield 19, 3) := by decide +kernel
theorem dX2_become_8 : decode cX2_become 8 = .ok (.iconst 0, 1) := by decide +kernel
theorem dX2_become_9 : decode cX2_become 9 = .ok (.istore_n 2, 1) := by decide +kernel
theorem dX2_become_10 : decode cX2_become 10 = .ok (.iload_n 2, 1) := by decide +kernel
theorem dX2_become_11 : decode cX2_become 11 = .ok (.aload_n 0, 1) := by decide +kernel
theorem dX2_become_12 : decode cX2_become 12 = .ok (.getfield 9, 3) := by decide +kernel
theorem dX2_become_15 : decode cX2_become 15 = .ok (.arraylength, 1) := by decide +kernel
theorem dX2_become_16 : decode cX2_become 16 = .ok (.if_icmp .ge 21, 3) := by decide +kernel
theorem dX2_become_19 : decode cX2_become 19 = .ok (.aload_n 0, 1) := by decide +kernel
theorem dX2_become_20 : decode cX2_become 20 = .ok (.getfield 9, 3) := by decide +kernel
theorem dX2_become_23 : decode cX2_become 23 = .ok (.iload_n 2, 1) := by decide +kernel
theorem dX2_become_24 : decode cX2_become 24 = .ok (.aload_n 1, 1) := by decide +kernel
theorem dX2_become_25 : decode cX2_become 25 = .ok (.getfield 9, 3) := by decide +kernel
theorem dX2_become_28 : decode cX2_become 28 = .ok (.iload_n 2, 1) := by decide +kernel
theorem dX2_become_29 : decode cX2_become 29 = .ok (.baload, 1) := by decide +kernel
theorem dX2_become_30 : decode cX2_become 30 = .ok (.bastore, 1) := by decide +kernel
theorem dX2_become_31 : decode cX2_become 31 = .ok (.iinc 2 1, 3) := by decide +kernel
theorem dX2_become_34 : decode cX2_become 34 = .ok (.goto (-24), 3) := by decide +kernel
theorem dX2_become_37 : decode cX2_become 37 = .ok (.aload_n 0, 1) := by decide +kernel
theorem dX2_become_38 : decode cX2_become 38 = .ok (.aload_n 1, 1) := by decide +kernel
theorem dX2_become_39 : decode cX2_become 39 = .ok (.getfield 41, 3) := by decide +kernel
theorem dX2_become_42 : decode cX2_become 42 = .ok (.putfield 41, 3) := by decide +kernel
theorem dX2_become_45 : decode cX2_become 45 = .ok (.aload_n 0, 1) := by decide +kernel
theorem dX2_become_46 : decode cX2_become 46 = .ok (.aload_n 1, 1) := by decide +kernel
theorem dX2_become_47 : decode cX2_become 47 = .ok (.getfield 29, 3) := by decide +kernel
theorem dX2_become_50 : decode cX2_become 50 = .ok (.putfield 29, 3) := by decide +kernel
theorem dX2_become_53 : decode cX2_become 53 = .ok (.aload_n 0, 1) := by decide +kernel
theorem dX2_become_54 : decode cX2_become 54 = .ok (.aload_n 1, 1) := by decide +kernel
theorem dX2_become_55 : decode cX2_become 55 = .ok (.getfield 23, 3) := by decide +kernel
theorem dX2_become_58 : decode cX2_become 58 = .ok (.putfield 23, 3) := by decide +kernel
theorem dX2_become_61 : decode cX2_become 61 = .ok (.aload_n 0, 1) := by decide +kernel
theorem dX2_become_62 : decode cX2_become 62 = .ok (.aload_n 1, 1) := by decide +kernel
theorem dX2_become_63 : decode cX2_become 63 = .ok (.getfield 26, 3) := by decide +kernel
theorem dX2_become_66 : decode cX2_become 66 = .ok (.putfield 26, 3) := by decide +kernel
theorem dX2_become_69 : decode cX2_become 69 = .ok (.aload_n 0, 1) := by decide +kernel
theorem dX2_become_70 : decode cX2_become 70 = .ok (.aload_n 1, 1) := by decide +kernel
theorem dX2_become_71 : decode cX2_become 71 = .ok (.getfield 44, 3) := by decide +kernel
theorem dX2_become_74 : decode cX2_become 74 = .ok (.putfield 44, 3) := by decide +kernel
theorem dX2_become_77 : decode cX2_become 77 = .ok (.aload_n 1, 1) := by decide +kernel
theorem dX2_become_78 : decode cX2_become 78 = .ok (.getfield 15, 3) := by decide +kernel
theorem dX2_become_81 : decode cX2_become 81 = .ok (.iconst 0, 1) := by decide +kernel
theorem dX2_become_82 : decode cX2_become 82 = .ok (.aload_n 0, 1) := by decide +kernel
theorem dX2_become_83 : decode cX2_become 83 = .ok (.getfield 15, 3) := by decide +kernel
theorem dX2_become_86 : decode cX2_become 86 = .ok (.iconst 0, 1) := by decide +kernel
theorem dX2_become_87 : decode cX2_become 87 = .ok (.aload_n 0, 1) := by decide +kernel
theorem dX2_become_88 : decode cX2_become 88 = .ok (.getfield 15, 3) := by decide +kernel
theorem dX2_become_91 : decode cX2_become 91 = .ok (.arraylength, 1) := by decide +kernel
theorem dX2_become_92 : decode cX2_become 92 = .ok (.invokestatic 47, 3) := by decide +kernel
theorem dX2_become_95 : decode cX2_become 95 = .ok (.return_, 1) := by decide +kernel
theorem dX2_has_0 : decode cX2_has 0 = .ok (.iload_n 1, 1) := by decide +kernel
theorem dX2_has_1 : decode cX2_has 1 = .ok (.ifCond .lt 24, 3) := by decide +kernel
theorem dX2_has_4 : decode cX2_has 4 = .ok (.iload_n 1, 1) := by decide +kernel
theorem dX2_has_5 : decode cX2_has 5 = .ok (.aload_n 0, 1) := by decide +kernel
theorem dX2_has_6 : decode cX2_has 6 = .ok (.getfield 19, 3) := by decide +kernel
theorem dX2_has_9 : decode cX2_has 9 = .ok (.if_icmp .ge 16, 3) := by decide +kernel
theorem dX2_has_12 : decode cX2_has 12 = .ok (.iload_n 1, 1) := by decide +kernel
theorem dX2_has_13 : decode cX2_has 13 = .ok (.aload_n 0, 1) := by decide +kernel
theorem dX2_has_14 : decode cX2_has 14 = .ok (.getfield 9, 3) := by decide +kernel
theorem dX2_has_17 : decode cX2_has 17 = .ok (.arraylength, 1) := by decide +kernel
theorem dX2_has_18 : decode cX2_has 18 = .ok (.if_icmp .ge 7, 3) := by decide +kernel
theorem dX2_has_21 : decode cX2_has 21 = .ok (.iconst 1, 1) := by decide +kernel
theorem dX2_has_22 : decode cX2_has 22 = .ok (.goto 4, 3) := by decide +kernel
theorem dX2_has_25 : decode cX2_has 25 = .ok (.iconst 0, 1) := by decide +kernel
theorem dX2_has_26 : decode cX2_has 26 = .ok (.ireturn, 1) := by decide +kernel
theorem dX2_isThere_0 : decode cX2_isThere 0 = .ok (.iload_n 1, 1) := by decide +kernel
theorem dX2_isThere_1 : decode cX2_isThere 1 = .ok (.ifCond .lt 33, 3) := by decide +kernel
theorem dX2_isThere_4 : decode cX2_isThere 4 = .ok (.iload_n 1, 1) := by decide +kernel
theorem dX2_isThere_5 : decode cX2_isThere 5 = .ok (.aload_n 0, 1) := by decide +kernel
theorem dX2_isThere_6 : decode cX2_isThere 6 = .ok (.getfield 19, 3) := by decide +kernel
theorem dX2_isThere_9 : decode cX2_isThere 9 = .ok (.if_icmp .ge 25, 3) := by decide +kernel
theorem dX2_isThere_12 : decode cX2_isThere 12 = .ok (.iload_n 1, 1) := by decide +kernel
theorem dX2_isThere_13 : decode cX2_isThere 13 = .ok (.aload_n 0, 1) := by decide +kernel
theorem dX2_isThere_14 : decode cX2_isThere 14 = .ok (.getfield 9, 3) := by decide +kernel
theorem dX2_isThere_17 : decode cX2_isThere 17 = .ok (.arraylength, 1) := by decide +kernel
theorem dX2_isThere_18 : decode cX2_isThere 18 = .ok (.if_icmp .ge 16, 3) := by decide +kernel
theorem dX2_isThere_21 : decode cX2_isThere 21 = .ok (.aload_n 0, 1) := by decide +kernel
theorem dX2_isThere_22 : decode cX2_isThere 22 = .ok (.getfield 9, 3) := by decide +kernel
theorem dX2_isThere_25 : decode cX2_isThere 25 = .ok (.iload_n 1, 1) := by decide +kernel
theorem dX2_isThere_26 : decode cX2_isThere 26 = .ok (.baload, 1) := by decide +kernel
theorem dX2_isThere_27 : decode cX2_isThere 27 = .ok (.ifCond .eq 7, 3) := by decide +kernel
theorem dX2_isThere_30 : decode cX2_isThere 30 = .ok (.iconst 1, 1) := by decide +kernel
theorem dX2_isThere_31 : decode cX2_isThere 31 = .ok (.goto 4, 3) := by decide +kernel
theorem dX2_isThere_34 : decode cX2_isThere 34 = .ok (.iconst 0, 1) := by decide +kernel
theorem dX2_isThere_35 : decode cX2_isThere 35 = .ok (.ireturn, 1) := by decide +kernel
theorem dX2_hasFloor_0 : decode cX2_hasFloor 0 = .ok (.iload_n 1, 1) := by decide +kernel
theorem dX2_hasFloor_1 : decode cX2_hasFloor 1 = .ok (.iconst (-1), 1) := by decide +kernel
theorem dX2_hasFloor_2 : decode cX2_hasFloor 2 = .ok (.if_icmp .eq 15, 3) := by decide +kernel
theorem dX2_hasFloor_5 : decode cX2_hasFloor 5 = .ok (.iload_n 1, 1) := by decide +kernel
theorem dX2_hasFloor_6 : decode cX2_hasFloor 6 = .ok (.aload_n 0, 1) := by decide +kernel
theorem dX2_hasFloor_7 : decode cX2_hasFloor 7 = .ok (.getfield 44, 3) := by decide +kernel
theorem dX2_hasFloor_10 : decode cX2_hasFloor 10 = .ok (.if_icmp .ne 7, 3) := by decide +kernel
theorem dX2_hasFloor_13 : decode cX2_hasFloor 13 = .ok (.iconst 1, 1) := by decide +kernel
theorem dX2_hasFloor_14 : decode cX2_hasFloor 14 = .ok (.goto 4, 3) := by decide +kernel
theorem dX2_hasFloor_17 : decode cX2_hasFloor 17 = .ok (.iconst 0, 1) := by decide +kernel
theorem dX2_hasFloor_18 : decode cX2_hasFloor 18 = .ok (.ireturn, 1) := by decide +kernel
theorem dX2_hasQuorum_0 : decode cX2_hasQuorum 0 = .ok (.aload_n 0, 1) := by decide +kernel
theorem dX2_hasQuorum_1 : decode cX2_hasQuorum 1 = .ok (.getfield 41, 3) := by decide +kernel
theorem dX2_hasQuorum_4 : decode cX2_hasQuorum 4 = .ok (.aload_n 0, 1) := by decide +kernel
theorem dX2_hasQuorum_5 : decode cX2_hasQuorum 5 = .ok (.getfield 23, 3) := by decide +kernel
theorem dX2_hasQuorum_8 : decode cX2_hasQuorum 8 = .ok (.if_icmp .lt 7, 3) := by decide +kernel
theorem dX2_hasQuorum_11 : decode cX2_hasQuorum 11 = .ok (.iconst 1, 1) := by decide +kernel
theorem dX2_hasQuorum_12 : decode cX2_hasQuorum 12 = .ok (.goto 4, 3) := by decide +kernel
theorem dX2_hasQuorum_15 : decode cX2_hasQuorum 15 = .ok (.iconst 0, 1) := by decide +kernel
theorem dX2_hasQuorum_16 : decode cX2_hasQuorum 16 = .ok (.ireturn, 1) := by decide +kernel
set_option maxRecDepth 20000 in
theorem ggX2_arrive_X2_has : GoodIn wsX2_arrive wsX2_has := goodIn_r _ [7, 8, 1, 9, 10, 11, 12, 13, 14, 15, 16] (by decide +kernel) (by decide +kernel)
set_option maxRecDepth 20000 in
theorem gX2_arrive_X2_has : GoodIn wsX2_arrive (wsV RX2 53 RX2 yX2_has wsX2_has) := goodIn_app (goodIn_of _ (by decide +kernel)) ggX2_arrive_X2_has
theorem dX2_arrive_0 : decode cX2_arrive 0 = .ok (.aload_n 0, 1) := by decide +kernel
theorem dX2_arrive_1 : decode cX2_arrive 1 = .ok (.iload_n 1, 1) := by decide +kernel
theorem dX2_arrive_2 : decode cX2_arrive 2 = .ok (.invokevirtual 53, 3) := by decide +kernel
theorem dX2_arrive_5 : decode cX2_arrive 5 = .ok (.ifCond .eq 29, 3) := by decide +kernel
theorem dX2_arrive_8 : decode cX2_arrive 8 = .ok (.aload_n 0, 1) := by decide +kernel
theorem dX2_arrive_9 : decode cX2_arrive 9 = .ok (.getfield 9, 3) := by decide +kernel
theorem dX2_arrive_12 : decode cX2_arrive 12 = .ok (.iload_n 1, 1) := by decide +kernel
theorem dX2_arrive_13 : decode cX2_arrive 13 = .ok (.baload, 1) := by decide +kernel
theorem dX2_arrive_14 : decode cX2_arrive 14 = .ok (.ifCond .ne 20, 3) := by decide +kernel
theorem dX2_arrive_17 : decode cX2_arrive 17 = .ok (.aload_n 0, 1) := by decide +kernel
theorem dX2_arrive_18 : decode cX2_arrive 18 = .ok (.getfield 9, 3) := by decide +kernel
theorem dX2_arrive_21 : decode cX2_arrive 21 = .ok (.iload_n 1, 1) := by decide +kernel
theorem dX2_arrive_22 : decode cX2_arrive 22 = .ok (.iconst 1, 1) := by decide +kernel
theorem dX2_arrive_23 : decode cX2_arrive 23 = .ok (.bastore, 1) := by decide +kernel
theorem dX2_arrive_24 : decode cX2_arrive 24 = .ok (.aload_n 0, 1) := by decide +kernel
theorem dX2_arrive_25 : decode cX2_arrive 25 = .ok (.dup, 1) := by decide +kernel
theorem dX2_arrive_26 : decode cX2_arrive 26 = .ok (.getfield 41, 3) := by decide +kernel
theorem dX2_arrive_29 : decode cX2_arrive 29 = .ok (.iconst 1, 1) := by decide +kernel
theorem dX2_arrive_30 : decode cX2_arrive 30 = .ok (.iadd, 1) := by decide +kernel
theorem dX2_arrive_31 : decode cX2_arrive 31 = .ok (.putfield 41, 3) := by decide +kernel
theorem dX2_arrive_34 : decode cX2_arrive 34 = .ok (.aload_n 0, 1) := by decide +kernel
theorem dX2_arrive_35 : decode cX2_arrive 35 = .ok (.getfield 41, 3) := by decide +kernel
theorem dX2_arrive_38 : decode cX2_arrive 38 = .ok (.ireturn, 1) := by decide +kernel
set_option maxRecDepth 20000 in
theorem ggX2_leave_X2_isThere : GoodIn wsX2_leave wsX2_isThere := goodIn_r _ [7, 8, 1, 18, 19, 20, 21, 22, 23, 24, 25] (by decide +kernel) (by decide +kernel)
set_option maxRecDepth 20000 in
theorem gX2_leave_X2_isThere : GoodIn wsX2_leave (wsV RX2 57 RX2 yX2_isThere wsX2_isThere) := goodIn_app (goodIn_of _ (by decide +kernel)) ggX2_leave_X2_isThere
set_option maxRecDepth 20000 in
theorem ggX2_leave_X2_silence : GoodIn wsX2_leave wsX2_silence := goodIn_r _ [12, 13, 14, 15, 16, 6, 17, 18, 19, 20, 21, 22, 23, 24, 25] (by decide +kernel) (by decide +kernel)
set_option maxRecDepth 20000 in
theorem gX2_leave_X2_silence : GoodIn wsX2_leave (wsV RX2 60 RX2 yX2_silence wsX2_silence) := goodIn_app (goodIn_of _ (by decide +kernel)) ggX2_leave_X2_silence
theorem dX2_leave_0 : decode cX2_leave 0 = .ok (.aload_n 0, 1) := by decide +kernel
theorem dX2_leave_1 : decode cX2_leave 1 = .ok (.iload_n 1, 1) := by decide +kernel
theorem dX2_leave_2 : decode cX2_leave 2 = .ok (.invokevirtual 57, 3) := by decide +kernel
theorem dX2_leave_5 : decode cX2_leave 5 = .ok (.ifCond .eq 20, 3) := by decide +kernel
theorem dX2_leave_8 : decode cX2_leave 8 = .ok (.aload_n 0, 1) := by decide +kernel
theorem dX2_leave_9 : decode cX2_leave 9 = .ok (.getfield 9, 3) := by decide +kernel
theorem dX2_leave_12 : decode cX2_leave 12 = .ok (.iload_n 1, 1) := by decide +kernel
theorem dX2_leave_13 : decode cX2_leave 13 = .ok (.iconst 0, 1) := by decide +kernel
theorem dX2_leave_14 : decode cX2_leave 14 = .ok (.bastore, 1) := by decide +kernel
theorem dX2_leave_15 : decode cX2_leave 15 = .ok (.aload_n 0, 1) := by decide +kernel
theorem dX2_leave_16 : decode cX2_leave 16 = .ok (.dup, 1) := by decide +kernel
theorem dX2_leave_17 : decode cX2_leave 17 = .ok (.getfield 41, 3) := by decide +kernel
theorem dX2_leave_20 : decode cX2_leave 20 = .ok (.iconst 1, 1) := by decide +kernel
theorem dX2_leave_21 : decode cX2_leave 21 = .ok (.isub, 1) := by decide +kernel
theorem dX2_leave_22 : decode cX2_leave 22 = .ok (.putfield 41, 3) := by decide +kernel
theorem dX2_leave_25 : decode cX2_leave 25 = .ok (.aload_n 0, 1) := by decide +kernel
theorem dX2_leave_26 : decode cX2_leave 26 = .ok (.iload_n 1, 1) := by decide +kernel
theorem dX2_leave_27 : decode cX2_leave 27 = .ok (.invokevirtual 60, 3) := by decide +kernel
theorem dX2_leave_30 : decode cX2_leave 30 = .ok (.aload_n 0, 1) := by decide +kernel
theorem dX2_leave_31 : decode cX2_leave 31 = .ok (.getfield 41, 3) := by decide +kernel
theorem dX2_leave_34 : decode cX2_leave 34 = .ok (.ireturn, 1) := by decide +kernel
set_option maxRecDepth 20000 in
theorem ggX2_takeChair_X2_silence : GoodIn wsX2_takeChair wsX2_silence := goodIn_r _ [6, 7, 8, 9, 10, 5, 11, 12, 13, 14, 15, 16, 17, 18, 19] (by decide +kernel) (by decide +kernel)
set_option maxRecDepth 20000 in
theorem gX2_takeChair_X2_silence : GoodIn wsX2_takeChair (wsV RX2 60 RX2 yX2_silence wsX2_silence) := goodIn_app (goodIn_of _ (by decide +kernel)) ggX2_takeChair_X2_silence
theorem dX2_takeChair_0 : decode cX2_takeChair 0 = .ok (.aload_n 0, 1) := by decide +kernel
theorem dX2_takeChair_1 : decode cX2_takeChair 1 = .ok (.iload_n 1, 1) := by decide +kernel
theorem dX2_takeChair_2 : decode cX2_takeChair 2 = .ok (.putfield 29, 3) := by decide +kernel
theorem dX2_takeChair_5 : decode cX2_takeChair 5 = .ok (.aload_n 0, 1) := by decide +kernel
theorem dX2_takeChair_6 : decode cX2_takeChair 6 = .ok (.iload_n 1, 1) := by decide +kernel
theorem dX2_takeChair_7 : decode cX2_takeChair 7 = .ok (.invokevirtual 60, 3) := by decide +kernel
theorem dX2_takeChair_10 : decode cX2_takeChair 10 = .ok (.iload_n 1, 1) := by decide +kernel
theorem dX2_takeChair_11 : decode cX2_takeChair 11 = .ok (.ireturn, 1) := by decide +kernel
set_option maxRecDepth 20000 in
theorem ggX2_silence_X2_hasFloor : GoodIn wsX2_silence wsX2_hasFloor := goodIn_r _ [6, 1, 7, 8, 9, 10, 11, 12, 13, 14] (by decide +kernel) (by decide +kernel)
set_option maxRecDepth 20000 in
theorem gX2_silence_X2_hasFloor : GoodIn wsX2_silence (wsV RX2 64 RX2 yX2_hasFloor wsX2_hasFloor) := goodIn_app (goodIn_of _ (by decide +kernel)) ggX2_silence_X2_hasFloor
theorem dX2_silence_0 : decode cX2_silence 0 = .ok (.aload_n 0, 1) := by decide +kernel
theorem dX2_silence_1 : decode cX2_silence 1 = .ok (.iload_n 1, 1) := by decide +kernel
theorem dX2_silence_2 : decode cX2_silence 2 = .ok (.invokevirtual 64, 3) := by decide +kernel
theorem dX2_silence_5 : decode cX2_silence 5 = .ok (.ifCond .eq 8, 3) := by decide +kernel
theorem dX2_silence_8 : decode cX2_silence 8 = .ok (.aload_n 0, 1) := by decide +kernel
theorem dX2_silence_9 : decode cX2_silence 9 = .ok (.iconst (-1), 1) := by decide +kernel
theorem dX2_silence_10 : decode cX2_silence 10 = .ok (.putfield 44, 3) := by decide +kernel
theorem dX2_silence_13 : decode cX2_silence 13 = .ok (.return_, 1) := by decide +kernel
theorem dX2_empty_0 : decode cX2_empty 0 = .ok (.iconst 0, 1) := by decide +kernel
theorem dX2_empty_1 : decode cX2_empty 1 = .ok (.istore_n 1, 1) := by decide +kernel
theorem dX2_empty_2 : decode cX2_empty 2 = .ok (.iload_n 1, 1) := by decide +kernel
theorem dX2_empty_3 : decode cX2_empty 3 = .ok (.aload_n 0, 1) := by decide +kernel
theorem dX2_empty_4 : decode cX2_empty 4 = .ok (.getfield 9, 3) := by decide +kernel
theorem dX2_empty_7 : decode cX2_empty 7 = .ok (.arraylength, 1) := by decide +kernel
theorem dX2_empty_8 : decode cX2_empty 8 = .ok (.if_icmp .ge 16, 3) := by decide +kernel
theorem dX2_empty_11 : decode cX2_empty 11 = .ok (.aload_n 0, 1) := by decide +kernel
theorem dX2_empty_12 : decode cX2_empty 12 = .ok (.getfield 9, 3) := by decide +kernel
theorem dX2_empty_15 : decode cX2_empty 15 = .ok (.iload_n 1, 1) := by decide +kernel
theorem dX2_empty_16 : decode cX2_empty 16 = .ok (.iconst 0, 1) := by decide +kernel
theorem dX2_empty_17 : decode cX2_empty 17 = .ok (.bastore, 1) := by decide +kernel
theorem dX2_empty_18 : decode cX2_empty 18 = .ok (.iinc 1 1, 3) := by decide +kernel
theorem dX2_empty_21 : decode cX2_empty 21 = .ok (.goto (-19), 3) := by decide +kernel
theorem dX2_empty_24 : decode cX2_empty 24 = .ok (.aload_n 0, 1) := by decide +kernel
theorem dX2_empty_25 : decode cX2_empty 25 = .ok (.iconst 0, 1) := by decide +kernel
theorem dX2_empty_26 : decode cX2_empty 26 = .ok (.putfield 41, 3) := by decide +kernel
theorem dX2_empty_29 : decode cX2_empty 29 = .ok (.aload_n 0, 1) := by decide +kernel
theorem dX2_empty_30 : decode cX2_empty 30 = .ok (.iconst (-1), 1) := by decide +kernel
theorem dX2_empty_31 : decode cX2_empty 31 = .ok (.putfield 44, 3) := by decide +kernel
theorem dX2_empty_34 : decode cX2_empty 34 = .ok (.return_, 1) := by decide +kernel
theorem dX2_replaceMajority_0 : decode cX2_replaceMajority 0 = .ok (.iload_n 1, 1) := by decide +kernel
theorem dX2_replaceMajority_1 : decode cX2_replaceMajority 1 = .ok (.iconst 1, 1) := by decide +kernel
theorem dX2_replaceMajority_2 : decode cX2_replaceMajority 2 = .ok (.if_icmp .lt 12, 3) := by decide +kernel
theorem dX2_replaceMajority_5 : decode cX2_replaceMajority 5 = .ok (.iload_n 1, 1) := by decide +kernel
theorem dX2_replaceMajority_6 : decode cX2_replaceMajority 6 = .ok (.aload_n 0, 1) := by decide +kernel
theorem dX2_replaceMajority_7 : decode cX2_replaceMajority 7 = .ok (.getfield 15, 3) := by decide +kernel
theorem dX2_replaceMajority_10 : decode cX2_replaceMajority 10 = .ok (.arraylength, 1) := by decide +kernel
theorem dX2_replaceMajority_11 : decode cX2_replaceMajority 11 = .ok (.if_icmp .lt 5, 3) := by decide +kernel
theorem dX2_replaceMajority_14 : decode cX2_replaceMajority 14 = .ok (.iconst 0, 1) := by decide +kernel
theorem dX2_replaceMajority_15 : decode cX2_replaceMajority 15 = .ok (.ireturn, 1) := by decide +kernel
theorem dX2_replaceMajority_16 : decode cX2_replaceMajority 16 = .ok (.aload_n 0, 1) := by decide +kernel
theorem dX2_replaceMajority_17 : decode cX2_replaceMajority 17 = .ok (.getfield 15, 3) := by decide +kernel
theorem dX2_replaceMajority_20 : decode cX2_replaceMajority 20 = .ok (.iload_n 1, 1) := by decide +kernel
theorem dX2_replaceMajority_21 : decode cX2_replaceMajority 21 = .ok (.iaload, 1) := by decide +kernel
theorem dX2_replaceMajority_22 : decode cX2_replaceMajority 22 = .ok (.istore_n 3, 1) := by decide +kernel
theorem dX2_replaceMajority_23 : decode cX2_replaceMajority 23 = .ok (.aload_n 0, 1) := by decide +kernel
theorem dX2_replaceMajority_24 : decode cX2_replaceMajority 24 = .ok (.getfield 15, 3) := by decide +kernel
theorem dX2_replaceMajority_27 : decode cX2_replaceMajority 27 = .ok (.iload_n 1, 1) := by decide +kernel
theorem dX2_replaceMajority_28 : decode cX2_replaceMajority 28 = .ok (.iload_n 2, 1) := by decide +kernel
theorem dX2_replaceMajority_29 : decode cX2_replaceMajority 29 = .ok (.iastore, 1) := by decide +kernel
theorem dX2_replaceMajority_30 : decode cX2_replaceMajority 30 = .ok (.iload_n 3, 1) := by decide +kernel
theorem dX2_replaceMajority_31 : decode cX2_replaceMajority 31 = .ok (.ireturn, 1) := by decide +kernel
set_option maxRecDepth 20000 in
theorem ggX2_tally_X2_isThere : GoodIn wsX2_tally wsX2_isThere := goodIn_r _ [6, 1, 7, 14, 15, 16, 17, 18, 19, 20, 21] (by decide +kernel) (by decide +kernel)
set_option maxRecDepth 20000 in
theorem gX2_tally_X2_isThere : GoodIn wsX2_tally (wsV RX2 57 RX2 yX2_isThere wsX2_isThere) := goodIn_app (goodIn_of _ (by decide +kernel)) ggX2_tally_X2_isThere
set_option maxRecDepth 20000 in
theorem ggX2_tally_X4_voteOf : GoodIn wsX2_tally wsX4_voteOf := goodIn_r _ [12, 13, 22, 23, 24, 25, 26, 27, 28, 29, 30, 31, 32, 33, 34, 35, 36, 37] (by decide +kernel) (by decide +kernel)
set_option maxRecDepth 20000 in
theorem gX2_tally_X4_voteOf : GoodIn wsX2_tally (wsV RX2 67 RX4 yX4_voteOf wsX4_voteOf) := goodIn_app (goodIn_of _ (by decide +kernel)) ggX2_tally_X4_voteOf
theorem dX2_tally_0 : decode cX2_tally 0 = .ok (.iconst 0, 1) := by decide +kernel
theorem dX2_tally_1 : decode cX2_tally 1 = .ok (.istore_n 3, 1) := by decide +kernel
theorem dX2_tally_2 : decode cX2_tally 2 = .ok (.iconst 0, 1) := by decide +kernel
theorem dX2_tally_3 : decode cX2_tally 3 = .ok (.istore 4, 2) := by decide +kernel
theorem dX2_tally_5 : decode cX2_tally 5 = .ok (.iload 4, 2) := by decide +kernel
theorem dX2_tally_7 : decode cX2_tally 7 = .ok (.aload_n 0, 1) := by decide +kernel
theorem dX2_tally_8 : decode cX2_tally 8 = .ok (.getfield 19, 3) := by decide +kernel
theorem dX2_tally_11 : decode cX2_tally 11 = .ok (.if_icmp .ge 31, 3) := by decide +kernel
theorem dX2_tally_14 : decode cX2_tally 14 = .ok (.aload_n 0, 1) := by decide +kernel
theorem dX2_tally_15 : decode cX2_tally 15 = .ok (.iload 4, 2) := by decide +kernel
theorem dX2_tally_17 : decode cX2_tally 17 = .ok (.invokevirtual 57, 3) := by decide +kernel
theorem dX2_tally_20 : decode cX2_tally 20 = .ok (.ifCond .eq 16, 3) := by decide +kernel
theorem dX2_tally_23 : decode cX2_tally 23 = .ok (.aload_n 1, 1) := by decide +kernel
theorem dX2_tally_24 : decode cX2_tally 24 = .ok (.iload 4, 2) := by decide +kernel
theorem dX2_tally_26 : decode cX2_tally 26 = .ok (.invokevirtual 67, 3) := by decide +kernel
theorem dX2_tally_29 : decode cX2_tally 29 = .ok (.iload_n 2, 1) := by decide +kernel
theorem dX2_tally_30 : decode cX2_tally 30 = .ok (.if_icmp .ne 6, 3) := by decide +kernel
theorem dX2_tally_33 : decode cX2_tally 33 = .ok (.iinc 3 1, 3) := by decide +kernel
theorem dX2_tally_36 : decode cX2_tally 36 = .ok (.iinc 4 1, 3) := by decide +kernel
theorem dX2_tally_39 : decode cX2_tally 39 = .ok (.goto (-34), 3) := by decide +kernel
theorem dX2_tally_42 : decode cX2_tally 42 = .ok (.iload_n 3, 1) := by decide +kernel
theorem dX2_tally_43 : decode cX2_tally 43 = .ok (.ireturn, 1) := by decide +kernel
theorem dX2_isMajority_0 : decode cX2_isMajority 0 = .ok (.iload_n 1, 1) := by decide +kernel
theorem dX2_isMajority_1 : decode cX2_isMajority 1 = .ok (.iconst 1, 1) := by decide +kernel
theorem dX2_isMajority_2 : decode cX2_isMajority 2 = .ok (.if_icmp .lt 12, 3) := by decide +kernel
theorem dX2_isMajority_5 : decode cX2_isMajority 5 = .ok (.iload_n 1, 1) := by decide +kernel
theorem dX2_isMajority_6 : decode cX2_isMajority 6 = .ok (.aload_n 0, 1) := by decide +kernel
theorem dX2_isMajority_7 : decode cX2_isMajority 7 = .ok (.getfield 15, 3) := by decide +kernel
theorem dX2_isMajority_10 : decode cX2_isMajority 10 = .ok (.arraylength, 1) := by decide +kernel
theorem dX2_isMajority_11 : decode cX2_isMajority 11 = .ok (.if_icmp .lt 7, 3) := by decide +kernel
theorem dX2_isMajority_14 : decode cX2_isMajority 14 = .ok (.iconst 1, 1) := by decide +kernel
theorem dX2_isMajority_15 : decode cX2_isMajority 15 = .ok (.goto 9, 3) := by decide +kernel
theorem dX2_isMajority_18 : decode cX2_isMajority 18 = .ok (.aload_n 0, 1) := by decide +kernel
theorem dX2_isMajority_19 : decode cX2_isMajority 19 = .ok (.getfield 15, 3) := by decide +kernel
theorem dX2_isMajority_22 : decode cX2_isMajority 22 = .ok (.iload_n 1, 1) := by decide +kernel
theorem dX2_isMajority_23 : decode cX2_isMajority 23 = .ok (.iaload, 1) := by decide +kernel
theorem dX2_isMajority_24 : decode cX2_isMajority 24 = .ok (.istore 4, 2) := by decide +kernel
theorem dX2_isMajority_26 : decode cX2_isMajority 26 = .ok (.iload 4, 2) := by decide +kernel
theorem dX2_isMajority_28 : decode cX2_isMajority 28 = .ok (.iconst 1, 1) := by decide +kernel
theorem dX2_isMajority_29 : decode cX2_isMajority 29 = .ok (.if_icmp .ne 14, 3) := by decide +kernel
theorem dX2_isMajority_32 : decode cX2_isMajority 32 = .ok (.iload_n 2, 1) := by decide +kernel
theorem dX2_isMajority_33 : decode cX2_isMajority 33 = .ok (.iload_n 3, 1) := by decide +kernel
theorem dX2_isMajority_34 : decode cX2_isMajority 34 = .ok (.if_icmp .le 7, 3) := by decide +kernel
theorem dX2_isMajority_37 : decode cX2_isMajority 37 = .ok (.iconst 1, 1) := by decide +kernel
theorem dX2_isMajority_38 : decode cX2_isMajority 38 = .ok (.goto 4, 3) := by decide +kernel
theorem dX2_isMajority_41 : decode cX2_isMajority 41 = .ok (.iconst 0, 1) := by decide +kernel
theorem dX2_isMajority_42 : decode cX2_isMajority 42 = .ok (.ireturn, 1) := by decide +kernel
theorem dX2_isMajority_43 : decode cX2_isMajority 43 = .ok (.iload 4, 2) := by decide +kernel
theorem dX2_isMajority_45 : decode cX2_isMajority 45 = .ok (.iconst 2, 1) := by decide +kernel
theorem dX2_isMajority_46 : decode cX2_isMajority 46 = .ok (.if_icmp .ne 24, 3) := by decide +kernel
theorem dX2_isMajority_49 : decode cX2_isMajority 49 = .ok (.iload_n 2, 1) := by decide +kernel
theorem dX2_isMajority_50 : decode cX2_isMajority 50 = .ok (.ifCond .le 18, 3) := by decide +kernel
theorem dX2_isMajority_53 : decode cX2_isMajority 53 = .ok (.iconst 3, 1) := by decide +kernel
theorem dX2_isMajority_54 : decode cX2_isMajority 54 = .ok (.iload_n 2, 1) := by decide +kernel
theorem dX2_isMajority_55 : decode cX2_isMajority 55 = .ok (.imul, 1) := by decide +kernel
theorem dX2_isMajority_56 : decode cX2_isMajority 56 = .ok (.iconst 2, 1) := by decide +kernel
theorem dX2_isMajority_57 : decode cX2_isMajority 57 = .ok (.iload_n 2, 1) := by decide +kernel
theorem dX2_isMajority_58 : decode cX2_isMajority 58 = .ok (.iload_n 3, 1) := by decide +kernel
theorem dX2_isMajority_59 : decode cX2_isMajority 59 = .ok (.iadd, 1) := by decide +kernel
theorem dX2_isMajority_60 : decode cX2_isMajority 60 = .ok (.imul, 1) := by decide +kernel
theorem dX2_isMajority_61 : decode cX2_isMajority 61 = .ok (.if_icmp .lt 7, 3) := by decide +kernel
theorem dX2_isMajority_64 : decode cX2_isMajority 64 = .ok (.iconst 1, 1) := by decide +kernel
theorem dX2_isMajority_65 : decode cX2_isMajority 65 = .ok (.goto 4, 3) := by decide +kernel
theorem dX2_isMajority_68 : decode cX2_isMajority 68 = .ok (.iconst 0, 1) := by decide +kernel
theorem dX2_isMajority_69 : decode cX2_isMajority 69 = .ok (.ireturn, 1) := by decide +kernel
theorem dX2_isMajority_70 : decode cX2_isMajority 70 = .ok (.iconst 2, 1) := by decide +kernel
theorem dX2_isMajority_71 : decode cX2_isMajority 71 = .ok (.iload_n 2, 1) := by decide +kernel
theorem dX2_isMajority_72 : decode cX2_isMajority 72 = .ok (.imul, 1) := by decide +kernel
theorem dX2_isMajority_73 : decode cX2_isMajority 73 = .ok (.aload_n 0, 1) := by decide +kernel
theorem dX2_isMajority_74 : decode cX2_isMajority 74 = .ok (.getfield 19, 3) := by decide +kernel
theorem dX2_isMajority_77 : decode cX2_isMajority 77 = .ok (.if_icmp .le 7, 3) := by decide +kernel
theorem dX2_isMajority_80 : decode cX2_isMajority 80 = .ok (.iconst 1, 1) := by decide +kernel
theorem dX2_isMajority_81 : decode cX2_isMajority 81 = .ok (.goto 4, 3) := by decide +kernel
theorem dX2_isMajority_84 : decode cX2_isMajority 84 = .ok (.iconst 0, 1) := by decide +kernel
theorem dX2_isMajority_85 : decode cX2_isMajority 85 = .ok (.ireturn, 1) := by decide +kernel
theorem dX3_init_0 : decode cX3_init 0 = .ok (.aload_n 0, 1) := by decide +kernel
theorem dX3_init_1 : decode cX3_init 1 = .ok (.invokespecial 3, 3) := by decide +kernel
theorem dX3_init_4 : decode cX3_init 4 = .ok (.aload_n 0, 1) := by decide +kernel
theorem dX3_init_5 : decode cX3_init 5 = .ok (.iload_n 1, 1) := by decide +kernel
theorem dX3_init_6 : decode cX3_init 6 = .ok (.iconst 1, 1) := by decide +kernel
theorem dX3_init_7 : decode cX3_init 7 = .ok (.invokestatic 9, 3) := by decide +kernel
theorem dX3_init_10 : decode cX3_init 10 = .ok (.putfield 15, 3) := by decide +kernel
theorem dX3_init_13 : decode cX3_init 13 = .ok (.aload_n 0, 1) := by decide +kernel
theorem dX3_init_14 : decode cX3_init 14 = .ok (.iload_n 2, 1) := by decide +kernel
theorem dX3_init_15 : decode cX3_init 15 = .ok (.bipush 16, 2) := by decide +kernel
theorem dX3_init_17 : decode cX3_init 17 = .ok (.invokestatic 9, 3) := by decide +kernel
theorem dX3_init_20 : decode cX3_init 20 = .ok (.putfield 21, 3) := by decide +kernel
theorem dX3_init_23 : decode cX3_init 23 = .ok (.aload_n 0, 1) := by decide +kernel
theorem dX3_init_24 : decode cX3_init 24 = .ok (.aload_n 0, 1) := by decide +kernel
theorem dX3_init_25 : decode cX3_init 25 = .ok (.getfield 15, 3) := by decide +kernel
theorem dX3_init_28 : decode cX3_init 28 = .ok (.bipush 16, 2) := by decide +kernel
theorem dX3_init_30 : decode cX3_init 30 = .ok (.imul, 1) := by decide +kernel
theorem dX3_init_31 : decode cX3_init 31 = .ok (.newarray .int, 2) := by decide +kernel
theorem dX3_init_33 : decode cX3_init 33 = .ok (.putfield 24, 3) := by decide +kernel
theorem dX3_init_36 : decode cX3_init 36 = .ok (.return_, 1) := by decide +kernel
theorem dX3_isFull_0 : decode cX3_isFull 0 = .ok (.aload_n 0, 1) := by decide +kernel
theorem dX3_isFull_1 : decode cX3_isFull 1 = .ok (.getfield 28, 3) := by decide +kernel
theorem dX3_isFull_4 : decode cX3_isFull 4 = .ok (.aload_n 0, 1) := by decide +kernel
theorem dX3_isFull_5 : decode cX3_isFull 5 = .ok (.getfield 21, 3) := by decide +kernel
theorem dX3_isFull_8 : decode cX3_isFull 8 = .ok (.if_icmp .lt 7, 3) := by decide +kernel
theorem dX3_isFull_11 : decode cX3_isFull 11 = .ok (.iconst 1, 1) := by decide +kernel
theorem dX3_isFull_12 : decode cX3_isFull 12 = .ok (.goto 4, 3) := by decide +kernel
theorem dX3_isFull_15 : decode cX3_isFull 15 = .ok (.iconst 0, 1) := by decide +kernel
theorem dX3_isFull_16 : decode cX3_isFull 16 = .ok (.ireturn, 1) := by decide +kernel
theorem dX3_at_0 : decode cX3_at 0 = .ok (.iload_n 1, 1) := by decide +kernel
theorem dX3_at_1 : decode cX3_at 1 = .ok (.ifCond .lt 23, 3) := by decide +kernel
theorem dX3_at_4 : decode cX3_at 4 = .ok (.iload_n 1, 1) := by decide +kernel
theorem dX3_at_5 : decode cX3_at 5 = .ok (.aload_n 0, 1) := by decide +kernel
theorem dX3_at_6 : decode cX3_at 6 = .ok (.getfield 28, 3) := by decide +kernel
theorem dX3_at_9 : decode cX3_at 9 = .ok (.if_icmp .ge 15, 3) := by decide +kernel
theorem dX3_at_12 : decode cX3_at 12 = .ok (.iload_n 2, 1) := by decide +kernel
theorem dX3_at_13 : decode cX3_at 13 = .ok (.ifCond .lt 11, 3) := by decide +kernel
theorem dX3_at_16 : decode cX3_at 16 = .ok (.iload_n 2, 1) := by decide +kernel
theorem dX3_at_17 : decode cX3_at 17 = .ok (.aload_n 0, 1) := by decide +kernel
theorem dX3_at_18 : decode cX3_at 18 = .ok (.getfield 15, 3) := by decide +kernel
theorem dX3_at_21 : decode cX3_at 21 = .ok (.if_icmp .lt 5, 3) := by decide +kernel
theorem dX3_at_24 : decode cX3_at 24 = .ok (.iconst (-1), 1) := by decide +kernel
theorem dX3_at_25 : decode cX3_at 25 = .ok (.ireturn, 1) := by decide +kernel
theorem dX3_at_26 : decode cX3_at 26 = .ok (.iload_n 1, 1) := by decide +kernel
theorem dX3_at_27 : decode cX3_at 27 = .ok (.aload_n 0, 1) := by decide +kernel
theorem dX3_at_28 : decode cX3_at 28 = .ok (.getfield 15, 3) := by decide +kernel
theorem dX3_at_31 : decode cX3_at 31 = .ok (.imul, 1) := by decide +kernel
theorem dX3_at_32 : decode cX3_at 32 = .ok (.iload_n 2, 1) := by decide +kernel
theorem dX3_at_33 : decode cX3_at 33 = .ok (.iadd, 1) := by decide +kernel
theorem dX3_at_34 : decode cX3_at 34 = .ok (.istore_n 3, 1) := by decide +kernel
theorem dX3_at_35 : decode cX3_at 35 = .ok (.iload_n 3, 1) := by decide +kernel
theorem dX3_at_36 : decode cX3_at 36 = .ok (.ifCond .lt 12, 3) := by decide +kernel
theorem dX3_at_39 : decode cX3_at 39 = .ok (.iload_n 3, 1) := by decide +kernel
theorem dX3_at_40 : decode cX3_at 40 = .ok (.aload_n 0, 1) := by decide +kernel
theorem dX3_at_41 : decode cX3_at 41 = .ok (.getfield 24, 3) := by decide +kernel
theorem dX3_at_44 : decode cX3_at 44 = .ok (.arraylength, 1) := by decide +kernel
theorem dX3_at_45 : decode cX3_at 45 = .ok (.if_icmp .lt 7, 3) := by decide +kernel
theorem dX3_at_48 : decode cX3_at 48 = .ok (.iconst (-1), 1) := by decide +kernel
theorem dX3_at_49 : decode cX3_at 49 = .ok (.goto 9, 3) := by decide +kernel
theorem dX3_at_52 : decode cX3_at 52 = .ok (.aload_n 0, 1) := by decide +kernel
theorem dX3_at_53 : decode cX3_at 53 = .ok (.getfield 24, 3) := by decide +kernel
theorem dX3_at_56 : decode cX3_at 56 = .ok (.iload_n 3, 1) := by decide +kernel
theorem dX3_at_57 : decode cX3_at 57 = .ok (.iaload, 1) := by decide +kernel
theorem dX3_at_58 : decode cX3_at 58 = .ok (.ireturn, 1) := by decide +kernel
set_option maxRecDepth 20000 in
theorem ggX3_open_X3_isFull : GoodIn wsX3_open wsX3_isFull := goodIn_r _ [6, 1, 7, 37, 38, 39, 40] (by decide +kernel) (by decide +kernel)
set_option maxRecDepth 20000 in
theorem gX3_open_X3_isFull : GoodIn wsX3_open (wsV RX3 31 RX3 yX3_isFull wsX3_isFull) := goodIn_app (goodIn_of _ (by decide +kernel)) ggX3_open_X3_isFull
set_option maxRecDepth 20000 in
theorem ggX3_open_X3_makeRoom : GoodIn wsX3_open wsX3_makeRoom := goodIn_r _ [11, 12, 13, 14, 15, 16, 17, 7, 18, 19, 20, 21, 22, 23, 24, 25, 26, 27, 28, 29, 30, 31, 32, 33, 34, 35, 36, 37, 38, 39, 40] (by decide +kernel) (by decide +kernel)
set_option maxRecDepth 20000 in
theorem gX3_open_X3_makeRoom : GoodIn wsX3_open (wsV RX3 35 RX3 yX3_makeRoom wsX3_makeRoom) := goodIn_app (goodIn_of _ (by decide +kernel)) ggX3_open_X3_makeRoom
theorem dX3_open_0 : decode cX3_open 0 = .ok (.aload_n 0, 1) := by decide +kernel
theorem dX3_open_1 : decode cX3_open 1 = .ok (.invokevirtual 31, 3) := by decide +kernel
theorem dX3_open_4 : decode cX3_open 4 = .ok (.ifCond .ne 21, 3) := by decide +kernel
theorem dX3_open_7 : decode cX3_open 7 = .ok (.aload_n 0, 1) := by decide +kernel
theorem dX3_open_8 : decode cX3_open 8 = .ok (.dup, 1) := by decide +kernel
theorem dX3_open_9 : decode cX3_open 9 = .ok (.getfield 28, 3) := by decide +kernel
theorem dX3_open_12 : decode cX3_open 12 = .ok (.iconst 1, 1) := by decide +kernel
theorem dX3_open_13 : decode cX3_open 13 = .ok (.iadd, 1) := by decide +kernel
theorem dX3_open_14 : decode cX3_open 14 = .ok (.putfield 28, 3) := by decide +kernel
theorem dX3_open_17 : decode cX3_open 17 = .ok (.aload_n 0, 1) := by decide +kernel
theorem dX3_open_18 : decode cX3_open 18 = .ok (.aload_n 0, 1) := by decide +kernel
theorem dX3_open_19 : decode cX3_open 19 = .ok (.getfield 28, 3) := by decide +kernel
theorem dX3_open_22 : decode cX3_open 22 = .ok (.invokevirtual 35, 3) := by decide +kernel
theorem dX3_open_25 : decode cX3_open 25 = .ok (.return_, 1) := by decide +kernel
theorem dX3_write_0 : decode cX3_write 0 = .ok (.aload_n 0, 1) := by decide +kernel
theorem dX3_write_1 : decode cX3_write 1 = .ok (.getfield 28, 3) := by decide +kernel
theorem dX3_write_4 : decode cX3_write 4 = .ok (.iconst 1, 1) := by decide +kernel
theorem dX3_write_5 : decode cX3_write 5 = .ok (.isub, 1) := by decide +kernel
theorem dX3_write_6 : decode cX3_write 6 = .ok (.aload_n 0, 1) := by decide +kernel
theorem dX3_write_7 : decode cX3_write 7 = .ok (.getfield 15, 3) := by decide +kernel
theorem dX3_write_10 : decode cX3_write 10 = .ok (.imul, 1) := by decide +kernel
theorem dX3_write_11 : decode cX3_write 11 = .ok (.iload_n 1, 1) := by decide +kernel
theorem dX3_write_12 : decode cX3_write 12 = .ok (.iadd, 1) := by decide +kernel
theorem dX3_write_13 : decode cX3_write 13 = .ok (.istore_n 3, 1) := by decide +kernel
theorem dX3_write_14 : decode cX3_write 14 = .ok (.iload_n 1, 1) := by decide +kernel
theorem dX3_write_15 : decode cX3_write 15 = .ok (.ifCond .lt 31, 3) := by decide +kernel
theorem dX3_write_18 : decode cX3_write 18 = .ok (.iload_n 1, 1) := by decide +kernel
theorem dX3_write_19 : decode cX3_write 19 = .ok (.aload_n 0, 1) := by decide +kernel
theorem dX3_write_20 : decode cX3_write 20 = .ok (.getfield 15, 3) := by decide +kernel
theorem dX3_write_23 : decode cX3_write 23 = .ok (.if_icmp .ge 23, 3) := by decide +kernel
theorem dX3_write_26 : decode cX3_write 26 = .ok (.iload_n 3, 1) := by decide +kernel
theorem dX3_write_27 : decode cX3_write 27 = .ok (.ifCond .lt 19, 3) := by decide +kernel
theorem dX3_write_30 : decode cX3_write 30 = .ok (.iload_n 3, 1) := by decide +kernel
theorem dX3_write_31 : decode cX3_write 31 = .ok (.aload_n 0, 1) := by decide +kernel
theorem dX3_write_32 : decode cX3_write 32 = .ok (.getfield 24, 3) := by decide +kernel
theorem dX3_write_35 : decode cX3_write 35 = .ok (.arraylength, 1) := by decide +kernel
theorem dX3_write_36 : decode cX3_write 36 = .ok (.if_icmp .ge 10, 3) := by decide +kernel
theorem dX3_write_39 : decode cX3_write 39 = .ok (.aload_n 0, 1) := by decide +kernel
theorem dX3_write_40 : decode cX3_write 40 = .ok (.getfield 24, 3) := by decide +kernel
theorem dX3_write_43 : decode cX3_write 43 = .ok (.iload_n 3, 1) := by decide +kernel
theorem dX3_write_44 : decode cX3_write 44 = .ok (.iload_n 2, 1) := by decide +kernel
theorem dX3_write_45 : decode cX3_write 45 = .ok (.iastore, 1) := by decide +kernel
theorem dX3_write_46 : decode cX3_write 46 = .ok (.return_, 1) := by decide +kernel
set_option maxRecDepth 20000 in
theorem ggX3_become_X3_makeRoom : GoodIn wsX3_become wsX3_makeRoom := goodIn_r _ [17, 7, 8, 18, 19, 5, 20, 2, 3, 4, 6, 21, 22, 23, 24, 25, 26, 27, 28, 29, 30, 31, 32, 33, 10, 11, 12, 34, 35, 36, 37] (by decide +kernel) (by decide +kernel)
set_option maxRecDepth 20000 in
theorem gX3_become_X3_makeRoom : GoodIn wsX3_become (wsV RX3 35 RX3 yX3_makeRoom wsX3_makeRoom) := goodIn_app (goodIn_of _ (by decide +kernel)) ggX3_become_X3_makeRoom
theorem dX3_become_0 : decode cX3_become 0 = .ok (.aload_n 1, 1) := by decide +kernel
theorem dX3_become_1 : decode cX3_become 1 = .ok (.getfield 28, 3) := by decide +kernel
theorem dX3_become_4 : decode cX3_become 4 = .ok (.aload_n 0, 1) := by decide +kernel
theorem dX3_become_5 : decode cX3_become 5 = .ok (.getfield 21, 3) := by decide +kernel
theorem dX3_become_8 : decode cX3_become 8 = .ok (.invokestatic 39, 3) := by decide +kernel
theorem dX3_become_11 : decode cX3_become 11 = .ok (.istore_n 2, 1) := by decide +kernel
theorem dX3_become_12 : decode cX3_become 12 = .ok (.aload_n 0, 1) := by decide +kernel
theorem dX3_become_13 : decode cX3_become 13 = .ok (.iload_n 2, 1) := by decide +kernel
theorem dX3_become_14 : decode cX3_become 14 = .ok (.invokevirtual 35, 3) := by decide +kernel
theorem dX3_become_17 : decode cX3_become 17 = .ok (.iload_n 2, 1) := by decide +kernel
theorem dX3_become_18 : decode cX3_become 18 = .ok (.aload_n 0, 1) := by decide +kernel
theorem dX3_become_19 : decode cX3_become 19 = .ok (.getfield 15, 3) := by decide +kernel
theorem dX3_become_22 : decode cX3_become 22 = .ok (.imul, 1) := by decide +kernel
theorem dX3_become_23 : decode cX3_become 23 = .ok (.aload_n 0, 1) := by decide +kernel
theorem dX3_become_24 : decode cX3_become 24 = .ok (.getfield 24, 3) := by decide +kernel
theorem dX3_become_27 : decode cX3_become 27 = .ok (.arraylength, 1) := by decide +kernel
theorem dX3_become_28 : decode cX3_become 28 = .ok (.if_icmp .gt 36, 3) := by decide +kernel
theorem dX3_become_31 : decode cX3_become 31 = .ok (.iload_n 2, 1) := by decide +kernel
theorem dX3_become_32 : decode cX3_become 32 = .ok (.aload_n 0, 1) := by decide +kernel
theorem dX3_become_33 : decode cX3_become 33 = .ok (.getfield 15, 3) := by decide +kernel
theorem dX3_become_36 : decode cX3_become 36 = .ok (.imul, 1) := by decide +kernel
theorem dX3_become_37 : decode cX3_become 37 = .ok (.aload_n 1, 1) := by decide +kernel
theorem dX3_become_38 : decode cX3_become 38 = .ok (.getfield 24, 3) := by decide +kernel
theorem dX3_become_41 : decode cX3_become 41 = .ok (.arraylength, 1) := by decide +kernel
theorem dX3_become_42 : decode cX3_become 42 = .ok (.if_icmp .gt 22, 3) := by decide +kernel
theorem dX3_become_45 : decode cX3_become 45 = .ok (.aload_n 1, 1) := by decide +kernel
theorem dX3_become_46 : decode cX3_become 46 = .ok (.getfield 24, 3) := by decide +kernel
theorem dX3_become_49 : decode cX3_become 49 = .ok (.iconst 0, 1) := by decide +kernel
theorem dX3_become_50 : decode cX3_become 50 = .ok (.aload_n 0, 1) := by decide +kernel
theorem dX3_become_51 : decode cX3_become 51 = .ok (.getfield 24, 3) := by decide +kernel
theorem dX3_become_54 : decode cX3_become 54 = .ok (.iconst 0, 1) := by decide +kernel
theorem dX3_become_55 : decode cX3_become 55 = .ok (.iload_n 2, 1) := by decide +kernel
theorem dX3_become_56 : decode cX3_become 56 = .ok (.aload_n 0, 1) := by decide +kernel
theorem dX3_become_57 : decode cX3_become 57 = .ok (.getfield 15, 3) := by decide +kernel
theorem dX3_become_60 : decode cX3_become 60 = .ok (.imul, 1) := by decide +kernel
theorem dX3_become_61 : decode cX3_become 61 = .ok (.invokestatic 42, 3) := by decide +kernel
theorem dX3_become_64 : decode cX3_become 64 = .ok (.aload_n 0, 1) := by decide +kernel
theorem dX3_become_65 : decode cX3_become 65 = .ok (.iload_n 2, 1) := by decide +kernel
theorem dX3_become_66 : decode cX3_become 66 = .ok (.putfield 28, 3) := by decide +kernel
theorem dX3_become_69 : decode cX3_become 69 = .ok (.return_, 1) := by decide +kernel
set_option maxRecDepth 20000 in
theorem ggX3_makeRoom_J7_copyOf_59c91 : GoodIn wsX3_makeRoom wsJ7_copyOf_59c91 := goodIn_r _ [14, 15, 16, 17, 18, 19, 20, 21, 22, 9, 5, 10, 23, 24, 25, 26] (by decide +kernel) (by decide +kernel)
set_option maxRecDepth 20000 in
theorem gX3_makeRoom_J7_copyOf_59c91 : GoodIn wsX3_makeRoom (va_wsS RX3 48 yJ7_copyOf_59c91 wsJ7_copyOf_59c91) := goodIn_app (goodIn_of _ (by decide +kernel)) ggX3_makeRoom_J7_copyOf_59c91
theorem dX3_makeRoom_0 : decode cX3_makeRoom 0 = .ok (.iload_n 1, 1) := by decide +kernel
theorem dX3_makeRoom_1 : decode cX3_makeRoom 1 = .ok (.aload_n 0, 1) := by decide +kernel
theorem dX3_makeRoom_2 : decode cX3_makeRoom 2 = .ok (.getfield 15, 3) := by decide +kernel
theorem dX3_makeRoom_5 : decode cX3_makeRoom 5 = .ok (.imul, 1) := by decide +kernel
theorem dX3_makeRoom_6 : decode cX3_makeRoom 6 = .ok (.istore_n 2, 1) := by decide +kernel
theorem dX3_makeRoom_7 : decode cX3_makeRoom 7 = .ok (.iload_n 2, 1) := by decide +kernel
theorem dX3_makeRoom_8 : decode cX3_makeRoom 8 = .ok (.aload_n 0, 1) := by decide +kernel
theorem dX3_makeRoom_9 : decode cX3_makeRoom 9 = .ok (.getfield 24, 3) := by decide +kernel
theorem dX3_makeRoom_12 : decode cX3_makeRoom 12 = .ok (.arraylength, 1) := by decide +kernel
theorem dX3_makeRoom_13 : decode cX3_makeRoom 13 = .ok (.if_icmp .le 37, 3) := by decide +kernel
theorem dX3_makeRoom_16 : decode cX3_makeRoom 16 = .ok (.aload_n 0, 1) := by decide +kernel
theorem dX3_makeRoom_17 : decode cX3_makeRoom 17 = .ok (.aload_n 0, 1) := by decide +kernel
theorem dX3_makeRoom_18 : decode cX3_makeRoom 18 = .ok (.getfield 24, 3) := by decide +kernel
theorem dX3_makeRoom_21 : decode cX3_makeRoom 21 = .ok (.iload_n 2, 1) := by decide +kernel
theorem dX3_makeRoom_22 : decode cX3_makeRoom 22 = .ok (.iconst 2, 1) := by decide +kernel
theorem dX3_makeRoom_23 : decode cX3_makeRoom 23 = .ok (.aload_n 0, 1) := by decide +kernel
theorem dX3_makeRoom_24 : decode cX3_makeRoom 24 = .ok (.getfield 24, 3) := by decide +kernel
theorem dX3_makeRoom_27 : decode cX3_makeRoom 27 = .ok (.arraylength, 1) := by decide +kernel
theorem dX3_makeRoom_28 : decode cX3_makeRoom 28 = .ok (.imul, 1) := by decide +kernel
theorem dX3_makeRoom_29 : decode cX3_makeRoom 29 = .ok (.invokestatic 9, 3) := by decide +kernel
theorem dX3_makeRoom_32 : decode cX3_makeRoom 32 = .ok (.aload_n 0, 1) := by decide +kernel
theorem dX3_makeRoom_33 : decode cX3_makeRoom 33 = .ok (.getfield 21, 3) := by decide +kernel
theorem dX3_makeRoom_36 : decode cX3_makeRoom 36 = .ok (.aload_n 0, 1) := by decide +kernel
theorem dX3_makeRoom_37 : decode cX3_makeRoom 37 = .ok (.getfield 15, 3) := by decide +kernel
theorem dX3_makeRoom_40 : decode cX3_makeRoom 40 = .ok (.imul, 1) := by decide +kernel
theorem dX3_makeRoom_41 : decode cX3_makeRoom 41 = .ok (.invokestatic 39, 3) := by decide +kernel
theorem dX3_makeRoom_44 : decode cX3_makeRoom 44 = .ok (.invokestatic 48, 3) := by decide +kernel
theorem dX3_makeRoom_47 : decode cX3_makeRoom 47 = .ok (.putfield 24, 3) := by decide +kernel
theorem dX3_makeRoom_50 : decode cX3_makeRoom 50 = .ok (.return_, 1) := by decide +kernel
set_option maxRecDepth 20000 in
theorem ggX4_init_X9_init : GoodIn wsX4_init wsX9_init := goodIn_r _ [11, 12, 2, 3, 13, 14, 15, 16] (by decide +kernel) (by decide +kernel)
set_option maxRecDepth 20000 in
theorem gX4_init_X9_init_n11 : GoodIn wsX4_init (wsX9_init) := ggX4_init_X9_init
theorem dX4_init_0 : decode cX4_init 0 = .ok (.aload_n 0, 1) := by decide +kernel
theorem dX4_init_1 : decode cX4_init 1 = .ok (.invokespecial 3, 3) := by decide +kernel
theorem dX4_init_4 : decode cX4_init 4 = .ok (.aload_n 0, 1) := by decide +kernel
theorem dX4_init_5 : decode cX4_init 5 = .ok (.new 9, 3) := by decide +kernel
theorem dX4_init_8 : decode cX4_init 8 = .ok (.dup, 1) := by decide +kernel
theorem dX4_init_9 : decode cX4_init 9 = .ok (.invokespecial 11, 3) := by decide +kernel
theorem dX4_init_12 : decode cX4_init 12 = .ok (.putfield 12, 3) := by decide +kernel
theorem dX4_init_15 : decode cX4_init 15 = .ok (.aload_n 0, 1) := by decide +kernel
theorem dX4_init_16 : decode cX4_init 16 = .ok (.sipush 200, 3) := by decide +kernel
theorem dX4_init_19 : decode cX4_init 19 = .ok (.newarray .byte, 2) := by decide +kernel
theorem dX4_init_21 : decode cX4_init 21 = .ok (.putfield 18, 3) := by decide +kernel
theorem dX4_init_24 : decode cX4_init 24 = .ok (.return_, 1) := by decide +kernel
set_option maxRecDepth 20000 in
theorem ggX4_renew_X4_keepTextAs : GoodIn wsX4_renew wsX4_keepTextAs := goodIn_r _ [7, 8, 9, 10, 11, 12, 13, 14, 15, 16, 17, 18, 19, 20, 21, 22, 23, 24, 25, 26, 27, 28, 29, 30, 31, 32, 33, 34, 35, 36, 37, 38, 39, 40, 41] (by decide +kernel) (by decide +kernel)
set_option maxRecDepth 20000 in
theorem gX4_renew_X4_keepTextAs : GoodIn wsX4_renew (wsV RX4 22 RX4 yX4_keepTextAs wsX4_keepTextAs) := goodIn_app (goodIn_of _ (by decide +kernel)) ggX4_renew_X4_keepTextAs
theorem dX4_renew_0 : decode cX4_renew 0 = .ok (.aload_n 0, 1) := by decide +kernel
theorem dX4_renew_1 : decode cX4_renew 1 = .ok (.iload_n 1, 1) := by decide +kernel
theorem dX4_renew_2 : decode cX4_renew 2 = .ok (.invokevirtual 22, 3) := by decide +kernel
theorem dX4_renew_5 : decode cX4_renew 5 = .ok (.aload_n 0, 1) := by decide +kernel
theorem dX4_renew_6 : decode cX4_renew 6 = .ok (.getfield 12, 3) := by decide +kernel
theorem dX4_renew_9 : decode cX4_renew 9 = .ok (.iconst 0, 1) := by decide +kernel
theorem dX4_renew_10 : decode cX4_renew 10 = .ok (.putfield 26, 3) := by decide +kernel
theorem dX4_renew_13 : decode cX4_renew 13 = .ok (.return_, 1) := by decide +kernel
set_option maxRecDepth 20000 in
theorem ggX4_keepTextAs_J7_fill_031fb : GoodIn wsX4_keepTextAs wsJ7_fill_031fb := goodIn_r _ [18] (by decide +kernel) (by decide +kernel)
set_option maxRecDepth 20000 in
theorem gX4_keepTextAs_J7_fill_031fb : GoodIn wsX4_keepTextAs (va_wsS RX4 70 yJ7_fill_031fb wsJ7_fill_031fb) := goodIn_app (goodIn_of _ (by decide +kernel)) ggX4_keepTextAs_J7_fill_031fb
theorem dX4_keepTextAs_0 : decode cX4_keepTextAs 0 = .ok (.aload_n 0, 1) := by decide +kernel
theorem dX4_keepTextAs_1 : decode cX4_keepTextAs 1 = .ok (.iconst 0, 1) := by decide +kernel
theorem dX4_keepTextAs_2 : decode cX4_keepTextAs 2 = .ok (.putfield 30, 3) := by decide +kernel
theorem dX4_keepTextAs_5 : decode cX4_keepTextAs 5 = .ok (.aload_n 0, 1) := by decide +kernel
theorem dX4_keepTextAs_6 : decode cX4_keepTextAs 6 = .ok (.iconst 0, 1) := by decide +kernel
theorem dX4_keepTextAs_7 : decode cX4_keepTextAs 7 = .ok (.putfield 33, 3) := by decide +kernel
theorem dX4_keepTextAs_10 : decode cX4_keepTextAs 10 = .ok (.aload_n 0, 1) := by decide +kernel
theorem dX4_keepTextAs_11 : decode cX4_keepTextAs 11 = .ok (.iload_n 1, 1) := by decide +kernel
theorem dX4_keepTextAs_12 : decode cX4_keepTextAs 12 = .ok (.putfield 36, 3) := by decide +kernel
theorem dX4_keepTextAs_15 : decode cX4_keepTextAs 15 = .ok (.aload_n 0, 1) := by decide +kernel
theorem dX4_keepTextAs_16 : decode cX4_keepTextAs 16 = .ok (.iconst (-1), 1) := by decide +kernel
theorem dX4_keepTextAs_17 : decode cX4_keepTextAs 17 = .ok (.putfield 39, 3) := by decide +kernel
theorem dX4_keepTextAs_20 : decode cX4_keepTextAs 20 = .ok (.aload_n 0, 1) := by decide +kernel
theorem dX4_keepTextAs_21 : decode cX4_keepTextAs 21 = .ok (.iconst (-1), 1) := by decide +kernel
theorem dX4_keepTextAs_22 : decode cX4_keepTextAs 22 = .ok (.putfield 42, 3) := by decide +kernel
theorem dX4_keepTextAs_25 : decode cX4_keepTextAs 25 = .ok (.aload_n 0, 1) := by decide +kernel
theorem dX4_keepTextAs_26 : decode cX4_keepTextAs 26 = .ok (.iconst 0, 1) := by decide +kernel
theorem dX4_keepTextAs_27 : decode cX4_keepTextAs 27 = .ok (.putfield 45, 3) := by decide +kernel
theorem dX4_keepTextAs_30 : decode cX4_keepTextAs 30 = .ok (.aload_n 0, 1) := by decide +kernel
theorem dX4_keepTextAs_31 : decode cX4_keepTextAs 31 = .ok (.iconst 0, 1) := by decide +kernel
theorem dX4_keepTextAs_32 : decode cX4_keepTextAs 32 = .ok (.putfield 48, 3) := by decide +kernel
theorem dX4_keepTextAs_35 : decode cX4_keepTextAs 35 = .ok (.aload_n 0, 1) := by decide +kernel
theorem dX4_keepTextAs_36 : decode cX4_keepTextAs 36 = .ok (.iconst 0, 1) := by decide +kernel
theorem dX4_keepTextAs_37 : decode cX4_keepTextAs 37 = .ok (.putfield 51, 3) := by decide +kernel
theorem dX4_keepTextAs_40 : decode cX4_keepTextAs 40 = .ok (.aload_n 0, 1) := by decide +kernel
theorem dX4_keepTextAs_41 : decode cX4_keepTextAs 41 = .ok (.iconst 0, 1) := by decide +kernel
theorem dX4_keepTextAs_42 : decode cX4_keepTextAs 42 = .ok (.putfield 55, 3) := by decide +kernel
theorem dX4_keepTextAs_45 : decode cX4_keepTextAs 45 = .ok (.aload_n 0, 1) := by decide +kernel
theorem dX4_keepTextAs_46 : decode cX4_keepTextAs 46 = .ok (.iconst 0, 1) := by decide +kernel
theorem dX4_keepTextAs_47 : decode cX4_keepTextAs 47 = .ok (.putfield 58, 3) := by decide +kernel
theorem dX4_keepTextAs_50 : decode cX4_keepTextAs 50 = .ok (.aload_n 0, 1) := by decide +kernel
theorem dX4_keepTextAs_51 : decode cX4_keepTextAs 51 = .ok (.iconst 0, 1) := by decide +kernel
theorem dX4_keepTextAs_52 : decode cX4_keepTextAs 52 = .ok (.putfield 61, 3) := by decide +kernel
theorem dX4_keepTextAs_55 : decode cX4_keepTextAs 55 = .ok (.aload_n 0, 1) := by decide +kernel
theorem dX4_keepTextAs_56 : decode cX4_keepTextAs 56 = .ok (.iconst 0, 1) := by decide +kernel
theorem dX4_keepTextAs_57 : decode cX4_keepTextAs 57 = .ok (.putfield 64, 3) := by decide +kernel
theorem dX4_keepTextAs_60 : decode cX4_keepTextAs 60 = .ok (.aload_n 0, 1) := by decide +kernel
theorem dX4_keepTextAs_61 : decode cX4_keepTextAs 61 = .ok (.getfield 67, 3) := by decide +kernel
theorem dX4_keepTextAs_64 : decode cX4_keepTextAs 64 = .ok (.ifCond .le 16, 3) := by decide +kernel
theorem dX4_keepTextAs_67 : decode cX4_keepTextAs 67 = .ok (.aload_n 0, 1) := by decide +kernel
theorem dX4_keepTextAs_68 : decode cX4_keepTextAs 68 = .ok (.getfield 18, 3) := by decide +kernel
theorem dX4_keepTextAs_71 : decode cX4_keepTextAs 71 = .ok (.iconst 0, 1) := by decide +kernel
theorem dX4_keepTextAs_72 : decode cX4_keepTextAs 72 = .ok (.invokestatic 70, 3) := by decide +kernel
theorem dX4_keepTextAs_75 : decode cX4_keepTextAs 75 = .ok (.aload_n 0, 1) := by decide +kernel
theorem dX4_keepTextAs_76 : decode cX4_keepTextAs 76 = .ok (.iconst 0, 1) := by decide +kernel
theorem dX4_keepTextAs_77 : decode cX4_keepTextAs 77 = .ok (.putfield 67, 3) := by decide +kernel
theorem dX4_keepTextAs_80 : decode cX4_keepTextAs 80 = .ok (.return_, 1) := by decide +kernel
set_option maxRecDepth 20000 in
theorem ggX4_become_X9_become : GoodIn wsX4_become wsX9_become := goodIn_r _ [24, 25, 26, 27, 28, 29, 30, 31, 32, 33, 34, 16, 17, 18, 51, 52] (by decide +kernel) (by decide +kernel)
set_option maxRecDepth 20000 in
theorem gX4_become_X9_become : GoodIn wsX4_become (wsV RX4 76 RX9 yX9_become wsX9_become) := goodIn_app (goodIn_of _ (by decide +kernel)) ggX4_become_X9_become
theorem dX4_become_0 : decode cX4_become 0 = .ok (.aload_n 0, 1) := by decide +kernel
theorem dX4_become_1 : decode cX4_become 1 = .ok (.aload_n 1, 1) := by decide +kernel
theorem dX4_become_2 : decode cX4_become 2 = .ok (.getfield 30, 3) := by decide +kernel
theorem dX4_become_5 : decode cX4_become 5 = .ok (.putfield 30, 3) := by decide +kernel
theorem dX4_become_8 : decode cX4_become 8 = .ok (.aload_n 0, 1) := by decide +kernel
theorem dX4_become_9 : decode cX4_become 9 = .ok (.aload_n 1, 1) := by decide +kernel
theorem dX4_become_10 : decode cX4_become 10 = .ok (.getfield 33, 3) := by decide +kernel
theorem dX4_become_13 : decode cX4_become 13 = .ok (.putfield 33, 3) := by decide +kernel
theorem dX4_become_16 : decode cX4_become 16 = .ok (.aload_n 0, 1) := by decide +kernel
theorem dX4_become_17 : decode cX4_become 17 = .ok (.aload_n 1, 1) := by decide +kernel
theorem dX4_become_18 : decode cX4_become 18 = .ok (.getfield 36, 3) := by decide +kernel
theorem dX4_become_21 : decode cX4_become 21 = .ok (.putfield 36, 3) := by decide +kernel
theorem dX4_become_24 : decode cX4_become 24 = .ok (.aload_n 0, 1) := by decide +kernel
theorem dX4_become_25 : decode cX4_become 25 = .ok (.aload_n 1, 1) := by decide +kernel
theorem dX4_become_26 : decode cX4_become 26 = .ok (.getfield 39, 3) := by decide +kernel
theorem dX4_become_29 : decode cX4_become 29 = .ok (.putfield 39, 3) := by decide +kernel
theorem dX4_become_32 : decode cX4_become 32 = .ok (.aload_n 0, 1) := by decide +kernel
theorem dX4_become_33 : decode cX4_become 33 = .ok (.aload_n 1, 1) := by decide +kernel
theorem dX4_become_34 : decode cX4_become 34 = .ok (.getfield 42, 3) := by decide +kernel
theorem dX4_become_37 : decode cX4_become 37 = .ok (.putfield 42, 3) := by decide +kernel
theorem dX4_become_40 : decode cX4_become 40 = .ok (.aload_n 0, 1) := by decide +kernel
theorem dX4_become_41 : decode cX4_become 41 = .ok (.aload_n 1, 1) := by decide +kernel
theorem dX4_become_42 : decode cX4_become 42 = .ok (.getfield 45, 3) := by decide +kernel
theorem dX4_become_45 : decode cX4_become 45 = .ok (.putfield 45, 3) := by decide +kernel
theorem dX4_become_48 : decode cX4_become 48 = .ok (.aload_n 0, 1) := by decide +kernel
theorem dX4_become_49 : decode cX4_become 49 = .ok (.aload_n 1, 1) := by decide +kernel
theorem dX4_become_50 : decode cX4_become 50 = .ok (.getfield 48, 3) := by decide +kernel
theorem dX4_become_53 : decode cX4_become 53 = .ok (.putfield 48, 3) := by decide +kernel
theorem dX4_become_56 : decode cX4_become 56 = .ok (.aload_n 0, 1) := by decide +kernel
theorem dX4_become_57 : decode cX4_become 57 = .ok (.aload_n 1, 1) := by decide +kernel
theorem dX4_become_58 : decode cX4_become 58 = .ok (.getfield 51, 3) := by decide +kernel
theorem dX4_become_61 : decode cX4_become 61 = .ok (.putfield 51, 3) := by decide +kernel
theorem dX4_become_64 : decode cX4_become 64 = .ok (.aload_n 0, 1) := by decide +kernel
theorem dX4_become_65 : decode cX4_become 65 = .ok (.aload_n 1, 1) := by decide +kernel
theorem dX4_become_66 : decode cX4_become 66 = .ok (.getfield 55, 3) := by decide +kernel
theorem dX4_become_69 : decode cX4_become 69 = .ok (.putfield 55, 3) := by decide +kernel
theorem dX4_become_72 : decode cX4_become 72 = .ok (.aload_n 0, 1) := by decide +kernel
theorem dX4_become_73 : decode cX4_become 73 = .ok (.aload_n 1, 1) := by decide +kernel
theorem dX4_become_74 : decode cX4_become 74 = .ok (.getfield 58, 3) := by decide +kernel
theorem dX4_become_77 : decode cX4_become 77 = .ok (.putfield 58, 3) := by decide +kernel
theorem dX4_become_80 : decode cX4_become 80 = .ok (.aload_n 0, 1) := by decide +kernel
theorem dX4_become_81 : decode cX4_become 81 = .ok (.aload_n 1, 1) := by decide +kernel
theorem dX4_become_82 : decode cX4_become 82 = .ok (.getfield 61, 3) := by decide +kernel
theorem dX4_become_85 : decode cX4_become 85 = .ok (.putfield 61, 3) := by decide +kernel
theorem dX4_become_88 : decode cX4_become 88 = .ok (.aload_n 0, 1) := by decide +kernel
theorem dX4_become_89 : decode cX4_become 89 = .ok (.aload_n 1, 1) := by decide +kernel
theorem dX4_become_90 : decode cX4_become 90 = .ok (.getfield 64, 3) := by decide +kernel
theorem dX4_become_93 : decode cX4_become 93 = .ok (.putfield 64, 3) := by decide +kernel
theorem dX4_become_96 : decode cX4_become 96 = .ok (.aload_n 0, 1) := by decide +kernel
theorem dX4_become_97 : decode cX4_become 97 = .ok (.getfield 12, 3) := by decide +kernel
theorem dX4_become_100 : decode cX4_become 100 = .ok (.aload_n 1, 1) := by decide +kernel
theorem dX4_become_101 : decode cX4_become 101 = .ok (.getfield 12, 3) := by decide +kernel
theorem dX4_become_104 : decode cX4_become 104 = .ok (.invokevirtual 76, 3) := by decide +kernel
theorem dX4_become_107 : decode cX4_become 107 = .ok (.aload_n 1, 1) := by decide +kernel
theorem dX4_become_108 : decode cX4_become 108 = .ok (.getfield 18, 3) := by decide +kernel
theorem dX4_become_111 : decode cX4_become 111 = .ok (.iconst 0, 1) := by decide +kernel
theorem dX4_become_112 : decode cX4_become 112 = .ok (.aload_n 0, 1) := by decide +kernel
theorem dX4_become_113 : decode cX4_become 113 = .ok (.getfield 18, 3) := by decide +kernel
theorem dX4_become_116 : decode cX4_become 116 = .ok (.iconst 0, 1) := by decide +kernel
theorem dX4_become_117 : decode cX4_become 117 = .ok (.aload_n 0, 1) := by decide +kernel
theorem dX4_become_118 : decode cX4_become 118 = .ok (.getfield 18, 3) := by decide +kernel
theorem dX4_become_121 : decode cX4_become 121 = .ok (.arraylength, 1) := by decide +kernel
theorem dX4_become_122 : decode cX4_become 122 = .ok (.invokestatic 80, 3) := by decide +kernel
theorem dX4_become_125 : decode cX4_become 125 = .ok (.aload_n 0, 1) := by decide +kernel
theorem dX4_become_126 : decode cX4_become 126 = .ok (.aload_n 1, 1) := by decide +kernel
theorem dX4_become_127 : decode cX4_become 127 = .ok (.getfield 67, 3) := by decide +kernel
theorem dX4_become_130 : decode cX4_become 130 = .ok (.putfield 67, 3) := by decide +kernel
theorem dX4_become_133 : decode cX4_become 133 = .ok (.return_, 1) := by decide +kernel
theorem dX4_amends_0 : decode cX4_amends 0 = .ok (.aload_n 0, 1) := by decide +kernel
theorem dX4_amends_1 : decode cX4_amends 1 = .ok (.getfield 36, 3) := by decide +kernel
theorem dX4_amends_4 : decode cX4_amends 4 = .ok (.iconst 2, 1) := by decide +kernel
theorem dX4_amends_5 : decode cX4_amends 5 = .ok (.if_icmp .eq 11, 3) := by decide +kernel
theorem dX4_amends_8 : decode cX4_amends 8 = .ok (.aload_n 0, 1) := by decide +kernel
theorem dX4_amends_9 : decode cX4_amends 9 = .ok (.getfield 36, 3) := by decide +kernel
theorem dX4_amends_12 : decode cX4_amends 12 = .ok (.iconst 3, 1) := by decide +kernel
theorem dX4_amends_13 : decode cX4_amends 13 = .ok (.if_icmp .ne 7, 3) := by decide +kernel
theorem dX4_amends_16 : decode cX4_amends 16 = .ok (.iconst 1, 1) := by decide +kernel
theorem dX4_amends_17 : decode cX4_amends 17 = .ok (.goto 4, 3) := by decide +kernel
theorem dX4_amends_20 : decode cX4_amends 20 = .ok (.iconst 0, 1) := by decide +kernel
theorem dX4_amends_21 : decode cX4_amends 21 = .ok (.ireturn, 1) := by decide +kernel
theorem dX4_needsPlace_0 : decode cX4_needsPlace 0 = .ok (.aload_n 0, 1) := by decide +kernel
theorem dX4_needsPlace_1 : decode cX4_needsPlace 1 = .ok (.getfield 36, 3) := by decide +kernel
theorem dX4_needsPlace_4 : decode cX4_needsPlace 4 = .ok (.iconst 4, 1) := by decide +kernel
theorem dX4_needsPlace_5 : decode cX4_needsPlace 5 = .ok (.if_icmp .eq 20, 3) := by decide +kernel
theorem dX4_needsPlace_8 : decode cX4_needsPlace 8 = .ok (.aload_n 0, 1) := by decide +kernel
theorem dX4_needsPlace_9 : decode cX4_needsPlace 9 = .ok (.getfield 36, 3) := by decide +kernel
theorem dX4_needsPlace_12 : decode cX4_needsPlace 12 = .ok (.iconst 5, 1) := by decide +kernel
theorem dX4_needsPlace_13 : decode cX4_needsPlace 13 = .ok (.if_icmp .eq 12, 3) := by decide +kernel
theorem dX4_needsPlace_16 : decode cX4_needsPlace 16 = .ok (.aload_n 0, 1) := by decide +kernel
theorem dX4_needsPlace_17 : decode cX4_needsPlace 17 = .ok (.getfield 36, 3) := by decide +kernel
theorem dX4_needsPlace_20 : decode cX4_needsPlace 20 = .ok (.bipush 7, 2) := by decide +kernel
theorem dX4_needsPlace_22 : decode cX4_needsPlace 22 = .ok (.if_icmp .ne 7, 3) := by decide +kernel
theorem dX4_needsPlace_25 : decode cX4_needsPlace 25 = .ok (.iconst 1, 1) := by decide +kernel
theorem dX4_needsPlace_26 : decode cX4_needsPlace 26 = .ok (.goto 4, 3) := by decide +kernel
theorem dX4_needsPlace_29 : decode cX4_needsPlace 29 = .ok (.iconst 0, 1) := by decide +kernel
theorem dX4_needsPlace_30 : decode cX4_needsPlace 30 = .ok (.ireturn, 1) := by decide +kernel
theorem dX4_canBeAbout_0 : decode cX4_canBeAbout 0 = .ok (.aload_n 1, 1) := by decide +kernel
theorem dX4_canBeAbout_1 : decode cX4_canBeAbout 1 = .ok (.ifnonnull 5, 3) := by decide +kernel
theorem dX4_canBeAbout_4 : decode cX4_canBeAbout 4 = .ok (.iconst 0, 1) := by decide +kernel
theorem dX4_canBeAbout_5 : decode cX4_canBeAbout 5 = .ok (.ireturn, 1) := by decide +kernel
theorem dX4_canBeAbout_6 : decode cX4_canBeAbout 6 = .ok (.aload_n 0, 1) := by decide +kernel
theorem dX4_canBeAbout_7 : decode cX4_canBeAbout 7 = .ok (.getfield 36, 3) := by decide +kernel
theorem dX4_canBeAbout_10 : decode cX4_canBeAbout 10 = .ok (.iconst 3, 1) := by decide +kernel
theorem dX4_canBeAbout_11 : decode cX4_canBeAbout 11 = .ok (.if_icmp .ne 17, 3) := by decide +kernel
theorem dX4_canBeAbout_14 : decode cX4_canBeAbout 14 = .ok (.aload_n 1, 1) := by decide +kernel
theorem dX4_canBeAbout_15 : decode cX4_canBeAbout 15 = .ok (.getfield 36, 3) := by decide +kernel
theorem dX4_canBeAbout_18 : decode cX4_canBeAbout 18 = .ok (.iconst 2, 1) := by decide +kernel
theorem dX4_canBeAbout_19 : decode cX4_canBeAbout 19 = .ok (.if_icmp .ne 7, 3) := by decide +kernel
theorem dX4_canBeAbout_22 : decode cX4_canBeAbout 22 = .ok (.iconst 1, 1) := by decide +kernel
theorem dX4_canBeAbout_23 : decode cX4_canBeAbout 23 = .ok (.goto 4, 3) := by decide +kernel
theorem dX4_canBeAbout_26 : decode cX4_canBeAbout 26 = .ok (.iconst 0, 1) := by decide +kernel
theorem dX4_canBeAbout_27 : decode cX4_canBeAbout 27 = .ok (.ireturn, 1) := by decide +kernel
theorem dX4_canBeAbout_28 : decode cX4_canBeAbout 28 = .ok (.aload_n 0, 1) := by decide +kernel
theorem dX4_canBeAbout_29 : decode cX4_canBeAbout 29 = .ok (.getfield 36, 3) := by decide +kernel
theorem dX4_canBeAbout_32 : decode cX4_canBeAbout 32 = .ok (.iconst 2, 1) := by decide +kernel
theorem dX4_canBeAbout_33 : decode cX4_canBeAbout 33 = .ok (.if_icmp .ne 31, 3) := by decide +kernel
theorem dX4_canBeAbout_36 : decode cX4_canBeAbout 36 = .ok (.aload_n 1, 1) := by decide +kernel
theorem dX4_canBeAbout_37 : decode cX4_canBeAbout 37 = .ok (.getfield 36, 3) := by decide +kernel
theorem dX4_canBeAbout_40 : decode cX4_canBeAbout 40 = .ok (.iconst 1, 1) := by decide +kernel
theorem dX4_canBeAbout_41 : decode cX4_canBeAbout 41 = .ok (.if_icmp .eq 19, 3) := by decide +kernel
theorem dX4_canBeAbout_44 : decode cX4_canBeAbout 44 = .ok (.aload_n 1, 1) := by decide +kernel
theorem dX4_canBeAbout_45 : decode cX4_canBeAbout 45 = .ok (.getfield 36, 3) := by decide +kernel
theorem dX4_canBeAbout_48 : decode cX4_canBeAbout 48 = .ok (.iconst 4, 1) := by decide +kernel
theorem dX4_canBeAbout_49 : decode cX4_canBeAbout 49 = .ok (.if_icmp .eq 11, 3) := by decide +kernel
theorem dX4_canBeAbout_52 : decode cX4_canBeAbout 52 = .ok (.aload_n 1, 1) := by decide +kernel
theorem dX4_canBeAbout_53 : decode cX4_canBeAbout 53 = .ok (.getfield 36, 3) := by decide +kernel
theorem dX4_canBeAbout_56 : decode cX4_canBeAbout 56 = .ok (.iconst 5, 1) := by decide +kernel
theorem dX4_canBeAbout_57 : decode cX4_canBeAbout 57 = .ok (.if_icmp .ne 7, 3) := by decide +kernel
theorem dX4_canBeAbout_60 : decode cX4_canBeAbout 60 = .ok (.iconst 1, 1) := by decide +kernel
theorem dX4_canBeAbout_61 : decode cX4_canBeAbout 61 = .ok (.goto 4, 3) := by decide +kernel
theorem dX4_canBeAbout_64 : decode cX4_canBeAbout 64 = .ok (.iconst 0, 1) := by decide +kernel
theorem dX4_canBeAbout_65 : decode cX4_canBeAbout 65 = .ok (.ireturn, 1) := by decide +kernel
theorem dX4_voteOf_0 : decode cX4_voteOf 0 = .ok (.iload_n 1, 1) := by decide +kernel
theorem dX4_voteOf_1 : decode cX4_voteOf 1 = .ok (.ifCond .lt 12, 3) := by decide +kernel
theorem dX4_voteOf_4 : decode cX4_voteOf 4 = .ok (.iload_n 1, 1) := by decide +kernel
theorem dX4_voteOf_5 : decode cX4_voteOf 5 = .ok (.aload_n 0, 1) := by decide +kernel
theorem dX4_voteOf_6 : decode cX4_voteOf 6 = .ok (.getfield 18, 3) := by decide +kernel
theorem dX4_voteOf_9 : decode cX4_voteOf 9 = .ok (.arraylength, 1) := by decide +kernel
theorem dX4_voteOf_10 : decode cX4_voteOf 10 = .ok (.if_icmp .lt 7, 3) := by decide +kernel
theorem dX4_voteOf_13 : decode cX4_voteOf 13 = .ok (.iconst (-1), 1) := by decide +kernel
theorem dX4_voteOf_14 : decode cX4_voteOf 14 = .ok (.goto 11, 3) := by decide +kernel
theorem dX4_voteOf_17 : decode cX4_voteOf 17 = .ok (.aload_n 0, 1) := by decide +kernel
theorem dX4_voteOf_18 : decode cX4_voteOf 18 = .ok (.getfield 18, 3) := by decide +kernel
theorem dX4_voteOf_21 : decode cX4_voteOf 21 = .ok (.iload_n 1, 1) := by decide +kernel
theorem dX4_voteOf_22 : decode cX4_voteOf 22 = .ok (.baload, 1) := by decide +kernel
theorem dX4_voteOf_23 : decode cX4_voteOf 23 = .ok (.iconst 1, 1) := by decide +kernel
theorem dX4_voteOf_24 : decode cX4_voteOf 24 = .ok (.isub, 1) := by decide +kernel
theorem dX4_voteOf_25 : decode cX4_voteOf 25 = .ok (.ireturn, 1) := by decide +kernel
theorem dX4_castVote_0 : decode cX4_castVote 0 = .ok (.iload_n 1, 1) := by decide +kernel
theorem dX4_castVote_1 : decode cX4_castVote 1 = .ok (.ifCond .lt 71, 3) := by decide +kernel
theorem dX4_castVote_4 : decode cX4_castVote 4 = .ok (.iload_n 1, 1) := by decide +kernel
theorem dX4_castVote_5 : decode cX4_castVote 5 = .ok (.aload_n 0, 1) := by decide +kernel
theorem dX4_castVote_6 : decode cX4_castVote 6 = .ok (.getfield 18, 3) := by decide +kernel
theorem dX4_castVote_9 : decode cX4_castVote 9 = .ok (.arraylength, 1) := by decide +kernel
theorem dX4_castVote_10 : decode cX4_castVote 10 = .ok (.if_icmp .ge 62, 3) := by decide +kernel
theorem dX4_castVote_13 : decode cX4_castVote 13 = .ok (.aload_n 0, 1) := by decide +kernel
theorem dX4_castVote_14 : decode cX4_castVote 14 = .ok (.getfield 18, 3) := by decide +kernel
theorem dX4_castVote_17 : decode cX4_castVote 17 = .ok (.iload_n 1, 1) := by decide +kernel
theorem dX4_castVote_18 : decode cX4_castVote 18 = .ok (.baload, 1) := by decide +kernel
theorem dX4_castVote_19 : decode cX4_castVote 19 = .ok (.ifCond .ne 7, 3) := by decide +kernel
theorem dX4_castVote_22 : decode cX4_castVote 22 = .ok (.iconst 0, 1) := by decide +kernel
theorem dX4_castVote_23 : decode cX4_castVote 23 = .ok (.goto 4, 3) := by decide +kernel
theorem dX4_castVote_26 : decode cX4_castVote 26 = .ok (.iconst 1, 1) := by decide +kernel
theorem dX4_castVote_27 : decode cX4_castVote 27 = .ok (.istore_n 3, 1) := by decide +kernel
theorem dX4_castVote_28 : decode cX4_castVote 28 = .ok (.iload_n 2, 1) := by decide +kernel
theorem dX4_castVote_29 : decode cX4_castVote 29 = .ok (.iconst 2, 1) := by decide +kernel
theorem dX4_castVote_30 : decode cX4_castVote 30 = .ok (.if_icmp .ne 7, 3) := by decide +kernel
theorem dX4_castVote_33 : decode cX4_castVote 33 = .ok (.iconst 0, 1) := by decide +kernel
theorem dX4_castVote_34 : decode cX4_castVote 34 = .ok (.goto 4, 3) := by decide +kernel
theorem dX4_castVote_37 : decode cX4_castVote 37 = .ok (.iconst 1, 1) := by decide +kernel
theorem dX4_castVote_38 : decode cX4_castVote 38 = .ok (.istore 4, 2) := by decide +kernel
theorem dX4_castVote_40 : decode cX4_castVote 40 = .ok (.aload_n 0, 1) := by decide +kernel
theorem dX4_castVote_41 : decode cX4_castVote 41 = .ok (.getfield 18, 3) := by decide +kernel
theorem dX4_castVote_44 : decode cX4_castVote 44 = .ok (.iload_n 1, 1) := by decide +kernel
theorem dX4_castVote_45 : decode cX4_castVote 45 = .ok (.iload_n 2, 1) := by decide +kernel
theorem dX4_castVote_46 : decode cX4_castVote 46 = .ok (.iconst 2, 1) := by decide +kernel
theorem dX4_castVote_47 : decode cX4_castVote 47 = .ok (.if_icmp .ne 7, 3) := by decide +kernel
theorem dX4_castVote_50 : decode cX4_castVote 50 = .ok (.iconst 0, 1) := by decide +kernel
theorem dX4_castVote_51 : decode cX4_castVote 51 = .ok (.goto 6, 3) := by decide +kernel
theorem dX4_castVote_54 : decode cX4_castVote 54 = .ok (.iload_n 2, 1) := by decide +kernel
theorem dX4_castVote_55 : decode cX4_castVote 55 = .ok (.iconst 1, 1) := by decide +kernel
theorem dX4_castVote_56 : decode cX4_castVote 56 = .ok (.iadd, 1) := by decide +kernel
theorem dX4_castVote_57 : decode cX4_castVote 57 = .ok (.i2b, 1) := by decide +kernel
theorem dX4_castVote_58 : decode cX4_castVote 58 = .ok (.bastore, 1) := by decide +kernel
theorem dX4_castVote_59 : decode cX4_castVote 59 = .ok (.aload_n 0, 1) := by decide +kernel
theorem dX4_castVote_60 : decode cX4_castVote 60 = .ok (.dup, 1) := by decide +kernel
theorem dX4_castVote_61 : decode cX4_castVote 61 = .ok (.getfield 67, 3) := by decide +kernel
theorem dX4_castVote_64 : decode cX4_castVote 64 = .ok (.iload 4, 2) := by decide +kernel
theorem dX4_castVote_66 : decode cX4_castVote 66 = .ok (.iload_n 3, 1) := by decide +kernel
theorem dX4_castVote_67 : decode cX4_castVote 67 = .ok (.isub, 1) := by decide +kernel
theorem dX4_castVote_68 : decode cX4_castVote 68 = .ok (.iadd, 1) := by decide +kernel
theorem dX4_castVote_69 : decode cX4_castVote 69 = .ok (.putfield 67, 3) := by decide +kernel
theorem dX4_castVote_72 : decode cX4_castVote 72 = .ok (.aload_n 0, 1) := by decide +kernel
theorem dX4_castVote_73 : decode cX4_castVote 73 = .ok (.getfield 67, 3) := by decide +kernel
theorem dX4_castVote_76 : decode cX4_castVote 76 = .ok (.ireturn, 1) := by decide +kernel
theorem dX4_follow_0 : decode cX4_follow 0 = .ok (.aload_n 0, 1) := by decide +kernel
theorem dX4_follow_1 : decode cX4_follow 1 = .ok (.getfield 58, 3) := by decide +kernel
theorem dX4_follow_4 : decode cX4_follow 4 = .ok (.iload_n 1, 1) := by decide +kernel
theorem dX4_follow_5 : decode cX4_follow 5 = .ok (.if_icmp .gt 4, 3) := by decide +kernel
theorem dX4_follow_8 : decode cX4_follow 8 = .ok (.return_, 1) := by decide +kernel
theorem dX4_follow_9 : decode cX4_follow 9 = .ok (.aload_n 0, 1) := by decide +kernel
theorem dX4_follow_10 : decode cX4_follow 10 = .ok (.getfield 55, 3) := by decide +kernel
theorem dX4_follow_13 : decode cX4_follow 13 = .ok (.iload_n 2, 1) := by decide +kernel
theorem dX4_follow_14 : decode cX4_follow 14 = .ok (.if_icmp .lt 34, 3) := by decide +kernel
theorem dX4_follow_17 : decode cX4_follow 17 = .ok (.aload_n 0, 1) := by decide +kernel
theorem dX4_follow_18 : decode cX4_follow 18 = .ok (.dup, 1) := by decide +kernel
theorem dX4_follow_19 : decode cX4_follow 19 = .ok (.getfield 55, 3) := by decide +kernel
theorem dX4_follow_22 : decode cX4_follow 22 = .ok (.iload_n 3, 1) := by decide +kernel
theorem dX4_follow_23 : decode cX4_follow 23 = .ok (.iload_n 2, 1) := by decide +kernel
theorem dX4_follow_24 : decode cX4_follow 24 = .ok (.iload_n 1, 1) := by decide +kernel
theorem dX4_follow_25 : decode cX4_follow 25 = .ok (.isub, 1) := by decide +kernel
theorem dX4_follow_26 : decode cX4_follow 26 = .ok (.isub, 1) := by decide +kernel
theorem dX4_follow_27 : decode cX4_follow 27 = .ok (.iadd, 1) := by decide +kernel
theorem dX4_follow_28 : decode cX4_follow 28 = .ok (.putfield 55, 3) := by decide +kernel
theorem dX4_follow_31 : decode cX4_follow 31 = .ok (.aload_n 0, 1) := by decide +kernel
theorem dX4_follow_32 : decode cX4_follow 32 = .ok (.dup, 1) := by decide +kernel
theorem dX4_follow_33 : decode cX4_follow 33 = .ok (.getfield 58, 3) := by decide +kernel
theorem dX4_follow_36 : decode cX4_follow 36 = .ok (.iload_n 3, 1) := by decide +kernel
theorem dX4_follow_37 : decode cX4_follow 37 = .ok (.iload_n 2, 1) := by decide +kernel
theorem dX4_follow_38 : decode cX4_follow 38 = .ok (.iload_n 1, 1) := by decide +kernel
theorem dX4_follow_39 : decode cX4_follow 39 = .ok (.isub, 1) := by decide +kernel
theorem dX4_follow_40 : decode cX4_follow 40 = .ok (.isub, 1) := by decide +kernel
theorem dX4_follow_41 : decode cX4_follow 41 = .ok (.iadd, 1) := by decide +kernel
theorem dX4_follow_42 : decode cX4_follow 42 = .ok (.putfield 58, 3) := by decide +kernel
theorem dX4_follow_45 : decode cX4_follow 45 = .ok (.goto 8, 3) := by decide +kernel
theorem dX4_follow_48 : decode cX4_follow 48 = .ok (.aload_n 0, 1) := by decide +kernel
theorem dX4_follow_49 : decode cX4_follow 49 = .ok (.iconst 1, 1) := by decide +kernel
theorem dX4_follow_50 : decode cX4_follow 50 = .ok (.putfield 64, 3) := by decide +kernel
theorem dX4_follow_53 : decode cX4_follow 53 = .ok (.return_, 1) := by decide +kernel
theorem dX4_fact_0 : decode cX4_fact 0 = .ok (.iload_n 1, 1) := by decide +kernel
theorem dX4_fact_1 : decode cX4_fact 1 = .ok (.tableswitch 116 0 9 #[55, 60, 65, 70, 78, 83, 88, 93, 98, 111], 55) := by decide +kernel
theorem dX4_fact_56 : decode cX4_fact 56 = .ok (.aload_n 0, 1) := by decide +kernel
theorem dX4_fact_57 : decode cX4_fact 57 = .ok (.getfield 36, 3) := by decide +kernel
theorem dX4_fact_60 : decode cX4_fact 60 = .ok (.ireturn, 1) := by decide +kernel
theorem dX4_fact_61 : decode cX4_fact 61 = .ok (.aload_n 0, 1) := by decide +kernel
theorem dX4_fact_62 : decode cX4_fact 62 = .ok (.getfield 39, 3) := by decide +kernel
theorem dX4_fact_65 : decode cX4_fact 65 = .ok (.ireturn, 1) := by decide +kernel
theorem dX4_fact_66 : decode cX4_fact 66 = .ok (.aload_n 0, 1) := by decide +kernel
theorem dX4_fact_67 : decode cX4_fact 67 = .ok (.getfield 42, 3) := by decide +kernel
theorem dX4_fact_70 : decode cX4_fact 70 = .ok (.ireturn, 1) := by decide +kernel
theorem dX4_fact_71 : decode cX4_fact 71 = .ok (.aload_n 0, 1) := by decide +kernel
theorem dX4_fact_72 : decode cX4_fact 72 = .ok (.getfield 12, 3) := by decide +kernel
theorem dX4_fact_75 : decode cX4_fact 75 = .ok (.getfield 26, 3) := by decide +kernel
theorem dX4_fact_78 : decode cX4_fact 78 = .ok (.ireturn, 1) := by decide +kernel
theorem dX4_fact_79 : decode cX4_fact 79 = .ok (.aload_n 0, 1) := by decide +kernel
theorem dX4_fact_80 : decode cX4_fact 80 = .ok (.getfield 55, 3) := by decide +kernel
theorem dX4_fact_83 : decode cX4_fact 83 = .ok (.ireturn, 1) := by decide +kernel
theorem dX4_fact_84 : decode cX4_fact 84 = .ok (.aload_n 0, 1) := by decide +kernel
theorem dX4_fact_85 : decode cX4_fact 85 = .ok (.getfield 58, 3) := by decide +kernel
theorem dX4_fact_88 : decode cX4_fact 88 = .ok (.ireturn, 1) := by decide +kernel
theorem dX4_fact_89 : decode cX4_fact 89 = .ok (.aload_n 0, 1) := by decide +kernel
theorem dX4_fact_90 : decode cX4_fact 90 = .ok (.getfield 45, 3) := by decide +kernel
theorem dX4_fact_93 : decode cX4_fact 93 = .ok (.ireturn, 1) := by decide +kernel
theorem dX4_fact_94 : decode cX4_fact 94 = .ok (.aload_n 0, 1) := by decide +kernel
theorem dX4_fact_95 : decode cX4_fact 95 = .ok (.getfield 48, 3) := by decide +kernel
theorem dX4_fact_98 : decode cX4_fact 98 = .ok (.ireturn, 1) := by decide +kernel
theorem dX4_fact_99 : decode cX4_fact 99 = .ok (.aload_n 0, 1) := by decide +kernel
theorem dX4_fact_100 : decode cX4_fact 100 = .ok (.getfield 51, 3) := by decide +kernel
theorem dX4_fact_103 : decode cX4_fact 103 = .ok (.ifCond .eq 7, 3) := by decide +kernel
theorem dX4_fact_106 : decode cX4_fact 106 = .ok (.iconst 1, 1) := by decide +kernel
theorem dX4_fact_107 : decode cX4_fact 107 = .ok (.goto 4, 3) := by decide +kernel
theorem dX4_fact_110 : decode cX4_fact 110 = .ok (.iconst 0, 1) := by decide +kernel
theorem dX4_fact_111 : decode cX4_fact 111 = .ok (.ireturn, 1) := by decide +kernel
theorem dX4_fact_112 : decode cX4_fact 112 = .ok (.aload_n 0, 1) := by decide +kernel
theorem dX4_fact_113 : decode cX4_fact 113 = .ok (.getfield 67, 3) := by decide +kernel
theorem dX4_fact_116 : decode cX4_fact 116 = .ok (.ireturn, 1) := by decide +kernel
theorem dX4_fact_117 : decode cX4_fact 117 = .ok (.iconst (-1), 1) := by decide +kernel
theorem dX4_fact_118 : decode cX4_fact 118 = .ok (.ireturn, 1) := by decide +kernel
theorem dX5_init_0 : decode cX5_init 0 = .ok (.aload_n 0, 1) := by decide +kernel
theorem dX5_init_1 : decode cX5_init 1 = .ok (.invokespecial 3, 3) := by decide +kernel
theorem dX5_init_4 : decode cX5_init 4 = .ok (.aload_n 0, 1) := by decide +kernel
theorem dX5_init_5 : decode cX5_init 5 = .ok (.bipush 9, 2) := by decide +kernel
theorem dX5_init_7 : decode cX5_init 7 = .ok (.anewarray 9, 3) := by decide +kernel
theorem dX5_init_10 : decode cX5_init 10 = .ok (.putfield 11, 3) := by decide +kernel
theorem dX5_init_13 : decode cX5_init 13 = .ok (.return_, 1) := by decide +kernel
theorem dX5_at_0 : decode cX5_at 0 = .ok (.iload_n 1, 1) := by decide +kernel
theorem dX5_at_1 : decode cX5_at 1 = .ok (.ifCond .lt 20, 3) := by decide +kernel
theorem dX5_at_4 : decode cX5_at 4 = .ok (.iload_n 1, 1) := by decide +kernel
theorem dX5_at_5 : decode cX5_at 5 = .ok (.aload_n 0, 1) := by decide +kernel
theorem dX5_at_6 : decode cX5_at 6 = .ok (.getfield 17, 3) := by decide +kernel
theorem dX5_at_9 : decode cX5_at 9 = .ok (.if_icmp .ge 12, 3) := by decide +kernel
theorem dX5_at_12 : decode cX5_at 12 = .ok (.iload_n 1, 1) := by decide +kernel
theorem dX5_at_13 : decode cX5_at 13 = .ok (.aload_n 0, 1) := by decide +kernel
theorem dX5_at_14 : decode cX5_at 14 = .ok (.getfield 11, 3) := by decide +kernel
theorem dX5_at_17 : decode cX5_at 17 = .ok (.arraylength, 1) := by decide +kernel
theorem dX5_at_18 : decode cX5_at 18 = .ok (.if_icmp .lt 7, 3) := by decide +kernel
theorem dX5_at_21 : decode cX5_at 21 = .ok (.aconst_null, 1) := by decide +kernel
theorem dX5_at_22 : decode cX5_at 22 = .ok (.goto 9, 3) := by decide +kernel
theorem dX5_at_25 : decode cX5_at 25 = .ok (.aload_n 0, 1) := by decide +kernel
theorem dX5_at_26 : decode cX5_at 26 = .ok (.getfield 11, 3) := by decide +kernel
theorem dX5_at_29 : decode cX5_at 29 = .ok (.iload_n 1, 1) := by decide +kernel
theorem dX5_at_30 : decode cX5_at 30 = .ok (.aaload, 1) := by decide +kernel
theorem dX5_at_31 : decode cX5_at 31 = .ok (.areturn, 1) := by decide +kernel
set_option maxRecDepth 20000 in
theorem ggX5_top_X5_at : GoodIn wsX5_top wsX5_at := goodIn_r _ [6, 1, 7, 8, 9] (by decide +kernel) (by decide +kernel)
set_option maxRecDepth 20000 in
theorem gX5_top_X5_at : GoodIn wsX5_top (wsV RX5 21 RX5 yX5_at wsX5_at) := goodIn_app (goodIn_of _ (by decide +kernel)) ggX5_top_X5_at
theorem dX5_top_0 : decode cX5_top 0 = .ok (.aload_n 0, 1) := by decide +kernel
theorem dX5_top_1 : decode cX5_top 1 = .ok (.aload_n 0, 1) := by decide +kernel
theorem dX5_top_2 : decode cX5_top 2 = .ok (.getfield 17, 3) := by decide +kernel
theorem dX5_top_5 : decode cX5_top 5 = .ok (.iconst 1, 1) := by decide +kernel
theorem dX5_top_6 : decode cX5_top 6 = .ok (.isub, 1) := by decide +kernel
theorem dX5_top_7 : decode cX5_top 7 = .ok (.invokevirtual 21, 3) := by decide +kernel
theorem dX5_top_10 : decode cX5_top 10 = .ok (.areturn, 1) := by decide +kernel
theorem dX5_put_0 : decode cX5_put 0 = .ok (.aload_n 1, 1) := by decide +kernel
theorem dX5_put_1 : decode cX5_put 1 = .ok (.ifnull 35, 3) := by decide +kernel
theorem dX5_put_4 : decode cX5_put 4 = .ok (.aload_n 0, 1) := by decide +kernel
theorem dX5_put_5 : decode cX5_put 5 = .ok (.getfield 17, 3) := by decide +kernel
theorem dX5_put_8 : decode cX5_put 8 = .ok (.aload_n 0, 1) := by decide +kernel
theorem dX5_put_9 : decode cX5_put 9 = .ok (.getfield 11, 3) := by decide +kernel
theorem dX5_put_12 : decode cX5_put 12 = .ok (.arraylength, 1) := by decide +kernel
theorem dX5_put_13 : decode cX5_put 13 = .ok (.if_icmp .ge 23, 3) := by decide +kernel
theorem dX5_put_16 : decode cX5_put 16 = .ok (.aload_n 0, 1) := by decide +kernel
theorem dX5_put_17 : decode cX5_put 17 = .ok (.getfield 11, 3) := by decide +kernel
theorem dX5_put_20 : decode cX5_put 20 = .ok (.aload_n 0, 1) := by decide +kernel
theorem dX5_put_21 : decode cX5_put 21 = .ok (.getfield 17, 3) := by decide +kernel
theorem dX5_put_24 : decode cX5_put 24 = .ok (.aload_n 1, 1) := by decide +kernel
theorem dX5_put_25 : decode cX5_put 25 = .ok (.aastore, 1) := by decide +kernel
theorem dX5_put_26 : decode cX5_put 26 = .ok (.aload_n 0, 1) := by decide +kernel
theorem dX5_put_27 : decode cX5_put 27 = .ok (.dup, 1) := by decide +kernel
theorem dX5_put_28 : decode cX5_put 28 = .ok (.getfield 17, 3) := by decide +kernel
theorem dX5_put_31 : decode cX5_put 31 = .ok (.iconst 1, 1) := by decide +kernel
theorem dX5_put_32 : decode cX5_put 32 = .ok (.iadd, 1) := by decide +kernel
theorem dX5_put_33 : decode cX5_put 33 = .ok (.putfield 17, 3) := by decide +kernel
theorem dX5_put_36 : decode cX5_put 36 = .ok (.return_, 1) := by decide +kernel
theorem dX5_pull_0 : decode cX5_pull 0 = .ok (.aload_n 0, 1) := by decide +kernel
theorem dX5_pull_1 : decode cX5_pull 1 = .ok (.getfield 17, 3) := by decide +kernel
theorem dX5_pull_4 : decode cX5_pull 4 = .ok (.iconst 1, 1) := by decide +kernel
theorem dX5_pull_5 : decode cX5_pull 5 = .ok (.if_icmp .lt 15, 3) := by decide +kernel
theorem dX5_pull_8 : decode cX5_pull 8 = .ok (.aload_n 0, 1) := by decide +kernel
theorem dX5_pull_9 : decode cX5_pull 9 = .ok (.getfield 17, 3) := by decide +kernel
theorem dX5_pull_12 : decode cX5_pull 12 = .ok (.aload_n 0, 1) := by decide +kernel
theorem dX5_pull_13 : decode cX5_pull 13 = .ok (.getfield 11, 3) := by decide +kernel
theorem dX5_pull_16 : decode cX5_pull 16 = .ok (.arraylength, 1) := by decide +kernel
theorem dX5_pull_17 : decode cX5_pull 17 = .ok (.if_icmp .le 5, 3) := by decide +kernel
theorem dX5_pull_20 : decode cX5_pull 20 = .ok (.aconst_null, 1) := by decide +kernel
theorem dX5_pull_21 : decode cX5_pull 21 = .ok (.areturn, 1) := by decide +kernel
theorem dX5_pull_22 : decode cX5_pull 22 = .ok (.aload_n 0, 1) := by decide +kernel
theorem dX5_pull_23 : decode cX5_pull 23 = .ok (.dup, 1) := by decide +kernel
theorem dX5_pull_24 : decode cX5_pull 24 = .ok (.getfield 17, 3) := by decide +kernel
theorem dX5_pull_27 : decode cX5_pull 27 = .ok (.iconst 1, 1) := by decide +kernel
theorem dX5_pull_28 : decode cX5_pull 28 = .ok (.isub, 1) := by decide +kernel
theorem dX5_pull_29 : decode cX5_pull 29 = .ok (.putfield 17, 3) := by decide +kernel
theorem dX5_pull_32 : decode cX5_pull 32 = .ok (.aload_n 0, 1) := by decide +kernel
theorem dX5_pull_33 : decode cX5_pull 33 = .ok (.getfield 11, 3) := by decide +kernel
theorem dX5_pull_36 : decode cX5_pull 36 = .ok (.aload_n 0, 1) := by decide +kernel
theorem dX5_pull_37 : decode cX5_pull 37 = .ok (.getfield 17, 3) := by decide +kernel
theorem dX5_pull_40 : decode cX5_pull 40 = .ok (.aaload, 1) := by decide +kernel
theorem dX5_pull_41 : decode cX5_pull 41 = .ok (.astore_n 1, 1) := by decide +kernel
theorem dX5_pull_42 : decode cX5_pull 42 = .ok (.aload_n 0, 1) := by decide +kernel
theorem dX5_pull_43 : decode cX5_pull 43 = .ok (.getfield 11, 3) := by decide +kernel
theorem dX5_pull_46 : decode cX5_pull 46 = .ok (.aload_n 0, 1) := by decide +kernel
theorem dX5_pull_47 : decode cX5_pull 47 = .ok (.getfield 17, 3) := by decide +kernel
theorem dX5_pull_50 : decode cX5_pull 50 = .ok (.aconst_null, 1) := by decide +kernel
theorem dX5_pull_51 : decode cX5_pull 51 = .ok (.aastore, 1) := by decide +kernel
theorem dX5_pull_52 : decode cX5_pull 52 = .ok (.aload_n 1, 1) := by decide +kernel
theorem dX5_pull_53 : decode cX5_pull 53 = .ok (.areturn, 1) := by decide +kernel
set_option maxRecDepth 20000 in
theorem ggX5_pourInto_X5_put : GoodIn wsX5_pourInto wsX5_put := goodIn_r _ [7, 1, 2, 8, 9] (by decide +kernel) (by decide +kernel)
set_option maxRecDepth 20000 in
theorem gX5_pourInto_X5_put : GoodIn wsX5_pourInto (wsV RX5 25 RX5 yX5_put wsX5_put) := goodIn_app (goodIn_of _ (by decide +kernel)) ggX5_pourInto_X5_put
theorem dX5_pourInto_0 : decode cX5_pourInto 0 = .ok (.iconst 0, 1) := by decide +kernel
theorem dX5_pourInto_1 : decode cX5_pourInto 1 = .ok (.istore_n 2, 1) := by decide +kernel
theorem dX5_pourInto_2 : decode cX5_pourInto 2 = .ok (.iload_n 2, 1) := by decide +kernel
theorem dX5_pourInto_3 : decode cX5_pourInto 3 = .ok (.aload_n 0, 1) := by decide +kernel
theorem dX5_pourInto_4 : decode cX5_pourInto 4 = .ok (.getfield 17, 3) := by decide +kernel
theorem dX5_pourInto_7 : decode cX5_pourInto 7 = .ok (.if_icmp .ge 35, 3) := by decide +kernel
theorem dX5_pourInto_10 : decode cX5_pourInto 10 = .ok (.iload_n 2, 1) := by decide +kernel
theorem dX5_pourInto_11 : decode cX5_pourInto 11 = .ok (.aload_n 0, 1) := by decide +kernel
theorem dX5_pourInto_12 : decode cX5_pourInto 12 = .ok (.getfield 11, 3) := by decide +kernel
theorem dX5_pourInto_15 : decode cX5_pourInto 15 = .ok (.arraylength, 1) := by decide +kernel
theorem dX5_pourInto_16 : decode cX5_pourInto 16 = .ok (.if_icmp .ge 26, 3) := by decide +kernel
theorem dX5_pourInto_19 : decode cX5_pourInto 19 = .ok (.aload_n 1, 1) := by decide +kernel
theorem dX5_pourInto_20 : decode cX5_pourInto 20 = .ok (.aload_n 0, 1) := by decide +kernel
theorem dX5_pourInto_21 : decode cX5_pourInto 21 = .ok (.getfield 11, 3) := by decide +kernel
theorem dX5_pourInto_24 : decode cX5_pourInto 24 = .ok (.iload_n 2, 1) := by decide +kernel
theorem dX5_pourInto_25 : decode cX5_pourInto 25 = .ok (.aaload, 1) := by decide +kernel
theorem dX5_pourInto_26 : decode cX5_pourInto 26 = .ok (.invokevirtual 25, 3) := by decide +kernel
theorem dX5_pourInto_29 : decode cX5_pourInto 29 = .ok (.aload_n 0, 1) := by decide +kernel
theorem dX5_pourInto_30 : decode cX5_pourInto 30 = .ok (.getfield 11, 3) := by decide +kernel
theorem dX5_pourInto_33 : decode cX5_pourInto 33 = .ok (.iload_n 2, 1) := by decide +kernel
theorem dX5_pourInto_34 : decode cX5_pourInto 34 = .ok (.aconst_null, 1) := by decide +kernel
theorem dX5_pourInto_35 : decode cX5_pourInto 35 = .ok (.aastore, 1) := by decide +kernel
theorem dX5_pourInto_36 : decode cX5_pourInto 36 = .ok (.iinc 2 1, 3) := by decide +kernel
theorem dX5_pourInto_39 : decode cX5_pourInto 39 = .ok (.goto (-37), 3) := by decide +kernel
theorem dX5_pourInto_42 : decode cX5_pourInto 42 = .ok (.aload_n 0, 1) := by decide +kernel
theorem dX5_pourInto_43 : decode cX5_pourInto 43 = .ok (.iconst 0, 1) := by decide +kernel
theorem dX5_pourInto_44 : decode cX5_pourInto 44 = .ok (.putfield 17, 3) := by decide +kernel
theorem dX5_pourInto_47 : decode cX5_pourInto 47 = .ok (.return_, 1) := by decide +kernel
set_option maxRecDepth 20000 in
theorem ggX5_highestRank_X5_at : GoodIn wsX5_highestRank wsX5_at := goodIn_r _ [11, 1, 12, 13, 14] (by decide +kernel) (by decide +kernel)
set_option maxRecDepth 20000 in
theorem gX5_highestRank_X5_at : GoodIn wsX5_highestRank (wsV RX5 21 RX5 yX5_at wsX5_at) := goodIn_app (goodIn_of _ (by decide +kernel)) ggX5_highestRank_X5_at
theorem dX5_highestRank_0 : decode cX5_highestRank 0 = .ok (.iconst 0, 1) := by decide +kernel
theorem dX5_highestRank_1 : decode cX5_highestRank 1 = .ok (.istore_n 1, 1) := by decide +kernel
theorem dX5_highestRank_2 : decode cX5_highestRank 2 = .ok (.iconst 0, 1) := by decide +kernel
theorem dX5_highestRank_3 : decode cX5_highestRank 3 = .ok (.istore_n 2, 1) := by decide +kernel
theorem dX5_highestRank_4 : decode cX5_highestRank 4 = .ok (.iload_n 2, 1) := by decide +kernel
theorem dX5_highestRank_5 : decode cX5_highestRank 5 = .ok (.aload_n 0, 1) := by decide +kernel
theorem dX5_highestRank_6 : decode cX5_highestRank 6 = .ok (.getfield 17, 3) := by decide +kernel
theorem dX5_highestRank_9 : decode cX5_highestRank 9 = .ok (.if_icmp .ge 28, 3) := by decide +kernel
theorem dX5_highestRank_12 : decode cX5_highestRank 12 = .ok (.aload_n 0, 1) := by decide +kernel
theorem dX5_highestRank_13 : decode cX5_highestRank 13 = .ok (.iload_n 2, 1) := by decide +kernel
theorem dX5_highestRank_14 : decode cX5_highestRank 14 = .ok (.invokevirtual 21, 3) := by decide +kernel
theorem dX5_highestRank_17 : decode cX5_highestRank 17 = .ok (.astore_n 3, 1) := by decide +kernel
theorem dX5_highestRank_18 : decode cX5_highestRank 18 = .ok (.aload_n 3, 1) := by decide +kernel
theorem dX5_highestRank_19 : decode cX5_highestRank 19 = .ok (.ifnull 12, 3) := by decide +kernel
theorem dX5_highestRank_22 : decode cX5_highestRank 22 = .ok (.iload_n 1, 1) := by decide +kernel
theorem dX5_highestRank_23 : decode cX5_highestRank 23 = .ok (.aload_n 3, 1) := by decide +kernel
theorem dX5_highestRank_24 : decode cX5_highestRank 24 = .ok (.getfield 29, 3) := by decide +kernel
theorem dX5_highestRank_27 : decode cX5_highestRank 27 = .ok (.invokestatic 32, 3) := by decide +kernel
theorem dX5_highestRank_30 : decode cX5_highestRank 30 = .ok (.istore_n 1, 1) := by decide +kernel
theorem dX5_highestRank_31 : decode cX5_highestRank 31 = .ok (.iinc 2 1, 3) := by decide +kernel
theorem dX5_highestRank_34 : decode cX5_highestRank 34 = .ok (.goto (-30), 3) := by decide +kernel
theorem dX5_highestRank_37 : decode cX5_highestRank 37 = .ok (.iload_n 1, 1) := by decide +kernel
theorem dX5_highestRank_38 : decode cX5_highestRank 38 = .ok (.ireturn, 1) := by decide +kernel
set_option maxRecDepth 20000 in
theorem ggX5_needsPlace_X5_at : GoodIn wsX5_needsPlace wsX5_at := goodIn_r _ [6, 1, 7, 14, 15] (by decide +kernel) (by decide +kernel)
set_option maxRecDepth 20000 in
theorem gX5_needsPlace_X5_at : GoodIn wsX5_needsPlace (wsV RX5 21 RX5 yX5_at wsX5_at) := goodIn_app (goodIn_of _ (by decide +kernel)) ggX5_needsPlace_X5_at
set_option maxRecDepth 20000 in
theorem ggX5_needsPlace_X4_needsPlace : GoodIn wsX5_needsPlace wsX4_needsPlace := goodIn_r _ [12, 13, 16, 17, 18, 19, 20, 21, 22, 23, 24, 25, 26, 27, 28, 29, 30, 31] (by decide +kernel) (by decide +kernel)
set_option maxRecDepth 20000 in
theorem gX5_needsPlace_X4_needsPlace : GoodIn wsX5_needsPlace (wsV RX5 38 RX4 yX4_needsPlace wsX4_needsPlace) := goodIn_app (goodIn_of _ (by decide +kernel)) ggX5_needsPlace_X4_needsPlace
theorem dX5_needsPlace_0 : decode cX5_needsPlace 0 = .ok (.iconst 0, 1) := by decide +kernel
theorem dX5_needsPlace_1 : decode cX5_needsPlace 1 = .ok (.istore_n 1, 1) := by decide +kernel
theorem dX5_needsPlace_2 : decode cX5_needsPlace 2 = .ok (.iload_n 1, 1) := by decide +kernel
theorem dX5_needsPlace_3 : decode cX5_needsPlace 3 = .ok (.aload_n 0, 1) := by decide +kernel
theorem dX5_needsPlace_4 : decode cX5_needsPlace 4 = .ok (.getfield 17, 3) := by decide +kernel
theorem dX5_needsPlace_7 : decode cX5_needsPlace 7 = .ok (.if_icmp .ge 28, 3) := by decide +kernel
theorem dX5_needsPlace_10 : decode cX5_needsPlace 10 = .ok (.aload_n 0, 1) := by decide +kernel
theorem dX5_needsPlace_11 : decode cX5_needsPlace 11 = .ok (.iload_n 1, 1) := by decide +kernel
theorem dX5_needsPlace_12 : decode cX5_needsPlace 12 = .ok (.invokevirtual 21, 3) := by decide +kernel
theorem dX5_needsPlace_15 : decode cX5_needsPlace 15 = .ok (.astore_n 2, 1) := by decide +kernel
theorem dX5_needsPlace_16 : decode cX5_needsPlace 16 = .ok (.aload_n 2, 1) := by decide +kernel
theorem dX5_needsPlace_17 : decode cX5_needsPlace 17 = .ok (.ifnull 12, 3) := by decide +kernel
theorem dX5_needsPlace_20 : decode cX5_needsPlace 20 = .ok (.aload_n 2, 1) := by decide +kernel
theorem dX5_needsPlace_21 : decode cX5_needsPlace 21 = .ok (.invokevirtual 38, 3) := by decide +kernel
theorem dX5_needsPlace_24 : decode cX5_needsPlace 24 = .ok (.ifCond .eq 5, 3) := by decide +kernel
theorem dX5_needsPlace_27 : decode cX5_needsPlace 27 = .ok (.iconst 1, 1) := by decide +kernel
theorem dX5_needsPlace_28 : decode cX5_needsPlace 28 = .ok (.ireturn, 1) := by decide +kernel
theorem dX5_needsPlace_29 : decode cX5_needsPlace 29 = .ok (.iinc 1 1, 3) := by decide +kernel
theorem dX5_needsPlace_32 : decode cX5_needsPlace 32 = .ok (.goto (-30), 3) := by decide +kernel
theorem dX5_needsPlace_35 : decode cX5_needsPlace 35 = .ok (.iconst 0, 1) := by decide +kernel
theorem dX5_needsPlace_36 : decode cX5_needsPlace 36 = .ok (.ireturn, 1) := by decide +kernel
set_option maxRecDepth 20000 in
theorem ggX6_init_X5_init : GoodIn wsX6_init wsX5_init := goodIn_r _ [10, 11, 2, 3, 12, 13, 16, 17] (by decide +kernel) (by decide +kernel)
set_option maxRecDepth 20000 in
theorem gX6_init_X5_init_n17 : GoodIn wsX6_init (wsX5_init) := ggX6_init_X5_init
theorem dX6_init_0 : decode cX6_init 0 = .ok (.aload_n 0, 1) := by decide +kernel
theorem dX6_init_1 : decode cX6_init 1 = .ok (.invokespecial 3, 3) := by decide +kernel
theorem dX6_init_4 : decode cX6_init 4 = .ok (.aload_n 0, 1) := by decide +kernel
theorem dX6_init_5 : decode cX6_init 5 = .ok (.iconst 0, 1) := by decide +kernel
theorem dX6_init_6 : decode cX6_init 6 = .ok (.putfield 9, 3) := by decide +kernel
theorem dX6_init_9 : decode cX6_init 9 = .ok (.aload_n 0, 1) := by decide +kernel
theorem dX6_init_10 : decode cX6_init 10 = .ok (.new 15, 3) := by decide +kernel
theorem dX6_init_13 : decode cX6_init 13 = .ok (.dup, 1) := by decide +kernel
theorem dX6_init_14 : decode cX6_init 14 = .ok (.invokespecial 17, 3) := by decide +kernel
theorem dX6_init_17 : decode cX6_init 17 = .ok (.putfield 18, 3) := by decide +kernel
theorem dX6_init_20 : decode cX6_init 20 = .ok (.return_, 1) := by decide +kernel
theorem dX6_isEmpty_0 : decode cX6_isEmpty 0 = .ok (.aload_n 0, 1) := by decide +kernel
theorem dX6_isEmpty_1 : decode cX6_isEmpty 1 = .ok (.getfield 9, 3) := by decide +kernel
theorem dX6_isEmpty_4 : decode cX6_isEmpty 4 = .ok (.ifCond .ne 7, 3) := by decide +kernel
theorem dX6_isEmpty_7 : decode cX6_isEmpty 7 = .ok (.iconst 1, 1) := by decide +kernel
theorem dX6_isEmpty_8 : decode cX6_isEmpty 8 = .ok (.goto 4, 3) := by decide +kernel
theorem dX6_isEmpty_11 : decode cX6_isEmpty 11 = .ok (.iconst 0, 1) := by decide +kernel
theorem dX6_isEmpty_12 : decode cX6_isEmpty 12 = .ok (.ireturn, 1) := by decide +kernel
set_option maxRecDepth 20000 in
theorem ggX6_motion_X5_at : GoodIn wsX6_motion wsX5_at := goodIn_r _ [7, 8, 9, 12, 13] (by decide +kernel) (by decide +kernel)
set_option maxRecDepth 20000 in
theorem gX6_motion_X5_at : GoodIn wsX6_motion (wsV RX6 22 RX5 yX5_at wsX5_at) := goodIn_app (goodIn_of _ (by decide +kernel)) ggX6_motion_X5_at
theorem dX6_motion_0 : decode cX6_motion 0 = .ok (.aload_n 0, 1) := by decide +kernel
theorem dX6_motion_1 : decode cX6_motion 1 = .ok (.getfield 9, 3) := by decide +kernel
theorem dX6_motion_4 : decode cX6_motion 4 = .ok (.iconst 2, 1) := by decide +kernel
theorem dX6_motion_5 : decode cX6_motion 5 = .ok (.if_icmp .ne 14, 3) := by decide +kernel
theorem dX6_motion_8 : decode cX6_motion 8 = .ok (.aload_n 0, 1) := by decide +kernel
theorem dX6_motion_9 : decode cX6_motion 9 = .ok (.getfield 18, 3) := by decide +kernel
theorem dX6_motion_12 : decode cX6_motion 12 = .ok (.iconst 0, 1) := by decide +kernel
theorem dX6_motion_13 : decode cX6_motion 13 = .ok (.invokevirtual 22, 3) := by decide +kernel
theorem dX6_motion_16 : decode cX6_motion 16 = .ok (.goto 4, 3) := by decide +kernel
theorem dX6_motion_19 : decode cX6_motion 19 = .ok (.aconst_null, 1) := by decide +kernel
theorem dX6_motion_20 : decode cX6_motion 20 = .ok (.areturn, 1) := by decide +kernel
set_option maxRecDepth 20000 in
theorem ggX6_kind_X5_at : GoodIn wsX6_kind wsX5_at := goodIn_r _ [8, 9, 10, 29, 30] (by decide +kernel) (by decide +kernel)
set_option maxRecDepth 20000 in
theorem gX6_kind_X5_at : GoodIn wsX6_kind (wsV RX6 22 RX5 yX5_at wsX5_at) := goodIn_app (goodIn_of _ (by decide +kernel)) ggX6_kind_X5_at
theorem dX6_kind_0 : decode cX6_kind 0 = .ok (.aload_n 0, 1) := by decide +kernel
theorem dX6_kind_1 : decode cX6_kind 1 = .ok (.getfield 18, 3) := by decide +kernel
theorem dX6_kind_4 : decode cX6_kind 4 = .ok (.iconst 0, 1) := by decide +kernel
theorem dX6_kind_5 : decode cX6_kind 5 = .ok (.invokevirtual 22, 3) := by decide +kernel
theorem dX6_kind_8 : decode cX6_kind 8 = .ok (.astore_n 1, 1) := by decide +kernel
theorem dX6_kind_9 : decode cX6_kind 9 = .ok (.aload_n 0, 1) := by decide +kernel
theorem dX6_kind_10 : decode cX6_kind 10 = .ok (.getfield 9, 3) := by decide +kernel
theorem dX6_kind_13 : decode cX6_kind 13 = .ok (.iconst 3, 1) := by decide +kernel
theorem dX6_kind_14 : decode cX6_kind 14 = .ok (.if_icmp .ne 6, 3) := by decide +kernel
theorem dX6_kind_17 : decode cX6_kind 17 = .ok (.bipush 7, 2) := by decide +kernel
theorem dX6_kind_19 : decode cX6_kind 19 = .ok (.ireturn, 1) := by decide +kernel
theorem dX6_kind_20 : decode cX6_kind 20 = .ok (.aload_n 1, 1) := by decide +kernel
theorem dX6_kind_21 : decode cX6_kind 21 = .ok (.ifnonnull 7, 3) := by decide +kernel
theorem dX6_kind_24 : decode cX6_kind 24 = .ok (.iconst 0, 1) := by decide +kernel
theorem dX6_kind_25 : decode cX6_kind 25 = .ok (.goto 7, 3) := by decide +kernel
theorem dX6_kind_28 : decode cX6_kind 28 = .ok (.aload_n 1, 1) := by decide +kernel
theorem dX6_kind_29 : decode cX6_kind 29 = .ok (.getfield 26, 3) := by decide +kernel
theorem dX6_kind_32 : decode cX6_kind 32 = .ok (.ireturn, 1) := by decide +kernel
set_option maxRecDepth 20000 in
theorem ggX6_wordAt_X5_at : GoodIn wsX6_wordAt wsX5_at := goodIn_r _ [7, 8, 9, 35, 36] (by decide +kernel) (by decide +kernel)
set_option maxRecDepth 20000 in
theorem gX6_wordAt_X5_at : GoodIn wsX6_wordAt (wsV RX6 22 RX5 yX5_at wsX5_at) := goodIn_app (goodIn_of _ (by decide +kernel)) ggX6_wordAt_X5_at
set_option maxRecDepth 20000 in
theorem ggX6_wordAt_X9_wordAt : GoodIn wsX6_wordAt wsX9_wordAt := goodIn_r _ [14, 15, 16, 37, 38] (by decide +kernel) (by decide +kernel)
set_option maxRecDepth 20000 in
theorem gX6_wordAt_X9_wordAt : GoodIn wsX6_wordAt (wsV RX6 35 RX9 yX9_wordAt wsX9_wordAt) := goodIn_app (goodIn_of _ (by decide +kernel)) ggX6_wordAt_X9_wordAt
theorem dX6_wordAt_0 : decode cX6_wordAt 0 = .ok (.aload_n 0, 1) := by decide +kernel
theorem dX6_wordAt_1 : decode cX6_wordAt 1 = .ok (.getfield 18, 3) := by decide +kernel
theorem dX6_wordAt_4 : decode cX6_wordAt 4 = .ok (.iconst 0, 1) := by decide +kernel
theorem dX6_wordAt_5 : decode cX6_wordAt 5 = .ok (.invokevirtual 22, 3) := by decide +kernel
theorem dX6_wordAt_8 : decode cX6_wordAt 8 = .ok (.astore_n 2, 1) := by decide +kernel
theorem dX6_wordAt_9 : decode cX6_wordAt 9 = .ok (.aload_n 2, 1) := by decide +kernel
theorem dX6_wordAt_10 : decode cX6_wordAt 10 = .ok (.ifnonnull 7, 3) := by decide +kernel
theorem dX6_wordAt_13 : decode cX6_wordAt 13 = .ok (.iconst (-1), 1) := by decide +kernel
theorem dX6_wordAt_14 : decode cX6_wordAt 14 = .ok (.goto 11, 3) := by decide +kernel
theorem dX6_wordAt_17 : decode cX6_wordAt 17 = .ok (.aload_n 2, 1) := by decide +kernel
theorem dX6_wordAt_18 : decode cX6_wordAt 18 = .ok (.getfield 31, 3) := by decide +kernel
theorem dX6_wordAt_21 : decode cX6_wordAt 21 = .ok (.iload_n 1, 1) := by decide +kernel
theorem dX6_wordAt_22 : decode cX6_wordAt 22 = .ok (.invokevirtual 35, 3) := by decide +kernel
theorem dX6_wordAt_25 : decode cX6_wordAt 25 = .ok (.ireturn, 1) := by decide +kernel
set_option maxRecDepth 20000 in
theorem ggX6_hold_X5_put : GoodIn wsX6_hold wsX5_put := goodIn_r _ [7, 8, 9, 12, 13] (by decide +kernel) (by decide +kernel)
set_option maxRecDepth 20000 in
theorem gX6_hold_X5_put : GoodIn wsX6_hold (wsV RX6 41 RX5 yX5_put wsX5_put) := goodIn_app (goodIn_of _ (by decide +kernel)) ggX6_hold_X5_put
theorem dX6_hold_0 : decode cX6_hold 0 = .ok (.aload_n 0, 1) := by decide +kernel
theorem dX6_hold_1 : decode cX6_hold 1 = .ok (.iload_n 1, 1) := by decide +kernel
theorem dX6_hold_2 : decode cX6_hold 2 = .ok (.putfield 9, 3) := by decide +kernel
theorem dX6_hold_5 : decode cX6_hold 5 = .ok (.aload_n 0, 1) := by decide +kernel
theorem dX6_hold_6 : decode cX6_hold 6 = .ok (.getfield 18, 3) := by decide +kernel
theorem dX6_hold_9 : decode cX6_hold 9 = .ok (.aload_n 2, 1) := by decide +kernel
theorem dX6_hold_10 : decode cX6_hold 10 = .ok (.invokevirtual 41, 3) := by decide +kernel
theorem dX6_hold_13 : decode cX6_hold 13 = .ok (.return_, 1) := by decide +kernel
set_option maxRecDepth 20000 in
theorem ggX6_takeFrom_X5_pourInto : GoodIn wsX6_takeFrom wsX5_pourInto := goodIn_r _ [7, 8, 9, 10, 11, 12, 6, 13, 16, 17] (by decide +kernel) (by decide +kernel)
set_option maxRecDepth 20000 in
theorem gX6_takeFrom_X5_pourInto : GoodIn wsX6_takeFrom (wsV RX6 45 RX5 yX5_pourInto wsX5_pourInto) := goodIn_app (goodIn_of _ (by decide +kernel)) ggX6_takeFrom_X5_pourInto
theorem dX6_takeFrom_0 : decode cX6_takeFrom 0 = .ok (.aload_n 0, 1) := by decide +kernel
theorem dX6_takeFrom_1 : decode cX6_takeFrom 1 = .ok (.aload_n 1, 1) := by decide +kernel
theorem dX6_takeFrom_2 : decode cX6_takeFrom 2 = .ok (.getfield 9, 3) := by decide +kernel
theorem dX6_takeFrom_5 : decode cX6_takeFrom 5 = .ok (.putfield 9, 3) := by decide +kernel
theorem dX6_takeFrom_8 : decode cX6_takeFrom 8 = .ok (.aload_n 1, 1) := by decide +kernel
theorem dX6_takeFrom_9 : decode cX6_takeFrom 9 = .ok (.getfield 18, 3) := by decide +kernel
theorem dX6_takeFrom_12 : decode cX6_takeFrom 12 = .ok (.aload_n 0, 1) := by decide +kernel
theorem dX6_takeFrom_13 : decode cX6_takeFrom 13 = .ok (.getfield 18, 3) := by decide +kernel
theorem dX6_takeFrom_16 : decode cX6_takeFrom 16 = .ok (.invokevirtual 45, 3) := by decide +kernel
theorem dX6_takeFrom_19 : decode cX6_takeFrom 19 = .ok (.aload_n 1, 1) := by decide +kernel
theorem dX6_takeFrom_20 : decode cX6_takeFrom 20 = .ok (.iconst 0, 1) := by decide +kernel
theorem dX6_takeFrom_21 : decode cX6_takeFrom 21 = .ok (.putfield 9, 3) := by decide +kernel
theorem dX6_takeFrom_24 : decode cX6_takeFrom 24 = .ok (.return_, 1) := by decide +kernel
set_option maxRecDepth 20000 in
theorem ggX6_fact_X5_at : GoodIn wsX6_fact wsX5_at := goodIn_r _ [13, 14, 15, 28, 29] (by decide +kernel) (by decide +kernel)
set_option maxRecDepth 20000 in
theorem gX6_fact_X5_at : GoodIn wsX6_fact (wsV RX6 22 RX5 yX5_at wsX5_at) := goodIn_app (goodIn_of _ (by decide +kernel)) ggX6_fact_X5_at
set_option maxRecDepth 20000 in
theorem ggX6_fact_X6_motion : GoodIn wsX6_fact wsX6_motion := goodIn_r _ [20, 2, 1, 9, 10, 11, 12, 13, 14, 15, 26, 27, 28, 29] (by decide +kernel) (by decide +kernel)
set_option maxRecDepth 20000 in
theorem gX6_fact_X6_motion : GoodIn wsX6_fact (wsV RX6 49 RX6 yX6_motion wsX6_motion) := goodIn_app (goodIn_of _ (by decide +kernel)) ggX6_fact_X6_motion
set_option maxRecDepth 20000 in
theorem ggX6_fact_X6_kind : GoodIn wsX6_fact wsX6_kind := goodIn_r _ [24, 1, 2, 25, 9, 10, 11, 12, 13, 14, 15, 26, 27, 30, 31, 32, 33, 34, 35, 36, 37, 38, 39, 40, 41, 42, 43, 44, 45, 28, 29] (by decide +kernel) (by decide +kernel)
set_option maxRecDepth 20000 in
theorem gX6_fact_X6_kind : GoodIn wsX6_fact (wsV RX6 56 RX6 yX6_kind wsX6_kind) := goodIn_app (goodIn_of _ (by decide +kernel)) ggX6_fact_X6_kind
theorem dX6_fact_0 : decode cX6_fact 0 = .ok (.aload_n 0, 1) := by decide +kernel
theorem dX6_fact_1 : decode cX6_fact 1 = .ok (.getfield 18, 3) := by decide +kernel
theorem dX6_fact_4 : decode cX6_fact 4 = .ok (.iconst 0, 1) := by decide +kernel
theorem dX6_fact_5 : decode cX6_fact 5 = .ok (.invokevirtual 22, 3) := by decide +kernel
theorem dX6_fact_8 : decode cX6_fact 8 = .ok (.astore_n 2, 1) := by decide +kernel
theorem dX6_fact_9 : decode cX6_fact 9 = .ok (.aload_n 0, 1) := by decide +kernel
theorem dX6_fact_10 : decode cX6_fact 10 = .ok (.invokevirtual 49, 3) := by decide +kernel
theorem dX6_fact_13 : decode cX6_fact 13 = .ok (.astore_n 3, 1) := by decide +kernel
theorem dX6_fact_14 : decode cX6_fact 14 = .ok (.iload_n 1, 1) := by decide +kernel
theorem dX6_fact_15 : decode cX6_fact 15 = .ok (.tableswitch 124 0 5 #[37, 42, 65, 81, 94, 107], 37) := by decide +kernel
theorem dX6_fact_52 : decode cX6_fact 52 = .ok (.aload_n 0, 1) := by decide +kernel
theorem dX6_fact_53 : decode cX6_fact 53 = .ok (.getfield 9, 3) := by decide +kernel
theorem dX6_fact_56 : decode cX6_fact 56 = .ok (.ireturn, 1) := by decide +kernel
theorem dX6_fact_57 : decode cX6_fact 57 = .ok (.aload_n 0, 1) := by decide +kernel
theorem dX6_fact_58 : decode cX6_fact 58 = .ok (.getfield 9, 3) := by decide +kernel
theorem dX6_fact_61 : decode cX6_fact 61 = .ok (.iconst 3, 1) := by decide +kernel
theorem dX6_fact_62 : decode cX6_fact 62 = .ok (.if_icmp .ne 13, 3) := by decide +kernel
theorem dX6_fact_65 : decode cX6_fact 65 = .ok (.aload_n 0, 1) := by decide +kernel
theorem dX6_fact_66 : decode cX6_fact 66 = .ok (.getfield 18, 3) := by decide +kernel
theorem dX6_fact_69 : decode cX6_fact 69 = .ok (.getfield 53, 3) := by decide +kernel
theorem dX6_fact_72 : decode cX6_fact 72 = .ok (.goto 7, 3) := by decide +kernel
theorem dX6_fact_75 : decode cX6_fact 75 = .ok (.aload_n 0, 1) := by decide +kernel
theorem dX6_fact_76 : decode cX6_fact 76 = .ok (.invokevirtual 56, 3) := by decide +kernel
theorem dX6_fact_79 : decode cX6_fact 79 = .ok (.ireturn, 1) := by decide +kernel
theorem dX6_fact_80 : decode cX6_fact 80 = .ok (.aload_n 2, 1) := by decide +kernel
theorem dX6_fact_81 : decode cX6_fact 81 = .ok (.ifnonnull 7, 3) := by decide +kernel
theorem dX6_fact_84 : decode cX6_fact 84 = .ok (.iconst 0, 1) := by decide +kernel
theorem dX6_fact_85 : decode cX6_fact 85 = .ok (.goto 10, 3) := by decide +kernel
theorem dX6_fact_88 : decode cX6_fact 88 = .ok (.aload_n 2, 1) := by decide +kernel
theorem dX6_fact_89 : decode cX6_fact 89 = .ok (.getfield 31, 3) := by decide +kernel
theorem dX6_fact_92 : decode cX6_fact 92 = .ok (.getfield 59, 3) := by decide +kernel
theorem dX6_fact_95 : decode cX6_fact 95 = .ok (.ireturn, 1) := by decide +kernel
theorem dX6_fact_96 : decode cX6_fact 96 = .ok (.aload_n 3, 1) := by decide +kernel
theorem dX6_fact_97 : decode cX6_fact 97 = .ok (.ifnonnull 7, 3) := by decide +kernel
theorem dX6_fact_100 : decode cX6_fact 100 = .ok (.iconst 0, 1) := by decide +kernel
theorem dX6_fact_101 : decode cX6_fact 101 = .ok (.goto 7, 3) := by decide +kernel
theorem dX6_fact_104 : decode cX6_fact 104 = .ok (.aload_n 3, 1) := by decide +kernel
theorem dX6_fact_105 : decode cX6_fact 105 = .ok (.getfield 60, 3) := by decide +kernel
theorem dX6_fact_108 : decode cX6_fact 108 = .ok (.ireturn, 1) := by decide +kernel
theorem dX6_fact_109 : decode cX6_fact 109 = .ok (.aload_n 3, 1) := by decide +kernel
theorem dX6_fact_110 : decode cX6_fact 110 = .ok (.ifnonnull 7, 3) := by decide +kernel
theorem dX6_fact_113 : decode cX6_fact 113 = .ok (.iconst 0, 1) := by decide +kernel
theorem dX6_fact_114 : decode cX6_fact 114 = .ok (.goto 7, 3) := by decide +kernel
theorem dX6_fact_117 : decode cX6_fact 117 = .ok (.aload_n 3, 1) := by decide +kernel
theorem dX6_fact_118 : decode cX6_fact 118 = .ok (.getfield 63, 3) := by decide +kernel
theorem dX6_fact_121 : decode cX6_fact 121 = .ok (.ireturn, 1) := by decide +kernel
theorem dX6_fact_122 : decode cX6_fact 122 = .ok (.aload_n 3, 1) := by decide +kernel
theorem dX6_fact_123 : decode cX6_fact 123 = .ok (.ifnull 14, 3) := by decide +kernel
theorem dX6_fact_126 : decode cX6_fact 126 = .ok (.aload_n 3, 1) := by decide +kernel
theorem dX6_fact_127 : decode cX6_fact 127 = .ok (.getfield 66, 3) := by decide +kernel
theorem dX6_fact_130 : decode cX6_fact 130 = .ok (.ifCond .eq 7, 3) := by decide +kernel
theorem dX6_fact_133 : decode cX6_fact 133 = .ok (.iconst 1, 1) := by decide +kernel
theorem dX6_fact_134 : decode cX6_fact 134 = .ok (.goto 4, 3) := by decide +kernel
theorem dX6_fact_137 : decode cX6_fact 137 = .ok (.iconst 0, 1) := by decide +kernel
theorem dX6_fact_138 : decode cX6_fact 138 = .ok (.ireturn, 1) := by decide +kernel
theorem dX6_fact_139 : decode cX6_fact 139 = .ok (.iconst (-1), 1) := by decide +kernel
theorem dX6_fact_140 : decode cX6_fact 140 = .ok (.ireturn, 1) := by decide +kernel
set_option maxRecDepth 20000 in
theorem ggX7_announce_X2_hasQuorum : GoodIn wsX7_announce wsX2_hasQuorum := goodIn_r _ [10, 11, 12, 252, 253, 254, 255, 256, 257, 258, 259] (by decide +kernel) (by decide +kernel)
set_option maxRecDepth 20000 in
theorem gX7_announce_X2_hasQuorum : GoodIn wsX7_announce (wsV RX7 15 RX2 yX2_hasQuorum wsX2_hasQuorum) := goodIn_app (goodIn_of _ (by decide +kernel)) ggX7_announce_X2_hasQuorum
set_option maxRecDepth 20000 in
theorem ggX7_announce_X2_tally : GoodIn wsX7_announce wsX2_tally := goodIn_r _ [16, 17, 18, 19, 20, 9, 21, 22, 23, 24, 25, 26, 27, 28, 252, 253, 254, 255, 256, 257, 258, 259, 236, 237, 238, 239, 240, 241, 242, 243, 244, 245, 246, 247, 248, 249, 250, 251] (by decide +kernel) (by decide +kernel)
set_option maxRecDepth 20000 in
theorem gX7_announce_X2_tally : GoodIn wsX7_announce (wsV RX7 27 RX2 yX2_tally wsX2_tally) := goodIn_app (goodIn_of _ (by decide +kernel)) ggX7_announce_X2_tally
set_option maxRecDepth 20000 in
theorem ggX7_announce_X7_outcomeOf : GoodIn wsX7_announce wsX7_outcomeOf := goodIn_r _ [32, 3, 2, 33, 34, 35, 9, 36, 37, 17, 236, 237, 238, 239, 240, 241, 242, 243, 244, 245, 246, 247, 248, 249, 250, 251, 252, 253, 254, 255, 256, 257, 258, 259] (by decide +kernel) (by decide +kernel)
set_option maxRecDepth 20000 in
theorem gX7_announce_X7_outcomeOf : GoodIn wsX7_announce (va_wsS RX7 31 yX7_outcomeOf wsX7_outcomeOf) := goodIn_app (goodIn_of _ (by decide +kernel)) ggX7_announce_X7_outcomeOf
set_option maxRecDepth 20000 in
theorem ggX7_announce_X7_keep : GoodIn wsX7_announce wsX7_keep := goodIn_r _ [40, 41, 42, 43, 44, 45, 46, 47, 48, 49, 50, 51, 52, 53, 54, 55, 56, 57, 58, 59, 60, 61, 62, 63, 64, 65, 66, 67, 68, 69, 70, 71, 72, 73, 74, 75, 76, 77, 78, 79, 80, 81, 82, 83, 84, 85, 86, 87, 225, 226, 227, 228, 229, 230, 231, 232, 233, 234, 235, 260, 261, 262, 263] (by decide +kernel) (by decide +kernel)
set_option maxRecDepth 20000 in
theorem gX7_announce_X7_keep : GoodIn wsX7_announce (va_wsS RX7 40 yX7_keep wsX7_keep) := goodIn_app (goodIn_of _ (by decide +kernel)) ggX7_announce_X7_keep
set_option maxRecDepth 20000 in
theorem ggX7_announce_X7_commit : GoodIn wsX7_announce wsX7_commit := goodIn_r _ [90, 91, 92, 93, 94, 95, 96, 97, 98, 99, 100, 101, 102, 103, 104, 105, 106, 107, 108, 109, 110, 111, 112, 113, 114, 115, 116, 117, 118, 119, 120, 121, 122, 123, 124, 26, 125, 126, 127, 128, 129, 130, 131, 132, 133, 134, 135, 136, 137, 138, 28, 139, 140, 70, 141, 142, 143, 144, 145, 146, 147, 148, 149, 150, 225, 226, 227, 228, 229, 230, 231, 232, 233, 234, 235, 264, 265, 266, 267, 236, 237, 238, 239, 240, 241, 242, 243, 244, 245, 246, 247, 248, 249, 250, 251] (by decide +kernel) (by decide +kernel)
set_option maxRecDepth 20000 in
theorem gX7_announce_X7_commit : GoodIn wsX7_announce (va_wsS RX7 44 yX7_commit wsX7_commit) := goodIn_app (goodIn_of _ (by decide +kernel)) ggX7_announce_X7_commit
set_option maxRecDepth 20000 in
theorem ggX7_announce_X7_postpone : GoodIn wsX7_announce wsX7_postpone := goodIn_r _ [153, 154, 2, 3, 155, 91, 92, 93, 94, 95, 96, 97, 98, 99, 100, 101, 102, 103, 104, 105, 106, 107, 108, 109, 110, 111, 112, 113, 114, 115, 116, 117, 118, 119, 120, 121, 122, 123, 124, 26, 125, 126, 127, 128, 129, 130, 131, 132, 133, 134, 135, 136, 137, 138, 28, 139, 140, 70, 141, 142, 143, 144, 145, 146, 147, 148, 149, 150, 236, 237, 238, 239, 240, 241, 242, 243, 244, 245, 246, 247, 248, 249, 250, 251, 225, 226, 227, 228, 229, 230, 231, 232, 233, 234, 235, 264, 265, 266, 267] (by decide +kernel) (by decide +kernel)
set_option maxRecDepth 20000 in
theorem gX7_announce_X7_postpone : GoodIn wsX7_announce (va_wsS RX7 48 yX7_postpone wsX7_postpone) := goodIn_app (goodIn_of _ (by decide +kernel)) ggX7_announce_X7_postpone
set_option maxRecDepth 20000 in
theorem ggX7_announce_X7_table : GoodIn wsX7_announce wsX7_table := goodIn_r _ [158, 4, 159, 160, 91, 92, 93, 94, 95, 96, 97, 98, 99, 100, 101, 102, 161, 110, 111, 112, 113, 114, 115, 116, 117, 118, 119, 120, 121, 162, 163, 164, 165, 166, 148, 149, 150, 225, 226, 227, 228, 229, 230, 231, 232, 233, 234, 235, 264, 265, 236, 237, 238, 239, 240, 241, 242, 243, 244, 245, 246, 247, 248, 249, 250, 251, 266, 267] (by decide +kernel) (by decide +kernel)
set_option maxRecDepth 20000 in
theorem gX7_announce_X7_table : GoodIn wsX7_announce (va_wsS RX7 51 yX7_table wsX7_table) := goodIn_app (goodIn_of _ (by decide +kernel)) ggX7_announce_X7_table
set_option maxRecDepth 20000 in
theorem ggX7_announce_X7_carryAlone : GoodIn wsX7_announce wsX7_carryAlone := goodIn_r _ [169, 4, 170, 3, 171, 172, 173, 1, 174, 175, 176, 177, 118, 178, 120, 121, 179, 180, 181, 182, 183, 184, 185, 186, 66, 63, 67, 187, 62, 64, 188, 81, 82, 83, 189, 190, 191, 9, 192, 22, 11, 193, 194, 195, 196, 26, 197, 128, 198, 199, 31, 200, 201, 202, 203, 204, 205, 155, 206, 207, 208, 209, 210, 211, 212, 213, 214, 215, 216, 217, 218, 100, 219, 102, 146, 220, 221, 222, 223, 224, 135, 134, 137, 225, 226, 227, 228, 229, 230, 231, 232, 233, 234, 235, 266, 267, 236, 237, 238, 239, 240, 241, 242, 243, 244, 245, 246, 247, 248, 249, 250, 251, 268, 269, 252, 253, 254, 255, 256, 257, 258, 259, 264, 265] (by decide +kernel) (by decide +kernel)
set_option maxRecDepth 20000 in
theorem gX7_announce_X7_carryAlone : GoodIn wsX7_announce (va_wsS RX7 54 yX7_carryAlone wsX7_carryAlone) := goodIn_app (goodIn_of _ (by decide +kernel)) ggX7_announce_X7_carryAlone
set_option maxRecDepth 20000 in
theorem ggX7_announce_X0_dropTop : GoodIn wsX7_announce wsX0_dropTop := goodIn_r _ [112, 113, 114, 115, 116, 117, 118, 119, 120, 121, 225, 226, 227, 228, 229, 230, 231, 232, 233, 234, 235, 236, 237, 238, 239, 240, 241, 242, 243, 244, 245, 246, 247, 248, 249, 250, 251, 266, 267] (by decide +kernel) (by decide +kernel)
set_option maxRecDepth 20000 in
theorem gX7_announce_X0_dropTop : GoodIn wsX7_announce (wsV RX7 62 RX0 yX0_dropTop wsX0_dropTop) := goodIn_app (goodIn_of _ (by decide +kernel)) ggX7_announce_X0_dropTop
theorem dX7_announce_0 : decode cX7_announce 0 = .ok (.aload_n 0, 1) := by decide +kernel
theorem dX7_announce_1 : decode cX7_announce 1 = .ok (.getfield 9, 3) := by decide +kernel
theorem dX7_announce_4 : decode cX7_announce 4 = .ok (.invokevirtual 15, 3) := by decide +kernel
theorem dX7_announce_7 : decode cX7_announce 7 = .ok (.ifCond .ne 5, 3) := by decide +kernel
theorem dX7_announce_10 : decode cX7_announce 10 = .ok (.iconst 0, 1) := by decide +kernel
theorem dX7_announce_11 : decode cX7_announce 11 = .ok (.ireturn, 1) := by decide +kernel
theorem dX7_announce_12 : decode cX7_announce 12 = .ok (.aload_n 1, 1) := by decide +kernel
theorem dX7_announce_13 : decode cX7_announce 13 = .ok (.getfield 21, 3) := by decide +kernel
theorem dX7_announce_16 : decode cX7_announce 16 = .ok (.iconst (-1), 1) := by decide +kernel
theorem dX7_announce_17 : decode cX7_announce 17 = .ok (.if_icmp .eq 7, 3) := by decide +kernel
theorem dX7_announce_20 : decode cX7_announce 20 = .ok (.iconst 1, 1) := by decide +kernel
theorem dX7_announce_21 : decode cX7_announce 21 = .ok (.goto 4, 3) := by decide +kernel
theorem dX7_announce_24 : decode cX7_announce 24 = .ok (.iconst 0, 1) := by decide +kernel
theorem dX7_announce_25 : decode cX7_announce 25 = .ok (.istore_n 2, 1) := by decide +kernel
theorem dX7_announce_26 : decode cX7_announce 26 = .ok (.iload_n 2, 1) := by decide +kernel
theorem dX7_announce_27 : decode cX7_announce 27 = .ok (.ifCond .eq 15, 3) := by decide +kernel
theorem dX7_announce_30 : decode cX7_announce 30 = .ok (.aload_n 0, 1) := by decide +kernel
theorem dX7_announce_31 : decode cX7_announce 31 = .ok (.getfield 9, 3) := by decide +kernel
theorem dX7_announce_34 : decode cX7_announce 34 = .ok (.aload_n 1, 1) := by decide +kernel
theorem dX7_announce_35 : decode cX7_announce 35 = .ok (.iconst 1, 1) := by decide +kernel
theorem dX7_announce_36 : decode cX7_announce 36 = .ok (.invokevirtual 27, 3) := by decide +kernel
theorem dX7_announce_39 : decode cX7_announce 39 = .ok (.goto 4, 3) := by decide +kernel
theorem dX7_announce_42 : decode cX7_announce 42 = .ok (.iconst 0, 1) := by decide +kernel
theorem dX7_announce_43 : decode cX7_announce 43 = .ok (.istore_n 3, 1) := by decide +kernel
theorem dX7_announce_44 : decode cX7_announce 44 = .ok (.iload_n 2, 1) := by decide +kernel
theorem dX7_announce_45 : decode cX7_announce 45 = .ok (.ifCond .eq 15, 3) := by decide +kernel
theorem dX7_announce_48 : decode cX7_announce 48 = .ok (.aload_n 0, 1) := by decide +kernel
theorem dX7_announce_49 : decode cX7_announce 49 = .ok (.getfield 9, 3) := by decide +kernel
theorem dX7_announce_52 : decode cX7_announce 52 = .ok (.aload_n 1, 1) := by decide +kernel
theorem dX7_announce_53 : decode cX7_announce 53 = .ok (.iconst 0, 1) := by decide +kernel
theorem dX7_announce_54 : decode cX7_announce 54 = .ok (.invokevirtual 27, 3) := by decide +kernel
theorem dX7_announce_57 : decode cX7_announce 57 = .ok (.goto 4, 3) := by decide +kernel
theorem dX7_announce_60 : decode cX7_announce 60 = .ok (.iconst 0, 1) := by decide +kernel
theorem dX7_announce_61 : decode cX7_announce 61 = .ok (.istore 4, 2) := by decide +kernel
theorem dX7_announce_63 : decode cX7_announce 63 = .ok (.aload_n 0, 1) := by decide +kernel
theorem dX7_announce_64 : decode cX7_announce 64 = .ok (.getfield 9, 3) := by decide +kernel
theorem dX7_announce_67 : decode cX7_announce 67 = .ok (.aload_n 1, 1) := by decide +kernel
theorem dX7_announce_68 : decode cX7_announce 68 = .ok (.iload_n 3, 1) := by decide +kernel
theorem dX7_announce_69 : decode cX7_announce 69 = .ok (.iload 4, 2) := by decide +kernel
theorem dX7_announce_71 : decode cX7_announce 71 = .ok (.invokestatic 31, 3) := by decide +kernel
theorem dX7_announce_74 : decode cX7_announce 74 = .ok (.istore 5, 2) := by decide +kernel
theorem dX7_announce_76 : decode cX7_announce 76 = .ok (.aload_n 0, 1) := by decide +kernel
theorem dX7_announce_77 : decode cX7_announce 77 = .ok (.aload_n 1, 1) := by decide +kernel
theorem dX7_announce_78 : decode cX7_announce 78 = .ok (.getfield 37, 3) := by decide +kernel
theorem dX7_announce_81 : decode cX7_announce 81 = .ok (.iload 5, 2) := by decide +kernel
theorem dX7_announce_83 : decode cX7_announce 83 = .ok (.iload_n 3, 1) := by decide +kernel
theorem dX7_announce_84 : decode cX7_announce 84 = .ok (.iload 4, 2) := by decide +kernel
theorem dX7_announce_86 : decode cX7_announce 86 = .ok (.invokestatic 40, 3) := by decide +kernel
theorem dX7_announce_89 : decode cX7_announce 89 = .ok (.iload 5, 2) := by decide +kernel
theorem dX7_announce_91 : decode cX7_announce 91 = .ok (.iconst 1, 1) := by decide +kernel
theorem dX7_announce_92 : decode cX7_announce 92 = .ok (.if_icmp .ne 7, 3) := by decide +kernel
theorem dX7_announce_95 : decode cX7_announce 95 = .ok (.iconst 1, 1) := by decide +kernel
theorem dX7_announce_96 : decode cX7_announce 96 = .ok (.goto 4, 3) := by decide +kernel
theorem dX7_announce_99 : decode cX7_announce 99 = .ok (.iconst 0, 1) := by decide +kernel
theorem dX7_announce_100 : decode cX7_announce 100 = .ok (.istore 6, 2) := by decide +kernel
theorem dX7_announce_102 : decode cX7_announce 102 = .ok (.iload 6, 2) := by decide +kernel
theorem dX7_announce_104 : decode cX7_announce 104 = .ok (.ifCond .eq 18, 3) := by decide +kernel
theorem dX7_announce_107 : decode cX7_announce 107 = .ok (.aload_n 1, 1) := by decide +kernel
theorem dX7_announce_108 : decode cX7_announce 108 = .ok (.getfield 37, 3) := by decide +kernel
theorem dX7_announce_111 : decode cX7_announce 111 = .ok (.iconst 4, 1) := by decide +kernel
theorem dX7_announce_112 : decode cX7_announce 112 = .ok (.if_icmp .ne 10, 3) := by decide +kernel
theorem dX7_announce_115 : decode cX7_announce 115 = .ok (.aload_n 0, 1) := by decide +kernel
theorem dX7_announce_116 : decode cX7_announce 116 = .ok (.invokestatic 44, 3) := by decide +kernel
theorem dX7_announce_119 : decode cX7_announce 119 = .ok (.goto 62, 3) := by decide +kernel
theorem dX7_announce_122 : decode cX7_announce 122 = .ok (.iload 6, 2) := by decide +kernel
theorem dX7_announce_124 : decode cX7_announce 124 = .ok (.ifCond .eq 18, 3) := by decide +kernel
theorem dX7_announce_127 : decode cX7_announce 127 = .ok (.aload_n 1, 1) := by decide +kernel
theorem dX7_announce_128 : decode cX7_announce 128 = .ok (.getfield 37, 3) := by decide +kernel
theorem dX7_announce_131 : decode cX7_announce 131 = .ok (.iconst 5, 1) := by decide +kernel
theorem dX7_announce_132 : decode cX7_announce 132 = .ok (.if_icmp .ne 10, 3) := by decide +kernel
