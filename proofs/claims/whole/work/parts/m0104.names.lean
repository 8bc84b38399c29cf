theorem dX9_areLawful_50 : decode cX9_areLawful 50 = .ok (.if_icmp .ge 5, 3) := by decide +kernel
theorem dX9_areLawful_53 : decode cX9_areLawful 53 = .ok (.iconst 0, 1) := by decide +kernel
theorem dX9_areLawful_54 : decode cX9_areLawful 54 = .ok (.ireturn, 1) := by decide +kernel
theorem dX9_areLawful_55 : decode cX9_areLawful 55 = .ok (.iinc 3 1, 3) := by decide +kernel
theorem dX9_areLawful_58 : decode cX9_areLawful 58 = .ok (.goto (-36), 3) := by decide +kernel
theorem dX9_areLawful_61 : decode cX9_areLawful 61 = .ok (.iconst 1, 1) := by decide +kernel
theorem dX9_areLawful_62 : decode cX9_areLawful 62 = .ok (.ireturn, 1) := by decide +kernel
set_option maxRecDepth 20000 in
theorem ggX10_init_X5_init : GoodIn wsX10_init wsX5_init := goodIn_r _ [48, 49, 2, 3, 50, 51, 52, 53, 54, 55, 56, 57, 150, 151, 152, 153, 154, 155] (by decide +kernel) (by decide +kernel)
set_option maxRecDepth 20000 in
theorem gX10_init_X5_init_n9 : GoodIn wsX10_init (wsX5_init) := ggX10_init_X5_init
set_option maxRecDepth 20000 in
theorem ggX10_init_X8_init : GoodIn wsX10_init wsX8_init := goodIn_r _ [59, 60, 2, 3, 50, 61, 62, 169, 170] (by decide +kernel) (by decide +kernel)
set_option maxRecDepth 20000 in
theorem gX10_init_X8_init_n21 : GoodIn wsX10_init (wsX8_init) := ggX10_init_X8_init
set_option maxRecDepth 20000 in
theorem ggX10_init_X4_init : GoodIn wsX10_init wsX4_init := goodIn_r _ [65, 66, 2, 3, 50, 67, 68, 69, 70, 71, 72, 73, 171, 172, 173, 174, 175, 176, 177] (by decide +kernel) (by decide +kernel)
set_option maxRecDepth 20000 in
theorem gX10_init_X4_init : GoodIn wsX10_init (wsX4_init) := ggX10_init_X4_init
set_option maxRecDepth 20000 in
theorem ggX10_init_X9_init : GoodIn wsX10_init wsX9_init := goodIn_r _ [76, 77, 2, 3, 50, 78, 79, 80, 81, 82, 83, 84, 85, 178, 179, 180, 181, 182, 183, 184, 185] (by decide +kernel) (by decide +kernel)
set_option maxRecDepth 20000 in
theorem gX10_init_X9_init : GoodIn wsX10_init (wsX9_init) := ggX10_init_X9_init
set_option maxRecDepth 20000 in
theorem ggX10_init_X7_init : GoodIn wsX10_init wsX7_init := goodIn_r _ [87, 88, 2, 3, 50, 89, 90, 91, 92, 93, 186, 187, 188, 189, 190] (by decide +kernel) (by decide +kernel)
set_option maxRecDepth 20000 in
theorem gX10_init_X7_init_n46 : GoodIn wsX10_init (wsX7_init) := ggX10_init_X7_init
set_option maxRecDepth 20000 in
theorem ggX10_init_X6_init : GoodIn wsX10_init wsX6_init := goodIn_r _ [95, 96, 2, 3, 50, 97, 98, 99, 100, 101, 191, 192, 193, 194] (by decide +kernel) (by decide +kernel)
set_option maxRecDepth 20000 in
theorem gX10_init_X6_init_n53 : GoodIn wsX10_init (wsX6_init) := ggX10_init_X6_init
set_option maxRecDepth 20000 in
theorem ggX10_init_X2_init : GoodIn wsX10_init wsX2_init := goodIn_r _ [103, 104, 2, 3, 105, 195] (by decide +kernel) (by decide +kernel)
set_option maxRecDepth 20000 in
theorem gX10_init_X2_init_n60 : GoodIn wsX10_init (wsX2_init) := ggX10_init_X2_init
set_option maxRecDepth 20000 in
theorem ggX10_init_X1_init : GoodIn wsX10_init wsX1_init := goodIn_r _ [107, 108, 2, 3, 109, 22, 23, 110, 111, 26, 27, 112, 113, 114, 86, 87, 88, 50, 89, 90, 91, 92, 93, 94, 95, 96, 97, 98, 99, 100, 101, 186, 187, 188, 189, 190, 196, 197, 198, 199, 191, 192, 193, 194] (by decide +kernel) (by decide +kernel)
set_option maxRecDepth 20000 in
theorem gX10_init_X1_init_n67 : GoodIn wsX10_init (wsX1_init) := ggX10_init_X1_init
set_option maxRecDepth 20000 in
theorem ggX10_init_X3_init : GoodIn wsX10_init wsX3_init := goodIn_r _ [116, 117, 2, 3, 118, 22, 23, 119, 120, 86, 87, 88, 50, 89, 90, 91, 92, 93, 186, 187, 188, 189, 190, 200, 201] (by decide +kernel) (by decide +kernel)
set_option maxRecDepth 20000 in
theorem gX10_init_X3_init_n77 : GoodIn wsX10_init (wsX3_init) := ggX10_init_X3_init
set_option maxRecDepth 20000 in
theorem ggX10_init_X0_init : GoodIn wsX10_init wsX0_init := goodIn_r _ [122, 123, 2, 3, 124, 22, 23, 125, 126, 86, 87, 88, 50, 89, 90, 91, 92, 93, 186, 187, 188, 189, 190, 202, 203] (by decide +kernel) (by decide +kernel)
set_option maxRecDepth 20000 in
theorem gX10_init_X0_init_n84 : GoodIn wsX10_init (wsX0_init) := ggX10_init_X0_init
set_option maxRecDepth 20000 in
theorem ggX10_init_X5_guests : GoodIn wsX10_init wsX5_guests := goodIn_r _ [130, 57, 150, 151, 152, 153, 154, 155] (by decide +kernel) (by decide +kernel)
set_option maxRecDepth 20000 in
theorem gX10_init_X5_guests : GoodIn wsX10_init (wsV RX10 93 RX5 yX5_guests wsX5_guests) := goodIn_app (goodIn_of _ (by decide +kernel)) ggX10_init_X5_guests
set_option maxRecDepth 20000 in
theorem ggX10_init_X7_scatter : GoodIn wsX10_init wsX7_scatter := goodIn_r _ [134, 135, 136, 137, 138, 139, 140, 141, 92, 91, 142, 143, 144, 23, 145, 93, 90, 89, 146, 147, 148, 149, 186, 187, 188, 189, 190] (by decide +kernel) (by decide +kernel)
set_option maxRecDepth 20000 in
theorem gX10_init_X7_scatter : GoodIn wsX10_init (wsV RX10 97 RX7 yX7_scatter wsX7_scatter) := goodIn_app (goodIn_of _ (by decide +kernel)) ggX10_init_X7_scatter
theorem dX10_init_0 : decode cX10_init 0 = .ok (.aload_n 0, 1) := by decide +kernel
theorem dX10_init_1 : decode cX10_init 1 = .ok (.invokespecial 1, 3) := by decide +kernel
theorem dX10_init_4 : decode cX10_init 4 = .ok (.aload_n 0, 1) := by decide +kernel
theorem dX10_init_5 : decode cX10_init 5 = .ok (.new 7, 3) := by decide +kernel
theorem dX10_init_8 : decode cX10_init 8 = .ok (.dup, 1) := by decide +kernel
theorem dX10_init_9 : decode cX10_init 9 = .ok (.invokespecial 9, 3) := by decide +kernel
theorem dX10_init_12 : decode cX10_init 12 = .ok (.putfield 10, 3) := by decide +kernel
theorem dX10_init_15 : decode cX10_init 15 = .ok (.aload_n 0, 1) := by decide +kernel
theorem dX10_init_16 : decode cX10_init 16 = .ok (.new 7, 3) := by decide +kernel
theorem dX10_init_19 : decode cX10_init 19 = .ok (.dup, 1) := by decide +kernel
theorem dX10_init_20 : decode cX10_init 20 = .ok (.invokespecial 9, 3) := by decide +kernel
theorem dX10_init_23 : decode cX10_init 23 = .ok (.putfield 16, 3) := by decide +kernel
theorem dX10_init_26 : decode cX10_init 26 = .ok (.aload_n 0, 1) := by decide +kernel
theorem dX10_init_27 : decode cX10_init 27 = .ok (.new 19, 3) := by decide +kernel
theorem dX10_init_30 : decode cX10_init 30 = .ok (.dup, 1) := by decide +kernel
theorem dX10_init_31 : decode cX10_init 31 = .ok (.invokespecial 21, 3) := by decide +kernel
theorem dX10_init_34 : decode cX10_init 34 = .ok (.putfield 22, 3) := by decide +kernel
theorem dX10_init_37 : decode cX10_init 37 = .ok (.aload_n 0, 1) := by decide +kernel
theorem dX10_init_38 : decode cX10_init 38 = .ok (.new 26, 3) := by decide +kernel
theorem dX10_init_41 : decode cX10_init 41 = .ok (.dup, 1) := by decide +kernel
theorem dX10_init_42 : decode cX10_init 42 = .ok (.aload_n 0, 1) := by decide +kernel
theorem dX10_init_43 : decode cX10_init 43 = .ok (.getfield 22, 3) := by decide +kernel
theorem dX10_init_46 : decode cX10_init 46 = .ok (.aload_n 0, 1) := by decide +kernel
theorem dX10_init_47 : decode cX10_init 47 = .ok (.getfield 16, 3) := by decide +kernel
theorem dX10_init_50 : decode cX10_init 50 = .ok (.invokespecial 28, 3) := by decide +kernel
theorem dX10_init_53 : decode cX10_init 53 = .ok (.putfield 31, 3) := by decide +kernel
theorem dX10_init_56 : decode cX10_init 56 = .ok (.aload_n 0, 1) := by decide +kernel
theorem dX10_init_57 : decode cX10_init 57 = .ok (.new 35, 3) := by decide +kernel
theorem dX10_init_60 : decode cX10_init 60 = .ok (.dup, 1) := by decide +kernel
theorem dX10_init_61 : decode cX10_init 61 = .ok (.aload_n 0, 1) := by decide +kernel
theorem dX10_init_62 : decode cX10_init 62 = .ok (.getfield 10, 3) := by decide +kernel
theorem dX10_init_65 : decode cX10_init 65 = .ok (.invokespecial 37, 3) := by decide +kernel
theorem dX10_init_68 : decode cX10_init 68 = .ok (.putfield 40, 3) := by decide +kernel
theorem dX10_init_71 : decode cX10_init 71 = .ok (.aload_n 0, 1) := by decide +kernel
theorem dX10_init_72 : decode cX10_init 72 = .ok (.new 44, 3) := by decide +kernel
theorem dX10_init_75 : decode cX10_init 75 = .ok (.dup, 1) := by decide +kernel
theorem dX10_init_76 : decode cX10_init 76 = .ok (.invokespecial 46, 3) := by decide +kernel
theorem dX10_init_79 : decode cX10_init 79 = .ok (.putfield 47, 3) := by decide +kernel
theorem dX10_init_82 : decode cX10_init 82 = .ok (.aload_n 0, 1) := by decide +kernel
theorem dX10_init_83 : decode cX10_init 83 = .ok (.new 51, 3) := by decide +kernel
theorem dX10_init_86 : decode cX10_init 86 = .ok (.dup, 1) := by decide +kernel
theorem dX10_init_87 : decode cX10_init 87 = .ok (.invokespecial 53, 3) := by decide +kernel
theorem dX10_init_90 : decode cX10_init 90 = .ok (.putfield 54, 3) := by decide +kernel
theorem dX10_init_93 : decode cX10_init 93 = .ok (.aload_n 0, 1) := by decide +kernel
theorem dX10_init_94 : decode cX10_init 94 = .ok (.new 58, 3) := by decide +kernel
theorem dX10_init_97 : decode cX10_init 97 = .ok (.dup, 1) := by decide +kernel
theorem dX10_init_98 : decode cX10_init 98 = .ok (.invokespecial 60, 3) := by decide +kernel
theorem dX10_init_101 : decode cX10_init 101 = .ok (.putfield 61, 3) := by decide +kernel
theorem dX10_init_104 : decode cX10_init 104 = .ok (.aload_n 0, 1) := by decide +kernel
theorem dX10_init_105 : decode cX10_init 105 = .ok (.new 65, 3) := by decide +kernel
theorem dX10_init_108 : decode cX10_init 108 = .ok (.dup, 1) := by decide +kernel
theorem dX10_init_109 : decode cX10_init 109 = .ok (.invokespecial 67, 3) := by decide +kernel
theorem dX10_init_112 : decode cX10_init 112 = .ok (.putfield 68, 3) := by decide +kernel
theorem dX10_init_115 : decode cX10_init 115 = .ok (.aload_n 0, 1) := by decide +kernel
theorem dX10_init_116 : decode cX10_init 116 = .ok (.new 65, 3) := by decide +kernel
theorem dX10_init_119 : decode cX10_init 119 = .ok (.dup, 1) := by decide +kernel
theorem dX10_init_120 : decode cX10_init 120 = .ok (.invokespecial 67, 3) := by decide +kernel
theorem dX10_init_123 : decode cX10_init 123 = .ok (.putfield 72, 3) := by decide +kernel
theorem dX10_init_126 : decode cX10_init 126 = .ok (.aload_n 0, 1) := by decide +kernel
theorem dX10_init_127 : decode cX10_init 127 = .ok (.new 75, 3) := by decide +kernel
theorem dX10_init_130 : decode cX10_init 130 = .ok (.dup, 1) := by decide +kernel
theorem dX10_init_131 : decode cX10_init 131 = .ok (.invokespecial 77, 3) := by decide +kernel
theorem dX10_init_134 : decode cX10_init 134 = .ok (.putfield 78, 3) := by decide +kernel
theorem dX10_init_137 : decode cX10_init 137 = .ok (.aload_n 0, 1) := by decide +kernel
theorem dX10_init_138 : decode cX10_init 138 = .ok (.new 82, 3) := by decide +kernel
theorem dX10_init_141 : decode cX10_init 141 = .ok (.dup, 1) := by decide +kernel
theorem dX10_init_142 : decode cX10_init 142 = .ok (.invokespecial 84, 3) := by decide +kernel
theorem dX10_init_145 : decode cX10_init 145 = .ok (.putfield 85, 3) := by decide +kernel
theorem dX10_init_148 : decode cX10_init 148 = .ok (.aload_n 0, 1) := by decide +kernel
theorem dX10_init_149 : decode cX10_init 149 = .ok (.lconst 0, 1) := by decide +kernel
theorem dX10_init_150 : decode cX10_init 150 = .ok (.putfield 89, 3) := by decide +kernel
theorem dX10_init_153 : decode cX10_init 153 = .ok (.aload_n 0, 1) := by decide +kernel
theorem dX10_init_154 : decode cX10_init 154 = .ok (.getfield 47, 3) := by decide +kernel
theorem dX10_init_157 : decode cX10_init 157 = .ok (.aload_n 0, 1) := by decide +kernel
theorem dX10_init_158 : decode cX10_init 158 = .ok (.getfield 10, 3) := by decide +kernel
theorem dX10_init_161 : decode cX10_init 161 = .ok (.invokevirtual 93, 3) := by decide +kernel
theorem dX10_init_164 : decode cX10_init 164 = .ok (.invokevirtual 97, 3) := by decide +kernel
theorem dX10_init_167 : decode cX10_init 167 = .ok (.return_, 1) := by decide +kernel
set_option maxRecDepth 20000 in
theorem ggX10_type_X8_hasSpaceFor : GoodIn wsX10_type wsX8_hasSpaceFor := goodIn_r _ [6, 7, 30, 31] (by decide +kernel) (by decide +kernel)
set_option maxRecDepth 20000 in
theorem gX10_type_X8_hasSpaceFor : GoodIn wsX10_type (wsV RX10 101 RX8 yX8_hasSpaceFor wsX8_hasSpaceFor) := goodIn_app (goodIn_of _ (by decide +kernel)) ggX10_type_X8_hasSpaceFor
set_option maxRecDepth 20000 in
theorem ggX10_type_X8_append : GoodIn wsX10_type wsX8_append := goodIn_r _ [11, 7, 12, 30, 31] (by decide +kernel) (by decide +kernel)
set_option maxRecDepth 20000 in
theorem gX10_type_X8_append : GoodIn wsX10_type (wsV RX10 105 RX8 yX8_append wsX8_append) := goodIn_app (goodIn_of _ (by decide +kernel)) ggX10_type_X8_append
set_option maxRecDepth 20000 in
theorem ggX10_type_X8_length : GoodIn wsX10_type wsX8_length := goodIn_r _ [16, 7, 30, 31] (by decide +kernel) (by decide +kernel)
set_option maxRecDepth 20000 in
theorem gX10_type_X8_length : GoodIn wsX10_type (wsV RX10 108 RX8 yX8_length wsX8_length) := goodIn_app (goodIn_of _ (by decide +kernel)) ggX10_type_X8_length
theorem dX10_type_0 : decode cX10_type 0 = .ok (.iload_n 3, 1) := by decide +kernel
theorem dX10_type_1 : decode cX10_type 1 = .ok (.iconst 1, 1) := by decide +kernel
theorem dX10_type_2 : decode cX10_type 2 = .ok (.if_icmp .lt 9, 3) := by decide +kernel
theorem dX10_type_5 : decode cX10_type 5 = .ok (.iload_n 3, 1) := by decide +kernel
theorem dX10_type_6 : decode cX10_type 6 = .ok (.bipush 8, 2) := by decide +kernel
theorem dX10_type_8 : decode cX10_type 8 = .ok (.if_icmp .le 5, 3) := by decide +kernel
theorem dX10_type_11 : decode cX10_type 11 = .ok (.iconst (-1), 1) := by decide +kernel
theorem dX10_type_12 : decode cX10_type 12 = .ok (.ireturn, 1) := by decide +kernel
theorem dX10_type_13 : decode cX10_type 13 = .ok (.aload_n 0, 1) := by decide +kernel
theorem dX10_type_14 : decode cX10_type 14 = .ok (.getfield 22, 3) := by decide +kernel
theorem dX10_type_17 : decode cX10_type 17 = .ok (.iload_n 3, 1) := by decide +kernel
theorem dX10_type_18 : decode cX10_type 18 = .ok (.invokevirtual 101, 3) := by decide +kernel
theorem dX10_type_21 : decode cX10_type 21 = .ok (.ifCond .ne 6, 3) := by decide +kernel
theorem dX10_type_24 : decode cX10_type 24 = .ok (.bipush (-3), 2) := by decide +kernel
theorem dX10_type_26 : decode cX10_type 26 = .ok (.ireturn, 1) := by decide +kernel
theorem dX10_type_27 : decode cX10_type 27 = .ok (.iload_n 3, 1) := by decide +kernel
theorem dX10_type_28 : decode cX10_type 28 = .ok (.iconst 1, 1) := by decide +kernel
theorem dX10_type_29 : decode cX10_type 29 = .ok (.isub, 1) := by decide +kernel
theorem dX10_type_30 : decode cX10_type 30 = .ok (.istore 4, 2) := by decide +kernel
theorem dX10_type_32 : decode cX10_type 32 = .ok (.iload 4, 2) := by decide +kernel
theorem dX10_type_34 : decode cX10_type 34 = .ok (.ifCond .lt 28, 3) := by decide +kernel
theorem dX10_type_37 : decode cX10_type 37 = .ok (.aload_n 0, 1) := by decide +kernel
theorem dX10_type_38 : decode cX10_type 38 = .ok (.getfield 22, 3) := by decide +kernel
theorem dX10_type_41 : decode cX10_type 41 = .ok (.lload_n 1, 1) := by decide +kernel
theorem dX10_type_42 : decode cX10_type 42 = .ok (.bipush 8, 2) := by decide +kernel
theorem dX10_type_44 : decode cX10_type 44 = .ok (.iload 4, 2) := by decide +kernel
theorem dX10_type_46 : decode cX10_type 46 = .ok (.imul, 1) := by decide +kernel
theorem dX10_type_47 : decode cX10_type 47 = .ok (.lushr, 1) := by decide +kernel
theorem dX10_type_48 : decode cX10_type 48 = .ok (.l2i, 1) := by decide +kernel
theorem dX10_type_49 : decode cX10_type 49 = .ok (.sipush 255, 3) := by decide +kernel
theorem dX10_type_52 : decode cX10_type 52 = .ok (.iand, 1) := by decide +kernel
theorem dX10_type_53 : decode cX10_type 53 = .ok (.invokevirtual 105, 3) := by decide +kernel
theorem dX10_type_56 : decode cX10_type 56 = .ok (.iinc 4 (-1), 3) := by decide +kernel
theorem dX10_type_59 : decode cX10_type 59 = .ok (.goto (-27), 3) := by decide +kernel
theorem dX10_type_62 : decode cX10_type 62 = .ok (.aload_n 0, 1) := by decide +kernel
theorem dX10_type_63 : decode cX10_type 63 = .ok (.getfield 22, 3) := by decide +kernel
theorem dX10_type_66 : decode cX10_type 66 = .ok (.invokevirtual 108, 3) := by decide +kernel
theorem dX10_type_69 : decode cX10_type 69 = .ok (.ireturn, 1) := by decide +kernel
set_option maxRecDepth 20000 in
theorem ggX10_clear_X8_length : GoodIn wsX10_clear wsX8_length := goodIn_r _ [6, 7, 25, 26] (by decide +kernel) (by decide +kernel)
set_option maxRecDepth 20000 in
theorem gX10_clear_X8_length : GoodIn wsX10_clear (wsV RX10 108 RX8 yX8_length wsX8_length) := goodIn_app (goodIn_of _ (by decide +kernel)) ggX10_clear_X8_length
set_option maxRecDepth 20000 in
theorem ggX10_clear_X8_empty : GoodIn wsX10_clear wsX8_empty := goodIn_r _ [11, 7, 25, 26] (by decide +kernel) (by decide +kernel)
set_option maxRecDepth 20000 in
theorem gX10_clear_X8_empty : GoodIn wsX10_clear (wsV RX10 111 RX8 yX8_empty wsX8_empty) := goodIn_app (goodIn_of _ (by decide +kernel)) ggX10_clear_X8_empty
theorem dX10_clear_0 : decode cX10_clear 0 = .ok (.aload_n 0, 1) := by decide +kernel
theorem dX10_clear_1 : decode cX10_clear 1 = .ok (.getfield 22, 3) := by decide +kernel
theorem dX10_clear_4 : decode cX10_clear 4 = .ok (.invokevirtual 108, 3) := by decide +kernel
theorem dX10_clear_7 : decode cX10_clear 7 = .ok (.istore_n 1, 1) := by decide +kernel
theorem dX10_clear_8 : decode cX10_clear 8 = .ok (.aload_n 0, 1) := by decide +kernel
theorem dX10_clear_9 : decode cX10_clear 9 = .ok (.getfield 22, 3) := by decide +kernel
theorem dX10_clear_12 : decode cX10_clear 12 = .ok (.invokevirtual 111, 3) := by decide +kernel
theorem dX10_clear_15 : decode cX10_clear 15 = .ok (.iload_n 1, 1) := by decide +kernel
theorem dX10_clear_16 : decode cX10_clear 16 = .ok (.ireturn, 1) := by decide +kernel
set_option maxRecDepth 20000 in
theorem ggX10_room_X4_readInto : GoodIn wsX10_room wsX4_readInto := goodIn_r _ [14, 15, 16, 17, 18, 19, 20, 21, 22, 23, 24, 25, 26, 27, 28, 29, 30, 31, 32, 13, 33, 34, 35, 36, 37, 38, 39, 40, 41, 42, 43, 44, 45, 46, 47, 48, 49, 50, 51, 52, 53, 54, 55, 56, 57, 58, 59, 60, 61, 62, 63, 64, 65, 66, 67, 68, 69, 70, 71, 72, 73, 74, 75, 76, 77, 78, 79, 80, 81, 82, 83, 84, 85, 86, 87, 88, 89, 90, 91, 92, 93, 94, 95, 96, 97, 98, 99, 100, 101, 102, 103, 104, 105, 106, 107, 108, 109, 110, 111, 112, 113, 114, 115, 116, 117, 118, 119, 120, 121, 122, 123, 124, 125, 126, 127, 128, 129, 130, 131, 132, 133, 134, 135, 136, 137, 138, 139, 140, 141, 142, 143, 144, 145, 146, 147, 148, 149, 150, 151, 152, 153, 154, 155, 156, 157, 158, 159, 160, 161, 162, 163, 164, 165, 166, 167, 168, 169, 170, 171, 172, 173, 174, 237, 238, 239, 240, 241, 242, 243, 244, 245, 246, 247, 248, 249, 250, 251] (by decide +kernel) (by decide +kernel)
set_option maxRecDepth 20000 in
theorem gX10_room_X4_readInto : GoodIn wsX10_room (wsV RX10 114 RX4 yX4_readInto wsX4_readInto) := goodIn_app (goodIn_of _ (by decide +kernel)) ggX10_room_X4_readInto
set_option maxRecDepth 20000 in
theorem ggX10_room_X8_empty : GoodIn wsX10_room wsX8_empty := goodIn_r _ [178, 40, 250, 251] (by decide +kernel) (by decide +kernel)
set_option maxRecDepth 20000 in
theorem gX10_room_X8_empty : GoodIn wsX10_room (wsV RX10 111 RX8 yX8_empty wsX8_empty) := goodIn_app (goodIn_of _ (by decide +kernel)) ggX10_room_X8_empty
set_option maxRecDepth 20000 in
theorem ggX10_room_X5_guests : GoodIn wsX10_room wsX5_guests := goodIn_r _ [139, 24, 244, 245, 246, 247, 248, 249] (by decide +kernel) (by decide +kernel)
set_option maxRecDepth 20000 in
theorem gX10_room_X5_guests : GoodIn wsX10_room (wsV RX10 93 RX5 yX5_guests wsX5_guests) := goodIn_app (goodIn_of _ (by decide +kernel)) ggX10_room_X5_guests
set_option maxRecDepth 20000 in
theorem ggX10_room_X7_scatter : GoodIn wsX10_room wsX7_scatter := goodIn_r _ [184, 185, 186, 187, 188, 189, 190, 191, 192, 193, 194, 195, 196, 183, 197, 198, 199, 200, 201, 202, 203, 204, 252, 253, 254, 255, 256] (by decide +kernel) (by decide +kernel)
set_option maxRecDepth 20000 in
theorem gX10_room_X7_scatter : GoodIn wsX10_room (wsV RX10 97 RX7 yX7_scatter wsX7_scatter) := goodIn_app (goodIn_of _ (by decide +kernel)) ggX10_room_X7_scatter
set_option maxRecDepth 20000 in
theorem ggX10_room_X6_empty : GoodIn wsX10_room wsX6_empty := goodIn_r _ [209, 210, 257, 258, 259, 260] (by decide +kernel) (by decide +kernel)
set_option maxRecDepth 20000 in
theorem gX10_room_X6_empty : GoodIn wsX10_room (wsV RX10 118 RX6 yX6_empty wsX6_empty) := goodIn_app (goodIn_of _ (by decide +kernel)) ggX10_room_X6_empty
set_option maxRecDepth 20000 in
theorem ggX10_room_X1_drop : GoodIn wsX10_room wsX1_drop := goodIn_r _ [215, 216, 261, 262, 263, 264] (by decide +kernel) (by decide +kernel)
set_option maxRecDepth 20000 in
theorem gX10_room_X1_drop : GoodIn wsX10_room (wsV RX10 119 RX1 yX1_drop wsX1_drop) := goodIn_app (goodIn_of _ (by decide +kernel)) ggX10_room_X1_drop
set_option maxRecDepth 20000 in
theorem ggX10_room_X9_obey : GoodIn wsX10_room wsX9_obey := goodIn_r _ [221, 222, 223, 265, 266, 267, 268, 269, 270, 271, 272] (by decide +kernel) (by decide +kernel)
set_option maxRecDepth 20000 in
theorem gX10_room_X9_obey : GoodIn wsX10_room (wsV RX10 122 RX9 yX9_obey wsX9_obey) := goodIn_app (goodIn_of _ (by decide +kernel)) ggX10_room_X9_obey
theorem dX10_room_0 : decode cX10_room 0 = .ok (.aload_n 0, 1) := by decide +kernel
theorem dX10_room_1 : decode cX10_room 1 = .ok (.getfield 31, 3) := by decide +kernel
theorem dX10_room_4 : decode cX10_room 4 = .ok (.aload_n 0, 1) := by decide +kernel
theorem dX10_room_5 : decode cX10_room 5 = .ok (.getfield 16, 3) := by decide +kernel
theorem dX10_room_8 : decode cX10_room 8 = .ok (.invokevirtual 114, 3) := by decide +kernel
theorem dX10_room_11 : decode cX10_room 11 = .ok (.istore_n 1, 1) := by decide +kernel
theorem dX10_room_12 : decode cX10_room 12 = .ok (.iload_n 1, 1) := by decide +kernel
theorem dX10_room_13 : decode cX10_room 13 = .ok (.ifCond .ge 5, 3) := by decide +kernel
theorem dX10_room_16 : decode cX10_room 16 = .ok (.iload_n 1, 1) := by decide +kernel
theorem dX10_room_17 : decode cX10_room 17 = .ok (.ireturn, 1) := by decide +kernel
theorem dX10_room_18 : decode cX10_room 18 = .ok (.aload_n 0, 1) := by decide +kernel
theorem dX10_room_19 : decode cX10_room 19 = .ok (.getfield 10, 3) := by decide +kernel
theorem dX10_room_22 : decode cX10_room 22 = .ok (.astore_n 2, 1) := by decide +kernel
theorem dX10_room_23 : decode cX10_room 23 = .ok (.aload_n 0, 1) := by decide +kernel
theorem dX10_room_24 : decode cX10_room 24 = .ok (.aload_n 0, 1) := by decide +kernel
theorem dX10_room_25 : decode cX10_room 25 = .ok (.getfield 16, 3) := by decide +kernel
theorem dX10_room_28 : decode cX10_room 28 = .ok (.putfield 10, 3) := by decide +kernel
theorem dX10_room_31 : decode cX10_room 31 = .ok (.aload_n 0, 1) := by decide +kernel
theorem dX10_room_32 : decode cX10_room 32 = .ok (.aload_n 2, 1) := by decide +kernel
theorem dX10_room_33 : decode cX10_room 33 = .ok (.putfield 16, 3) := by decide +kernel
theorem dX10_room_36 : decode cX10_room 36 = .ok (.aload_n 0, 1) := by decide +kernel
theorem dX10_room_37 : decode cX10_room 37 = .ok (.getfield 22, 3) := by decide +kernel
theorem dX10_room_40 : decode cX10_room 40 = .ok (.invokevirtual 111, 3) := by decide +kernel
theorem dX10_room_43 : decode cX10_room 43 = .ok (.aload_n 0, 1) := by decide +kernel
theorem dX10_room_44 : decode cX10_room 44 = .ok (.getfield 47, 3) := by decide +kernel
theorem dX10_room_47 : decode cX10_room 47 = .ok (.aload_n 0, 1) := by decide +kernel
theorem dX10_room_48 : decode cX10_room 48 = .ok (.getfield 10, 3) := by decide +kernel
theorem dX10_room_51 : decode cX10_room 51 = .ok (.invokevirtual 93, 3) := by decide +kernel
theorem dX10_room_54 : decode cX10_room 54 = .ok (.invokevirtual 97, 3) := by decide +kernel
theorem dX10_room_57 : decode cX10_room 57 = .ok (.aload_n 0, 1) := by decide +kernel
theorem dX10_room_58 : decode cX10_room 58 = .ok (.getfield 54, 3) := by decide +kernel
theorem dX10_room_61 : decode cX10_room 61 = .ok (.invokevirtual 118, 3) := by decide +kernel
theorem dX10_room_64 : decode cX10_room 64 = .ok (.aload_n 0, 1) := by decide +kernel
theorem dX10_room_65 : decode cX10_room 65 = .ok (.getfield 68, 3) := by decide +kernel
theorem dX10_room_68 : decode cX10_room 68 = .ok (.invokevirtual 119, 3) := by decide +kernel
theorem dX10_room_71 : decode cX10_room 71 = .ok (.aload_n 0, 1) := by decide +kernel
theorem dX10_room_72 : decode cX10_room 72 = .ok (.getfield 72, 3) := by decide +kernel
theorem dX10_room_75 : decode cX10_room 75 = .ok (.invokevirtual 119, 3) := by decide +kernel
theorem dX10_room_78 : decode cX10_room 78 = .ok (.aload_n 0, 1) := by decide +kernel
theorem dX10_room_79 : decode cX10_room 79 = .ok (.getfield 40, 3) := by decide +kernel
theorem dX10_room_82 : decode cX10_room 82 = .ok (.aload_n 0, 1) := by decide +kernel
theorem dX10_room_83 : decode cX10_room 83 = .ok (.getfield 10, 3) := by decide +kernel
theorem dX10_room_86 : decode cX10_room 86 = .ok (.invokevirtual 122, 3) := by decide +kernel
theorem dX10_room_89 : decode cX10_room 89 = .ok (.iload_n 1, 1) := by decide +kernel
theorem dX10_room_90 : decode cX10_room 90 = .ok (.ireturn, 1) := by decide +kernel
set_option maxRecDepth 20000 in
theorem ggX10_law_X5_lawOf : GoodIn wsX10_law wsX5_lawOf := goodIn_r _ [6, 7, 21, 22, 23, 24, 25, 26] (by decide +kernel) (by decide +kernel)
set_option maxRecDepth 20000 in
theorem gX10_law_X5_lawOf : GoodIn wsX10_law (wsV RX10 125 RX5 yX5_lawOf wsX5_lawOf) := goodIn_app (goodIn_of _ (by decide +kernel)) ggX10_law_X5_lawOf
theorem dX10_law_0 : decode cX10_law 0 = .ok (.iload_n 1, 1) := by decide +kernel
theorem dX10_law_1 : decode cX10_law 1 = .ok (.ifCond .lt 19, 3) := by decide +kernel
theorem dX10_law_4 : decode cX10_law 4 = .ok (.iload_n 1, 1) := by decide +kernel
theorem dX10_law_5 : decode cX10_law 5 = .ok (.iconst 5, 1) := by decide +kernel
theorem dX10_law_6 : decode cX10_law 6 = .ok (.if_icmp .ge 14, 3) := by decide +kernel
theorem dX10_law_9 : decode cX10_law 9 = .ok (.aload_n 0, 1) := by decide +kernel
theorem dX10_law_10 : decode cX10_law 10 = .ok (.getfield 10, 3) := by decide +kernel
theorem dX10_law_13 : decode cX10_law 13 = .ok (.iload_n 1, 1) := by decide +kernel
theorem dX10_law_14 : decode cX10_law 14 = .ok (.invokevirtual 125, 3) := by decide +kernel
theorem dX10_law_17 : decode cX10_law 17 = .ok (.goto 4, 3) := by decide +kernel
theorem dX10_law_20 : decode cX10_law 20 = .ok (.iconst (-1), 1) := by decide +kernel
theorem dX10_law_21 : decode cX10_law 21 = .ok (.ireturn, 1) := by decide +kernel
set_option maxRecDepth 20000 in
theorem ggX10_pair_X10_areTwoGuests : GoodIn wsX10_pair wsX10_areTwoGuests := goodIn_r _ [7, 8, 9, 10, 6, 11, 2, 12, 13, 14, 15, 16, 17, 36, 37, 38, 39, 40, 41, 42, 43, 44, 45, 46, 47, 48, 49, 50, 51, 52, 53, 54] (by decide +kernel) (by decide +kernel)
set_option maxRecDepth 20000 in
theorem gX10_pair_X10_areTwoGuests : GoodIn wsX10_pair (wsV RX10 129 RX10 yX10_areTwoGuests wsX10_areTwoGuests) := goodIn_app (goodIn_of _ (by decide +kernel)) ggX10_pair_X10_areTwoGuests
set_option maxRecDepth 20000 in
theorem ggX10_pair_X5_areTogether : GoodIn wsX10_pair wsX5_areTogether := goodIn_r _ [21, 22, 23, 24, 15, 25, 49, 50, 51, 52, 53, 54] (by decide +kernel) (by decide +kernel)
set_option maxRecDepth 20000 in
theorem gX10_pair_X5_areTogether : GoodIn wsX10_pair (wsV RX10 134 RX5 yX5_areTogether wsX5_areTogether) := goodIn_app (goodIn_of _ (by decide +kernel)) ggX10_pair_X5_areTogether
set_option maxRecDepth 20000 in
theorem ggX10_pair_X5_areApart : GoodIn wsX10_pair wsX5_areApart := goodIn_r _ [29, 30, 23, 24, 15, 25, 49, 50, 51, 52, 53, 54] (by decide +kernel) (by decide +kernel)
set_option maxRecDepth 20000 in
theorem gX10_pair_X5_areApart : GoodIn wsX10_pair (wsV RX10 137 RX5 yX5_areApart wsX5_areApart) := goodIn_app (goodIn_of _ (by decide +kernel)) ggX10_pair_X5_areApart
set_option maxRecDepth 20000 in
theorem ggX10_pair_X5_worthOf : GoodIn wsX10_pair wsX5_worthOf := goodIn_r _ [34, 35, 23, 24, 15, 25, 49, 50, 51, 52, 53, 54] (by decide +kernel) (by decide +kernel)
set_option maxRecDepth 20000 in
theorem gX10_pair_X5_worthOf : GoodIn wsX10_pair (wsV RX10 140 RX5 yX5_worthOf wsX5_worthOf) := goodIn_app (goodIn_of _ (by decide +kernel)) ggX10_pair_X5_worthOf
theorem dX10_pair_0 : decode cX10_pair 0 = .ok (.aload_n 0, 1) := by decide +kernel
theorem dX10_pair_1 : decode cX10_pair 1 = .ok (.iload_n 1, 1) := by decide +kernel
theorem dX10_pair_2 : decode cX10_pair 2 = .ok (.iload_n 2, 1) := by decide +kernel
theorem dX10_pair_3 : decode cX10_pair 3 = .ok (.invokevirtual 129, 3) := by decide +kernel
theorem dX10_pair_6 : decode cX10_pair 6 = .ok (.ifCond .ne 6, 3) := by decide +kernel
theorem dX10_pair_9 : decode cX10_pair 9 = .ok (.ldc 133, 2) := by decide +kernel
theorem dX10_pair_11 : decode cX10_pair 11 = .ok (.ireturn, 1) := by decide +kernel
theorem dX10_pair_12 : decode cX10_pair 12 = .ok (.iload_n 3, 1) := by decide +kernel
theorem dX10_pair_13 : decode cX10_pair 13 = .ok (.tableswitch 73 0 2 #[27, 45, 63], 27) := by decide +kernel
theorem dX10_pair_40 : decode cX10_pair 40 = .ok (.aload_n 0, 1) := by decide +kernel
theorem dX10_pair_41 : decode cX10_pair 41 = .ok (.getfield 10, 3) := by decide +kernel
theorem dX10_pair_44 : decode cX10_pair 44 = .ok (.iload_n 1, 1) := by decide +kernel
theorem dX10_pair_45 : decode cX10_pair 45 = .ok (.iload_n 2, 1) := by decide +kernel
theorem dX10_pair_46 : decode cX10_pair 46 = .ok (.invokevirtual 134, 3) := by decide +kernel
theorem dX10_pair_49 : decode cX10_pair 49 = .ok (.ifCond .eq 7, 3) := by decide +kernel
theorem dX10_pair_52 : decode cX10_pair 52 = .ok (.iconst 1, 1) := by decide +kernel
theorem dX10_pair_53 : decode cX10_pair 53 = .ok (.goto 4, 3) := by decide +kernel
theorem dX10_pair_56 : decode cX10_pair 56 = .ok (.iconst 0, 1) := by decide +kernel
theorem dX10_pair_57 : decode cX10_pair 57 = .ok (.ireturn, 1) := by decide +kernel
theorem dX10_pair_58 : decode cX10_pair 58 = .ok (.aload_n 0, 1) := by decide +kernel
theorem dX10_pair_59 : decode cX10_pair 59 = .ok (.getfield 10, 3) := by decide +kernel
theorem dX10_pair_62 : decode cX10_pair 62 = .ok (.iload_n 1, 1) := by decide +kernel
theorem dX10_pair_63 : decode cX10_pair 63 = .ok (.iload_n 2, 1) := by decide +kernel
theorem dX10_pair_64 : decode cX10_pair 64 = .ok (.invokevirtual 137, 3) := by decide +kernel
theorem dX10_pair_67 : decode cX10_pair 67 = .ok (.ifCond .eq 7, 3) := by decide +kernel
theorem dX10_pair_70 : decode cX10_pair 70 = .ok (.iconst 1, 1) := by decide +kernel
theorem dX10_pair_71 : decode cX10_pair 71 = .ok (.goto 4, 3) := by decide +kernel
theorem dX10_pair_74 : decode cX10_pair 74 = .ok (.iconst 0, 1) := by decide +kernel
theorem dX10_pair_75 : decode cX10_pair 75 = .ok (.ireturn, 1) := by decide +kernel
theorem dX10_pair_76 : decode cX10_pair 76 = .ok (.aload_n 0, 1) := by decide +kernel
theorem dX10_pair_77 : decode cX10_pair 77 = .ok (.getfield 10, 3) := by decide +kernel
theorem dX10_pair_80 : decode cX10_pair 80 = .ok (.iload_n 1, 1) := by decide +kernel
theorem dX10_pair_81 : decode cX10_pair 81 = .ok (.iload_n 2, 1) := by decide +kernel
theorem dX10_pair_82 : decode cX10_pair 82 = .ok (.invokevirtual 140, 3) := by decide +kernel
theorem dX10_pair_85 : decode cX10_pair 85 = .ok (.ireturn, 1) := by decide +kernel
theorem dX10_pair_86 : decode cX10_pair 86 = .ok (.ldc 133, 2) := by decide +kernel
theorem dX10_pair_88 : decode cX10_pair 88 = .ok (.ireturn, 1) := by decide +kernel
set_option maxRecDepth 20000 in
theorem ggX10_party_X10_isGuest : GoodIn wsX10_party wsX10_isGuest := goodIn_r _ [6, 7, 8, 9, 10, 11, 12, 13, 21, 22, 23, 24, 25, 26, 27, 28, 29, 30, 31, 32, 33, 34, 35, 36, 37, 38, 39] (by decide +kernel) (by decide +kernel)
set_option maxRecDepth 20000 in
theorem gX10_party_X10_isGuest : GoodIn wsX10_party (wsV RX10 144 RX10 yX10_isGuest wsX10_isGuest) := goodIn_app (goodIn_of _ (by decide +kernel)) ggX10_party_X10_isGuest
set_option maxRecDepth 20000 in
theorem ggX10_party_X7_partyOf : GoodIn wsX10_party wsX7_partyOf := goodIn_r _ [18, 19, 20, 40, 41, 42, 43, 44] (by decide +kernel) (by decide +kernel)
set_option maxRecDepth 20000 in
theorem gX10_party_X7_partyOf : GoodIn wsX10_party (wsV RX10 147 RX7 yX7_partyOf wsX7_partyOf) := goodIn_app (goodIn_of _ (by decide +kernel)) ggX10_party_X7_partyOf
theorem dX10_party_0 : decode cX10_party 0 = .ok (.aload_n 0, 1) := by decide +kernel
theorem dX10_party_1 : decode cX10_party 1 = .ok (.iload_n 1, 1) := by decide +kernel
theorem dX10_party_2 : decode cX10_party 2 = .ok (.invokevirtual 144, 3) := by decide +kernel
theorem dX10_party_5 : decode cX10_party 5 = .ok (.ifCond .eq 14, 3) := by decide +kernel
theorem dX10_party_8 : decode cX10_party 8 = .ok (.aload_n 0, 1) := by decide +kernel
theorem dX10_party_9 : decode cX10_party 9 = .ok (.getfield 47, 3) := by decide +kernel
theorem dX10_party_12 : decode cX10_party 12 = .ok (.iload_n 1, 1) := by decide +kernel
theorem dX10_party_13 : decode cX10_party 13 = .ok (.invokevirtual 147, 3) := by decide +kernel
theorem dX10_party_16 : decode cX10_party 16 = .ok (.goto 4, 3) := by decide +kernel
theorem dX10_party_19 : decode cX10_party 19 = .ok (.iconst (-1), 1) := by decide +kernel
theorem dX10_party_20 : decode cX10_party 20 = .ok (.ireturn, 1) := by decide +kernel
set_option maxRecDepth 20000 in
theorem ggX10_goes_X10_isGuest : GoodIn wsX10_goes wsX10_isGuest := goodIn_r _ [6, 7, 8, 9, 10, 11, 12, 13, 60, 61, 62, 63, 64, 65, 66, 67, 68, 69, 70, 71, 72, 73, 74, 75, 76, 77, 78] (by decide +kernel) (by decide +kernel)
set_option maxRecDepth 20000 in
theorem gX10_goes_X10_isGuest : GoodIn wsX10_goes (wsV RX10 144 RX10 yX10_isGuest wsX10_isGuest) := goodIn_app (goodIn_of _ (by decide +kernel)) ggX10_goes_X10_isGuest
set_option maxRecDepth 20000 in
theorem ggX10_goes_X7_isAlone : GoodIn wsX10_goes wsX7_isAlone := goodIn_r _ [18, 19, 20, 21, 17, 22, 23, 24, 25, 26, 27, 28, 29, 30, 31, 32, 33, 34, 35, 36, 37, 79, 80, 81, 82, 83] (by decide +kernel) (by decide +kernel)
set_option maxRecDepth 20000 in
theorem gX10_goes_X7_isAlone : GoodIn wsX10_goes (wsV RX10 150 RX7 yX7_isAlone wsX7_isAlone) := goodIn_app (goodIn_of _ (by decide +kernel)) ggX10_goes_X7_isAlone
set_option maxRecDepth 20000 in
theorem ggX10_goes_X7_partyOf : GoodIn wsX10_goes wsX7_partyOf := goodIn_r _ [22, 23, 24, 79, 80, 81, 82, 83] (by decide +kernel) (by decide +kernel)
set_option maxRecDepth 20000 in
theorem gX10_goes_X7_partyOf : GoodIn wsX10_goes (wsV RX10 147 RX7 yX7_partyOf wsX7_partyOf) := goodIn_app (goodIn_of _ (by decide +kernel)) ggX10_goes_X7_partyOf
set_option maxRecDepth 20000 in
theorem ggX10_goes_X7_sendTo : GoodIn wsX10_goes wsX7_sendTo := goodIn_r _ [42, 19, 20, 21, 17, 22, 23, 24, 43, 44, 45, 46, 47, 48, 49, 50, 51, 52, 53, 54, 55, 29, 30, 56, 57, 58, 59, 79, 80, 81, 82, 83] (by decide +kernel) (by decide +kernel)
set_option maxRecDepth 20000 in
theorem gX10_goes_X7_sendTo : GoodIn wsX10_goes (wsV RX10 153 RX7 yX7_sendTo wsX7_sendTo) := goodIn_app (goodIn_of _ (by decide +kernel)) ggX10_goes_X7_sendTo
theorem dX10_goes_0 : decode cX10_goes 0 = .ok (.aload_n 0, 1) := by decide +kernel
theorem dX10_goes_1 : decode cX10_goes 1 = .ok (.iload_n 1, 1) := by decide +kernel
theorem dX10_goes_2 : decode cX10_goes 2 = .ok (.invokevirtual 144, 3) := by decide +kernel
theorem dX10_goes_5 : decode cX10_goes 5 = .ok (.ifCond .eq 11, 3) := by decide +kernel
theorem dX10_goes_8 : decode cX10_goes 8 = .ok (.aload_n 0, 1) := by decide +kernel
theorem dX10_goes_9 : decode cX10_goes 9 = .ok (.iload_n 2, 1) := by decide +kernel
theorem dX10_goes_10 : decode cX10_goes 10 = .ok (.invokevirtual 144, 3) := by decide +kernel
theorem dX10_goes_13 : decode cX10_goes 13 = .ok (.ifCond .ne 5, 3) := by decide +kernel
theorem dX10_goes_16 : decode cX10_goes 16 = .ok (.iconst (-1), 1) := by decide +kernel
theorem dX10_goes_17 : decode cX10_goes 17 = .ok (.ireturn, 1) := by decide +kernel
theorem dX10_goes_18 : decode cX10_goes 18 = .ok (.iload_n 1, 1) := by decide +kernel
theorem dX10_goes_19 : decode cX10_goes 19 = .ok (.iload_n 2, 1) := by decide +kernel
theorem dX10_goes_20 : decode cX10_goes 20 = .ok (.if_icmp .ne 14, 3) := by decide +kernel
theorem dX10_goes_23 : decode cX10_goes 23 = .ok (.aload_n 0, 1) := by decide +kernel
theorem dX10_goes_24 : decode cX10_goes 24 = .ok (.getfield 47, 3) := by decide +kernel
theorem dX10_goes_27 : decode cX10_goes 27 = .ok (.iload_n 1, 1) := by decide +kernel
theorem dX10_goes_28 : decode cX10_goes 28 = .ok (.invokevirtual 150, 3) := by decide +kernel
theorem dX10_goes_31 : decode cX10_goes 31 = .ok (.goto 27, 3) := by decide +kernel
theorem dX10_goes_34 : decode cX10_goes 34 = .ok (.aload_n 0, 1) := by decide +kernel
theorem dX10_goes_35 : decode cX10_goes 35 = .ok (.getfield 47, 3) := by decide +kernel
theorem dX10_goes_38 : decode cX10_goes 38 = .ok (.iload_n 1, 1) := by decide +kernel
theorem dX10_goes_39 : decode cX10_goes 39 = .ok (.invokevirtual 147, 3) := by decide +kernel
theorem dX10_goes_42 : decode cX10_goes 42 = .ok (.aload_n 0, 1) := by decide +kernel
theorem dX10_goes_43 : decode cX10_goes 43 = .ok (.getfield 47, 3) := by decide +kernel
theorem dX10_goes_46 : decode cX10_goes 46 = .ok (.iload_n 2, 1) := by decide +kernel
theorem dX10_goes_47 : decode cX10_goes 47 = .ok (.invokevirtual 147, 3) := by decide +kernel
theorem dX10_goes_50 : decode cX10_goes 50 = .ok (.if_icmp .ne 7, 3) := by decide +kernel
theorem dX10_goes_53 : decode cX10_goes 53 = .ok (.iconst 1, 1) := by decide +kernel
theorem dX10_goes_54 : decode cX10_goes 54 = .ok (.goto 4, 3) := by decide +kernel
theorem dX10_goes_57 : decode cX10_goes 57 = .ok (.iconst 0, 1) := by decide +kernel
theorem dX10_goes_58 : decode cX10_goes 58 = .ok (.istore_n 3, 1) := by decide +kernel
theorem dX10_goes_59 : decode cX10_goes 59 = .ok (.iload_n 3, 1) := by decide +kernel
theorem dX10_goes_60 : decode cX10_goes 60 = .ok (.ifCond .eq 6, 3) := by decide +kernel
theorem dX10_goes_63 : decode cX10_goes 63 = .ok (.bipush (-2), 2) := by decide +kernel
theorem dX10_goes_65 : decode cX10_goes 65 = .ok (.ireturn, 1) := by decide +kernel
theorem dX10_goes_66 : decode cX10_goes 66 = .ok (.aload_n 0, 1) := by decide +kernel
theorem dX10_goes_67 : decode cX10_goes 67 = .ok (.getfield 47, 3) := by decide +kernel
theorem dX10_goes_70 : decode cX10_goes 70 = .ok (.iload_n 1, 1) := by decide +kernel
theorem dX10_goes_71 : decode cX10_goes 71 = .ok (.iload_n 2, 1) := by decide +kernel
theorem dX10_goes_72 : decode cX10_goes 72 = .ok (.invokevirtual 153, 3) := by decide +kernel
theorem dX10_goes_75 : decode cX10_goes 75 = .ok (.aload_n 0, 1) := by decide +kernel
theorem dX10_goes_76 : decode cX10_goes 76 = .ok (.getfield 47, 3) := by decide +kernel
theorem dX10_goes_79 : decode cX10_goes 79 = .ok (.iload_n 1, 1) := by decide +kernel
theorem dX10_goes_80 : decode cX10_goes 80 = .ok (.invokevirtual 147, 3) := by decide +kernel
theorem dX10_goes_83 : decode cX10_goes 83 = .ok (.ireturn, 1) := by decide +kernel
set_option maxRecDepth 20000 in
theorem ggX10_join_X10_isParty : GoodIn wsX10_join wsX10_isParty := goodIn_r _ [6, 1, 7, 8, 9, 10, 11, 12, 29, 30, 31, 32, 33, 34, 35, 36, 37, 38, 39, 40, 41, 42, 43, 44, 45, 46] (by decide +kernel) (by decide +kernel)
set_option maxRecDepth 20000 in
theorem gX10_join_X10_isParty : GoodIn wsX10_join (wsV RX10 157 RX10 yX10_isParty wsX10_isParty) := goodIn_app (goodIn_of _ (by decide +kernel)) ggX10_join_X10_isParty
set_option maxRecDepth 20000 in
theorem ggX10_join_X7_merge : GoodIn wsX10_join wsX7_merge := goodIn_r _ [16, 17, 18, 19, 20, 21, 22, 10, 23, 12, 24, 25, 26, 27, 28, 42, 43, 44, 45, 46] (by decide +kernel) (by decide +kernel)
set_option maxRecDepth 20000 in
theorem gX10_join_X7_merge : GoodIn wsX10_join (wsV RX10 160 RX7 yX7_merge wsX7_merge) := goodIn_app (goodIn_of _ (by decide +kernel)) ggX10_join_X7_merge
set_option maxRecDepth 20000 in
theorem ggX10_join_X7_parties : GoodIn wsX10_join wsX7_parties := goodIn_r _ [11, 12, 42, 43, 44, 45, 46] (by decide +kernel) (by decide +kernel)
set_option maxRecDepth 20000 in
theorem gX10_join_X7_parties : GoodIn wsX10_join (wsV RX10 163 RX7 yX7_parties wsX7_parties) := goodIn_app (goodIn_of _ (by decide +kernel)) ggX10_join_X7_parties
theorem dX10_join_0 : decode cX10_join 0 = .ok (.aload_n 0, 1) := by decide +kernel
theorem dX10_join_1 : decode cX10_join 1 = .ok (.iload_n 1, 1) := by decide +kernel
theorem dX10_join_2 : decode cX10_join 2 = .ok (.invokevirtual 157, 3) := by decide +kernel
theorem dX10_join_5 : decode cX10_join 5 = .ok (.ifCond .eq 16, 3) := by decide +kernel
theorem dX10_join_8 : decode cX10_join 8 = .ok (.aload_n 0, 1) := by decide +kernel
theorem dX10_join_9 : decode cX10_join 9 = .ok (.iload_n 2, 1) := by decide +kernel
theorem dX10_join_10 : decode cX10_join 10 = .ok (.invokevirtual 157, 3) := by decide +kernel
theorem dX10_join_13 : decode cX10_join 13 = .ok (.ifCond .eq 8, 3) := by decide +kernel
theorem dX10_join_16 : decode cX10_join 16 = .ok (.iload_n 1, 1) := by decide +kernel
theorem dX10_join_17 : decode cX10_join 17 = .ok (.iload_n 2, 1) := by decide +kernel
theorem dX10_join_18 : decode cX10_join 18 = .ok (.if_icmp .ne 5, 3) := by decide +kernel
theorem dX10_join_21 : decode cX10_join 21 = .ok (.iconst (-1), 1) := by decide +kernel
theorem dX10_join_22 : decode cX10_join 22 = .ok (.ireturn, 1) := by decide +kernel
theorem dX10_join_23 : decode cX10_join 23 = .ok (.aload_n 0, 1) := by decide +kernel
theorem dX10_join_24 : decode cX10_join 24 = .ok (.getfield 47, 3) := by decide +kernel
theorem dX10_join_27 : decode cX10_join 27 = .ok (.iload_n 1, 1) := by decide +kernel
theorem dX10_join_28 : decode cX10_join 28 = .ok (.iload_n 2, 1) := by decide +kernel
theorem dX10_join_29 : decode cX10_join 29 = .ok (.invokevirtual 160, 3) := by decide +kernel
theorem dX10_join_32 : decode cX10_join 32 = .ok (.aload_n 0, 1) := by decide +kernel
theorem dX10_join_33 : decode cX10_join 33 = .ok (.getfield 47, 3) := by decide +kernel
theorem dX10_join_36 : decode cX10_join 36 = .ok (.invokevirtual 163, 3) := by decide +kernel
theorem dX10_join_39 : decode cX10_join 39 = .ok (.ireturn, 1) := by decide +kernel
set_option maxRecDepth 20000 in
theorem ggX10_part_X10_isParty : GoodIn wsX10_part wsX10_isParty := goodIn_r _ [6, 1, 7, 8, 9, 10, 11, 12, 33, 34, 35, 36, 37, 38, 39, 40, 41, 42, 43, 44, 45, 46, 47, 48, 49, 50] (by decide +kernel) (by decide +kernel)
set_option maxRecDepth 20000 in
theorem gX10_part_X10_isParty : GoodIn wsX10_part (wsV RX10 157 RX10 yX10_isParty wsX10_isParty) := goodIn_app (goodIn_of _ (by decide +kernel)) ggX10_part_X10_isParty
set_option maxRecDepth 20000 in
theorem ggX10_part_X7_setOf : GoodIn wsX10_part wsX7_setOf := goodIn_r _ [16, 12, 17, 46, 47, 48, 49, 50] (by decide +kernel) (by decide +kernel)
set_option maxRecDepth 20000 in
theorem gX10_part_X7_setOf : GoodIn wsX10_part (wsV RX10 166 RX7 yX7_setOf wsX7_setOf) := goodIn_app (goodIn_of _ (by decide +kernel)) ggX10_part_X7_setOf
set_option maxRecDepth 20000 in
theorem ggX10_part_X7_splitOff : GoodIn wsX10_part wsX7_splitOff := goodIn_r _ [21, 22, 23, 24, 25, 26, 27, 10, 28, 12, 17, 29, 30, 31, 32, 46, 47, 48, 49, 50] (by decide +kernel) (by decide +kernel)
set_option maxRecDepth 20000 in
theorem gX10_part_X7_splitOff : GoodIn wsX10_part (wsV RX10 169 RX7 yX7_splitOff wsX7_splitOff) := goodIn_app (goodIn_of _ (by decide +kernel)) ggX10_part_X7_splitOff
set_option maxRecDepth 20000 in
theorem ggX10_part_X7_parties : GoodIn wsX10_part wsX7_parties := goodIn_r _ [11, 12, 46, 47, 48, 49, 50] (by decide +kernel) (by decide +kernel)
set_option maxRecDepth 20000 in
theorem gX10_part_X7_parties : GoodIn wsX10_part (wsV RX10 163 RX7 yX7_parties wsX7_parties) := goodIn_app (goodIn_of _ (by decide +kernel)) ggX10_part_X7_parties
theorem dX10_part_0 : decode cX10_part 0 = .ok (.aload_n 0, 1) := by decide +kernel
theorem dX10_part_1 : decode cX10_part 1 = .ok (.iload_n 1, 1) := by decide +kernel
theorem dX10_part_2 : decode cX10_part 2 = .ok (.invokevirtual 157, 3) := by decide +kernel
theorem dX10_part_5 : decode cX10_part 5 = .ok (.ifCond .ne 5, 3) := by decide +kernel
theorem dX10_part_8 : decode cX10_part 8 = .ok (.iconst (-1), 1) := by decide +kernel
theorem dX10_part_9 : decode cX10_part 9 = .ok (.ireturn, 1) := by decide +kernel
theorem dX10_part_10 : decode cX10_part 10 = .ok (.aload_n 0, 1) := by decide +kernel
theorem dX10_part_11 : decode cX10_part 11 = .ok (.getfield 47, 3) := by decide +kernel
theorem dX10_part_14 : decode cX10_part 14 = .ok (.iload_n 1, 1) := by decide +kernel
theorem dX10_part_15 : decode cX10_part 15 = .ok (.invokevirtual 166, 3) := by decide +kernel
theorem dX10_part_18 : decode cX10_part 18 = .ok (.istore_n 3, 1) := by decide +kernel
theorem dX10_part_19 : decode cX10_part 19 = .ok (.iload_n 2, 1) := by decide +kernel
theorem dX10_part_20 : decode cX10_part 20 = .ok (.ifCond .eq 16, 3) := by decide +kernel
theorem dX10_part_23 : decode cX10_part 23 = .ok (.iload_n 2, 1) := by decide +kernel
theorem dX10_part_24 : decode cX10_part 24 = .ok (.iload_n 3, 1) := by decide +kernel
theorem dX10_part_25 : decode cX10_part 25 = .ok (.if_icmp .eq 11, 3) := by decide +kernel
theorem dX10_part_28 : decode cX10_part 28 = .ok (.iload_n 2, 1) := by decide +kernel
theorem dX10_part_29 : decode cX10_part 29 = .ok (.iload_n 3, 1) := by decide +kernel
theorem dX10_part_30 : decode cX10_part 30 = .ok (.iconst (-1), 1) := by decide +kernel
theorem dX10_part_31 : decode cX10_part 31 = .ok (.ixor, 1) := by decide +kernel
theorem dX10_part_32 : decode cX10_part 32 = .ok (.iand, 1) := by decide +kernel
theorem dX10_part_33 : decode cX10_part 33 = .ok (.ifCond .eq 6, 3) := by decide +kernel
theorem dX10_part_36 : decode cX10_part 36 = .ok (.bipush (-2), 2) := by decide +kernel
theorem dX10_part_38 : decode cX10_part 38 = .ok (.ireturn, 1) := by decide +kernel
theorem dX10_part_39 : decode cX10_part 39 = .ok (.aload_n 0, 1) := by decide +kernel
theorem dX10_part_40 : decode cX10_part 40 = .ok (.getfield 47, 3) := by decide +kernel
theorem dX10_part_43 : decode cX10_part 43 = .ok (.iload_n 2, 1) := by decide +kernel
theorem dX10_part_44 : decode cX10_part 44 = .ok (.invokevirtual 169, 3) := by decide +kernel
theorem dX10_part_47 : decode cX10_part 47 = .ok (.aload_n 0, 1) := by decide +kernel
theorem dX10_part_48 : decode cX10_part 48 = .ok (.getfield 47, 3) := by decide +kernel
theorem dX10_part_51 : decode cX10_part 51 = .ok (.invokevirtual 163, 3) := by decide +kernel
theorem dX10_part_54 : decode cX10_part 54 = .ok (.ireturn, 1) := by decide +kernel
set_option maxRecDepth 20000 in
theorem ggX10_now_X7_parties : GoodIn wsX10_now wsX7_parties := goodIn_r _ [9, 10, 141, 142, 143, 144, 145] (by decide +kernel) (by decide +kernel)
set_option maxRecDepth 20000 in
theorem gX10_now_X7_parties : GoodIn wsX10_now (wsV RX10 163 RX7 yX7_parties wsX7_parties) := goodIn_app (goodIn_of _ (by decide +kernel)) ggX10_now_X7_parties
set_option maxRecDepth 20000 in
theorem ggX10_now_X7_code : GoodIn wsX10_now wsX7_code := goodIn_r _ [14, 15, 16, 17, 18, 8, 19, 20, 21, 22, 23, 141, 142, 143, 144, 145] (by decide +kernel) (by decide +kernel)
set_option maxRecDepth 20000 in
theorem gX10_now_X7_code : GoodIn wsX10_now (wsV RX10 172 RX7 yX7_code wsX7_code) := goodIn_app (goodIn_of _ (by decide +kernel)) ggX10_now_X7_code
set_option maxRecDepth 20000 in
theorem ggX10_now_X9_placeOf : GoodIn wsX10_now wsX9_placeOf := goodIn_r _ [28, 29, 30, 31, 32, 33, 27, 34, 35, 36, 37, 38, 39, 40, 41, 42, 43, 44, 45, 46, 47, 48, 49, 50, 51, 52, 53, 54, 55, 56, 57, 58, 59, 60, 61, 62, 63, 64, 65, 66, 67, 68, 69, 70, 71, 72, 73, 74, 75, 76, 77, 78, 79, 80, 81, 82, 83, 84, 85, 86, 87, 88, 89, 90, 91, 92, 93, 94, 95, 96, 97, 98, 99, 100, 101, 102, 103, 104, 105, 106, 107, 108, 109, 110, 22, 8, 23, 146, 147, 148, 149, 150, 151, 152, 153, 154, 155, 156, 157, 158, 159] (by decide +kernel) (by decide +kernel)
set_option maxRecDepth 20000 in
theorem gX10_now_X9_placeOf : GoodIn wsX10_now (wsV RX10 175 RX9 yX9_placeOf wsX9_placeOf) := goodIn_app (goodIn_of _ (by decide +kernel)) ggX10_now_X9_placeOf
set_option maxRecDepth 20000 in
theorem ggX10_now_X5_worthOfAll : GoodIn wsX10_now wsX5_worthOfAll := goodIn_r _ [114, 48, 115, 17, 18, 8, 19, 15, 20, 116, 117, 118, 119, 10, 120, 121, 106, 107, 46, 108, 109, 81, 82, 83, 154, 155, 156, 157, 158, 159, 141, 142, 143, 144, 145] (by decide +kernel) (by decide +kernel)
set_option maxRecDepth 20000 in
theorem gX10_now_X5_worthOfAll : GoodIn wsX10_now (wsV RX10 178 RX5 yX5_worthOfAll wsX5_worthOfAll) := goodIn_app (goodIn_of _ (by decide +kernel)) ggX10_now_X5_worthOfAll
set_option maxRecDepth 20000 in
theorem ggX10_now_X7_loners : GoodIn wsX10_now wsX7_loners := goodIn_r _ [125, 10, 126, 117, 118, 8, 119, 120, 127, 65, 66, 67, 68, 69, 70, 141, 142, 143, 144, 145] (by decide +kernel) (by decide +kernel)
set_option maxRecDepth 20000 in
theorem gX10_now_X7_loners : GoodIn wsX10_now (wsV RX10 182 RX7 yX7_loners wsX7_loners) := goodIn_app (goodIn_of _ (by decide +kernel)) ggX10_now_X7_loners
theorem dX10_now_0 : decode cX10_now 0 = .ok (.iload_n 1, 1) := by decide +kernel
theorem dX10_now_1 : decode cX10_now 1 = .ok (.tableswitch 84 0 3 #[31, 39, 64, 76], 31) := by decide +kernel
theorem dX10_now_32 : decode cX10_now 32 = .ok (.aload_n 0, 1) := by decide +kernel
theorem dX10_now_33 : decode cX10_now 33 = .ok (.getfield 47, 3) := by decide +kernel
theorem dX10_now_36 : decode cX10_now 36 = .ok (.invokevirtual 163, 3) := by decide +kernel
theorem dX10_now_39 : decode cX10_now 39 = .ok (.ireturn, 1) := by decide +kernel
theorem dX10_now_40 : decode cX10_now 40 = .ok (.aload_n 0, 1) := by decide +kernel
theorem dX10_now_41 : decode cX10_now 41 = .ok (.getfield 40, 3) := by decide +kernel
theorem dX10_now_44 : decode cX10_now 44 = .ok (.aload_n 0, 1) := by decide +kernel
theorem dX10_now_45 : decode cX10_now 45 = .ok (.getfield 47, 3) := by decide +kernel
theorem dX10_now_48 : decode cX10_now 48 = .ok (.invokevirtual 172, 3) := by decide +kernel
theorem dX10_now_51 : decode cX10_now 51 = .ok (.invokevirtual 175, 3) := by decide +kernel
theorem dX10_now_54 : decode cX10_now 54 = .ok (.bipush (-9), 2) := by decide +kernel
theorem dX10_now_56 : decode cX10_now 56 = .ok (.if_icmp .eq 7, 3) := by decide +kernel
theorem dX10_now_59 : decode cX10_now 59 = .ok (.iconst 1, 1) := by decide +kernel
theorem dX10_now_60 : decode cX10_now 60 = .ok (.goto 4, 3) := by decide +kernel
theorem dX10_now_63 : decode cX10_now 63 = .ok (.iconst 0, 1) := by decide +kernel
theorem dX10_now_64 : decode cX10_now 64 = .ok (.ireturn, 1) := by decide +kernel
theorem dX10_now_65 : decode cX10_now 65 = .ok (.aload_n 0, 1) := by decide +kernel
theorem dX10_now_66 : decode cX10_now 66 = .ok (.getfield 10, 3) := by decide +kernel
theorem dX10_now_69 : decode cX10_now 69 = .ok (.aload_n 0, 1) := by decide +kernel
theorem dX10_now_70 : decode cX10_now 70 = .ok (.getfield 47, 3) := by decide +kernel
theorem dX10_now_73 : decode cX10_now 73 = .ok (.invokevirtual 178, 3) := by decide +kernel
theorem dX10_now_76 : decode cX10_now 76 = .ok (.ireturn, 1) := by decide +kernel
theorem dX10_now_77 : decode cX10_now 77 = .ok (.aload_n 0, 1) := by decide +kernel
theorem dX10_now_78 : decode cX10_now 78 = .ok (.getfield 47, 3) := by decide +kernel
theorem dX10_now_81 : decode cX10_now 81 = .ok (.invokevirtual 182, 3) := by decide +kernel
theorem dX10_now_84 : decode cX10_now 84 = .ok (.ireturn, 1) := by decide +kernel
theorem dX10_now_85 : decode cX10_now 85 = .ok (.ldc 133, 2) := by decide +kernel
theorem dX10_now_87 : decode cX10_now 87 = .ok (.ireturn, 1) := by decide +kernel
set_option maxRecDepth 20000 in
theorem ggX10_many_X9_total : GoodIn wsX10_many wsX9_total := goodIn_r _ [6, 7, 8, 9, 10, 5, 11, 12, 13, 14, 15, 16, 17, 18, 19, 20, 21, 22, 23, 24, 25, 26, 27, 28, 29, 30, 31, 32, 33, 34, 35, 36, 37, 38, 39, 40, 41, 42, 43, 44, 45, 46, 47, 48, 49, 50, 51, 52, 53, 54, 55, 56, 57, 58, 59, 60, 61, 62, 63, 64, 65, 66, 67, 68, 69, 70, 71, 72, 73, 74, 75, 76, 77, 78, 79, 80, 81, 82, 83, 84, 85, 86, 87, 88, 89, 90, 91, 109, 110, 111, 112, 113, 114, 115, 116, 117, 118, 119, 120, 121, 122] (by decide +kernel) (by decide +kernel)
set_option maxRecDepth 20000 in
theorem gX10_many_X9_total : GoodIn wsX10_many (wsV RX10 185 RX9 yX9_total wsX9_total) := goodIn_app (goodIn_of _ (by decide +kernel)) ggX10_many_X9_total
set_option maxRecDepth 20000 in
theorem ggX10_many_X9_totalWith : GoodIn wsX10_many wsX9_totalWith := goodIn_r _ [95, 13, 8, 9, 10, 5, 11, 12, 7, 14, 15, 16, 17, 18, 19, 20, 21, 22, 23, 24, 25, 26, 27, 28, 29, 30, 31, 32, 33, 34, 35, 36, 37, 38, 39, 40, 41, 42, 43, 44, 45, 46, 47, 48, 49, 50, 51, 52, 53, 54, 55, 56, 57, 58, 59, 60, 61, 62, 63, 64, 65, 66, 67, 68, 69, 70, 71, 72, 73, 74, 75, 76, 77, 78, 79, 80, 81, 82, 83, 84, 85, 86, 87, 88, 89, 90, 91, 109, 110, 111, 112, 113, 114, 115, 116, 117, 118, 119, 120, 121, 122] (by decide +kernel) (by decide +kernel)
set_option maxRecDepth 20000 in
theorem gX10_many_X9_totalWith : GoodIn wsX10_many (wsV RX10 188 RX9 yX9_totalWith wsX9_totalWith) := goodIn_app (goodIn_of _ (by decide +kernel)) ggX10_many_X9_totalWith
theorem dX10_many_0 : decode cX10_many 0 = .ok (.iload_n 1, 1) := by decide +kernel
theorem dX10_many_1 : decode cX10_many 1 = .ok (.ifCond .lt 9, 3) := by decide +kernel
theorem dX10_many_4 : decode cX10_many 4 = .ok (.iload_n 1, 1) := by decide +kernel
theorem dX10_many_5 : decode cX10_many 5 = .ok (.bipush 8, 2) := by decide +kernel
theorem dX10_many_7 : decode cX10_many 7 = .ok (.if_icmp .le 5, 3) := by decide +kernel
theorem dX10_many_10 : decode cX10_many 10 = .ok (.iconst (-1), 1) := by decide +kernel
theorem dX10_many_11 : decode cX10_many 11 = .ok (.ireturn, 1) := by decide +kernel
theorem dX10_many_12 : decode cX10_many 12 = .ok (.iload_n 1, 1) := by decide +kernel
theorem dX10_many_13 : decode cX10_many 13 = .ok (.ifCond .ne 13, 3) := by decide +kernel
theorem dX10_many_16 : decode cX10_many 16 = .ok (.aload_n 0, 1) := by decide +kernel
theorem dX10_many_17 : decode cX10_many 17 = .ok (.getfield 40, 3) := by decide +kernel
theorem dX10_many_20 : decode cX10_many 20 = .ok (.invokevirtual 185, 3) := by decide +kernel
theorem dX10_many_23 : decode cX10_many 23 = .ok (.goto 11, 3) := by decide +kernel
theorem dX10_many_26 : decode cX10_many 26 = .ok (.aload_n 0, 1) := by decide +kernel
theorem dX10_many_27 : decode cX10_many 27 = .ok (.getfield 40, 3) := by decide +kernel
theorem dX10_many_30 : decode cX10_many 30 = .ok (.iload_n 1, 1) := by decide +kernel
theorem dX10_many_31 : decode cX10_many 31 = .ok (.invokevirtual 188, 3) := by decide +kernel
theorem dX10_many_34 : decode cX10_many 34 = .ok (.ireturn, 1) := by decide +kernel
set_option maxRecDepth 20000 in
theorem ggX10_rank_X7_code : GoodIn wsX10_rank wsX7_code := goodIn_r _ [7, 8, 9, 10, 11, 6, 12, 13, 14, 15, 16, 117, 118, 119, 120, 121] (by decide +kernel) (by decide +kernel)
set_option maxRecDepth 20000 in
theorem gX10_rank_X7_code : GoodIn wsX10_rank (wsV RX10 172 RX7 yX7_code wsX7_code) := goodIn_app (goodIn_of _ (by decide +kernel)) ggX10_rank_X7_code
set_option maxRecDepth 20000 in
theorem ggX10_rank_X9_placeOf : GoodIn wsX10_rank wsX9_placeOf := goodIn_r _ [21, 22, 23, 24, 25, 26, 20, 27, 28, 29, 30, 31, 32, 33, 34, 35, 36, 37, 38, 39, 40, 41, 42, 43, 44, 45, 46, 47, 48, 49, 50, 51, 52, 53, 54, 55, 56, 57, 58, 59, 60, 61, 62, 63, 64, 65, 66, 67, 68, 69, 70, 71, 72, 73, 74, 75, 76, 77, 78, 79, 80, 81, 82, 83, 84, 85, 86, 87, 88, 89, 90, 91, 92, 93, 94, 95, 96, 97, 98, 99, 100, 101, 102, 103, 15, 6, 16, 122, 123, 124, 125, 126, 127, 128, 129, 130, 131, 132, 133, 134, 135] (by decide +kernel) (by decide +kernel)
set_option maxRecDepth 20000 in
theorem gX10_rank_X9_placeOf : GoodIn wsX10_rank (wsV RX10 175 RX9 yX9_placeOf wsX9_placeOf) := goodIn_app (goodIn_of _ (by decide +kernel)) ggX10_rank_X9_placeOf
theorem dX10_rank_0 : decode cX10_rank 0 = .ok (.aload_n 0, 1) := by decide +kernel
theorem dX10_rank_1 : decode cX10_rank 1 = .ok (.getfield 40, 3) := by decide +kernel
theorem dX10_rank_4 : decode cX10_rank 4 = .ok (.aload_n 0, 1) := by decide +kernel
theorem dX10_rank_5 : decode cX10_rank 5 = .ok (.getfield 47, 3) := by decide +kernel
theorem dX10_rank_8 : decode cX10_rank 8 = .ok (.invokevirtual 172, 3) := by decide +kernel
theorem dX10_rank_11 : decode cX10_rank 11 = .ok (.invokevirtual 175, 3) := by decide +kernel
theorem dX10_rank_14 : decode cX10_rank 14 = .ok (.ireturn, 1) := by decide +kernel
set_option maxRecDepth 20000 in
theorem ggX10_nth_X10_isGuest : GoodIn wsX10_nth wsX10_isGuest := goodIn_r _ [6, 7, 8, 9, 10, 11, 12, 13, 107, 108, 109, 110, 111, 112, 113, 114, 115, 116, 117, 118, 119, 120, 121, 122, 123, 124, 125] (by decide +kernel) (by decide +kernel)
set_option maxRecDepth 20000 in
theorem gX10_nth_X10_isGuest : GoodIn wsX10_nth (wsV RX10 144 RX10 yX10_isGuest wsX10_isGuest) := goodIn_app (goodIn_of _ (by decide +kernel)) ggX10_nth_X10_isGuest
set_option maxRecDepth 20000 in
theorem ggX10_nth_X9_total : GoodIn wsX10_nth wsX9_total := goodIn_r _ [18, 19, 20, 21, 22, 17, 23, 24, 25, 26, 27, 28, 29, 30, 31, 32, 9, 10, 11, 12, 13, 33, 34, 35, 36, 37, 38, 39, 40, 41, 42, 43, 44, 45, 46, 47, 48, 49, 50, 51, 52, 53, 54, 55, 56, 57, 58, 59, 60, 61, 62, 63, 64, 65, 66, 67, 68, 69, 70, 71, 72, 73, 74, 75, 76, 77, 78, 79, 80, 81, 82, 83, 84, 85, 86, 87, 88, 89, 90, 91, 92, 93, 94, 95, 96, 97, 98, 126, 127, 128, 129, 130, 131, 132, 133, 120, 121, 122, 123, 124, 125] (by decide +kernel) (by decide +kernel)
set_option maxRecDepth 20000 in
theorem gX10_nth_X9_total : GoodIn wsX10_nth (wsV RX10 185 RX9 yX9_total wsX9_total) := goodIn_app (goodIn_of _ (by decide +kernel)) ggX10_nth_X9_total
set_option maxRecDepth 20000 in
theorem ggX10_nth_X9_codeAt : GoodIn wsX10_nth wsX9_codeAt := goodIn_r _ [102, 19, 39, 20, 21, 22, 17, 23, 24, 25, 26, 27, 28, 29, 30, 31, 32, 9, 10, 11, 12, 13, 33, 34, 35, 36, 37, 38, 40, 41, 42, 43, 44, 45, 46, 47, 48, 49, 50, 51, 52, 53, 54, 55, 56, 57, 58, 59, 60, 61, 62, 63, 64, 65, 66, 67, 68, 69, 70, 71, 72, 73, 74, 75, 76, 77, 78, 79, 80, 81, 82, 83, 84, 85, 86, 87, 88, 89, 90, 91, 92, 93, 94, 95, 96, 97, 98, 126, 127, 128, 129, 130, 131, 132, 133, 120, 121, 122, 123, 124, 125] (by decide +kernel) (by decide +kernel)
set_option maxRecDepth 20000 in
theorem gX10_nth_X9_codeAt : GoodIn wsX10_nth (wsV RX10 191 RX9 yX9_codeAt wsX9_codeAt) := goodIn_app (goodIn_of _ (by decide +kernel)) ggX10_nth_X9_codeAt
set_option maxRecDepth 20000 in
theorem ggX10_nth_X7_partyIn : GoodIn wsX10_nth wsX7_partyIn := goodIn_r _ [105, 106, 96, 97, 98] (by decide +kernel) (by decide +kernel)
set_option maxRecDepth 20000 in
theorem gX10_nth_X7_partyIn : GoodIn wsX10_nth (va_wsS RX10 194 yX7_partyIn wsX7_partyIn) := goodIn_app (goodIn_of _ (by decide +kernel)) ggX10_nth_X7_partyIn
theorem dX10_nth_0 : decode cX10_nth 0 = .ok (.iload_n 1, 1) := by decide +kernel
theorem dX10_nth_1 : decode cX10_nth 1 = .ok (.ifCond .lt 11, 3) := by decide +kernel
theorem dX10_nth_4 : decode cX10_nth 4 = .ok (.aload_n 0, 1) := by decide +kernel
theorem dX10_nth_5 : decode cX10_nth 5 = .ok (.iload_n 2, 1) := by decide +kernel
theorem dX10_nth_6 : decode cX10_nth 6 = .ok (.invokevirtual 144, 3) := by decide +kernel
theorem dX10_nth_9 : decode cX10_nth 9 = .ok (.ifCond .ne 5, 3) := by decide +kernel
theorem dX10_nth_12 : decode cX10_nth 12 = .ok (.iconst (-1), 1) := by decide +kernel
theorem dX10_nth_13 : decode cX10_nth 13 = .ok (.ireturn, 1) := by decide +kernel
theorem dX10_nth_14 : decode cX10_nth 14 = .ok (.iload_n 1, 1) := by decide +kernel
theorem dX10_nth_15 : decode cX10_nth 15 = .ok (.aload_n 0, 1) := by decide +kernel
theorem dX10_nth_16 : decode cX10_nth 16 = .ok (.getfield 40, 3) := by decide +kernel
theorem dX10_nth_19 : decode cX10_nth 19 = .ok (.invokevirtual 185, 3) := by decide +kernel
theorem dX10_nth_22 : decode cX10_nth 22 = .ok (.if_icmp .ge 18, 3) := by decide +kernel
theorem dX10_nth_25 : decode cX10_nth 25 = .ok (.aload_n 0, 1) := by decide +kernel
theorem dX10_nth_26 : decode cX10_nth 26 = .ok (.getfield 40, 3) := by decide +kernel
theorem dX10_nth_29 : decode cX10_nth 29 = .ok (.iload_n 1, 1) := by decide +kernel
theorem dX10_nth_30 : decode cX10_nth 30 = .ok (.invokevirtual 191, 3) := by decide +kernel
theorem dX10_nth_33 : decode cX10_nth 33 = .ok (.iload_n 2, 1) := by decide +kernel
theorem dX10_nth_34 : decode cX10_nth 34 = .ok (.invokestatic 194, 3) := by decide +kernel
theorem dX10_nth_37 : decode cX10_nth 37 = .ok (.goto 5, 3) := by decide +kernel
theorem dX10_nth_40 : decode cX10_nth 40 = .ok (.bipush (-5), 2) := by decide +kernel
theorem dX10_nth_42 : decode cX10_nth 42 = .ok (.ireturn, 1) := by decide +kernel
set_option maxRecDepth 20000 in
theorem ggX10_draw_X9_total : GoodIn wsX10_draw wsX9_total := goodIn_r _ [8, 9, 10, 11, 12, 7, 13, 14, 15, 16, 17, 18, 19, 20, 21, 22, 23, 24, 25, 26, 27, 28, 29, 30, 31, 32, 33, 34, 35, 36, 37, 38, 39, 40, 41, 42, 43, 44, 45, 46, 47, 48, 49, 50, 51, 52, 53, 54, 55, 56, 57, 58, 59, 60, 61, 62, 63, 64, 65, 66, 67, 68, 69, 70, 71, 72, 73, 74, 75, 76, 77, 78, 79, 80, 81, 82, 83, 84, 85, 86, 87, 88, 89, 90, 91, 92, 93, 139, 140, 141, 142, 143, 144, 145, 146, 147, 148, 149, 150, 151, 152] (by decide +kernel) (by decide +kernel)
set_option maxRecDepth 20000 in
theorem gX10_draw_X9_total : GoodIn wsX10_draw (wsV RX10 185 RX9 yX9_total wsX9_total) := goodIn_app (goodIn_of _ (by decide +kernel)) ggX10_draw_X9_total
set_option maxRecDepth 20000 in
theorem ggX10_draw_X2_nextBelow : GoodIn wsX10_draw wsX2_nextBelow := goodIn_r _ [98, 99, 100, 153] (by decide +kernel) (by decide +kernel)
set_option maxRecDepth 20000 in
theorem gX10_draw_X2_nextBelow : GoodIn wsX10_draw (wsV RX10 197 RX2 yX2_nextBelow wsX2_nextBelow) := goodIn_app (goodIn_of _ (by decide +kernel)) ggX10_draw_X2_nextBelow
set_option maxRecDepth 20000 in
theorem ggX10_draw_X9_codeAt : GoodIn wsX10_draw wsX9_codeAt := goodIn_r _ [104, 9, 34, 10, 11, 12, 7, 13, 14, 15, 16, 17, 18, 19, 20, 21, 22, 23, 24, 25, 26, 27, 28, 29, 30, 31, 32, 33, 35, 36, 37, 38, 39, 40, 41, 42, 43, 44, 45, 46, 47, 48, 49, 50, 51, 52, 53, 54, 55, 56, 57, 58, 59, 60, 61, 62, 63, 64, 65, 66, 67, 68, 69, 70, 71, 72, 73, 74, 75, 76, 77, 78, 79, 80, 81, 82, 83, 84, 85, 86, 87, 88, 89, 90, 91, 92, 93, 139, 140, 141, 142, 143, 144, 145, 146, 147, 148, 149, 150, 151, 152] (by decide +kernel) (by decide +kernel)
set_option maxRecDepth 20000 in
theorem gX10_draw_X9_codeAt : GoodIn wsX10_draw (wsV RX10 191 RX9 yX9_codeAt wsX9_codeAt) := goodIn_app (goodIn_of _ (by decide +kernel)) ggX10_draw_X9_codeAt
set_option maxRecDepth 20000 in
theorem ggX10_draw_X7_standAs : GoodIn wsX10_draw wsX7_standAs := goodIn_r _ [108, 109, 110, 111, 112, 92, 113, 114, 91, 93, 115, 116, 117, 118, 119, 120, 121, 122, 123, 124, 125, 154, 155, 156, 157, 158] (by decide +kernel) (by decide +kernel)
set_option maxRecDepth 20000 in
theorem gX10_draw_X7_standAs : GoodIn wsX10_draw (wsV RX10 200 RX7 yX7_standAs wsX7_standAs) := goodIn_app (goodIn_of _ (by decide +kernel)) ggX10_draw_X7_standAs
theorem dX10_draw_0 : decode cX10_draw 0 = .ok (.aload_n 0, 1) := by decide +kernel
theorem dX10_draw_1 : decode cX10_draw 1 = .ok (.getfield 40, 3) := by decide +kernel
theorem dX10_draw_4 : decode cX10_draw 4 = .ok (.invokevirtual 185, 3) := by decide +kernel
theorem dX10_draw_7 : decode cX10_draw 7 = .ok (.ifCond .ne 6, 3) := by decide +kernel
theorem dX10_draw_10 : decode cX10_draw 10 = .ok (.bipush (-2), 2) := by decide +kernel
theorem dX10_draw_12 : decode cX10_draw 12 = .ok (.ireturn, 1) := by decide +kernel
theorem dX10_draw_13 : decode cX10_draw 13 = .ok (.aload_n 0, 1) := by decide +kernel
theorem dX10_draw_14 : decode cX10_draw 14 = .ok (.getfield 61, 3) := by decide +kernel
theorem dX10_draw_17 : decode cX10_draw 17 = .ok (.aload_n 0, 1) := by decide +kernel
theorem dX10_draw_18 : decode cX10_draw 18 = .ok (.getfield 40, 3) := by decide +kernel
theorem dX10_draw_21 : decode cX10_draw 21 = .ok (.invokevirtual 185, 3) := by decide +kernel
theorem dX10_draw_24 : decode cX10_draw 24 = .ok (.invokevirtual 197, 3) := by decide +kernel
theorem dX10_draw_27 : decode cX10_draw 27 = .ok (.istore_n 1, 1) := by decide +kernel
theorem dX10_draw_28 : decode cX10_draw 28 = .ok (.aload_n 0, 1) := by decide +kernel
theorem dX10_draw_29 : decode cX10_draw 29 = .ok (.getfield 47, 3) := by decide +kernel
theorem dX10_draw_32 : decode cX10_draw 32 = .ok (.aload_n 0, 1) := by decide +kernel
theorem dX10_draw_33 : decode cX10_draw 33 = .ok (.getfield 40, 3) := by decide +kernel
theorem dX10_draw_36 : decode cX10_draw 36 = .ok (.iload_n 1, 1) := by decide +kernel
theorem dX10_draw_37 : decode cX10_draw 37 = .ok (.invokevirtual 191, 3) := by decide +kernel
theorem dX10_draw_40 : decode cX10_draw 40 = .ok (.invokevirtual 200, 3) := by decide +kernel
theorem dX10_draw_43 : decode cX10_draw 43 = .ok (.iload_n 1, 1) := by decide +kernel
theorem dX10_draw_44 : decode cX10_draw 44 = .ok (.ireturn, 1) := by decide +kernel
set_option maxRecDepth 20000 in
theorem ggX10_lot_X2_value : GoodIn wsX10_lot wsX2_value := goodIn_r _ [6, 7, 25] (by decide +kernel) (by decide +kernel)
set_option maxRecDepth 20000 in
theorem gX10_lot_X2_value : GoodIn wsX10_lot (wsV RX10 203 RX2 yX2_value wsX2_value) := goodIn_app (goodIn_of _ (by decide +kernel)) ggX10_lot_X2_value
set_option maxRecDepth 20000 in
theorem ggX10_lot_X2_become : GoodIn wsX10_lot wsX2_become := goodIn_r _ [11, 7, 25] (by decide +kernel) (by decide +kernel)
set_option maxRecDepth 20000 in
theorem gX10_lot_X2_become : GoodIn wsX10_lot (wsV RX10 206 RX2 yX2_become wsX2_become) := goodIn_app (goodIn_of _ (by decide +kernel)) ggX10_lot_X2_become
theorem dX10_lot_0 : decode cX10_lot 0 = .ok (.aload_n 0, 1) := by decide +kernel
theorem dX10_lot_1 : decode cX10_lot 1 = .ok (.getfield 61, 3) := by decide +kernel
theorem dX10_lot_4 : decode cX10_lot 4 = .ok (.invokevirtual 203, 3) := by decide +kernel
theorem dX10_lot_7 : decode cX10_lot 7 = .ok (.istore_n 2, 1) := by decide +kernel
theorem dX10_lot_8 : decode cX10_lot 8 = .ok (.aload_n 0, 1) := by decide +kernel
theorem dX10_lot_9 : decode cX10_lot 9 = .ok (.getfield 61, 3) := by decide +kernel
theorem dX10_lot_12 : decode cX10_lot 12 = .ok (.iload_n 1, 1) := by decide +kernel
theorem dX10_lot_13 : decode cX10_lot 13 = .ok (.invokevirtual 206, 3) := by decide +kernel
theorem dX10_lot_16 : decode cX10_lot 16 = .ok (.iload_n 2, 1) := by decide +kernel
theorem dX10_lot_17 : decode cX10_lot 17 = .ok (.ireturn, 1) := by decide +kernel
set_option maxRecDepth 20000 in
theorem ggX10_saw_X10_areTwoGuests : GoodIn wsX10_saw wsX10_areTwoGuests := goodIn_r _ [6, 7, 8, 9, 5, 10, 11, 12, 13, 14, 15, 16, 17, 35, 36, 37, 38, 39, 40, 41, 42, 43, 44, 45, 46, 47, 48, 49, 50, 51, 52, 53] (by decide +kernel) (by decide +kernel)
set_option maxRecDepth 20000 in
theorem gX10_saw_X10_areTwoGuests : GoodIn wsX10_saw (wsV RX10 129 RX10 yX10_areTwoGuests wsX10_areTwoGuests) := goodIn_app (goodIn_of _ (by decide +kernel)) ggX10_saw_X10_areTwoGuests
set_option maxRecDepth 20000 in
theorem ggX10_saw_X6_areFull : GoodIn wsX10_saw wsX6_areFull := goodIn_r _ [22, 23, 54, 55, 56, 57] (by decide +kernel) (by decide +kernel)
set_option maxRecDepth 20000 in
theorem gX10_saw_X6_areFull : GoodIn wsX10_saw (wsV RX10 209 RX6 yX6_areFull wsX6_areFull) := goodIn_app (goodIn_of _ (by decide +kernel)) ggX10_saw_X6_areFull
set_option maxRecDepth 20000 in
theorem ggX10_saw_X6_add : GoodIn wsX10_saw wsX6_add := goodIn_r _ [27, 23, 28, 29, 30, 54, 55, 56, 57] (by decide +kernel) (by decide +kernel)
set_option maxRecDepth 20000 in
theorem gX10_saw_X6_add : GoodIn wsX10_saw (wsV RX10 213 RX6 yX6_add wsX6_add) := goodIn_app (goodIn_of _ (by decide +kernel)) ggX10_saw_X6_add
set_option maxRecDepth 20000 in
theorem ggX10_saw_X6_size : GoodIn wsX10_saw wsX6_size := goodIn_r _ [34, 23, 54, 55, 56, 57] (by decide +kernel) (by decide +kernel)
set_option maxRecDepth 20000 in
theorem gX10_saw_X6_size : GoodIn wsX10_saw (wsV RX10 217 RX6 yX6_size wsX6_size) := goodIn_app (goodIn_of _ (by decide +kernel)) ggX10_saw_X6_size
theorem dX10_saw_0 : decode cX10_saw 0 = .ok (.aload_n 0, 1) := by decide +kernel
theorem dX10_saw_1 : decode cX10_saw 1 = .ok (.iload_n 1, 1) := by decide +kernel
theorem dX10_saw_2 : decode cX10_saw 2 = .ok (.iload_n 2, 1) := by decide +kernel
theorem dX10_saw_3 : decode cX10_saw 3 = .ok (.invokevirtual 129, 3) := by decide +kernel
theorem dX10_saw_6 : decode cX10_saw 6 = .ok (.ifCond .eq 12, 3) := by decide +kernel
theorem dX10_saw_9 : decode cX10_saw 9 = .ok (.iload_n 3, 1) := by decide +kernel
theorem dX10_saw_10 : decode cX10_saw 10 = .ok (.ifCond .lt 8, 3) := by decide +kernel
theorem dX10_saw_13 : decode cX10_saw 13 = .ok (.iload_n 3, 1) := by decide +kernel
theorem dX10_saw_14 : decode cX10_saw 14 = .ok (.iconst 1, 1) := by decide +kernel
theorem dX10_saw_15 : decode cX10_saw 15 = .ok (.if_icmp .le 5, 3) := by decide +kernel
theorem dX10_saw_18 : decode cX10_saw 18 = .ok (.iconst (-1), 1) := by decide +kernel
theorem dX10_saw_19 : decode cX10_saw 19 = .ok (.ireturn, 1) := by decide +kernel
theorem dX10_saw_20 : decode cX10_saw 20 = .ok (.aload_n 0, 1) := by decide +kernel
theorem dX10_saw_21 : decode cX10_saw 21 = .ok (.getfield 54, 3) := by decide +kernel
theorem dX10_saw_24 : decode cX10_saw 24 = .ok (.invokevirtual 209, 3) := by decide +kernel
theorem dX10_saw_27 : decode cX10_saw 27 = .ok (.ifCond .eq 6, 3) := by decide +kernel
theorem dX10_saw_30 : decode cX10_saw 30 = .ok (.bipush (-3), 2) := by decide +kernel
theorem dX10_saw_32 : decode cX10_saw 32 = .ok (.ireturn, 1) := by decide +kernel
theorem dX10_saw_33 : decode cX10_saw 33 = .ok (.aload_n 0, 1) := by decide +kernel
theorem dX10_saw_34 : decode cX10_saw 34 = .ok (.getfield 54, 3) := by decide +kernel
theorem dX10_saw_37 : decode cX10_saw 37 = .ok (.iload_n 1, 1) := by decide +kernel
theorem dX10_saw_38 : decode cX10_saw 38 = .ok (.iload_n 2, 1) := by decide +kernel
theorem dX10_saw_39 : decode cX10_saw 39 = .ok (.iload_n 3, 1) := by decide +kernel
theorem dX10_saw_40 : decode cX10_saw 40 = .ok (.iconst 1, 1) := by decide +kernel
theorem dX10_saw_41 : decode cX10_saw 41 = .ok (.if_icmp .ne 7, 3) := by decide +kernel
theorem dX10_saw_44 : decode cX10_saw 44 = .ok (.iconst 1, 1) := by decide +kernel
theorem dX10_saw_45 : decode cX10_saw 45 = .ok (.goto 4, 3) := by decide +kernel
theorem dX10_saw_48 : decode cX10_saw 48 = .ok (.iconst 0, 1) := by decide +kernel
theorem dX10_saw_49 : decode cX10_saw 49 = .ok (.invokevirtual 213, 3) := by decide +kernel
theorem dX10_saw_52 : decode cX10_saw 52 = .ok (.aload_n 0, 1) := by decide +kernel
theorem dX10_saw_53 : decode cX10_saw 53 = .ok (.getfield 54, 3) := by decide +kernel
theorem dX10_saw_56 : decode cX10_saw 56 = .ok (.invokevirtual 217, 3) := by decide +kernel
theorem dX10_saw_59 : decode cX10_saw 59 = .ok (.ireturn, 1) := by decide +kernel
set_option maxRecDepth 20000 in
theorem ggX10_forget_X6_size : GoodIn wsX10_forget wsX6_size := goodIn_r _ [6, 7, 25, 26, 27, 28] (by decide +kernel) (by decide +kernel)
set_option maxRecDepth 20000 in
theorem gX10_forget_X6_size : GoodIn wsX10_forget (wsV RX10 217 RX6 yX6_size wsX6_size) := goodIn_app (goodIn_of _ (by decide +kernel)) ggX10_forget_X6_size
set_option maxRecDepth 20000 in
theorem ggX10_forget_X6_empty : GoodIn wsX10_forget wsX6_empty := goodIn_r _ [11, 7, 25, 26, 27, 28] (by decide +kernel) (by decide +kernel)
set_option maxRecDepth 20000 in
theorem gX10_forget_X6_empty : GoodIn wsX10_forget (wsV RX10 118 RX6 yX6_empty wsX6_empty) := goodIn_app (goodIn_of _ (by decide +kernel)) ggX10_forget_X6_empty
theorem dX10_forget_0 : decode cX10_forget 0 = .ok (.aload_n 0, 1) := by decide +kernel
theorem dX10_forget_1 : decode cX10_forget 1 = .ok (.getfield 54, 3) := by decide +kernel
theorem dX10_forget_4 : decode cX10_forget 4 = .ok (.invokevirtual 217, 3) := by decide +kernel
theorem dX10_forget_7 : decode cX10_forget 7 = .ok (.istore_n 1, 1) := by decide +kernel
theorem dX10_forget_8 : decode cX10_forget 8 = .ok (.aload_n 0, 1) := by decide +kernel
theorem dX10_forget_9 : decode cX10_forget 9 = .ok (.getfield 54, 3) := by decide +kernel
theorem dX10_forget_12 : decode cX10_forget 12 = .ok (.invokevirtual 118, 3) := by decide +kernel
theorem dX10_forget_15 : decode cX10_forget 15 = .ok (.iload_n 1, 1) := by decide +kernel
theorem dX10_forget_16 : decode cX10_forget 16 = .ok (.ireturn, 1) := by decide +kernel
set_option maxRecDepth 20000 in
theorem ggX10_left_X9_fitting : GoodIn wsX10_left wsX9_fitting := goodIn_r _ [7, 8, 9, 10, 11, 12, 6, 13, 14, 15, 16, 17, 18, 19, 20, 21, 22, 23, 24, 25, 26, 27, 28, 29, 30, 31, 32, 33, 34, 35, 36, 37, 38, 39, 40, 41, 42, 43, 44, 45, 46, 47, 48, 49, 50, 51, 52, 53, 54, 55, 56, 57, 58, 59, 60, 61, 62, 63, 64, 65, 66, 67, 68, 69, 70, 71, 72, 73, 74, 75, 76, 77, 78, 79, 80, 81, 82, 83, 84, 85, 86, 87, 88, 89, 90, 91, 92, 93, 94, 95, 96, 97, 98, 99, 100, 101, 102, 103, 104, 105, 119, 120, 121, 122, 123, 124, 125, 126, 127, 128, 129, 130, 131, 132, 133, 134, 135, 136] (by decide +kernel) (by decide +kernel)
set_option maxRecDepth 20000 in
theorem gX10_left_X9_fitting : GoodIn wsX10_left (wsV RX10 220 RX9 yX9_fitting wsX9_fitting) := goodIn_app (goodIn_of _ (by decide +kernel)) ggX10_left_X9_fitting
theorem dX10_left_0 : decode cX10_left 0 = .ok (.aload_n 0, 1) := by decide +kernel
theorem dX10_left_1 : decode cX10_left 1 = .ok (.getfield 40, 3) := by decide +kernel
theorem dX10_left_4 : decode cX10_left 4 = .ok (.aload_n 0, 1) := by decide +kernel
theorem dX10_left_5 : decode cX10_left 5 = .ok (.getfield 54, 3) := by decide +kernel
theorem dX10_left_8 : decode cX10_left 8 = .ok (.invokevirtual 220, 3) := by decide +kernel
theorem dX10_left_11 : decode cX10_left 11 = .ok (.ireturn, 1) := by decide +kernel
set_option maxRecDepth 20000 in
theorem ggX10_sure_X10_areTwoGuests : GoodIn wsX10_sure wsX10_areTwoGuests := goodIn_r _ [7, 8, 9, 10, 6, 11, 12, 13, 14, 15, 16, 17, 18, 118, 119, 120, 121, 122, 123, 124, 125, 126, 127, 128, 129, 130, 131, 132, 133, 134, 135, 136] (by decide +kernel) (by decide +kernel)
set_option maxRecDepth 20000 in
theorem gX10_sure_X10_areTwoGuests : GoodIn wsX10_sure (wsV RX10 129 RX10 yX10_areTwoGuests wsX10_areTwoGuests) := goodIn_app (goodIn_of _ (by decide +kernel)) ggX10_sure_X10_areTwoGuests
set_option maxRecDepth 20000 in
theorem ggX10_sure_X9_certain : GoodIn wsX10_sure wsX9_certain := goodIn_r _ [23, 24, 25, 26, 27, 28, 22, 29, 30, 31, 32, 33, 34, 35, 36, 37, 38, 14, 15, 16, 17, 18, 39, 40, 41, 42, 43, 44, 45, 46, 47, 48, 49, 50, 51, 52, 53, 54, 55, 56, 57, 58, 59, 60, 61, 62, 63, 64, 65, 66, 67, 68, 69, 70, 71, 72, 73, 74, 75, 76, 77, 78, 79, 80, 81, 82, 83, 84, 85, 86, 87, 88, 89, 90, 91, 92, 93, 94, 95, 96, 97, 98, 99, 100, 101, 102, 103, 104, 105, 106, 107, 108, 109, 110, 111, 112, 113, 114, 115, 116, 117, 137, 138, 139, 140, 141, 142, 143, 144, 131, 132, 133, 134, 135, 136, 145, 146, 147, 148] (by decide +kernel) (by decide +kernel)
set_option maxRecDepth 20000 in
theorem gX10_sure_X9_certain : GoodIn wsX10_sure (wsV RX10 224 RX9 yX9_certain wsX9_certain) := goodIn_app (goodIn_of _ (by decide +kernel)) ggX10_sure_X9_certain
theorem dX10_sure_0 : decode cX10_sure 0 = .ok (.aload_n 0, 1) := by decide +kernel
theorem dX10_sure_1 : decode cX10_sure 1 = .ok (.iload_n 1, 1) := by decide +kernel
theorem dX10_sure_2 : decode cX10_sure 2 = .ok (.iload_n 2, 1) := by decide +kernel
theorem dX10_sure_3 : decode cX10_sure 3 = .ok (.invokevirtual 129, 3) := by decide +kernel
theorem dX10_sure_6 : decode cX10_sure 6 = .ok (.ifCond .eq 19, 3) := by decide +kernel
theorem dX10_sure_9 : decode cX10_sure 9 = .ok (.aload_n 0, 1) := by decide +kernel
theorem dX10_sure_10 : decode cX10_sure 10 = .ok (.getfield 40, 3) := by decide +kernel
theorem dX10_sure_13 : decode cX10_sure 13 = .ok (.aload_n 0, 1) := by decide +kernel
theorem dX10_sure_14 : decode cX10_sure 14 = .ok (.getfield 54, 3) := by decide +kernel
theorem dX10_sure_17 : decode cX10_sure 17 = .ok (.iload_n 1, 1) := by decide +kernel
theorem dX10_sure_18 : decode cX10_sure 18 = .ok (.iload_n 2, 1) := by decide +kernel
theorem dX10_sure_19 : decode cX10_sure 19 = .ok (.invokevirtual 224, 3) := by decide +kernel
theorem dX10_sure_22 : decode cX10_sure 22 = .ok (.goto 4, 3) := by decide +kernel
theorem dX10_sure_25 : decode cX10_sure 25 = .ok (.iconst (-1), 1) := by decide +kernel
theorem dX10_sure_26 : decode cX10_sure 26 = .ok (.ireturn, 1) := by decide +kernel
set_option maxRecDepth 20000 in
theorem ggX10_two_X10_isImage : GoodIn wsX10_two wsX10_isImage := goodIn_r _ [6] (by decide +kernel) (by decide +kernel)
set_option maxRecDepth 20000 in
theorem gX10_two_X10_isImage : GoodIn wsX10_two (va_wsS RX10 228 yX10_isImage wsX10_isImage) := goodIn_app (goodIn_of _ (by decide +kernel)) ggX10_two_X10_isImage
set_option maxRecDepth 20000 in
theorem ggX10_two_X10_isGuest : GoodIn wsX10_two wsX10_isGuest := goodIn_r _ [10, 11, 12, 13, 14, 15, 16, 17, 112, 113, 114, 115, 116, 117, 118, 119, 120, 121, 122, 123, 124, 125, 126, 127, 128, 129, 130] (by decide +kernel) (by decide +kernel)
set_option maxRecDepth 20000 in
theorem gX10_two_X10_isGuest : GoodIn wsX10_two (wsV RX10 144 RX10 yX10_isGuest wsX10_isGuest) := goodIn_app (goodIn_of _ (by decide +kernel)) ggX10_two_X10_isGuest
set_option maxRecDepth 20000 in
theorem ggX10_two_X10_imageOf : GoodIn wsX10_two wsX10_imageOf := goodIn_r _ [21, 22, 23, 112, 113, 114, 115, 116, 117, 118, 119, 120, 121, 122, 123, 124] (by decide +kernel) (by decide +kernel)
set_option maxRecDepth 20000 in
theorem gX10_two_X10_imageOf : GoodIn wsX10_two (wsV RX10 231 RX10 yX10_imageOf wsX10_imageOf) := goodIn_app (goodIn_of _ (by decide +kernel)) ggX10_two_X10_imageOf
set_option maxRecDepth 20000 in
theorem ggX10_two_X1_isKept : GoodIn wsX10_two wsX1_isKept := goodIn_r _ [28, 29, 131, 132, 133, 134] (by decide +kernel) (by decide +kernel)
set_option maxRecDepth 20000 in
theorem gX10_two_X1_isKept : GoodIn wsX10_two (wsV RX10 235 RX1 yX1_isKept wsX1_isKept) := goodIn_app (goodIn_of _ (by decide +kernel)) ggX10_two_X1_isKept
set_option maxRecDepth 20000 in
theorem ggX10_two_X1_standing : GoodIn wsX10_two wsX1_standing := goodIn_r _ [33, 34, 131, 132, 133, 134] (by decide +kernel) (by decide +kernel)
set_option maxRecDepth 20000 in
theorem gX10_two_X1_standing : GoodIn wsX10_two (wsV RX10 238 RX1 yX1_standing wsX1_standing) := goodIn_app (goodIn_of _ (by decide +kernel)) ggX10_two_X1_standing
set_option maxRecDepth 20000 in
theorem ggX10_two_X3_compare : GoodIn wsX10_two wsX3_compare := goodIn_r _ [39, 40, 41, 42, 43, 44, 45, 46, 47, 48, 49, 50, 51, 52, 53, 54, 55, 56, 57, 58, 59, 60, 61, 62, 63, 64, 65, 66, 67, 68, 69, 70, 71, 72, 73, 74, 75, 76, 77, 78, 79, 80, 81, 82, 83, 84, 85, 86, 87, 88, 89, 90, 91, 92, 93, 94, 95, 96, 97, 98, 99, 100, 101, 102, 135, 136, 137, 138, 139, 140, 141] (by decide +kernel) (by decide +kernel)
set_option maxRecDepth 20000 in
theorem gX10_two_X3_compare : GoodIn wsX10_two (wsV RX10 241 RX3 yX3_compare wsX3_compare) := goodIn_app (goodIn_of _ (by decide +kernel)) ggX10_two_X3_compare
set_option maxRecDepth 20000 in
theorem ggX10_two_X3_finer : GoodIn wsX10_two wsX3_finer := goodIn_r _ [106, 40, 135, 136] (by decide +kernel) (by decide +kernel)
set_option maxRecDepth 20000 in
theorem gX10_two_X3_finer : GoodIn wsX10_two (wsV RX10 245 RX3 yX3_finer wsX3_finer) := goodIn_app (goodIn_of _ (by decide +kernel)) ggX10_two_X3_finer
set_option maxRecDepth 20000 in
theorem ggX10_two_X7_partyOf : GoodIn wsX10_two wsX7_partyOf := goodIn_r _ [56, 47, 57, 137, 138, 139, 140, 141] (by decide +kernel) (by decide +kernel)
set_option maxRecDepth 20000 in
theorem gX10_two_X7_partyOf : GoodIn wsX10_two (wsV RX10 147 RX7 yX7_partyOf wsX7_partyOf) := goodIn_app (goodIn_of _ (by decide +kernel)) ggX10_two_X7_partyOf
set_option maxRecDepth 20000 in
theorem ggX10_two_X3_coarser : GoodIn wsX10_two wsX3_coarser := goodIn_r _ [111, 41, 135, 136] (by decide +kernel) (by decide +kernel)
set_option maxRecDepth 20000 in
theorem gX10_two_X3_coarser : GoodIn wsX10_two (wsV RX10 248 RX3 yX3_coarser wsX3_coarser) := goodIn_app (goodIn_of _ (by decide +kernel)) ggX10_two_X3_coarser
theorem dX10_two_0 : decode cX10_two 0 = .ok (.iload_n 1, 1) := by decide +kernel
theorem dX10_two_1 : decode cX10_two 1 = .ok (.invokestatic 228, 3) := by decide +kernel
theorem dX10_two_4 : decode cX10_two 4 = .ok (.ifCond .eq 20, 3) := by decide +kernel
theorem dX10_two_7 : decode cX10_two 7 = .ok (.iload_n 2, 1) := by decide +kernel
theorem dX10_two_8 : decode cX10_two 8 = .ok (.ifCond .lt 16, 3) := by decide +kernel
theorem dX10_two_11 : decode cX10_two 11 = .ok (.iload_n 2, 1) := by decide +kernel
theorem dX10_two_12 : decode cX10_two 12 = .ok (.iconst 1, 1) := by decide +kernel
theorem dX10_two_13 : decode cX10_two 13 = .ok (.if_icmp .gt 11, 3) := by decide +kernel
theorem dX10_two_16 : decode cX10_two 16 = .ok (.aload_n 0, 1) := by decide +kernel
theorem dX10_two_17 : decode cX10_two 17 = .ok (.iload_n 3, 1) := by decide +kernel
theorem dX10_two_18 : decode cX10_two 18 = .ok (.invokevirtual 144, 3) := by decide +kernel
theorem dX10_two_21 : decode cX10_two 21 = .ok (.ifCond .ne 5, 3) := by decide +kernel
theorem dX10_two_24 : decode cX10_two 24 = .ok (.iconst (-1), 1) := by decide +kernel
theorem dX10_two_25 : decode cX10_two 25 = .ok (.ireturn, 1) := by decide +kernel
theorem dX10_two_26 : decode cX10_two 26 = .ok (.aload_n 0, 1) := by decide +kernel
theorem dX10_two_27 : decode cX10_two 27 = .ok (.iload_n 1, 1) := by decide +kernel
theorem dX10_two_28 : decode cX10_two 28 = .ok (.invokevirtual 231, 3) := by decide +kernel
theorem dX10_two_31 : decode cX10_two 31 = .ok (.astore 4, 2) := by decide +kernel
theorem dX10_two_33 : decode cX10_two 33 = .ok (.aload 4, 2) := by decide +kernel
theorem dX10_two_35 : decode cX10_two 35 = .ok (.invokevirtual 235, 3) := by decide +kernel
theorem dX10_two_38 : decode cX10_two 38 = .ok (.ifCond .ne 6, 3) := by decide +kernel
theorem dX10_two_41 : decode cX10_two 41 = .ok (.bipush (-2), 2) := by decide +kernel
theorem dX10_two_43 : decode cX10_two 43 = .ok (.ireturn, 1) := by decide +kernel
theorem dX10_two_44 : decode cX10_two 44 = .ok (.aload_n 0, 1) := by decide +kernel
theorem dX10_two_45 : decode cX10_two 45 = .ok (.getfield 78, 3) := by decide +kernel
theorem dX10_two_48 : decode cX10_two 48 = .ok (.aload_n 0, 1) := by decide +kernel
theorem dX10_two_49 : decode cX10_two 49 = .ok (.getfield 47, 3) := by decide +kernel
theorem dX10_two_52 : decode cX10_two 52 = .ok (.aload 4, 2) := by decide +kernel
theorem dX10_two_54 : decode cX10_two 54 = .ok (.invokevirtual 238, 3) := by decide +kernel
theorem dX10_two_57 : decode cX10_two 57 = .ok (.invokevirtual 241, 3) := by decide +kernel
theorem dX10_two_60 : decode cX10_two 60 = .ok (.iload_n 2, 1) := by decide +kernel
theorem dX10_two_61 : decode cX10_two 61 = .ok (.ifCond .ne 17, 3) := by decide +kernel
theorem dX10_two_64 : decode cX10_two 64 = .ok (.aload_n 0, 1) := by decide +kernel
theorem dX10_two_65 : decode cX10_two 65 = .ok (.getfield 78, 3) := by decide +kernel
theorem dX10_two_68 : decode cX10_two 68 = .ok (.invokevirtual 245, 3) := by decide +kernel
theorem dX10_two_71 : decode cX10_two 71 = .ok (.iload_n 3, 1) := by decide +kernel
theorem dX10_two_72 : decode cX10_two 72 = .ok (.invokevirtual 147, 3) := by decide +kernel
theorem dX10_two_75 : decode cX10_two 75 = .ok (.goto 14, 3) := by decide +kernel
theorem dX10_two_78 : decode cX10_two 78 = .ok (.aload_n 0, 1) := by decide +kernel
theorem dX10_two_79 : decode cX10_two 79 = .ok (.getfield 78, 3) := by decide +kernel
theorem dX10_two_82 : decode cX10_two 82 = .ok (.invokevirtual 248, 3) := by decide +kernel
theorem dX10_two_85 : decode cX10_two 85 = .ok (.iload_n 3, 1) := by decide +kernel
theorem dX10_two_86 : decode cX10_two 86 = .ok (.invokevirtual 147, 3) := by decide +kernel
theorem dX10_two_89 : decode cX10_two 89 = .ok (.ireturn, 1) := by decide +kernel
set_option maxRecDepth 20000 in
theorem ggX10_between_X10_isImage : GoodIn wsX10_between wsX10_isImage := goodIn_r _ [6] (by decide +kernel) (by decide +kernel)
set_option maxRecDepth 20000 in
theorem gX10_between_X10_isImage : GoodIn wsX10_between (va_wsS RX10 228 yX10_isImage wsX10_isImage) := goodIn_app (goodIn_of _ (by decide +kernel)) ggX10_between_X10_isImage
set_option maxRecDepth 20000 in
theorem ggX10_between_X10_imageOf : GoodIn wsX10_between wsX10_imageOf := goodIn_r _ [10, 11, 12, 106, 107, 108, 109, 110, 111, 112, 113, 114, 115, 116, 117, 118] (by decide +kernel) (by decide +kernel)
set_option maxRecDepth 20000 in
theorem gX10_between_X10_imageOf : GoodIn wsX10_between (wsV RX10 231 RX10 yX10_imageOf wsX10_imageOf) := goodIn_app (goodIn_of _ (by decide +kernel)) ggX10_between_X10_imageOf
set_option maxRecDepth 20000 in
theorem ggX10_between_X1_isKept : GoodIn wsX10_between wsX1_isKept := goodIn_r _ [17, 18, 119, 120, 121, 122] (by decide +kernel) (by decide +kernel)
set_option maxRecDepth 20000 in
theorem gX10_between_X1_isKept : GoodIn wsX10_between (wsV RX10 235 RX1 yX1_isKept wsX1_isKept) := goodIn_app (goodIn_of _ (by decide +kernel)) ggX10_between_X1_isKept
set_option maxRecDepth 20000 in
theorem ggX10_between_X1_standing : GoodIn wsX10_between wsX1_standing := goodIn_r _ [22, 23, 119, 120, 121, 122] (by decide +kernel) (by decide +kernel)
set_option maxRecDepth 20000 in
theorem gX10_between_X1_standing : GoodIn wsX10_between (wsV RX10 238 RX1 yX1_standing wsX1_standing) := goodIn_app (goodIn_of _ (by decide +kernel)) ggX10_between_X1_standing
set_option maxRecDepth 20000 in
theorem ggX10_between_X3_compare : GoodIn wsX10_between wsX3_compare := goodIn_r _ [28, 29, 30, 31, 32, 33, 34, 35, 36, 37, 38, 39, 40, 41, 42, 43, 44, 45, 46, 47, 48, 49, 50, 51, 52, 53, 54, 55, 56, 57, 58, 59, 60, 61, 62, 63, 64, 65, 66, 67, 68, 69, 70, 71, 72, 73, 74, 75, 76, 77, 78, 79, 80, 81, 82, 83, 84, 85, 86, 87, 88, 89, 90, 91, 123, 124, 125, 126, 127, 128, 129] (by decide +kernel) (by decide +kernel)
set_option maxRecDepth 20000 in
theorem gX10_between_X3_compare : GoodIn wsX10_between (wsV RX10 241 RX3 yX3_compare wsX3_compare) := goodIn_app (goodIn_of _ (by decide +kernel)) ggX10_between_X3_compare
set_option maxRecDepth 20000 in
theorem ggX10_between_X3_standingsWithin : GoodIn wsX10_between wsX3_standingsWithin := goodIn_r _ [95, 30, 96, 97, 98, 99, 34, 100, 51, 101, 80, 81, 82, 52, 102, 103, 104, 27, 105, 29, 123, 124, 125, 126, 127, 128, 129] (by decide +kernel) (by decide +kernel)
set_option maxRecDepth 20000 in
theorem gX10_between_X3_standingsWithin : GoodIn wsX10_between (wsV RX10 251 RX3 yX3_standingsWithin wsX3_standingsWithin) := goodIn_app (goodIn_of _ (by decide +kernel)) ggX10_between_X3_standingsWithin
theorem dX10_between_0 : decode cX10_between 0 = .ok (.iload_n 1, 1) := by decide +kernel
theorem dX10_between_1 : decode cX10_between 1 = .ok (.invokestatic 228, 3) := by decide +kernel
theorem dX10_between_4 : decode cX10_between 4 = .ok (.ifCond .ne 5, 3) := by decide +kernel
theorem dX10_between_7 : decode cX10_between 7 = .ok (.iconst (-1), 1) := by decide +kernel
theorem dX10_between_8 : decode cX10_between 8 = .ok (.ireturn, 1) := by decide +kernel
theorem dX10_between_9 : decode cX10_between 9 = .ok (.aload_n 0, 1) := by decide +kernel
theorem dX10_between_10 : decode cX10_between 10 = .ok (.iload_n 1, 1) := by decide +kernel
theorem dX10_between_11 : decode cX10_between 11 = .ok (.invokevirtual 231, 3) := by decide +kernel
theorem dX10_between_14 : decode cX10_between 14 = .ok (.astore_n 2, 1) := by decide +kernel
theorem dX10_between_15 : decode cX10_between 15 = .ok (.aload_n 2, 1) := by decide +kernel
theorem dX10_between_16 : decode cX10_between 16 = .ok (.invokevirtual 235, 3) := by decide +kernel
theorem dX10_between_19 : decode cX10_between 19 = .ok (.ifCond .ne 6, 3) := by decide +kernel
theorem dX10_between_22 : decode cX10_between 22 = .ok (.bipush (-2), 2) := by decide +kernel
theorem dX10_between_24 : decode cX10_between 24 = .ok (.ireturn, 1) := by decide +kernel
theorem dX10_between_25 : decode cX10_between 25 = .ok (.aload_n 0, 1) := by decide +kernel
theorem dX10_between_26 : decode cX10_between 26 = .ok (.getfield 78, 3) := by decide +kernel
theorem dX10_between_29 : decode cX10_between 29 = .ok (.aload_n 0, 1) := by decide +kernel
theorem dX10_between_30 : decode cX10_between 30 = .ok (.getfield 47, 3) := by decide +kernel
theorem dX10_between_33 : decode cX10_between 33 = .ok (.aload_n 2, 1) := by decide +kernel
theorem dX10_between_34 : decode cX10_between 34 = .ok (.invokevirtual 238, 3) := by decide +kernel
theorem dX10_between_37 : decode cX10_between 37 = .ok (.invokevirtual 241, 3) := by decide +kernel
theorem dX10_between_40 : decode cX10_between 40 = .ok (.aload_n 0, 1) := by decide +kernel
theorem dX10_between_41 : decode cX10_between 41 = .ok (.getfield 78, 3) := by decide +kernel
theorem dX10_between_44 : decode cX10_between 44 = .ok (.invokevirtual 251, 3) := by decide +kernel
theorem dX10_between_47 : decode cX10_between 47 = .ok (.ireturn, 1) := by decide +kernel
set_option maxRecDepth 20000 in
theorem ggX10_fewest_X10_isImage : GoodIn wsX10_fewest wsX10_isImage := goodIn_r _ [5] (by decide +kernel) (by decide +kernel)
set_option maxRecDepth 20000 in
theorem gX10_fewest_X10_isImage : GoodIn wsX10_fewest (va_wsS RX10 228 yX10_isImage wsX10_isImage) := goodIn_app (goodIn_of _ (by decide +kernel)) ggX10_fewest_X10_isImage
set_option maxRecDepth 20000 in
theorem ggX10_fewest_X10_imageOf : GoodIn wsX10_fewest wsX10_imageOf := goodIn_r _ [9, 10, 11, 57, 58, 59, 60, 61, 62, 63, 64, 65, 66, 67, 68, 69] (by decide +kernel) (by decide +kernel)
set_option maxRecDepth 20000 in
theorem gX10_fewest_X10_imageOf : GoodIn wsX10_fewest (wsV RX10 231 RX10 yX10_imageOf wsX10_imageOf) := goodIn_app (goodIn_of _ (by decide +kernel)) ggX10_fewest_X10_imageOf
set_option maxRecDepth 20000 in
theorem ggX10_fewest_X1_isKept : GoodIn wsX10_fewest wsX1_isKept := goodIn_r _ [16, 17, 70, 71, 72, 73] (by decide +kernel) (by decide +kernel)
set_option maxRecDepth 20000 in
theorem gX10_fewest_X1_isKept : GoodIn wsX10_fewest (wsV RX10 235 RX1 yX1_isKept wsX1_isKept) := goodIn_app (goodIn_of _ (by decide +kernel)) ggX10_fewest_X1_isKept
set_option maxRecDepth 20000 in
theorem ggX10_fewest_X1_standing : GoodIn wsX10_fewest wsX1_standing := goodIn_r _ [21, 22, 70, 71, 72, 73] (by decide +kernel) (by decide +kernel)
set_option maxRecDepth 20000 in
theorem gX10_fewest_X1_standing : GoodIn wsX10_fewest (wsV RX10 238 RX1 yX1_standing wsX1_standing) := goodIn_app (goodIn_of _ (by decide +kernel)) ggX10_fewest_X1_standing
set_option maxRecDepth 20000 in
theorem ggX10_fewest_X3_fewestGoings : GoodIn wsX10_fewest wsX3_fewestGoings := goodIn_r _ [26, 27, 28, 29, 30, 31, 32, 33, 34, 25, 35, 36, 37, 38, 39, 40, 41, 42, 43, 44, 45, 46, 47, 48, 49, 50, 51, 52, 53, 54, 55, 56, 74, 75, 76, 77, 78] (by decide +kernel) (by decide +kernel)
set_option maxRecDepth 20000 in
theorem gX10_fewest_X3_fewestGoings : GoodIn wsX10_fewest (va_wsS RX10 254 yX3_fewestGoings wsX3_fewestGoings) := goodIn_app (goodIn_of _ (by decide +kernel)) ggX10_fewest_X3_fewestGoings
theorem dX10_fewest_0 : decode cX10_fewest 0 = .ok (.iload_n 1, 1) := by decide +kernel
theorem dX10_fewest_1 : decode cX10_fewest 1 = .ok (.invokestatic 228, 3) := by decide +kernel
theorem dX10_fewest_4 : decode cX10_fewest 4 = .ok (.ifCond .ne 5, 3) := by decide +kernel
theorem dX10_fewest_7 : decode cX10_fewest 7 = .ok (.iconst (-1), 1) := by decide +kernel
theorem dX10_fewest_8 : decode cX10_fewest 8 = .ok (.ireturn, 1) := by decide +kernel
theorem dX10_fewest_9 : decode cX10_fewest 9 = .ok (.aload_n 0, 1) := by decide +kernel
theorem dX10_fewest_10 : decode cX10_fewest 10 = .ok (.iload_n 1, 1) := by decide +kernel
theorem dX10_fewest_11 : decode cX10_fewest 11 = .ok (.invokevirtual 231, 3) := by decide +kernel
theorem dX10_fewest_14 : decode cX10_fewest 14 = .ok (.astore_n 2, 1) := by decide +kernel
theorem dX10_fewest_15 : decode cX10_fewest 15 = .ok (.aload_n 2, 1) := by decide +kernel
theorem dX10_fewest_16 : decode cX10_fewest 16 = .ok (.invokevirtual 235, 3) := by decide +kernel
theorem dX10_fewest_19 : decode cX10_fewest 19 = .ok (.ifCond .ne 6, 3) := by decide +kernel
theorem dX10_fewest_22 : decode cX10_fewest 22 = .ok (.bipush (-2), 2) := by decide +kernel
theorem dX10_fewest_24 : decode cX10_fewest 24 = .ok (.ireturn, 1) := by decide +kernel
theorem dX10_fewest_25 : decode cX10_fewest 25 = .ok (.aload_n 0, 1) := by decide +kernel
theorem dX10_fewest_26 : decode cX10_fewest 26 = .ok (.getfield 47, 3) := by decide +kernel
theorem dX10_fewest_29 : decode cX10_fewest 29 = .ok (.aload_n 2, 1) := by decide +kernel
theorem dX10_fewest_30 : decode cX10_fewest 30 = .ok (.invokevirtual 238, 3) := by decide +kernel
theorem dX10_fewest_33 : decode cX10_fewest 33 = .ok (.invokestatic 254, 3) := by decide +kernel
theorem dX10_fewest_36 : decode cX10_fewest 36 = .ok (.ireturn, 1) := by decide +kernel
set_option maxRecDepth 20000 in
theorem ggX10_best_X5_guests : GoodIn wsX10_best wsX5_guests := goodIn_r _ [8, 9, 120, 121, 122, 123, 124, 125] (by decide +kernel) (by decide +kernel)
set_option maxRecDepth 20000 in
theorem gX10_best_X5_guests : GoodIn wsX10_best (wsV RX10 93 RX5 yX5_guests wsX5_guests) := goodIn_app (goodIn_of _ (by decide +kernel)) ggX10_best_X5_guests
set_option maxRecDepth 20000 in
theorem ggX10_best_X9_total : GoodIn wsX10_best wsX9_total := goodIn_r _ [14, 15, 16, 17, 18, 13, 19, 20, 21, 22, 23, 24, 25, 26, 27, 28, 5, 6, 7, 8, 9, 29, 30, 31, 32, 33, 34, 35, 36, 37, 38, 39, 40, 41, 42, 43, 44, 45, 46, 47, 48, 49, 50, 51, 52, 53, 54, 55, 56, 57, 58, 59, 60, 61, 62, 63, 64, 65, 66, 67, 68, 69, 70, 71, 72, 73, 74, 75, 76, 77, 78, 79, 80, 81, 82, 83, 84, 85, 86, 87, 88, 89, 90, 91, 92, 93, 94, 126, 127, 128, 129, 130, 131, 132, 133, 120, 121, 122, 123, 124, 125] (by decide +kernel) (by decide +kernel)
set_option maxRecDepth 20000 in
theorem gX10_best_X9_total : GoodIn wsX10_best (wsV RX10 185 RX9 yX9_total wsX9_total) := goodIn_app (goodIn_of _ (by decide +kernel)) ggX10_best_X9_total
set_option maxRecDepth 20000 in
theorem ggX10_best_X9_greatestWorth : GoodIn wsX10_best wsX9_greatestWorth := goodIn_r _ [98, 33, 16, 17, 18, 13, 19, 20, 15, 21, 22, 23, 24, 25, 26, 27, 28, 5, 6, 7, 8, 9, 29, 30, 31, 32, 34, 35, 36, 37, 38, 39, 40, 41, 42, 43, 44, 45, 46, 47, 48, 49, 50, 51, 52, 53, 54, 55, 56, 57, 58, 59, 60, 61, 62, 63, 64, 65, 66, 67, 68, 69, 70, 71, 72, 73, 74, 75, 76, 77, 78, 79, 80, 81, 82, 83, 84, 85, 86, 87, 88, 89, 90, 91, 92, 93, 94, 126, 127, 128, 129, 130, 131, 132, 133, 120, 121, 122, 123, 124, 125] (by decide +kernel) (by decide +kernel)
set_option maxRecDepth 20000 in
theorem gX10_best_X9_greatestWorth : GoodIn wsX10_best (wsV RX10 258 RX9 yX9_greatestWorth wsX9_greatestWorth) := goodIn_app (goodIn_of _ (by decide +kernel)) ggX10_best_X9_greatestWorth
set_option maxRecDepth 20000 in
theorem ggX10_best_X9_worthiestCode : GoodIn wsX10_best wsX9_worthiestCode := goodIn_r _ [102, 34, 16, 17, 18, 13, 19, 20, 15, 21, 22, 23, 24, 25, 26, 27, 28, 5, 6, 7, 8, 9, 29, 30, 31, 32, 33, 35, 36, 37, 38, 39, 40, 41, 42, 43, 44, 45, 46, 47, 48, 49, 50, 51, 52, 53, 54, 55, 56, 57, 58, 59, 60, 61, 62, 63, 64, 65, 66, 67, 68, 69, 70, 71, 72, 73, 74, 75, 76, 77, 78, 79, 80, 81, 82, 83, 84, 85, 86, 87, 88, 89, 90, 91, 92, 93, 94, 126, 127, 128, 129, 130, 131, 132, 133, 120, 121, 122, 123, 124, 125] (by decide +kernel) (by decide +kernel)
set_option maxRecDepth 20000 in
theorem gX10_best_X9_worthiestCode : GoodIn wsX10_best (wsV RX10 261 RX9 yX9_worthiestCode wsX9_worthiestCode) := goodIn_app (goodIn_of _ (by decide +kernel)) ggX10_best_X9_worthiestCode
set_option maxRecDepth 20000 in
theorem ggX10_best_X7_partyIn : GoodIn wsX10_best wsX7_partyIn := goodIn_r _ [105, 106, 92, 93, 94] (by decide +kernel) (by decide +kernel)
set_option maxRecDepth 20000 in
theorem gX10_best_X7_partyIn : GoodIn wsX10_best (va_wsS RX10 194 yX7_partyIn wsX7_partyIn) := goodIn_app (goodIn_of _ (by decide +kernel)) ggX10_best_X7_partyIn
theorem dX10_best_0 : decode cX10_best 0 = .ok (.iload_n 1, 1) := by decide +kernel
theorem dX10_best_1 : decode cX10_best 1 = .ok (.iconst (-1), 1) := by decide +kernel
theorem dX10_best_2 : decode cX10_best 2 = .ok (.if_icmp .lt 24, 3) := by decide +kernel
theorem dX10_best_5 : decode cX10_best 5 = .ok (.iload_n 1, 1) := by decide +kernel
theorem dX10_best_6 : decode cX10_best 6 = .ok (.aload_n 0, 1) := by decide +kernel
theorem dX10_best_7 : decode cX10_best 7 = .ok (.getfield 10, 3) := by decide +kernel
theorem dX10_best_10 : decode cX10_best 10 = .ok (.invokevirtual 93, 3) := by decide +kernel
theorem dX10_best_13 : decode cX10_best 13 = .ok (.if_icmp .ge 13, 3) := by decide +kernel
theorem dX10_best_16 : decode cX10_best 16 = .ok (.aload_n 0, 1) := by decide +kernel
theorem dX10_best_17 : decode cX10_best 17 = .ok (.getfield 40, 3) := by decide +kernel
theorem dX10_best_20 : decode cX10_best 20 = .ok (.invokevirtual 185, 3) := by decide +kernel
theorem dX10_best_23 : decode cX10_best 23 = .ok (.ifCond .ne 6, 3) := by decide +kernel
theorem dX10_best_26 : decode cX10_best 26 = .ok (.ldc 133, 2) := by decide +kernel
theorem dX10_best_28 : decode cX10_best 28 = .ok (.ireturn, 1) := by decide +kernel
theorem dX10_best_29 : decode cX10_best 29 = .ok (.iload_n 1, 1) := by decide +kernel
theorem dX10_best_30 : decode cX10_best 30 = .ok (.iconst (-1), 1) := by decide +kernel
theorem dX10_best_31 : decode cX10_best 31 = .ok (.if_icmp .ne 13, 3) := by decide +kernel
theorem dX10_best_34 : decode cX10_best 34 = .ok (.aload_n 0, 1) := by decide +kernel
theorem dX10_best_35 : decode cX10_best 35 = .ok (.getfield 40, 3) := by decide +kernel
theorem dX10_best_38 : decode cX10_best 38 = .ok (.invokevirtual 258, 3) := by decide +kernel
theorem dX10_best_41 : decode cX10_best 41 = .ok (.goto 14, 3) := by decide +kernel
theorem dX10_best_44 : decode cX10_best 44 = .ok (.aload_n 0, 1) := by decide +kernel
theorem dX10_best_45 : decode cX10_best 45 = .ok (.getfield 40, 3) := by decide +kernel
theorem dX10_best_48 : decode cX10_best 48 = .ok (.invokevirtual 261, 3) := by decide +kernel
theorem dX10_best_51 : decode cX10_best 51 = .ok (.iload_n 1, 1) := by decide +kernel
theorem dX10_best_52 : decode cX10_best 52 = .ok (.invokestatic 194, 3) := by decide +kernel
theorem dX10_best_55 : decode cX10_best 55 = .ok (.ireturn, 1) := by decide +kernel
set_option maxRecDepth 20000 in
theorem ggX10_leaving_X5_guests : GoodIn wsX10_leaving wsX5_guests := goodIn_r _ [8, 9, 118, 119, 120, 121, 122, 123] (by decide +kernel) (by decide +kernel)
set_option maxRecDepth 20000 in
theorem gX10_leaving_X5_guests : GoodIn wsX10_leaving (wsV RX10 93 RX5 yX5_guests wsX5_guests) := goodIn_app (goodIn_of _ (by decide +kernel)) ggX10_leaving_X5_guests
set_option maxRecDepth 20000 in
theorem ggX10_leaving_X0_run : GoodIn wsX10_leaving wsX0_run := goodIn_r _ [14, 15, 16, 17, 18, 19, 20, 21, 22, 23, 24, 25, 26, 27, 28, 29, 30, 31, 32, 33, 34, 35, 36, 37, 38, 39, 40, 41, 42, 43, 44, 45, 46, 47, 48, 49, 50, 51, 52, 53, 54, 55, 56, 57, 5, 6, 7, 8, 9, 58, 59, 60, 13, 61, 62, 63, 64, 65, 66, 67, 68, 69, 70, 71, 72, 73, 74, 75, 76, 77, 78, 79, 80, 81, 82, 83, 84, 85, 86, 87, 88, 89, 90, 91, 124, 125, 126, 127, 128, 129, 130, 118, 119, 120, 121, 122, 123] (by decide +kernel) (by decide +kernel)
set_option maxRecDepth 20000 in
theorem gX10_leaving_X0_run : GoodIn wsX10_leaving (wsV RX10 264 RX0 yX0_run wsX0_run) := goodIn_app (goodIn_of _ (by decide +kernel)) ggX10_leaving_X0_run
set_option maxRecDepth 20000 in
theorem ggX10_leaving_X0_standing : GoodIn wsX10_leaving wsX0_standing := goodIn_r _ [95, 15, 124, 125] (by decide +kernel) (by decide +kernel)
set_option maxRecDepth 20000 in
theorem gX10_leaving_X0_standing : GoodIn wsX10_leaving (wsV RX10 268 RX0 yX0_standing wsX0_standing) := goodIn_app (goodIn_of _ (by decide +kernel)) ggX10_leaving_X0_standing
set_option maxRecDepth 20000 in
theorem ggX10_leaving_X7_partyOf : GoodIn wsX10_leaving wsX7_partyOf := goodIn_r _ [34, 22, 35, 126, 127, 128, 129, 130] (by decide +kernel) (by decide +kernel)
set_option maxRecDepth 20000 in
theorem gX10_leaving_X7_partyOf : GoodIn wsX10_leaving (wsV RX10 147 RX7 yX7_partyOf wsX7_partyOf) := goodIn_app (goodIn_of _ (by decide +kernel)) ggX10_leaving_X7_partyOf
set_option maxRecDepth 20000 in
theorem ggX10_leaving_X0_hasStopped : GoodIn wsX10_leaving wsX0_hasStopped := goodIn_r _ [100, 16, 124, 125] (by decide +kernel) (by decide +kernel)
set_option maxRecDepth 20000 in
theorem gX10_leaving_X0_hasStopped : GoodIn wsX10_leaving (wsV RX10 269 RX0 yX0_hasStopped wsX0_hasStopped) := goodIn_app (goodIn_of _ (by decide +kernel)) ggX10_leaving_X0_hasStopped
set_option maxRecDepth 20000 in
theorem ggX10_leaving_X0_goings : GoodIn wsX10_leaving wsX0_goings := goodIn_r _ [104, 16, 124, 125] (by decide +kernel) (by decide +kernel)
set_option maxRecDepth 20000 in
theorem gX10_leaving_X0_goings : GoodIn wsX10_leaving (wsV RX10 272 RX0 yX0_goings wsX0_goings) := goodIn_app (goodIn_of _ (by decide +kernel)) ggX10_leaving_X0_goings
theorem dX10_leaving_0 : decode cX10_leaving 0 = .ok (.iload_n 1, 1) := by decide +kernel
theorem dX10_leaving_1 : decode cX10_leaving 1 = .ok (.iconst (-1), 1) := by decide +kernel
theorem dX10_leaving_2 : decode cX10_leaving 2 = .ok (.if_icmp .lt 14, 3) := by decide +kernel
theorem dX10_leaving_5 : decode cX10_leaving 5 = .ok (.iload_n 1, 1) := by decide +kernel
theorem dX10_leaving_6 : decode cX10_leaving 6 = .ok (.aload_n 0, 1) := by decide +kernel
theorem dX10_leaving_7 : decode cX10_leaving 7 = .ok (.getfield 10, 3) := by decide +kernel
theorem dX10_leaving_10 : decode cX10_leaving 10 = .ok (.invokevirtual 93, 3) := by decide +kernel
theorem dX10_leaving_13 : decode cX10_leaving 13 = .ok (.if_icmp .lt 5, 3) := by decide +kernel
theorem dX10_leaving_16 : decode cX10_leaving 16 = .ok (.iconst (-1), 1) := by decide +kernel
theorem dX10_leaving_17 : decode cX10_leaving 17 = .ok (.ireturn, 1) := by decide +kernel
theorem dX10_leaving_18 : decode cX10_leaving 18 = .ok (.aload_n 0, 1) := by decide +kernel
theorem dX10_leaving_19 : decode cX10_leaving 19 = .ok (.getfield 85, 3) := by decide +kernel
theorem dX10_leaving_22 : decode cX10_leaving 22 = .ok (.aload_n 0, 1) := by decide +kernel
theorem dX10_leaving_23 : decode cX10_leaving 23 = .ok (.getfield 10, 3) := by decide +kernel
theorem dX10_leaving_26 : decode cX10_leaving 26 = .ok (.aload_n 0, 1) := by decide +kernel
theorem dX10_leaving_27 : decode cX10_leaving 27 = .ok (.getfield 47, 3) := by decide +kernel
theorem dX10_leaving_30 : decode cX10_leaving 30 = .ok (.invokevirtual 264, 3) := by decide +kernel
theorem dX10_leaving_33 : decode cX10_leaving 33 = .ok (.iload_n 1, 1) := by decide +kernel
theorem dX10_leaving_34 : decode cX10_leaving 34 = .ok (.ifCond .lt 15, 3) := by decide +kernel
theorem dX10_leaving_37 : decode cX10_leaving 37 = .ok (.aload_n 0, 1) := by decide +kernel
theorem dX10_leaving_38 : decode cX10_leaving 38 = .ok (.getfield 85, 3) := by decide +kernel
theorem dX10_leaving_41 : decode cX10_leaving 41 = .ok (.invokevirtual 268, 3) := by decide +kernel
theorem dX10_leaving_44 : decode cX10_leaving 44 = .ok (.iload_n 1, 1) := by decide +kernel
theorem dX10_leaving_45 : decode cX10_leaving 45 = .ok (.invokevirtual 147, 3) := by decide +kernel
theorem dX10_leaving_48 : decode cX10_leaving 48 = .ok (.ireturn, 1) := by decide +kernel
theorem dX10_leaving_49 : decode cX10_leaving 49 = .ok (.aload_n 0, 1) := by decide +kernel
theorem dX10_leaving_50 : decode cX10_leaving 50 = .ok (.getfield 85, 3) := by decide +kernel
theorem dX10_leaving_53 : decode cX10_leaving 53 = .ok (.invokevirtual 269, 3) := by decide +kernel
theorem dX10_leaving_56 : decode cX10_leaving 56 = .ok (.ifCond .eq 13, 3) := by decide +kernel
theorem dX10_leaving_59 : decode cX10_leaving 59 = .ok (.aload_n 0, 1) := by decide +kernel
theorem dX10_leaving_60 : decode cX10_leaving 60 = .ok (.getfield 85, 3) := by decide +kernel
theorem dX10_leaving_63 : decode cX10_leaving 63 = .ok (.invokevirtual 272, 3) := by decide +kernel
theorem dX10_leaving_66 : decode cX10_leaving 66 = .ok (.goto 5, 3) := by decide +kernel
theorem dX10_leaving_69 : decode cX10_leaving 69 = .ok (.bipush (-9), 2) := by decide +kernel
theorem dX10_leaving_71 : decode cX10_leaving 71 = .ok (.ireturn, 1) := by decide +kernel
set_option maxRecDepth 20000 in
theorem ggX10_evening_X5_guests : GoodIn wsX10_evening wsX5_guests := goodIn_r _ [8, 9, 75, 76, 77, 78, 79, 80] (by decide +kernel) (by decide +kernel)
set_option maxRecDepth 20000 in
theorem gX10_evening_X5_guests : GoodIn wsX10_evening (wsV RX10 93 RX5 yX5_guests wsX5_guests) := goodIn_app (goodIn_of _ (by decide +kernel)) ggX10_evening_X5_guests
set_option maxRecDepth 20000 in
theorem ggX10_evening_X2_nextBelow : GoodIn wsX10_evening wsX2_nextBelow := goodIn_r _ [14, 15, 16, 81] (by decide +kernel) (by decide +kernel)
set_option maxRecDepth 20000 in
theorem gX10_evening_X2_nextBelow : GoodIn wsX10_evening (wsV RX10 197 RX2 yX2_nextBelow wsX2_nextBelow) := goodIn_app (goodIn_of _ (by decide +kernel)) ggX10_evening_X2_nextBelow
set_option maxRecDepth 20000 in
theorem ggX10_evening_X7_sendTo : GoodIn wsX10_evening wsX7_sendTo := goodIn_r _ [21, 22, 23, 24, 20, 25, 26, 27, 28, 29, 30, 31, 32, 33, 34, 35, 36, 37, 38, 39, 40, 41, 42, 43, 44, 45, 46, 82, 83, 84, 85, 86] (by decide +kernel) (by decide +kernel)
set_option maxRecDepth 20000 in
theorem gX10_evening_X7_sendTo : GoodIn wsX10_evening (wsV RX10 153 RX7 yX7_sendTo wsX7_sendTo) := goodIn_app (goodIn_of _ (by decide +kernel)) ggX10_evening_X7_sendTo
set_option maxRecDepth 20000 in
theorem ggX10_evening_X7_loners : GoodIn wsX10_evening wsX7_loners := goodIn_r _ [50, 41, 51, 52, 53, 20, 54, 42, 55, 56, 57, 58, 59, 60, 61, 82, 83, 84, 85, 86] (by decide +kernel) (by decide +kernel)
set_option maxRecDepth 20000 in
theorem gX10_evening_X7_loners : GoodIn wsX10_evening (wsV RX10 182 RX7 yX7_loners wsX7_loners) := goodIn_app (goodIn_of _ (by decide +kernel)) ggX10_evening_X7_loners
theorem dX10_evening_0 : decode cX10_evening 0 = .ok (.iload_n 1, 1) := by decide +kernel
theorem dX10_evening_1 : decode cX10_evening 1 = .ok (.iconst 1, 1) := by decide +kernel
theorem dX10_evening_2 : decode cX10_evening 2 = .ok (.if_icmp .lt 9, 3) := by decide +kernel
theorem dX10_evening_5 : decode cX10_evening 5 = .ok (.iload_n 1, 1) := by decide +kernel
theorem dX10_evening_6 : decode cX10_evening 6 = .ok (.bipush 99, 2) := by decide +kernel
theorem dX10_evening_8 : decode cX10_evening 8 = .ok (.if_icmp .le 5, 3) := by decide +kernel
theorem dX10_evening_11 : decode cX10_evening 11 = .ok (.iconst (-1), 1) := by decide +kernel
theorem dX10_evening_12 : decode cX10_evening 12 = .ok (.ireturn, 1) := by decide +kernel
theorem dX10_evening_13 : decode cX10_evening 13 = .ok (.aload_n 0, 1) := by decide +kernel
theorem dX10_evening_14 : decode cX10_evening 14 = .ok (.getfield 10, 3) := by decide +kernel
theorem dX10_evening_17 : decode cX10_evening 17 = .ok (.invokevirtual 93, 3) := by decide +kernel
theorem dX10_evening_20 : decode cX10_evening 20 = .ok (.istore_n 2, 1) := by decide +kernel
theorem dX10_evening_21 : decode cX10_evening 21 = .ok (.iconst 0, 1) := by decide +kernel
theorem dX10_evening_22 : decode cX10_evening 22 = .ok (.istore_n 3, 1) := by decide +kernel
theorem dX10_evening_23 : decode cX10_evening 23 = .ok (.iconst 0, 1) := by decide +kernel
theorem dX10_evening_24 : decode cX10_evening 24 = .ok (.istore 4, 2) := by decide +kernel
theorem dX10_evening_26 : decode cX10_evening 26 = .ok (.iload 4, 2) := by decide +kernel
theorem dX10_evening_28 : decode cX10_evening 28 = .ok (.iload_n 1, 1) := by decide +kernel
theorem dX10_evening_29 : decode cX10_evening 29 = .ok (.if_icmp .ge 53, 3) := by decide +kernel
theorem dX10_evening_32 : decode cX10_evening 32 = .ok (.aload_n 0, 1) := by decide +kernel
theorem dX10_evening_33 : decode cX10_evening 33 = .ok (.getfield 61, 3) := by decide +kernel
theorem dX10_evening_36 : decode cX10_evening 36 = .ok (.iload_n 2, 1) := by decide +kernel
theorem dX10_evening_37 : decode cX10_evening 37 = .ok (.invokevirtual 197, 3) := by decide +kernel
theorem dX10_evening_40 : decode cX10_evening 40 = .ok (.istore 5, 2) := by decide +kernel
theorem dX10_evening_42 : decode cX10_evening 42 = .ok (.aload_n 0, 1) := by decide +kernel
theorem dX10_evening_43 : decode cX10_evening 43 = .ok (.getfield 61, 3) := by decide +kernel
theorem dX10_evening_46 : decode cX10_evening 46 = .ok (.iload_n 2, 1) := by decide +kernel
theorem dX10_evening_47 : decode cX10_evening 47 = .ok (.invokevirtual 197, 3) := by decide +kernel
theorem dX10_evening_50 : decode cX10_evening 50 = .ok (.istore 6, 2) := by decide +kernel
theorem dX10_evening_52 : decode cX10_evening 52 = .ok (.aload_n 0, 1) := by decide +kernel
theorem dX10_evening_53 : decode cX10_evening 53 = .ok (.getfield 47, 3) := by decide +kernel
theorem dX10_evening_56 : decode cX10_evening 56 = .ok (.iload 5, 2) := by decide +kernel
theorem dX10_evening_58 : decode cX10_evening 58 = .ok (.iload 6, 2) := by decide +kernel
theorem dX10_evening_60 : decode cX10_evening 60 = .ok (.invokevirtual 153, 3) := by decide +kernel
theorem dX10_evening_63 : decode cX10_evening 63 = .ok (.aload_n 0, 1) := by decide +kernel
theorem dX10_evening_64 : decode cX10_evening 64 = .ok (.getfield 47, 3) := by decide +kernel
theorem dX10_evening_67 : decode cX10_evening 67 = .ok (.invokevirtual 182, 3) := by decide +kernel
theorem dX10_evening_70 : decode cX10_evening 70 = .ok (.ifCond .le 6, 3) := by decide +kernel
theorem dX10_evening_73 : decode cX10_evening 73 = .ok (.iinc 3 1, 3) := by decide +kernel
theorem dX10_evening_76 : decode cX10_evening 76 = .ok (.iinc 4 1, 3) := by decide +kernel
theorem dX10_evening_79 : decode cX10_evening 79 = .ok (.goto (-53), 3) := by decide +kernel
theorem dX10_evening_82 : decode cX10_evening 82 = .ok (.iload_n 3, 1) := by decide +kernel
theorem dX10_evening_83 : decode cX10_evening 83 = .ok (.ireturn, 1) := by decide +kernel
set_option maxRecDepth 20000 in
theorem ggX10_rate_X10_isGuest : GoodIn wsX10_rate wsX10_isGuest := goodIn_r _ [6, 7, 8, 9, 10, 11, 12, 13, 82, 83, 84, 85, 86, 87, 88, 89, 90, 91, 92, 93, 94, 95, 96, 97, 98, 99, 100] (by decide +kernel) (by decide +kernel)
set_option maxRecDepth 20000 in
theorem gX10_rate_X10_isGuest : GoodIn wsX10_rate (wsV RX10 144 RX10 yX10_isGuest wsX10_isGuest) := goodIn_app (goodIn_of _ (by decide +kernel)) ggX10_rate_X10_isGuest
set_option maxRecDepth 20000 in
theorem ggX10_rate_X10_rateAsGuest : GoodIn wsX10_rate wsX10_rateAsGuest := goodIn_r _ [17, 18, 19, 20, 21, 22, 23, 24, 25, 26, 27, 28, 29, 30, 31, 32, 33, 34, 35, 36, 37, 38, 39, 82, 83, 84, 85, 86, 87, 88, 89, 90, 91, 92, 93, 94, 101, 102, 103, 104, 105] (by decide +kernel) (by decide +kernel)
set_option maxRecDepth 20000 in
theorem gX10_rate_X10_rateAsGuest : GoodIn wsX10_rate (wsV RX10 275 RX10 yX10_rateAsGuest wsX10_rateAsGuest) := goodIn_app (goodIn_of _ (by decide +kernel)) ggX10_rate_X10_rateAsGuest
set_option maxRecDepth 20000 in
theorem ggX10_rate_X10_rateAsTalker : GoodIn wsX10_rate wsX10_rateAsTalker := goodIn_r _ [43, 18, 44, 7, 19, 14, 15, 16, 5, 17, 20, 21, 22, 23, 24, 25, 26, 27, 28, 29, 30, 31, 32, 33, 34, 35, 36, 37, 38, 39, 45, 46, 47, 11, 48, 13, 49, 50, 51, 52, 82, 83, 84, 85, 86, 87, 88, 89, 90, 91, 92, 93, 94, 101, 102, 103, 104, 105, 95, 96, 97, 98, 99, 100] (by decide +kernel) (by decide +kernel)
set_option maxRecDepth 20000 in
theorem gX10_rate_X10_rateAsTalker : GoodIn wsX10_rate (wsV RX10 278 RX10 yX10_rateAsTalker wsX10_rateAsTalker) := goodIn_app (goodIn_of _ (by decide +kernel)) ggX10_rate_X10_rateAsTalker
set_option maxRecDepth 20000 in
theorem ggX10_rate_X10_rateAsListener : GoodIn wsX10_rate wsX10_rateAsListener := goodIn_r _ [56, 18, 57, 7, 14, 15, 16, 5, 17, 19, 20, 21, 22, 23, 24, 25, 26, 27, 28, 29, 30, 31, 32, 33, 34, 35, 36, 37, 38, 39, 58, 59, 60, 11, 61, 62, 50, 51, 52, 82, 83, 84, 85, 86, 87, 88, 89, 90, 91, 92, 93, 94, 101, 102, 103, 104, 105, 95, 96, 97, 98, 99, 100] (by decide +kernel) (by decide +kernel)
set_option maxRecDepth 20000 in
theorem gX10_rate_X10_rateAsListener : GoodIn wsX10_rate (wsV RX10 281 RX10 yX10_rateAsListener wsX10_rateAsListener) := goodIn_app (goodIn_of _ (by decide +kernel)) ggX10_rate_X10_rateAsListener
set_option maxRecDepth 20000 in
theorem ggX10_rate_X10_rateAsSinger : GoodIn wsX10_rate wsX10_rateAsSinger := goodIn_r _ [66, 18, 67, 40, 41, 42, 5, 43, 44, 7, 19, 14, 15, 16, 17, 20, 21, 22, 23, 24, 25, 26, 27, 28, 29, 30, 31, 32, 33, 34, 35, 36, 37, 38, 39, 45, 46, 47, 11, 48, 13, 49, 50, 51, 52, 82, 83, 84, 85, 86, 87, 88, 89, 90, 91, 92, 93, 94, 101, 102, 103, 104, 105, 95, 96, 97, 98, 99, 100] (by decide +kernel) (by decide +kernel)
set_option maxRecDepth 20000 in
theorem gX10_rate_X10_rateAsSinger : GoodIn wsX10_rate (wsV RX10 284 RX10 yX10_rateAsSinger wsX10_rateAsSinger) := goodIn_app (goodIn_of _ (by decide +kernel)) ggX10_rate_X10_rateAsSinger
set_option maxRecDepth 20000 in
theorem ggX10_rate_X10_rateAsDog : GoodIn wsX10_rate wsX10_rateAsDog := goodIn_r _ [71, 18, 72, 19, 53, 54, 55, 5, 56, 57, 7, 14, 15, 16, 17, 20, 21, 22, 23, 24, 25, 26, 27, 28, 29, 30, 31, 32, 33, 34, 35, 36, 37, 38, 39, 58, 59, 60, 11, 61, 62, 50, 51, 52, 82, 83, 84, 85, 86, 87, 88, 89, 90, 91, 92, 93, 94, 101, 102, 103, 104, 105, 95, 96, 97, 98, 99, 100] (by decide +kernel) (by decide +kernel)
set_option maxRecDepth 20000 in
theorem gX10_rate_X10_rateAsDog : GoodIn wsX10_rate (wsV RX10 287 RX10 yX10_rateAsDog wsX10_rateAsDog) := goodIn_app (goodIn_of _ (by decide +kernel)) ggX10_rate_X10_rateAsDog
set_option maxRecDepth 20000 in
theorem ggX10_rate_X10_rateAsHostess : GoodIn wsX10_rate wsX10_rateAsHostess := goodIn_r _ [76, 18, 77, 19, 14, 15, 16, 5, 17, 20, 21, 22, 23, 24, 25, 26, 27, 28, 29, 30, 31, 32, 33, 34, 35, 36, 37, 38, 39, 78, 79, 80, 81, 82, 83, 84, 85, 86, 87, 88, 89, 90, 91, 92, 93, 94, 101, 102, 103, 104, 105] (by decide +kernel) (by decide +kernel)
set_option maxRecDepth 20000 in
theorem gX10_rate_X10_rateAsHostess : GoodIn wsX10_rate (wsV RX10 290 RX10 yX10_rateAsHostess wsX10_rateAsHostess) := goodIn_app (goodIn_of _ (by decide +kernel)) ggX10_rate_X10_rateAsHostess
