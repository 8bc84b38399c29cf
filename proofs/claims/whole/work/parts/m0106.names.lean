theorem dX11_readsItem_38 : decode cX11_readsItem 38 = .ok (.getfield 13, 3) := by decide +kernel
theorem dX11_readsItem_41 : decode cX11_readsItem 41 = .ok (.bipush 94, 2) := by decide +kernel
theorem dX11_readsItem_43 : decode cX11_readsItem 43 = .ok (.iaload, 1) := by decide +kernel
theorem dX11_readsItem_44 : decode cX11_readsItem 44 = .ok (.iconst 1, 1) := by decide +kernel
theorem dX11_readsItem_45 : decode cX11_readsItem 45 = .ok (.isub, 1) := by decide +kernel
theorem dX11_readsItem_46 : decode cX11_readsItem 46 = .ok (.invokevirtual 102, 3) := by decide +kernel
theorem dX11_readsItem_49 : decode cX11_readsItem 49 = .ok (.istore_n 2, 1) := by decide +kernel
theorem dX11_readsItem_50 : decode cX11_readsItem 50 = .ok (.aload_n 0, 1) := by decide +kernel
theorem dX11_readsItem_51 : decode cX11_readsItem 51 = .ok (.iconst 0, 1) := by decide +kernel
theorem dX11_readsItem_52 : decode cX11_readsItem 52 = .ok (.iconst 5, 1) := by decide +kernel
theorem dX11_readsItem_53 : decode cX11_readsItem 53 = .ok (.invokevirtual 102, 3) := by decide +kernel
theorem dX11_readsItem_56 : decode cX11_readsItem 56 = .ok (.istore_n 3, 1) := by decide +kernel
theorem dX11_readsItem_57 : decode cX11_readsItem 57 = .ok (.aload_n 0, 1) := by decide +kernel
theorem dX11_readsItem_58 : decode cX11_readsItem 58 = .ok (.invokevirtual 91, 3) := by decide +kernel
theorem dX11_readsItem_61 : decode cX11_readsItem 61 = .ok (.ifCond .eq 13, 3) := by decide +kernel
theorem dX11_readsItem_64 : decode cX11_readsItem 64 = .ok (.aload_n 0, 1) := by decide +kernel
theorem dX11_readsItem_65 : decode cX11_readsItem 65 = .ok (.getfield 13, 3) := by decide +kernel
theorem dX11_readsItem_68 : decode cX11_readsItem 68 = .ok (.bipush 95, 2) := by decide +kernel
theorem dX11_readsItem_70 : decode cX11_readsItem 70 = .ok (.iload_n 2, 1) := by decide +kernel
theorem dX11_readsItem_71 : decode cX11_readsItem 71 = .ok (.iadd, 1) := by decide +kernel
theorem dX11_readsItem_72 : decode cX11_readsItem 72 = .ok (.iload_n 3, 1) := by decide +kernel
theorem dX11_readsItem_73 : decode cX11_readsItem 73 = .ok (.iastore, 1) := by decide +kernel
theorem dX11_readsItem_74 : decode cX11_readsItem 74 = .ok (.goto 55, 3) := by decide +kernel
theorem dX11_readsItem_77 : decode cX11_readsItem 77 = .ok (.iload_n 1, 1) := by decide +kernel
theorem dX11_readsItem_78 : decode cX11_readsItem 78 = .ok (.iconst 5, 1) := by decide +kernel
theorem dX11_readsItem_79 : decode cX11_readsItem 79 = .ok (.if_icmp .ge 24, 3) := by decide +kernel
theorem dX11_readsItem_82 : decode cX11_readsItem 82 = .ok (.aload_n 0, 1) := by decide +kernel
theorem dX11_readsItem_83 : decode cX11_readsItem 83 = .ok (.getfield 13, 3) := by decide +kernel
theorem dX11_readsItem_86 : decode cX11_readsItem 86 = .ok (.bipush 103, 2) := by decide +kernel
theorem dX11_readsItem_88 : decode cX11_readsItem 88 = .ok (.iload_n 1, 1) := by decide +kernel
theorem dX11_readsItem_89 : decode cX11_readsItem 89 = .ok (.iadd, 1) := by decide +kernel
theorem dX11_readsItem_90 : decode cX11_readsItem 90 = .ok (.iconst 2, 1) := by decide +kernel
theorem dX11_readsItem_91 : decode cX11_readsItem 91 = .ok (.isub, 1) := by decide +kernel
theorem dX11_readsItem_92 : decode cX11_readsItem 92 = .ok (.aload_n 0, 1) := by decide +kernel
theorem dX11_readsItem_93 : decode cX11_readsItem 93 = .ok (.iconst 1, 1) := by decide +kernel
theorem dX11_readsItem_94 : decode cX11_readsItem 94 = .ok (.bipush 8, 2) := by decide +kernel
theorem dX11_readsItem_96 : decode cX11_readsItem 96 = .ok (.invokevirtual 102, 3) := by decide +kernel
theorem dX11_readsItem_99 : decode cX11_readsItem 99 = .ok (.iastore, 1) := by decide +kernel
theorem dX11_readsItem_100 : decode cX11_readsItem 100 = .ok (.goto 29, 3) := by decide +kernel
theorem dX11_readsItem_103 : decode cX11_readsItem 103 = .ok (.iload_n 1, 1) := by decide +kernel
theorem dX11_readsItem_104 : decode cX11_readsItem 104 = .ok (.bipush 7, 2) := by decide +kernel
theorem dX11_readsItem_106 : decode cX11_readsItem 106 = .ok (.if_icmp .ge 18, 3) := by decide +kernel
theorem dX11_readsItem_109 : decode cX11_readsItem 109 = .ok (.aload_n 0, 1) := by decide +kernel
theorem dX11_readsItem_110 : decode cX11_readsItem 110 = .ok (.getfield 13, 3) := by decide +kernel
theorem dX11_readsItem_113 : decode cX11_readsItem 113 = .ok (.bipush 103, 2) := by decide +kernel
theorem dX11_readsItem_115 : decode cX11_readsItem 115 = .ok (.iload_n 1, 1) := by decide +kernel
theorem dX11_readsItem_116 : decode cX11_readsItem 116 = .ok (.iadd, 1) := by decide +kernel
theorem dX11_readsItem_117 : decode cX11_readsItem 117 = .ok (.iconst 2, 1) := by decide +kernel
theorem dX11_readsItem_118 : decode cX11_readsItem 118 = .ok (.isub, 1) := by decide +kernel
theorem dX11_readsItem_119 : decode cX11_readsItem 119 = .ok (.iconst 1, 1) := by decide +kernel
theorem dX11_readsItem_120 : decode cX11_readsItem 120 = .ok (.iastore, 1) := by decide +kernel
theorem dX11_readsItem_121 : decode cX11_readsItem 121 = .ok (.goto 8, 3) := by decide +kernel
theorem dX11_readsItem_124 : decode cX11_readsItem 124 = .ok (.aload_n 0, 1) := by decide +kernel
theorem dX11_readsItem_125 : decode cX11_readsItem 125 = .ok (.iload_n 1, 1) := by decide +kernel
theorem dX11_readsItem_126 : decode cX11_readsItem 126 = .ok (.invokevirtual 106, 3) := by decide +kernel
theorem dX11_readsItem_129 : decode cX11_readsItem 129 = .ok (.return_, 1) := by decide +kernel
set_option maxRecDepth 20000 in
theorem ggX11_room_X11_drafts : GoodIn wsX11_room wsX11_drafts := goodIn_r _ [12, 6, 62, 63, 64, 65, 66, 67, 68, 69, 70, 71, 72, 73, 74, 75, 76, 77, 78] (by decide +kernel) (by decide +kernel)
set_option maxRecDepth 20000 in
theorem gX11_room_X11_drafts : GoodIn wsX11_room (wsV RX11 38 RX11 yX11_drafts wsX11_drafts) := goodIn_app (goodIn_of _ (by decide +kernel)) ggX11_room_X11_drafts
set_option maxRecDepth 20000 in
theorem ggX11_room_X11_advances : GoodIn wsX11_room wsX11_advances := goodIn_r _ [16, 3, 17, 4, 5, 18, 19, 20, 11, 21, 7, 22, 23, 24, 25, 26, 27, 28, 29, 30, 31, 32, 33, 34, 35, 62, 63, 64, 65, 66, 67, 68, 69, 70, 71, 72, 73, 74, 75, 76, 77, 78] (by decide +kernel) (by decide +kernel)
set_option maxRecDepth 20000 in
theorem gX11_room_X11_advances : GoodIn wsX11_room (wsV RX11 95 RX11 yX11_advances wsX11_advances) := goodIn_app (goodIn_of _ (by decide +kernel)) ggX11_room_X11_advances
set_option maxRecDepth 20000 in
theorem ggX11_room_X11_isWell : GoodIn wsX11_room wsX11_isWell := goodIn_r _ [39, 2, 62, 63, 64, 65, 66, 67, 68, 69, 70, 71, 72, 73, 74, 75, 76, 77, 78] (by decide +kernel) (by decide +kernel)
set_option maxRecDepth 20000 in
theorem gX11_room_X11_isWell : GoodIn wsX11_room (wsV RX11 91 RX11 yX11_isWell wsX11_isWell) := goodIn_app (goodIn_of _ (by decide +kernel)) ggX11_room_X11_isWell
set_option maxRecDepth 20000 in
theorem ggX11_room_X11_in : GoodIn wsX11_room wsX11_in := goodIn_r _ [25] (by decide +kernel) (by decide +kernel)
set_option maxRecDepth 20000 in
theorem gX11_room_X11_in : GoodIn wsX11_room (va_wsS RX11 49 yX11_in wsX11_in) := goodIn_app (goodIn_of _ (by decide +kernel)) ggX11_room_X11_in
set_option maxRecDepth 20000 in
theorem ggX11_room_X11_takes : GoodIn wsX11_room wsX11_takes := goodIn_r _ [43, 17, 2, 5, 36, 37, 38, 11, 39, 13, 14, 15, 16, 3, 4, 18, 19, 20, 21, 7, 22, 23, 24, 25, 26, 27, 28, 29, 30, 31, 32, 33, 34, 35, 62, 63, 64, 65, 66, 67, 68, 69, 70, 71, 72, 73, 74, 75, 76, 77, 78] (by decide +kernel) (by decide +kernel)
set_option maxRecDepth 20000 in
theorem gX11_room_X11_takes : GoodIn wsX11_room (wsV RX11 98 RX11 yX11_takes wsX11_takes) := goodIn_app (goodIn_of _ (by decide +kernel)) ggX11_room_X11_takes
set_option maxRecDepth 20000 in
theorem ggX11_room_X11_readsItem : GoodIn wsX11_room wsX11_readsItem := goodIn_r _ [47, 6, 48, 49, 50, 11, 51, 4, 5, 23, 24, 25, 40, 41, 42, 43, 17, 2, 36, 37, 38, 39, 13, 14, 15, 16, 3, 18, 19, 20, 21, 7, 22, 26, 27, 28, 29, 30, 31, 32, 33, 34, 35, 52, 53, 54, 55, 62, 63, 64, 65, 66, 67, 68, 69, 70, 71, 72, 73, 74, 75, 76, 77, 78] (by decide +kernel) (by decide +kernel)
set_option maxRecDepth 20000 in
theorem gX11_room_X11_readsItem : GoodIn wsX11_room (wsV RX11 109 RX11 yX11_readsItem wsX11_readsItem) := goodIn_app (goodIn_of _ (by decide +kernel)) ggX11_room_X11_readsItem
set_option maxRecDepth 20000 in
theorem ggX11_room_X11_adopts : GoodIn wsX11_room wsX11_adopts := goodIn_r _ [59, 6, 60, 61, 62, 63, 64, 65, 66, 67, 68, 69, 70, 71, 72, 73, 74, 75, 76, 77, 78] (by decide +kernel) (by decide +kernel)
set_option maxRecDepth 20000 in
theorem gX11_room_X11_adopts : GoodIn wsX11_room (wsV RX11 42 RX11 yX11_adopts wsX11_adopts) := goodIn_app (goodIn_of _ (by decide +kernel)) ggX11_room_X11_adopts
theorem dX11_room_0 : decode cX11_room 0 = .ok (.aload_n 0, 1) := by decide +kernel
theorem dX11_room_1 : decode cX11_room 1 = .ok (.iconst 0, 1) := by decide +kernel
theorem dX11_room_2 : decode cX11_room 2 = .ok (.putfield 45, 3) := by decide +kernel
theorem dX11_room_5 : decode cX11_room 5 = .ok (.aload_n 0, 1) := by decide +kernel
theorem dX11_room_6 : decode cX11_room 6 = .ok (.iconst (-1), 1) := by decide +kernel
theorem dX11_room_7 : decode cX11_room 7 = .ok (.putfield 88, 3) := by decide +kernel
theorem dX11_room_10 : decode cX11_room 10 = .ok (.aload_n 0, 1) := by decide +kernel
theorem dX11_room_11 : decode cX11_room 11 = .ok (.iconst 0, 1) := by decide +kernel
theorem dX11_room_12 : decode cX11_room 12 = .ok (.putfield 68, 3) := by decide +kernel
theorem dX11_room_15 : decode cX11_room 15 = .ok (.iconst 0, 1) := by decide +kernel
theorem dX11_room_16 : decode cX11_room 16 = .ok (.istore_n 1, 1) := by decide +kernel
theorem dX11_room_17 : decode cX11_room 17 = .ok (.aload_n 0, 1) := by decide +kernel
theorem dX11_room_18 : decode cX11_room 18 = .ok (.iconst 4, 1) := by decide +kernel
theorem dX11_room_19 : decode cX11_room 19 = .ok (.invokevirtual 38, 3) := by decide +kernel
theorem dX11_room_22 : decode cX11_room 22 = .ok (.aload_n 0, 1) := by decide +kernel
theorem dX11_room_23 : decode cX11_room 23 = .ok (.invokevirtual 95, 3) := by decide +kernel
theorem dX11_room_26 : decode cX11_room 26 = .ok (.aload_n 0, 1) := by decide +kernel
theorem dX11_room_27 : decode cX11_room 27 = .ok (.invokevirtual 91, 3) := by decide +kernel
theorem dX11_room_30 : decode cX11_room 30 = .ok (.ifCond .eq 135, 3) := by decide +kernel
theorem dX11_room_33 : decode cX11_room 33 = .ok (.aload_n 0, 1) := by decide +kernel
theorem dX11_room_34 : decode cX11_room 34 = .ok (.getfield 78, 3) := by decide +kernel
theorem dX11_room_37 : decode cX11_room 37 = .ok (.ifCond .eq 128, 3) := by decide +kernel
theorem dX11_room_40 : decode cX11_room 40 = .ok (.aload_n 0, 1) := by decide +kernel
theorem dX11_room_41 : decode cX11_room 41 = .ok (.getfield 78, 3) := by decide +kernel
theorem dX11_room_44 : decode cX11_room 44 = .ok (.iconst 1, 1) := by decide +kernel
theorem dX11_room_45 : decode cX11_room 45 = .ok (.if_icmp .ne 20, 3) := by decide +kernel
theorem dX11_room_48 : decode cX11_room 48 = .ok (.aload_n 0, 1) := by decide +kernel
theorem dX11_room_49 : decode cX11_room 49 = .ok (.getfield 85, 3) := by decide +kernel
theorem dX11_room_52 : decode cX11_room 52 = .ok (.iconst 2, 1) := by decide +kernel
theorem dX11_room_53 : decode cX11_room 53 = .ok (.bipush 6, 2) := by decide +kernel
theorem dX11_room_55 : decode cX11_room 55 = .ok (.invokestatic 49, 3) := by decide +kernel
theorem dX11_room_58 : decode cX11_room 58 = .ok (.ifCond .eq 7, 3) := by decide +kernel
theorem dX11_room_61 : decode cX11_room 61 = .ok (.iconst 1, 1) := by decide +kernel
theorem dX11_room_62 : decode cX11_room 62 = .ok (.goto 4, 3) := by decide +kernel
theorem dX11_room_65 : decode cX11_room 65 = .ok (.iconst 0, 1) := by decide +kernel
theorem dX11_room_66 : decode cX11_room 66 = .ok (.istore_n 2, 1) := by decide +kernel
theorem dX11_room_67 : decode cX11_room 67 = .ok (.aload_n 0, 1) := by decide +kernel
theorem dX11_room_68 : decode cX11_room 68 = .ok (.getfield 78, 3) := by decide +kernel
theorem dX11_room_71 : decode cX11_room 71 = .ok (.iconst 1, 1) := by decide +kernel
theorem dX11_room_72 : decode cX11_room 72 = .ok (.if_icmp .ne 47, 3) := by decide +kernel
theorem dX11_room_75 : decode cX11_room 75 = .ok (.aload_n 0, 1) := by decide +kernel
theorem dX11_room_76 : decode cX11_room 76 = .ok (.getfield 85, 3) := by decide +kernel
theorem dX11_room_79 : decode cX11_room 79 = .ok (.ifCond .ne 7, 3) := by decide +kernel
theorem dX11_room_82 : decode cX11_room 82 = .ok (.iload_n 1, 1) := by decide +kernel
theorem dX11_room_83 : decode cX11_room 83 = .ok (.ifCond .ne 36, 3) := by decide +kernel
theorem dX11_room_86 : decode cX11_room 86 = .ok (.iload_n 2, 1) := by decide +kernel
theorem dX11_room_87 : decode cX11_room 87 = .ok (.ifCond .eq 28, 3) := by decide +kernel
theorem dX11_room_90 : decode cX11_room 90 = .ok (.aload_n 0, 1) := by decide +kernel
theorem dX11_room_91 : decode cX11_room 91 = .ok (.getfield 13, 3) := by decide +kernel
theorem dX11_room_94 : decode cX11_room 94 = .ok (.bipush 103, 2) := by decide +kernel
theorem dX11_room_96 : decode cX11_room 96 = .ok (.iload_n 2, 1) := by decide +kernel
theorem dX11_room_97 : decode cX11_room 97 = .ok (.ifCond .eq 12, 3) := by decide +kernel
theorem dX11_room_100 : decode cX11_room 100 = .ok (.aload_n 0, 1) := by decide +kernel
theorem dX11_room_101 : decode cX11_room 101 = .ok (.getfield 85, 3) := by decide +kernel
theorem dX11_room_104 : decode cX11_room 104 = .ok (.iconst 2, 1) := by decide +kernel
theorem dX11_room_105 : decode cX11_room 105 = .ok (.isub, 1) := by decide +kernel
theorem dX11_room_106 : decode cX11_room 106 = .ok (.goto 4, 3) := by decide +kernel
theorem dX11_room_109 : decode cX11_room 109 = .ok (.iconst 0, 1) := by decide +kernel
theorem dX11_room_110 : decode cX11_room 110 = .ok (.iadd, 1) := by decide +kernel
theorem dX11_room_111 : decode cX11_room 111 = .ok (.iaload, 1) := by decide +kernel
theorem dX11_room_112 : decode cX11_room 112 = .ok (.ifCond .ne 7, 3) := by decide +kernel
theorem dX11_room_115 : decode cX11_room 115 = .ok (.iconst 1, 1) := by decide +kernel
theorem dX11_room_116 : decode cX11_room 116 = .ok (.goto 4, 3) := by decide +kernel
theorem dX11_room_119 : decode cX11_room 119 = .ok (.iconst 0, 1) := by decide +kernel
theorem dX11_room_120 : decode cX11_room 120 = .ok (.istore_n 3, 1) := by decide +kernel
theorem dX11_room_121 : decode cX11_room 121 = .ok (.aload_n 0, 1) := by decide +kernel
theorem dX11_room_122 : decode cX11_room 122 = .ok (.iload_n 3, 1) := by decide +kernel
theorem dX11_room_123 : decode cX11_room 123 = .ok (.invokevirtual 98, 3) := by decide +kernel
theorem dX11_room_126 : decode cX11_room 126 = .ok (.istore 4, 2) := by decide +kernel
theorem dX11_room_128 : decode cX11_room 128 = .ok (.aload_n 0, 1) := by decide +kernel
theorem dX11_room_129 : decode cX11_room 129 = .ok (.invokevirtual 91, 3) := by decide +kernel
theorem dX11_room_132 : decode cX11_room 132 = .ok (.ifCond .eq 9, 3) := by decide +kernel
theorem dX11_room_135 : decode cX11_room 135 = .ok (.aload_n 0, 1) := by decide +kernel
theorem dX11_room_136 : decode cX11_room 136 = .ok (.iload 4, 2) := by decide +kernel
theorem dX11_room_138 : decode cX11_room 138 = .ok (.invokevirtual 109, 3) := by decide +kernel
theorem dX11_room_141 : decode cX11_room 141 = .ok (.aload_n 0, 1) := by decide +kernel
theorem dX11_room_142 : decode cX11_room 142 = .ok (.aload_n 0, 1) := by decide +kernel
theorem dX11_room_143 : decode cX11_room 143 = .ok (.getfield 78, 3) := by decide +kernel
theorem dX11_room_146 : decode cX11_room 146 = .ok (.iconst 3, 1) := by decide +kernel
theorem dX11_room_147 : decode cX11_room 147 = .ok (.if_icmp .ne 7, 3) := by decide +kernel
theorem dX11_room_150 : decode cX11_room 150 = .ok (.iconst 1, 1) := by decide +kernel
theorem dX11_room_151 : decode cX11_room 151 = .ok (.goto 4, 3) := by decide +kernel
theorem dX11_room_154 : decode cX11_room 154 = .ok (.iconst 0, 1) := by decide +kernel
theorem dX11_room_155 : decode cX11_room 155 = .ok (.invokevirtual 98, 3) := by decide +kernel
theorem dX11_room_158 : decode cX11_room 158 = .ok (.pop, 1) := by decide +kernel
theorem dX11_room_159 : decode cX11_room 159 = .ok (.iinc 1 1, 3) := by decide +kernel
theorem dX11_room_162 : decode cX11_room 162 = .ok (.goto (-136), 3) := by decide +kernel
theorem dX11_room_165 : decode cX11_room 165 = .ok (.aload_n 0, 1) := by decide +kernel
theorem dX11_room_166 : decode cX11_room 166 = .ok (.invokevirtual 91, 3) := by decide +kernel
theorem dX11_room_169 : decode cX11_room 169 = .ok (.ifCond .ne 11, 3) := by decide +kernel
theorem dX11_room_172 : decode cX11_room 172 = .ok (.bipush (-10), 2) := by decide +kernel
theorem dX11_room_174 : decode cX11_room 174 = .ok (.aload_n 0, 1) := by decide +kernel
theorem dX11_room_175 : decode cX11_room 175 = .ok (.getfield 88, 3) := by decide +kernel
theorem dX11_room_178 : decode cX11_room 178 = .ok (.isub, 1) := by decide +kernel
theorem dX11_room_179 : decode cX11_room 179 = .ok (.ireturn, 1) := by decide +kernel
theorem dX11_room_180 : decode cX11_room 180 = .ok (.aload_n 0, 1) := by decide +kernel
theorem dX11_room_181 : decode cX11_room 181 = .ok (.invokevirtual 42, 3) := by decide +kernel
theorem dX11_room_184 : decode cX11_room 184 = .ok (.aload_n 0, 1) := by decide +kernel
theorem dX11_room_185 : decode cX11_room 185 = .ok (.iconst 0, 1) := by decide +kernel
theorem dX11_room_186 : decode cX11_room 186 = .ok (.putfield 53, 3) := by decide +kernel
theorem dX11_room_189 : decode cX11_room 189 = .ok (.iload_n 1, 1) := by decide +kernel
theorem dX11_room_190 : decode cX11_room 190 = .ok (.ireturn, 1) := by decide +kernel
theorem dX11_adopts_0 : decode cX11_adopts 0 = .ok (.iconst 0, 1) := by decide +kernel
theorem dX11_adopts_1 : decode cX11_adopts 1 = .ok (.istore_n 1, 1) := by decide +kernel
theorem dX11_adopts_2 : decode cX11_adopts 2 = .ok (.iload_n 1, 1) := by decide +kernel
theorem dX11_adopts_3 : decode cX11_adopts 3 = .ok (.bipush 94, 2) := by decide +kernel
theorem dX11_adopts_5 : decode cX11_adopts 5 = .ok (.if_icmp .ge 24, 3) := by decide +kernel
theorem dX11_adopts_8 : decode cX11_adopts 8 = .ok (.aload_n 0, 1) := by decide +kernel
theorem dX11_adopts_9 : decode cX11_adopts 9 = .ok (.getfield 13, 3) := by decide +kernel
theorem dX11_adopts_12 : decode cX11_adopts 12 = .ok (.iload_n 1, 1) := by decide +kernel
theorem dX11_adopts_13 : decode cX11_adopts 13 = .ok (.aload_n 0, 1) := by decide +kernel
theorem dX11_adopts_14 : decode cX11_adopts 14 = .ok (.getfield 13, 3) := by decide +kernel
theorem dX11_adopts_17 : decode cX11_adopts 17 = .ok (.bipush 94, 2) := by decide +kernel
theorem dX11_adopts_19 : decode cX11_adopts 19 = .ok (.iload_n 1, 1) := by decide +kernel
theorem dX11_adopts_20 : decode cX11_adopts 20 = .ok (.iadd, 1) := by decide +kernel
theorem dX11_adopts_21 : decode cX11_adopts 21 = .ok (.iaload, 1) := by decide +kernel
theorem dX11_adopts_22 : decode cX11_adopts 22 = .ok (.iastore, 1) := by decide +kernel
theorem dX11_adopts_23 : decode cX11_adopts 23 = .ok (.iinc 1 1, 3) := by decide +kernel
theorem dX11_adopts_26 : decode cX11_adopts 26 = .ok (.goto (-24), 3) := by decide +kernel
theorem dX11_adopts_29 : decode cX11_adopts 29 = .ok (.iconst 0, 1) := by decide +kernel
theorem dX11_adopts_30 : decode cX11_adopts 30 = .ok (.istore_n 1, 1) := by decide +kernel
theorem dX11_adopts_31 : decode cX11_adopts 31 = .ok (.iload_n 1, 1) := by decide +kernel
theorem dX11_adopts_32 : decode cX11_adopts 32 = .ok (.bipush 8, 2) := by decide +kernel
theorem dX11_adopts_34 : decode cX11_adopts 34 = .ok (.if_icmp .ge 16, 3) := by decide +kernel
theorem dX11_adopts_37 : decode cX11_adopts 37 = .ok (.aload_n 0, 1) := by decide +kernel
theorem dX11_adopts_38 : decode cX11_adopts 38 = .ok (.getfield 16, 3) := by decide +kernel
theorem dX11_adopts_41 : decode cX11_adopts 41 = .ok (.iload_n 1, 1) := by decide +kernel
theorem dX11_adopts_42 : decode cX11_adopts 42 = .ok (.iload_n 1, 1) := by decide +kernel
theorem dX11_adopts_43 : decode cX11_adopts 43 = .ok (.iastore, 1) := by decide +kernel
theorem dX11_adopts_44 : decode cX11_adopts 44 = .ok (.iinc 1 1, 3) := by decide +kernel
theorem dX11_adopts_47 : decode cX11_adopts 47 = .ok (.goto (-16), 3) := by decide +kernel
theorem dX11_adopts_50 : decode cX11_adopts 50 = .ok (.aload_n 0, 1) := by decide +kernel
theorem dX11_adopts_51 : decode cX11_adopts 51 = .ok (.getfield 16, 3) := by decide +kernel
theorem dX11_adopts_54 : decode cX11_adopts 54 = .ok (.bipush 8, 2) := by decide +kernel
theorem dX11_adopts_56 : decode cX11_adopts 56 = .ok (.iconst 0, 1) := by decide +kernel
theorem dX11_adopts_57 : decode cX11_adopts 57 = .ok (.iastore, 1) := by decide +kernel
theorem dX11_adopts_58 : decode cX11_adopts 58 = .ok (.aload_n 0, 1) := by decide +kernel
theorem dX11_adopts_59 : decode cX11_adopts 59 = .ok (.getfield 22, 3) := by decide +kernel
theorem dX11_adopts_62 : decode cX11_adopts 62 = .ok (.iconst 0, 1) := by decide +kernel
theorem dX11_adopts_63 : decode cX11_adopts 63 = .ok (.iconst 0, 1) := by decide +kernel
theorem dX11_adopts_64 : decode cX11_adopts 64 = .ok (.bastore, 1) := by decide +kernel
theorem dX11_adopts_65 : decode cX11_adopts 65 = .ok (.aload_n 0, 1) := by decide +kernel
theorem dX11_adopts_66 : decode cX11_adopts 66 = .ok (.getfield 22, 3) := by decide +kernel
theorem dX11_adopts_69 : decode cX11_adopts 69 = .ok (.iconst 1, 1) := by decide +kernel
theorem dX11_adopts_70 : decode cX11_adopts 70 = .ok (.iconst 0, 1) := by decide +kernel
theorem dX11_adopts_71 : decode cX11_adopts 71 = .ok (.bastore, 1) := by decide +kernel
theorem dX11_adopts_72 : decode cX11_adopts 72 = .ok (.return_, 1) := by decide +kernel
theorem dX11_guests_0 : decode cX11_guests 0 = .ok (.aload_n 0, 1) := by decide +kernel
theorem dX11_guests_1 : decode cX11_guests 1 = .ok (.getfield 13, 3) := by decide +kernel
theorem dX11_guests_4 : decode cX11_guests 4 = .ok (.iconst 0, 1) := by decide +kernel
theorem dX11_guests_5 : decode cX11_guests 5 = .ok (.iaload, 1) := by decide +kernel
theorem dX11_guests_6 : decode cX11_guests 6 = .ok (.ireturn, 1) := by decide +kernel
set_option maxRecDepth 20000 in
theorem ggX11_isGuest_X11_guests : GoodIn wsX11_isGuest wsX11_guests := goodIn_r _ [5, 6, 10, 11, 12, 13, 14, 15, 16, 17, 18, 19, 20, 21, 22, 23, 24, 25, 26] (by decide +kernel) (by decide +kernel)
set_option maxRecDepth 20000 in
theorem gX11_isGuest_X11_guests : GoodIn wsX11_isGuest (wsV RX11 112 RX11 yX11_guests wsX11_guests) := goodIn_app (goodIn_of _ (by decide +kernel)) ggX11_isGuest_X11_guests
set_option maxRecDepth 20000 in
theorem ggX11_isGuest_X11_in : GoodIn wsX11_isGuest wsX11_in := goodIn_r _ [9] (by decide +kernel) (by decide +kernel)
set_option maxRecDepth 20000 in
theorem gX11_isGuest_X11_in : GoodIn wsX11_isGuest (va_wsS RX11 49 yX11_in wsX11_in) := goodIn_app (goodIn_of _ (by decide +kernel)) ggX11_isGuest_X11_in
theorem dX11_isGuest_0 : decode cX11_isGuest 0 = .ok (.iload_n 1, 1) := by decide +kernel
theorem dX11_isGuest_1 : decode cX11_isGuest 1 = .ok (.iconst 0, 1) := by decide +kernel
theorem dX11_isGuest_2 : decode cX11_isGuest 2 = .ok (.aload_n 0, 1) := by decide +kernel
theorem dX11_isGuest_3 : decode cX11_isGuest 3 = .ok (.invokevirtual 112, 3) := by decide +kernel
theorem dX11_isGuest_6 : decode cX11_isGuest 6 = .ok (.iconst 1, 1) := by decide +kernel
theorem dX11_isGuest_7 : decode cX11_isGuest 7 = .ok (.isub, 1) := by decide +kernel
theorem dX11_isGuest_8 : decode cX11_isGuest 8 = .ok (.invokestatic 49, 3) := by decide +kernel
theorem dX11_isGuest_11 : decode cX11_isGuest 11 = .ok (.ireturn, 1) := by decide +kernel
set_option maxRecDepth 20000 in
theorem ggX11_areTwo_X11_isGuest : GoodIn wsX11_areTwo wsX11_isGuest := goodIn_r _ [5, 6, 7, 8, 4, 9, 10, 11, 12, 13, 14, 15, 16, 17, 18, 19, 20, 21, 22, 23, 24, 25, 26, 27, 28, 29, 30] (by decide +kernel) (by decide +kernel)
set_option maxRecDepth 20000 in
theorem gX11_areTwo_X11_isGuest : GoodIn wsX11_areTwo (wsV RX11 116 RX11 yX11_isGuest wsX11_isGuest) := goodIn_app (goodIn_of _ (by decide +kernel)) ggX11_areTwo_X11_isGuest
theorem dX11_areTwo_0 : decode cX11_areTwo 0 = .ok (.aload_n 0, 1) := by decide +kernel
theorem dX11_areTwo_1 : decode cX11_areTwo 1 = .ok (.iload_n 1, 1) := by decide +kernel
theorem dX11_areTwo_2 : decode cX11_areTwo 2 = .ok (.invokevirtual 116, 3) := by decide +kernel
theorem dX11_areTwo_5 : decode cX11_areTwo 5 = .ok (.ifCond .eq 20, 3) := by decide +kernel
theorem dX11_areTwo_8 : decode cX11_areTwo 8 = .ok (.aload_n 0, 1) := by decide +kernel
theorem dX11_areTwo_9 : decode cX11_areTwo 9 = .ok (.iload_n 2, 1) := by decide +kernel
theorem dX11_areTwo_10 : decode cX11_areTwo 10 = .ok (.invokevirtual 116, 3) := by decide +kernel
theorem dX11_areTwo_13 : decode cX11_areTwo 13 = .ok (.ifCond .eq 12, 3) := by decide +kernel
theorem dX11_areTwo_16 : decode cX11_areTwo 16 = .ok (.iload_n 1, 1) := by decide +kernel
theorem dX11_areTwo_17 : decode cX11_areTwo 17 = .ok (.iload_n 2, 1) := by decide +kernel
theorem dX11_areTwo_18 : decode cX11_areTwo 18 = .ok (.if_icmp .eq 7, 3) := by decide +kernel
theorem dX11_areTwo_21 : decode cX11_areTwo 21 = .ok (.iconst 1, 1) := by decide +kernel
theorem dX11_areTwo_22 : decode cX11_areTwo 22 = .ok (.goto 4, 3) := by decide +kernel
theorem dX11_areTwo_25 : decode cX11_areTwo 25 = .ok (.iconst 0, 1) := by decide +kernel
theorem dX11_areTwo_26 : decode cX11_areTwo 26 = .ok (.ireturn, 1) := by decide +kernel
set_option maxRecDepth 20000 in
theorem ggX11_law_X11_in : GoodIn wsX11_law wsX11_in := goodIn_r _ [6] (by decide +kernel) (by decide +kernel)
set_option maxRecDepth 20000 in
theorem gX11_law_X11_in : GoodIn wsX11_law (va_wsS RX11 49 yX11_in wsX11_in) := goodIn_app (goodIn_of _ (by decide +kernel)) ggX11_law_X11_in
theorem dX11_law_0 : decode cX11_law 0 = .ok (.aload_n 0, 1) := by decide +kernel
theorem dX11_law_1 : decode cX11_law 1 = .ok (.iconst 0, 1) := by decide +kernel
theorem dX11_law_2 : decode cX11_law 2 = .ok (.putfield 45, 3) := by decide +kernel
theorem dX11_law_5 : decode cX11_law 5 = .ok (.iload_n 1, 1) := by decide +kernel
theorem dX11_law_6 : decode cX11_law 6 = .ok (.iconst 0, 1) := by decide +kernel
theorem dX11_law_7 : decode cX11_law 7 = .ok (.iconst 4, 1) := by decide +kernel
theorem dX11_law_8 : decode cX11_law 8 = .ok (.invokestatic 49, 3) := by decide +kernel
theorem dX11_law_11 : decode cX11_law 11 = .ok (.ifCond .eq 15, 3) := by decide +kernel
theorem dX11_law_14 : decode cX11_law 14 = .ok (.aload_n 0, 1) := by decide +kernel
theorem dX11_law_15 : decode cX11_law 15 = .ok (.getfield 13, 3) := by decide +kernel
theorem dX11_law_18 : decode cX11_law 18 = .ok (.bipush 9, 2) := by decide +kernel
theorem dX11_law_20 : decode cX11_law 20 = .ok (.iload_n 1, 1) := by decide +kernel
theorem dX11_law_21 : decode cX11_law 21 = .ok (.iadd, 1) := by decide +kernel
theorem dX11_law_22 : decode cX11_law 22 = .ok (.iaload, 1) := by decide +kernel
theorem dX11_law_23 : decode cX11_law 23 = .ok (.goto 4, 3) := by decide +kernel
theorem dX11_law_26 : decode cX11_law 26 = .ok (.iconst (-1), 1) := by decide +kernel
theorem dX11_law_27 : decode cX11_law 27 = .ok (.ireturn, 1) := by decide +kernel
set_option maxRecDepth 20000 in
theorem ggX11_pair_X11_areTwo : GoodIn wsX11_pair wsX11_areTwo := goodIn_r _ [8, 9, 10, 11, 7, 12, 13, 14, 15, 16, 3, 17, 18, 19, 20, 21, 22, 23, 24, 25, 26, 27, 28, 29, 30, 31, 32, 33, 34, 35, 36] (by decide +kernel) (by decide +kernel)
set_option maxRecDepth 20000 in
theorem gX11_pair_X11_areTwo : GoodIn wsX11_pair (wsV RX11 120 RX11 yX11_areTwo wsX11_areTwo) := goodIn_app (goodIn_of _ (by decide +kernel)) ggX11_pair_X11_areTwo
set_option maxRecDepth 20000 in
theorem ggX11_pair_X11_in : GoodIn wsX11_pair wsX11_in := goodIn_r _ [19] (by decide +kernel) (by decide +kernel)
set_option maxRecDepth 20000 in
theorem gX11_pair_X11_in : GoodIn wsX11_pair (va_wsS RX11 49 yX11_in wsX11_in) := goodIn_app (goodIn_of _ (by decide +kernel)) ggX11_pair_X11_in
theorem dX11_pair_0 : decode cX11_pair 0 = .ok (.aload_n 0, 1) := by decide +kernel
theorem dX11_pair_1 : decode cX11_pair 1 = .ok (.iconst 0, 1) := by decide +kernel
theorem dX11_pair_2 : decode cX11_pair 2 = .ok (.putfield 45, 3) := by decide +kernel
theorem dX11_pair_5 : decode cX11_pair 5 = .ok (.aload_n 0, 1) := by decide +kernel
theorem dX11_pair_6 : decode cX11_pair 6 = .ok (.iload_n 1, 1) := by decide +kernel
theorem dX11_pair_7 : decode cX11_pair 7 = .ok (.iload_n 2, 1) := by decide +kernel
theorem dX11_pair_8 : decode cX11_pair 8 = .ok (.invokevirtual 120, 3) := by decide +kernel
theorem dX11_pair_11 : decode cX11_pair 11 = .ok (.ifCond .eq 12, 3) := by decide +kernel
theorem dX11_pair_14 : decode cX11_pair 14 = .ok (.iload_n 3, 1) := by decide +kernel
theorem dX11_pair_15 : decode cX11_pair 15 = .ok (.iconst 0, 1) := by decide +kernel
theorem dX11_pair_16 : decode cX11_pair 16 = .ok (.iconst 2, 1) := by decide +kernel
theorem dX11_pair_17 : decode cX11_pair 17 = .ok (.invokestatic 49, 3) := by decide +kernel
theorem dX11_pair_20 : decode cX11_pair 20 = .ok (.ifCond .ne 6, 3) := by decide +kernel
theorem dX11_pair_23 : decode cX11_pair 23 = .ok (.ldc 124, 2) := by decide +kernel
theorem dX11_pair_25 : decode cX11_pair 25 = .ok (.ireturn, 1) := by decide +kernel
theorem dX11_pair_26 : decode cX11_pair 26 = .ok (.iload_n 3, 1) := by decide +kernel
theorem dX11_pair_27 : decode cX11_pair 27 = .ok (.ifCond .ne 19, 3) := by decide +kernel
theorem dX11_pair_30 : decode cX11_pair 30 = .ok (.aload_n 0, 1) := by decide +kernel
theorem dX11_pair_31 : decode cX11_pair 31 = .ok (.getfield 13, 3) := by decide +kernel
theorem dX11_pair_34 : decode cX11_pair 34 = .ok (.bipush 14, 2) := by decide +kernel
theorem dX11_pair_36 : decode cX11_pair 36 = .ok (.iload_n 1, 1) := by decide +kernel
theorem dX11_pair_37 : decode cX11_pair 37 = .ok (.iadd, 1) := by decide +kernel
theorem dX11_pair_38 : decode cX11_pair 38 = .ok (.iaload, 1) := by decide +kernel
theorem dX11_pair_39 : decode cX11_pair 39 = .ok (.iload_n 2, 1) := by decide +kernel
theorem dX11_pair_40 : decode cX11_pair 40 = .ok (.ishr, 1) := by decide +kernel
theorem dX11_pair_41 : decode cX11_pair 41 = .ok (.iconst 1, 1) := by decide +kernel
theorem dX11_pair_42 : decode cX11_pair 42 = .ok (.iand, 1) := by decide +kernel
theorem dX11_pair_43 : decode cX11_pair 43 = .ok (.goto 38, 3) := by decide +kernel
theorem dX11_pair_46 : decode cX11_pair 46 = .ok (.iload_n 3, 1) := by decide +kernel
theorem dX11_pair_47 : decode cX11_pair 47 = .ok (.iconst 1, 1) := by decide +kernel
theorem dX11_pair_48 : decode cX11_pair 48 = .ok (.if_icmp .ne 19, 3) := by decide +kernel
theorem dX11_pair_51 : decode cX11_pair 51 = .ok (.aload_n 0, 1) := by decide +kernel
theorem dX11_pair_52 : decode cX11_pair 52 = .ok (.getfield 13, 3) := by decide +kernel
theorem dX11_pair_55 : decode cX11_pair 55 = .ok (.bipush 22, 2) := by decide +kernel
theorem dX11_pair_57 : decode cX11_pair 57 = .ok (.iload_n 1, 1) := by decide +kernel
theorem dX11_pair_58 : decode cX11_pair 58 = .ok (.iadd, 1) := by decide +kernel
theorem dX11_pair_59 : decode cX11_pair 59 = .ok (.iaload, 1) := by decide +kernel
theorem dX11_pair_60 : decode cX11_pair 60 = .ok (.iload_n 2, 1) := by decide +kernel
theorem dX11_pair_61 : decode cX11_pair 61 = .ok (.ishr, 1) := by decide +kernel
theorem dX11_pair_62 : decode cX11_pair 62 = .ok (.iconst 1, 1) := by decide +kernel
theorem dX11_pair_63 : decode cX11_pair 63 = .ok (.iand, 1) := by decide +kernel
theorem dX11_pair_64 : decode cX11_pair 64 = .ok (.goto 17, 3) := by decide +kernel
theorem dX11_pair_67 : decode cX11_pair 67 = .ok (.aload_n 0, 1) := by decide +kernel
theorem dX11_pair_68 : decode cX11_pair 68 = .ok (.getfield 13, 3) := by decide +kernel
theorem dX11_pair_71 : decode cX11_pair 71 = .ok (.bipush 30, 2) := by decide +kernel
theorem dX11_pair_73 : decode cX11_pair 73 = .ok (.bipush 8, 2) := by decide +kernel
theorem dX11_pair_75 : decode cX11_pair 75 = .ok (.iload_n 1, 1) := by decide +kernel
theorem dX11_pair_76 : decode cX11_pair 76 = .ok (.imul, 1) := by decide +kernel
theorem dX11_pair_77 : decode cX11_pair 77 = .ok (.iadd, 1) := by decide +kernel
theorem dX11_pair_78 : decode cX11_pair 78 = .ok (.iload_n 2, 1) := by decide +kernel
theorem dX11_pair_79 : decode cX11_pair 79 = .ok (.iadd, 1) := by decide +kernel
theorem dX11_pair_80 : decode cX11_pair 80 = .ok (.iaload, 1) := by decide +kernel
theorem dX11_pair_81 : decode cX11_pair 81 = .ok (.ireturn, 1) := by decide +kernel
set_option maxRecDepth 20000 in
theorem ggX11_numbers_X11_guests : GoodIn wsX11_numbers wsX11_guests := goodIn_r _ [5, 6, 7, 8, 9, 10, 11, 12, 13, 14, 15, 16, 17, 18, 19, 20, 21, 22, 23] (by decide +kernel) (by decide +kernel)
set_option maxRecDepth 20000 in
theorem gX11_numbers_X11_guests : GoodIn wsX11_numbers (wsV RX11 112 RX11 yX11_guests wsX11_guests) := goodIn_app (goodIn_of _ (by decide +kernel)) ggX11_numbers_X11_guests
theorem dX11_numbers_0 : decode cX11_numbers 0 = .ok (.iconst 0, 1) := by decide +kernel
theorem dX11_numbers_1 : decode cX11_numbers 1 = .ok (.istore_n 2, 1) := by decide +kernel
theorem dX11_numbers_2 : decode cX11_numbers 2 = .ok (.iconst 0, 1) := by decide +kernel
theorem dX11_numbers_3 : decode cX11_numbers 3 = .ok (.istore_n 3, 1) := by decide +kernel
theorem dX11_numbers_4 : decode cX11_numbers 4 = .ok (.iload_n 3, 1) := by decide +kernel
theorem dX11_numbers_5 : decode cX11_numbers 5 = .ok (.aload_n 0, 1) := by decide +kernel
theorem dX11_numbers_6 : decode cX11_numbers 6 = .ok (.invokevirtual 112, 3) := by decide +kernel
theorem dX11_numbers_9 : decode cX11_numbers 9 = .ok (.if_icmp .ge 87, 3) := by decide +kernel
theorem dX11_numbers_12 : decode cX11_numbers 12 = .ok (.bipush 100, 2) := by decide +kernel
theorem dX11_numbers_14 : decode cX11_numbers 14 = .ok (.istore 4, 2) := by decide +kernel
theorem dX11_numbers_16 : decode cX11_numbers 16 = .ok (.iconst 0, 1) := by decide +kernel
theorem dX11_numbers_17 : decode cX11_numbers 17 = .ok (.istore 5, 2) := by decide +kernel
theorem dX11_numbers_19 : decode cX11_numbers 19 = .ok (.iload 5, 2) := by decide +kernel
theorem dX11_numbers_21 : decode cX11_numbers 21 = .ok (.iload_n 3, 1) := by decide +kernel
theorem dX11_numbers_22 : decode cX11_numbers 22 = .ok (.if_icmp .ge 40, 3) := by decide +kernel
theorem dX11_numbers_25 : decode cX11_numbers 25 = .ok (.aload_n 1, 1) := by decide +kernel
theorem dX11_numbers_26 : decode cX11_numbers 26 = .ok (.iload 5, 2) := by decide +kernel
theorem dX11_numbers_28 : decode cX11_numbers 28 = .ok (.iaload, 1) := by decide +kernel
theorem dX11_numbers_29 : decode cX11_numbers 29 = .ok (.sipush 1000, 3) := by decide +kernel
theorem dX11_numbers_32 : decode cX11_numbers 32 = .ok (.idiv, 1) := by decide +kernel
theorem dX11_numbers_33 : decode cX11_numbers 33 = .ok (.aload_n 1, 1) := by decide +kernel
theorem dX11_numbers_34 : decode cX11_numbers 34 = .ok (.iload_n 3, 1) := by decide +kernel
theorem dX11_numbers_35 : decode cX11_numbers 35 = .ok (.iaload, 1) := by decide +kernel
theorem dX11_numbers_36 : decode cX11_numbers 36 = .ok (.iconst 1, 1) := by decide +kernel
theorem dX11_numbers_37 : decode cX11_numbers 37 = .ok (.iadd, 1) := by decide +kernel
theorem dX11_numbers_38 : decode cX11_numbers 38 = .ok (.if_icmp .ne 14, 3) := by decide +kernel
theorem dX11_numbers_41 : decode cX11_numbers 41 = .ok (.aload_n 1, 1) := by decide +kernel
theorem dX11_numbers_42 : decode cX11_numbers 42 = .ok (.iload 5, 2) := by decide +kernel
theorem dX11_numbers_44 : decode cX11_numbers 44 = .ok (.iaload, 1) := by decide +kernel
theorem dX11_numbers_45 : decode cX11_numbers 45 = .ok (.sipush 1000, 3) := by decide +kernel
theorem dX11_numbers_48 : decode cX11_numbers 48 = .ok (.irem, 1) := by decide +kernel
theorem dX11_numbers_49 : decode cX11_numbers 49 = .ok (.goto 5, 3) := by decide +kernel
theorem dX11_numbers_52 : decode cX11_numbers 52 = .ok (.iload 4, 2) := by decide +kernel
theorem dX11_numbers_54 : decode cX11_numbers 54 = .ok (.istore 4, 2) := by decide +kernel
theorem dX11_numbers_56 : decode cX11_numbers 56 = .ok (.iinc 5 1, 3) := by decide +kernel
theorem dX11_numbers_59 : decode cX11_numbers 59 = .ok (.goto (-40), 3) := by decide +kernel
theorem dX11_numbers_62 : decode cX11_numbers 62 = .ok (.iload 4, 2) := by decide +kernel
theorem dX11_numbers_64 : decode cX11_numbers 64 = .ok (.bipush 100, 2) := by decide +kernel
theorem dX11_numbers_66 : decode cX11_numbers 66 = .ok (.if_icmp .ne 9, 3) := by decide +kernel
theorem dX11_numbers_69 : decode cX11_numbers 69 = .ok (.iload_n 2, 1) := by decide +kernel
theorem dX11_numbers_70 : decode cX11_numbers 70 = .ok (.istore 4, 2) := by decide +kernel
theorem dX11_numbers_72 : decode cX11_numbers 72 = .ok (.iinc 2 1, 3) := by decide +kernel
theorem dX11_numbers_75 : decode cX11_numbers 75 = .ok (.aload_n 1, 1) := by decide +kernel
theorem dX11_numbers_76 : decode cX11_numbers 76 = .ok (.iload_n 3, 1) := by decide +kernel
theorem dX11_numbers_77 : decode cX11_numbers 77 = .ok (.sipush 1000, 3) := by decide +kernel
theorem dX11_numbers_80 : decode cX11_numbers 80 = .ok (.aload_n 1, 1) := by decide +kernel
theorem dX11_numbers_81 : decode cX11_numbers 81 = .ok (.iload_n 3, 1) := by decide +kernel
theorem dX11_numbers_82 : decode cX11_numbers 82 = .ok (.iaload, 1) := by decide +kernel
theorem dX11_numbers_83 : decode cX11_numbers 83 = .ok (.iconst 1, 1) := by decide +kernel
theorem dX11_numbers_84 : decode cX11_numbers 84 = .ok (.iadd, 1) := by decide +kernel
theorem dX11_numbers_85 : decode cX11_numbers 85 = .ok (.imul, 1) := by decide +kernel
theorem dX11_numbers_86 : decode cX11_numbers 86 = .ok (.iload 4, 2) := by decide +kernel
theorem dX11_numbers_88 : decode cX11_numbers 88 = .ok (.iadd, 1) := by decide +kernel
theorem dX11_numbers_89 : decode cX11_numbers 89 = .ok (.iastore, 1) := by decide +kernel
theorem dX11_numbers_90 : decode cX11_numbers 90 = .ok (.iinc 3 1, 3) := by decide +kernel
theorem dX11_numbers_93 : decode cX11_numbers 93 = .ok (.goto (-89), 3) := by decide +kernel
theorem dX11_numbers_96 : decode cX11_numbers 96 = .ok (.iconst 0, 1) := by decide +kernel
theorem dX11_numbers_97 : decode cX11_numbers 97 = .ok (.istore_n 3, 1) := by decide +kernel
theorem dX11_numbers_98 : decode cX11_numbers 98 = .ok (.iload_n 3, 1) := by decide +kernel
theorem dX11_numbers_99 : decode cX11_numbers 99 = .ok (.aload_n 0, 1) := by decide +kernel
theorem dX11_numbers_100 : decode cX11_numbers 100 = .ok (.invokevirtual 112, 3) := by decide +kernel
theorem dX11_numbers_103 : decode cX11_numbers 103 = .ok (.if_icmp .ge 18, 3) := by decide +kernel
theorem dX11_numbers_106 : decode cX11_numbers 106 = .ok (.aload_n 1, 1) := by decide +kernel
theorem dX11_numbers_107 : decode cX11_numbers 107 = .ok (.iload_n 3, 1) := by decide +kernel
theorem dX11_numbers_108 : decode cX11_numbers 108 = .ok (.dup2, 1) := by decide +kernel
theorem dX11_numbers_109 : decode cX11_numbers 109 = .ok (.iaload, 1) := by decide +kernel
theorem dX11_numbers_110 : decode cX11_numbers 110 = .ok (.sipush 1000, 3) := by decide +kernel
theorem dX11_numbers_113 : decode cX11_numbers 113 = .ok (.irem, 1) := by decide +kernel
theorem dX11_numbers_114 : decode cX11_numbers 114 = .ok (.iastore, 1) := by decide +kernel
theorem dX11_numbers_115 : decode cX11_numbers 115 = .ok (.iinc 3 1, 3) := by decide +kernel
theorem dX11_numbers_118 : decode cX11_numbers 118 = .ok (.goto (-20), 3) := by decide +kernel
theorem dX11_numbers_121 : decode cX11_numbers 121 = .ok (.return_, 1) := by decide +kernel
set_option maxRecDepth 20000 in
theorem ggX11_partiesOf_X11_guests : GoodIn wsX11_partiesOf wsX11_guests := goodIn_r _ [5, 6, 7, 8, 9, 10, 11, 12, 13, 14, 15, 16, 17, 18, 19, 20, 21, 22, 23] (by decide +kernel) (by decide +kernel)
set_option maxRecDepth 20000 in
theorem gX11_partiesOf_X11_guests : GoodIn wsX11_partiesOf (wsV RX11 112 RX11 yX11_guests wsX11_guests) := goodIn_app (goodIn_of _ (by decide +kernel)) ggX11_partiesOf_X11_guests
theorem dX11_partiesOf_0 : decode cX11_partiesOf 0 = .ok (.iconst 0, 1) := by decide +kernel
theorem dX11_partiesOf_1 : decode cX11_partiesOf 1 = .ok (.istore_n 2, 1) := by decide +kernel
theorem dX11_partiesOf_2 : decode cX11_partiesOf 2 = .ok (.iconst 0, 1) := by decide +kernel
theorem dX11_partiesOf_3 : decode cX11_partiesOf 3 = .ok (.istore_n 3, 1) := by decide +kernel
theorem dX11_partiesOf_4 : decode cX11_partiesOf 4 = .ok (.iload_n 3, 1) := by decide +kernel
theorem dX11_partiesOf_5 : decode cX11_partiesOf 5 = .ok (.aload_n 0, 1) := by decide +kernel
theorem dX11_partiesOf_6 : decode cX11_partiesOf 6 = .ok (.invokevirtual 112, 3) := by decide +kernel
theorem dX11_partiesOf_9 : decode cX11_partiesOf 9 = .ok (.if_icmp .ge 26, 3) := by decide +kernel
theorem dX11_partiesOf_12 : decode cX11_partiesOf 12 = .ok (.aload_n 1, 1) := by decide +kernel
theorem dX11_partiesOf_13 : decode cX11_partiesOf 13 = .ok (.iload_n 3, 1) := by decide +kernel
theorem dX11_partiesOf_14 : decode cX11_partiesOf 14 = .ok (.iaload, 1) := by decide +kernel
theorem dX11_partiesOf_15 : decode cX11_partiesOf 15 = .ok (.iload_n 2, 1) := by decide +kernel
theorem dX11_partiesOf_16 : decode cX11_partiesOf 16 = .ok (.if_icmp .lt 11, 3) := by decide +kernel
theorem dX11_partiesOf_19 : decode cX11_partiesOf 19 = .ok (.aload_n 1, 1) := by decide +kernel
theorem dX11_partiesOf_20 : decode cX11_partiesOf 20 = .ok (.iload_n 3, 1) := by decide +kernel
theorem dX11_partiesOf_21 : decode cX11_partiesOf 21 = .ok (.iaload, 1) := by decide +kernel
theorem dX11_partiesOf_22 : decode cX11_partiesOf 22 = .ok (.iconst 1, 1) := by decide +kernel
theorem dX11_partiesOf_23 : decode cX11_partiesOf 23 = .ok (.iadd, 1) := by decide +kernel
theorem dX11_partiesOf_24 : decode cX11_partiesOf 24 = .ok (.goto 4, 3) := by decide +kernel
theorem dX11_partiesOf_27 : decode cX11_partiesOf 27 = .ok (.iload_n 2, 1) := by decide +kernel
theorem dX11_partiesOf_28 : decode cX11_partiesOf 28 = .ok (.istore_n 2, 1) := by decide +kernel
theorem dX11_partiesOf_29 : decode cX11_partiesOf 29 = .ok (.iinc 3 1, 3) := by decide +kernel
theorem dX11_partiesOf_32 : decode cX11_partiesOf 32 = .ok (.goto (-28), 3) := by decide +kernel
theorem dX11_partiesOf_35 : decode cX11_partiesOf 35 = .ok (.iload_n 2, 1) := by decide +kernel
theorem dX11_partiesOf_36 : decode cX11_partiesOf 36 = .ok (.ireturn, 1) := by decide +kernel
set_option maxRecDepth 20000 in
theorem ggX11_sizeOf_X11_guests : GoodIn wsX11_sizeOf wsX11_guests := goodIn_r _ [5, 6, 7, 8, 9, 10, 11, 12, 13, 14, 15, 16, 17, 18, 19, 20, 21, 22, 23] (by decide +kernel) (by decide +kernel)
set_option maxRecDepth 20000 in
theorem gX11_sizeOf_X11_guests : GoodIn wsX11_sizeOf (wsV RX11 112 RX11 yX11_guests wsX11_guests) := goodIn_app (goodIn_of _ (by decide +kernel)) ggX11_sizeOf_X11_guests
theorem dX11_sizeOf_0 : decode cX11_sizeOf 0 = .ok (.iconst 0, 1) := by decide +kernel
theorem dX11_sizeOf_1 : decode cX11_sizeOf 1 = .ok (.istore_n 3, 1) := by decide +kernel
theorem dX11_sizeOf_2 : decode cX11_sizeOf 2 = .ok (.iconst 0, 1) := by decide +kernel
theorem dX11_sizeOf_3 : decode cX11_sizeOf 3 = .ok (.istore 4, 2) := by decide +kernel
theorem dX11_sizeOf_5 : decode cX11_sizeOf 5 = .ok (.iload 4, 2) := by decide +kernel
theorem dX11_sizeOf_7 : decode cX11_sizeOf 7 = .ok (.aload_n 0, 1) := by decide +kernel
theorem dX11_sizeOf_8 : decode cX11_sizeOf 8 = .ok (.invokevirtual 112, 3) := by decide +kernel
theorem dX11_sizeOf_11 : decode cX11_sizeOf 11 = .ok (.if_icmp .ge 25, 3) := by decide +kernel
theorem dX11_sizeOf_14 : decode cX11_sizeOf 14 = .ok (.iload_n 3, 1) := by decide +kernel
theorem dX11_sizeOf_15 : decode cX11_sizeOf 15 = .ok (.aload_n 1, 1) := by decide +kernel
theorem dX11_sizeOf_16 : decode cX11_sizeOf 16 = .ok (.iload 4, 2) := by decide +kernel
theorem dX11_sizeOf_18 : decode cX11_sizeOf 18 = .ok (.iaload, 1) := by decide +kernel
theorem dX11_sizeOf_19 : decode cX11_sizeOf 19 = .ok (.iload_n 2, 1) := by decide +kernel
theorem dX11_sizeOf_20 : decode cX11_sizeOf 20 = .ok (.if_icmp .ne 7, 3) := by decide +kernel
theorem dX11_sizeOf_23 : decode cX11_sizeOf 23 = .ok (.iconst 1, 1) := by decide +kernel
theorem dX11_sizeOf_24 : decode cX11_sizeOf 24 = .ok (.goto 4, 3) := by decide +kernel
theorem dX11_sizeOf_27 : decode cX11_sizeOf 27 = .ok (.iconst 0, 1) := by decide +kernel
theorem dX11_sizeOf_28 : decode cX11_sizeOf 28 = .ok (.iadd, 1) := by decide +kernel
theorem dX11_sizeOf_29 : decode cX11_sizeOf 29 = .ok (.istore_n 3, 1) := by decide +kernel
theorem dX11_sizeOf_30 : decode cX11_sizeOf 30 = .ok (.iinc 4 1, 3) := by decide +kernel
theorem dX11_sizeOf_33 : decode cX11_sizeOf 33 = .ok (.goto (-28), 3) := by decide +kernel
theorem dX11_sizeOf_36 : decode cX11_sizeOf 36 = .ok (.iload_n 3, 1) := by decide +kernel
theorem dX11_sizeOf_37 : decode cX11_sizeOf 37 = .ok (.ireturn, 1) := by decide +kernel
set_option maxRecDepth 20000 in
theorem ggX11_worthOf_X11_guests : GoodIn wsX11_worthOf wsX11_guests := goodIn_r _ [6, 1, 7, 8, 9, 10, 11, 12, 13, 14, 15, 16, 17, 18, 19, 20, 21, 22, 23] (by decide +kernel) (by decide +kernel)
set_option maxRecDepth 20000 in
theorem gX11_worthOf_X11_guests : GoodIn wsX11_worthOf (wsV RX11 112 RX11 yX11_guests wsX11_guests) := goodIn_app (goodIn_of _ (by decide +kernel)) ggX11_worthOf_X11_guests
theorem dX11_worthOf_0 : decode cX11_worthOf 0 = .ok (.iconst 0, 1) := by decide +kernel
theorem dX11_worthOf_1 : decode cX11_worthOf 1 = .ok (.istore_n 2, 1) := by decide +kernel
theorem dX11_worthOf_2 : decode cX11_worthOf 2 = .ok (.iconst 0, 1) := by decide +kernel
theorem dX11_worthOf_3 : decode cX11_worthOf 3 = .ok (.istore_n 3, 1) := by decide +kernel
theorem dX11_worthOf_4 : decode cX11_worthOf 4 = .ok (.iload_n 3, 1) := by decide +kernel
theorem dX11_worthOf_5 : decode cX11_worthOf 5 = .ok (.aload_n 0, 1) := by decide +kernel
theorem dX11_worthOf_6 : decode cX11_worthOf 6 = .ok (.invokevirtual 112, 3) := by decide +kernel
theorem dX11_worthOf_9 : decode cX11_worthOf 9 = .ok (.if_icmp .ge 56, 3) := by decide +kernel
theorem dX11_worthOf_12 : decode cX11_worthOf 12 = .ok (.iconst 0, 1) := by decide +kernel
theorem dX11_worthOf_13 : decode cX11_worthOf 13 = .ok (.istore 4, 2) := by decide +kernel
theorem dX11_worthOf_15 : decode cX11_worthOf 15 = .ok (.iload 4, 2) := by decide +kernel
theorem dX11_worthOf_17 : decode cX11_worthOf 17 = .ok (.iload_n 3, 1) := by decide +kernel
theorem dX11_worthOf_18 : decode cX11_worthOf 18 = .ok (.if_icmp .ge 41, 3) := by decide +kernel
theorem dX11_worthOf_21 : decode cX11_worthOf 21 = .ok (.iload_n 2, 1) := by decide +kernel
theorem dX11_worthOf_22 : decode cX11_worthOf 22 = .ok (.aload_n 1, 1) := by decide +kernel
theorem dX11_worthOf_23 : decode cX11_worthOf 23 = .ok (.iload_n 3, 1) := by decide +kernel
theorem dX11_worthOf_24 : decode cX11_worthOf 24 = .ok (.iaload, 1) := by decide +kernel
theorem dX11_worthOf_25 : decode cX11_worthOf 25 = .ok (.aload_n 1, 1) := by decide +kernel
theorem dX11_worthOf_26 : decode cX11_worthOf 26 = .ok (.iload 4, 2) := by decide +kernel
theorem dX11_worthOf_28 : decode cX11_worthOf 28 = .ok (.iaload, 1) := by decide +kernel
theorem dX11_worthOf_29 : decode cX11_worthOf 29 = .ok (.if_icmp .ne 21, 3) := by decide +kernel
theorem dX11_worthOf_32 : decode cX11_worthOf 32 = .ok (.aload_n 0, 1) := by decide +kernel
theorem dX11_worthOf_33 : decode cX11_worthOf 33 = .ok (.getfield 13, 3) := by decide +kernel
theorem dX11_worthOf_36 : decode cX11_worthOf 36 = .ok (.bipush 30, 2) := by decide +kernel
theorem dX11_worthOf_38 : decode cX11_worthOf 38 = .ok (.bipush 8, 2) := by decide +kernel
theorem dX11_worthOf_40 : decode cX11_worthOf 40 = .ok (.iload_n 3, 1) := by decide +kernel
theorem dX11_worthOf_41 : decode cX11_worthOf 41 = .ok (.imul, 1) := by decide +kernel
theorem dX11_worthOf_42 : decode cX11_worthOf 42 = .ok (.iadd, 1) := by decide +kernel
theorem dX11_worthOf_43 : decode cX11_worthOf 43 = .ok (.iload 4, 2) := by decide +kernel
theorem dX11_worthOf_45 : decode cX11_worthOf 45 = .ok (.iadd, 1) := by decide +kernel
theorem dX11_worthOf_46 : decode cX11_worthOf 46 = .ok (.iaload, 1) := by decide +kernel
theorem dX11_worthOf_47 : decode cX11_worthOf 47 = .ok (.goto 4, 3) := by decide +kernel
theorem dX11_worthOf_50 : decode cX11_worthOf 50 = .ok (.iconst 0, 1) := by decide +kernel
theorem dX11_worthOf_51 : decode cX11_worthOf 51 = .ok (.iadd, 1) := by decide +kernel
theorem dX11_worthOf_52 : decode cX11_worthOf 52 = .ok (.istore_n 2, 1) := by decide +kernel
theorem dX11_worthOf_53 : decode cX11_worthOf 53 = .ok (.iinc 4 1, 3) := by decide +kernel
theorem dX11_worthOf_56 : decode cX11_worthOf 56 = .ok (.goto (-41), 3) := by decide +kernel
theorem dX11_worthOf_59 : decode cX11_worthOf 59 = .ok (.iinc 3 1, 3) := by decide +kernel
theorem dX11_worthOf_62 : decode cX11_worthOf 62 = .ok (.goto (-58), 3) := by decide +kernel
theorem dX11_worthOf_65 : decode cX11_worthOf 65 = .ok (.iload_n 2, 1) := by decide +kernel
theorem dX11_worthOf_66 : decode cX11_worthOf 66 = .ok (.ireturn, 1) := by decide +kernel
set_option maxRecDepth 20000 in
theorem ggX11_isCrossed_X11_guests : GoodIn wsX11_isCrossed wsX11_guests := goodIn_r _ [5, 6, 7, 8, 9, 10, 11, 12, 13, 14, 15, 16, 17, 18, 19, 20, 21, 22, 23] (by decide +kernel) (by decide +kernel)
set_option maxRecDepth 20000 in
theorem gX11_isCrossed_X11_guests : GoodIn wsX11_isCrossed (wsV RX11 112 RX11 yX11_guests wsX11_guests) := goodIn_app (goodIn_of _ (by decide +kernel)) ggX11_isCrossed_X11_guests
theorem dX11_isCrossed_0 : decode cX11_isCrossed 0 = .ok (.iconst 0, 1) := by decide +kernel
theorem dX11_isCrossed_1 : decode cX11_isCrossed 1 = .ok (.istore_n 2, 1) := by decide +kernel
theorem dX11_isCrossed_2 : decode cX11_isCrossed 2 = .ok (.iconst 0, 1) := by decide +kernel
theorem dX11_isCrossed_3 : decode cX11_isCrossed 3 = .ok (.istore_n 3, 1) := by decide +kernel
theorem dX11_isCrossed_4 : decode cX11_isCrossed 4 = .ok (.iload_n 3, 1) := by decide +kernel
theorem dX11_isCrossed_5 : decode cX11_isCrossed 5 = .ok (.aload_n 0, 1) := by decide +kernel
theorem dX11_isCrossed_6 : decode cX11_isCrossed 6 = .ok (.invokevirtual 112, 3) := by decide +kernel
theorem dX11_isCrossed_9 : decode cX11_isCrossed 9 = .ok (.if_icmp .ge 112, 3) := by decide +kernel
theorem dX11_isCrossed_12 : decode cX11_isCrossed 12 = .ok (.iload_n 3, 1) := by decide +kernel
theorem dX11_isCrossed_13 : decode cX11_isCrossed 13 = .ok (.iconst 1, 1) := by decide +kernel
theorem dX11_isCrossed_14 : decode cX11_isCrossed 14 = .ok (.iadd, 1) := by decide +kernel
theorem dX11_isCrossed_15 : decode cX11_isCrossed 15 = .ok (.istore 4, 2) := by decide +kernel
theorem dX11_isCrossed_17 : decode cX11_isCrossed 17 = .ok (.iload 4, 2) := by decide +kernel
theorem dX11_isCrossed_19 : decode cX11_isCrossed 19 = .ok (.aload_n 0, 1) := by decide +kernel
theorem dX11_isCrossed_20 : decode cX11_isCrossed 20 = .ok (.invokevirtual 112, 3) := by decide +kernel
theorem dX11_isCrossed_23 : decode cX11_isCrossed 23 = .ok (.if_icmp .ge 92, 3) := by decide +kernel
theorem dX11_isCrossed_26 : decode cX11_isCrossed 26 = .ok (.iload 4, 2) := by decide +kernel
theorem dX11_isCrossed_28 : decode cX11_isCrossed 28 = .ok (.iconst 1, 1) := by decide +kernel
theorem dX11_isCrossed_29 : decode cX11_isCrossed 29 = .ok (.iadd, 1) := by decide +kernel
theorem dX11_isCrossed_30 : decode cX11_isCrossed 30 = .ok (.istore 5, 2) := by decide +kernel
theorem dX11_isCrossed_32 : decode cX11_isCrossed 32 = .ok (.iload 5, 2) := by decide +kernel
theorem dX11_isCrossed_34 : decode cX11_isCrossed 34 = .ok (.aload_n 0, 1) := by decide +kernel
theorem dX11_isCrossed_35 : decode cX11_isCrossed 35 = .ok (.invokevirtual 112, 3) := by decide +kernel
theorem dX11_isCrossed_38 : decode cX11_isCrossed 38 = .ok (.if_icmp .ge 71, 3) := by decide +kernel
theorem dX11_isCrossed_41 : decode cX11_isCrossed 41 = .ok (.iload 5, 2) := by decide +kernel
theorem dX11_isCrossed_43 : decode cX11_isCrossed 43 = .ok (.iconst 1, 1) := by decide +kernel
theorem dX11_isCrossed_44 : decode cX11_isCrossed 44 = .ok (.iadd, 1) := by decide +kernel
theorem dX11_isCrossed_45 : decode cX11_isCrossed 45 = .ok (.istore 6, 2) := by decide +kernel
theorem dX11_isCrossed_47 : decode cX11_isCrossed 47 = .ok (.iload 6, 2) := by decide +kernel
theorem dX11_isCrossed_49 : decode cX11_isCrossed 49 = .ok (.aload_n 0, 1) := by decide +kernel
theorem dX11_isCrossed_50 : decode cX11_isCrossed 50 = .ok (.invokevirtual 112, 3) := by decide +kernel
theorem dX11_isCrossed_53 : decode cX11_isCrossed 53 = .ok (.if_icmp .ge 50, 3) := by decide +kernel
theorem dX11_isCrossed_56 : decode cX11_isCrossed 56 = .ok (.iload_n 2, 1) := by decide +kernel
theorem dX11_isCrossed_57 : decode cX11_isCrossed 57 = .ok (.ifCond .ne 34, 3) := by decide +kernel
theorem dX11_isCrossed_60 : decode cX11_isCrossed 60 = .ok (.aload_n 1, 1) := by decide +kernel
theorem dX11_isCrossed_61 : decode cX11_isCrossed 61 = .ok (.iload_n 3, 1) := by decide +kernel
theorem dX11_isCrossed_62 : decode cX11_isCrossed 62 = .ok (.iaload, 1) := by decide +kernel
theorem dX11_isCrossed_63 : decode cX11_isCrossed 63 = .ok (.aload_n 1, 1) := by decide +kernel
theorem dX11_isCrossed_64 : decode cX11_isCrossed 64 = .ok (.iload 5, 2) := by decide +kernel
theorem dX11_isCrossed_66 : decode cX11_isCrossed 66 = .ok (.iaload, 1) := by decide +kernel
theorem dX11_isCrossed_67 : decode cX11_isCrossed 67 = .ok (.if_icmp .ne 28, 3) := by decide +kernel
theorem dX11_isCrossed_70 : decode cX11_isCrossed 70 = .ok (.aload_n 1, 1) := by decide +kernel
theorem dX11_isCrossed_71 : decode cX11_isCrossed 71 = .ok (.iload 4, 2) := by decide +kernel
theorem dX11_isCrossed_73 : decode cX11_isCrossed 73 = .ok (.iaload, 1) := by decide +kernel
theorem dX11_isCrossed_74 : decode cX11_isCrossed 74 = .ok (.aload_n 1, 1) := by decide +kernel
theorem dX11_isCrossed_75 : decode cX11_isCrossed 75 = .ok (.iload 6, 2) := by decide +kernel
theorem dX11_isCrossed_77 : decode cX11_isCrossed 77 = .ok (.iaload, 1) := by decide +kernel
theorem dX11_isCrossed_78 : decode cX11_isCrossed 78 = .ok (.if_icmp .ne 17, 3) := by decide +kernel
theorem dX11_isCrossed_81 : decode cX11_isCrossed 81 = .ok (.aload_n 1, 1) := by decide +kernel
theorem dX11_isCrossed_82 : decode cX11_isCrossed 82 = .ok (.iload_n 3, 1) := by decide +kernel
theorem dX11_isCrossed_83 : decode cX11_isCrossed 83 = .ok (.iaload, 1) := by decide +kernel
theorem dX11_isCrossed_84 : decode cX11_isCrossed 84 = .ok (.aload_n 1, 1) := by decide +kernel
theorem dX11_isCrossed_85 : decode cX11_isCrossed 85 = .ok (.iload 4, 2) := by decide +kernel
theorem dX11_isCrossed_87 : decode cX11_isCrossed 87 = .ok (.iaload, 1) := by decide +kernel
theorem dX11_isCrossed_88 : decode cX11_isCrossed 88 = .ok (.if_icmp .eq 7, 3) := by decide +kernel
theorem dX11_isCrossed_91 : decode cX11_isCrossed 91 = .ok (.iconst 1, 1) := by decide +kernel
theorem dX11_isCrossed_92 : decode cX11_isCrossed 92 = .ok (.goto 4, 3) := by decide +kernel
theorem dX11_isCrossed_95 : decode cX11_isCrossed 95 = .ok (.iconst 0, 1) := by decide +kernel
theorem dX11_isCrossed_96 : decode cX11_isCrossed 96 = .ok (.istore_n 2, 1) := by decide +kernel
theorem dX11_isCrossed_97 : decode cX11_isCrossed 97 = .ok (.iinc 6 1, 3) := by decide +kernel
theorem dX11_isCrossed_100 : decode cX11_isCrossed 100 = .ok (.goto (-53), 3) := by decide +kernel
theorem dX11_isCrossed_103 : decode cX11_isCrossed 103 = .ok (.iinc 5 1, 3) := by decide +kernel
theorem dX11_isCrossed_106 : decode cX11_isCrossed 106 = .ok (.goto (-74), 3) := by decide +kernel
theorem dX11_isCrossed_109 : decode cX11_isCrossed 109 = .ok (.iinc 4 1, 3) := by decide +kernel
theorem dX11_isCrossed_112 : decode cX11_isCrossed 112 = .ok (.goto (-95), 3) := by decide +kernel
theorem dX11_isCrossed_115 : decode cX11_isCrossed 115 = .ok (.iinc 3 1, 3) := by decide +kernel
theorem dX11_isCrossed_118 : decode cX11_isCrossed 118 = .ok (.goto (-114), 3) := by decide +kernel
theorem dX11_isCrossed_121 : decode cX11_isCrossed 121 = .ok (.iload_n 2, 1) := by decide +kernel
theorem dX11_isCrossed_122 : decode cX11_isCrossed 122 = .ok (.ireturn, 1) := by decide +kernel
set_option maxRecDepth 20000 in
theorem ggX11_arePairsWell_X11_guests : GoodIn wsX11_arePairsWell wsX11_guests := goodIn_r _ [6, 1, 7, 8, 9, 10, 11, 12, 13, 14, 15, 16, 17, 18, 19, 20, 21, 22, 23] (by decide +kernel) (by decide +kernel)
set_option maxRecDepth 20000 in
theorem gX11_arePairsWell_X11_guests : GoodIn wsX11_arePairsWell (wsV RX11 112 RX11 yX11_guests wsX11_guests) := goodIn_app (goodIn_of _ (by decide +kernel)) ggX11_arePairsWell_X11_guests
theorem dX11_arePairsWell_0 : decode cX11_arePairsWell 0 = .ok (.iconst 1, 1) := by decide +kernel
theorem dX11_arePairsWell_1 : decode cX11_arePairsWell 1 = .ok (.istore_n 2, 1) := by decide +kernel
theorem dX11_arePairsWell_2 : decode cX11_arePairsWell 2 = .ok (.iconst 0, 1) := by decide +kernel
theorem dX11_arePairsWell_3 : decode cX11_arePairsWell 3 = .ok (.istore_n 3, 1) := by decide +kernel
theorem dX11_arePairsWell_4 : decode cX11_arePairsWell 4 = .ok (.iload_n 3, 1) := by decide +kernel
theorem dX11_arePairsWell_5 : decode cX11_arePairsWell 5 = .ok (.aload_n 0, 1) := by decide +kernel
theorem dX11_arePairsWell_6 : decode cX11_arePairsWell 6 = .ok (.invokevirtual 112, 3) := by decide +kernel
theorem dX11_arePairsWell_9 : decode cX11_arePairsWell 9 = .ok (.if_icmp .ge 143, 3) := by decide +kernel
theorem dX11_arePairsWell_12 : decode cX11_arePairsWell 12 = .ok (.iconst 0, 1) := by decide +kernel
theorem dX11_arePairsWell_13 : decode cX11_arePairsWell 13 = .ok (.istore 4, 2) := by decide +kernel
theorem dX11_arePairsWell_15 : decode cX11_arePairsWell 15 = .ok (.iload 4, 2) := by decide +kernel
theorem dX11_arePairsWell_17 : decode cX11_arePairsWell 17 = .ok (.iload_n 3, 1) := by decide +kernel
theorem dX11_arePairsWell_18 : decode cX11_arePairsWell 18 = .ok (.if_icmp .ge 128, 3) := by decide +kernel
theorem dX11_arePairsWell_21 : decode cX11_arePairsWell 21 = .ok (.aload_n 1, 1) := by decide +kernel
theorem dX11_arePairsWell_22 : decode cX11_arePairsWell 22 = .ok (.iload_n 3, 1) := by decide +kernel
theorem dX11_arePairsWell_23 : decode cX11_arePairsWell 23 = .ok (.iaload, 1) := by decide +kernel
theorem dX11_arePairsWell_24 : decode cX11_arePairsWell 24 = .ok (.aload_n 1, 1) := by decide +kernel
theorem dX11_arePairsWell_25 : decode cX11_arePairsWell 25 = .ok (.iload 4, 2) := by decide +kernel
theorem dX11_arePairsWell_27 : decode cX11_arePairsWell 27 = .ok (.iaload, 1) := by decide +kernel
theorem dX11_arePairsWell_28 : decode cX11_arePairsWell 28 = .ok (.if_icmp .ne 7, 3) := by decide +kernel
theorem dX11_arePairsWell_31 : decode cX11_arePairsWell 31 = .ok (.iconst 1, 1) := by decide +kernel
theorem dX11_arePairsWell_32 : decode cX11_arePairsWell 32 = .ok (.goto 4, 3) := by decide +kernel
theorem dX11_arePairsWell_35 : decode cX11_arePairsWell 35 = .ok (.iconst 0, 1) := by decide +kernel
theorem dX11_arePairsWell_36 : decode cX11_arePairsWell 36 = .ok (.istore 5, 2) := by decide +kernel
theorem dX11_arePairsWell_38 : decode cX11_arePairsWell 38 = .ok (.iload 5, 2) := by decide +kernel
theorem dX11_arePairsWell_40 : decode cX11_arePairsWell 40 = .ok (.ifCond .eq 60, 3) := by decide +kernel
theorem dX11_arePairsWell_43 : decode cX11_arePairsWell 43 = .ok (.aload_n 0, 1) := by decide +kernel
theorem dX11_arePairsWell_44 : decode cX11_arePairsWell 44 = .ok (.getfield 13, 3) := by decide +kernel
theorem dX11_arePairsWell_47 : decode cX11_arePairsWell 47 = .ok (.bipush 22, 2) := by decide +kernel
theorem dX11_arePairsWell_49 : decode cX11_arePairsWell 49 = .ok (.iload_n 3, 1) := by decide +kernel
theorem dX11_arePairsWell_50 : decode cX11_arePairsWell 50 = .ok (.iadd, 1) := by decide +kernel
theorem dX11_arePairsWell_51 : decode cX11_arePairsWell 51 = .ok (.iaload, 1) := by decide +kernel
theorem dX11_arePairsWell_52 : decode cX11_arePairsWell 52 = .ok (.iload 4, 2) := by decide +kernel
theorem dX11_arePairsWell_54 : decode cX11_arePairsWell 54 = .ok (.ishr, 1) := by decide +kernel
theorem dX11_arePairsWell_55 : decode cX11_arePairsWell 55 = .ok (.iconst 1, 1) := by decide +kernel
theorem dX11_arePairsWell_56 : decode cX11_arePairsWell 56 = .ok (.iand, 1) := by decide +kernel
theorem dX11_arePairsWell_57 : decode cX11_arePairsWell 57 = .ok (.iconst 1, 1) := by decide +kernel
theorem dX11_arePairsWell_58 : decode cX11_arePairsWell 58 = .ok (.if_icmp .eq 34, 3) := by decide +kernel
theorem dX11_arePairsWell_61 : decode cX11_arePairsWell 61 = .ok (.aload_n 0, 1) := by decide +kernel
theorem dX11_arePairsWell_62 : decode cX11_arePairsWell 62 = .ok (.getfield 13, 3) := by decide +kernel
theorem dX11_arePairsWell_65 : decode cX11_arePairsWell 65 = .ok (.bipush 12, 2) := by decide +kernel
theorem dX11_arePairsWell_67 : decode cX11_arePairsWell 67 = .ok (.iaload, 1) := by decide +kernel
theorem dX11_arePairsWell_68 : decode cX11_arePairsWell 68 = .ok (.iconst 1, 1) := by decide +kernel
theorem dX11_arePairsWell_69 : decode cX11_arePairsWell 69 = .ok (.if_icmp .ne 27, 3) := by decide +kernel
theorem dX11_arePairsWell_72 : decode cX11_arePairsWell 72 = .ok (.aload_n 0, 1) := by decide +kernel
theorem dX11_arePairsWell_73 : decode cX11_arePairsWell 73 = .ok (.getfield 13, 3) := by decide +kernel
theorem dX11_arePairsWell_76 : decode cX11_arePairsWell 76 = .ok (.iconst 1, 1) := by decide +kernel
theorem dX11_arePairsWell_77 : decode cX11_arePairsWell 77 = .ok (.iload_n 3, 1) := by decide +kernel
theorem dX11_arePairsWell_78 : decode cX11_arePairsWell 78 = .ok (.iadd, 1) := by decide +kernel
theorem dX11_arePairsWell_79 : decode cX11_arePairsWell 79 = .ok (.iaload, 1) := by decide +kernel
theorem dX11_arePairsWell_80 : decode cX11_arePairsWell 80 = .ok (.aload_n 0, 1) := by decide +kernel
theorem dX11_arePairsWell_81 : decode cX11_arePairsWell 81 = .ok (.getfield 13, 3) := by decide +kernel
theorem dX11_arePairsWell_84 : decode cX11_arePairsWell 84 = .ok (.iconst 1, 1) := by decide +kernel
theorem dX11_arePairsWell_85 : decode cX11_arePairsWell 85 = .ok (.iload 4, 2) := by decide +kernel
theorem dX11_arePairsWell_87 : decode cX11_arePairsWell 87 = .ok (.iadd, 1) := by decide +kernel
theorem dX11_arePairsWell_88 : decode cX11_arePairsWell 88 = .ok (.iaload, 1) := by decide +kernel
theorem dX11_arePairsWell_89 : decode cX11_arePairsWell 89 = .ok (.if_icmp .ne 7, 3) := by decide +kernel
theorem dX11_arePairsWell_92 : decode cX11_arePairsWell 92 = .ok (.iconst 1, 1) := by decide +kernel
theorem dX11_arePairsWell_93 : decode cX11_arePairsWell 93 = .ok (.goto 30, 3) := by decide +kernel
theorem dX11_arePairsWell_96 : decode cX11_arePairsWell 96 = .ok (.iconst 0, 1) := by decide +kernel
theorem dX11_arePairsWell_97 : decode cX11_arePairsWell 97 = .ok (.goto 26, 3) := by decide +kernel
theorem dX11_arePairsWell_100 : decode cX11_arePairsWell 100 = .ok (.aload_n 0, 1) := by decide +kernel
theorem dX11_arePairsWell_101 : decode cX11_arePairsWell 101 = .ok (.getfield 13, 3) := by decide +kernel
theorem dX11_arePairsWell_104 : decode cX11_arePairsWell 104 = .ok (.bipush 14, 2) := by decide +kernel
theorem dX11_arePairsWell_106 : decode cX11_arePairsWell 106 = .ok (.iload_n 3, 1) := by decide +kernel
theorem dX11_arePairsWell_107 : decode cX11_arePairsWell 107 = .ok (.iadd, 1) := by decide +kernel
theorem dX11_arePairsWell_108 : decode cX11_arePairsWell 108 = .ok (.iaload, 1) := by decide +kernel
theorem dX11_arePairsWell_109 : decode cX11_arePairsWell 109 = .ok (.iload 4, 2) := by decide +kernel
theorem dX11_arePairsWell_111 : decode cX11_arePairsWell 111 = .ok (.ishr, 1) := by decide +kernel
theorem dX11_arePairsWell_112 : decode cX11_arePairsWell 112 = .ok (.iconst 1, 1) := by decide +kernel
theorem dX11_arePairsWell_113 : decode cX11_arePairsWell 113 = .ok (.iand, 1) := by decide +kernel
theorem dX11_arePairsWell_114 : decode cX11_arePairsWell 114 = .ok (.iconst 1, 1) := by decide +kernel
theorem dX11_arePairsWell_115 : decode cX11_arePairsWell 115 = .ok (.if_icmp .ne 7, 3) := by decide +kernel
theorem dX11_arePairsWell_118 : decode cX11_arePairsWell 118 = .ok (.iconst 1, 1) := by decide +kernel
theorem dX11_arePairsWell_119 : decode cX11_arePairsWell 119 = .ok (.goto 4, 3) := by decide +kernel
theorem dX11_arePairsWell_122 : decode cX11_arePairsWell 122 = .ok (.iconst 0, 1) := by decide +kernel
theorem dX11_arePairsWell_123 : decode cX11_arePairsWell 123 = .ok (.istore 6, 2) := by decide +kernel
theorem dX11_arePairsWell_125 : decode cX11_arePairsWell 125 = .ok (.iload_n 2, 1) := by decide +kernel
theorem dX11_arePairsWell_126 : decode cX11_arePairsWell 126 = .ok (.ifCond .eq 12, 3) := by decide +kernel
theorem dX11_arePairsWell_129 : decode cX11_arePairsWell 129 = .ok (.iload 6, 2) := by decide +kernel
theorem dX11_arePairsWell_131 : decode cX11_arePairsWell 131 = .ok (.ifCond .ne 7, 3) := by decide +kernel
theorem dX11_arePairsWell_134 : decode cX11_arePairsWell 134 = .ok (.iconst 1, 1) := by decide +kernel
theorem dX11_arePairsWell_135 : decode cX11_arePairsWell 135 = .ok (.goto 4, 3) := by decide +kernel
theorem dX11_arePairsWell_138 : decode cX11_arePairsWell 138 = .ok (.iconst 0, 1) := by decide +kernel
theorem dX11_arePairsWell_139 : decode cX11_arePairsWell 139 = .ok (.istore_n 2, 1) := by decide +kernel
theorem dX11_arePairsWell_140 : decode cX11_arePairsWell 140 = .ok (.iinc 4 1, 3) := by decide +kernel
theorem dX11_arePairsWell_143 : decode cX11_arePairsWell 143 = .ok (.goto (-128), 3) := by decide +kernel
theorem dX11_arePairsWell_146 : decode cX11_arePairsWell 146 = .ok (.iinc 3 1, 3) := by decide +kernel
theorem dX11_arePairsWell_149 : decode cX11_arePairsWell 149 = .ok (.goto (-145), 3) := by decide +kernel
theorem dX11_arePairsWell_152 : decode cX11_arePairsWell 152 = .ok (.iload_n 2, 1) := by decide +kernel
theorem dX11_arePairsWell_153 : decode cX11_arePairsWell 153 = .ok (.ireturn, 1) := by decide +kernel
set_option maxRecDepth 20000 in
theorem ggX11_isLawful_X11_partiesOf : GoodIn wsX11_isLawful wsX11_partiesOf := goodIn_r _ [6, 7, 8, 9, 5, 10, 1, 23, 24, 25, 26, 27, 28, 29, 30, 31, 32, 33, 34, 35, 36, 37, 38, 39] (by decide +kernel) (by decide +kernel)
set_option maxRecDepth 20000 in
theorem gX11_isLawful_X11_partiesOf : GoodIn wsX11_isLawful (wsV RX11 125 RX11 yX11_partiesOf wsX11_partiesOf) := goodIn_app (goodIn_of _ (by decide +kernel)) ggX11_isLawful_X11_partiesOf
set_option maxRecDepth 20000 in
theorem ggX11_isLawful_X11_sizeOf : GoodIn wsX11_isLawful wsX11_sizeOf := goodIn_r _ [14, 7, 8, 9, 5, 10, 1, 23, 24, 25, 26, 27, 28, 29, 30, 31, 32, 33, 34, 35, 36, 37, 38, 39] (by decide +kernel) (by decide +kernel)
set_option maxRecDepth 20000 in
theorem gX11_isLawful_X11_sizeOf : GoodIn wsX11_isLawful (wsV RX11 129 RX11 yX11_sizeOf wsX11_sizeOf) := goodIn_app (goodIn_of _ (by decide +kernel)) ggX11_isLawful_X11_sizeOf
set_option maxRecDepth 20000 in
theorem ggX11_isLawful_X11_arePairsWell : GoodIn wsX11_isLawful wsX11_arePairsWell := goodIn_r _ [18, 1, 7, 8, 9, 5, 10, 23, 24, 25, 26, 27, 28, 29, 30, 31, 32, 33, 34, 35, 36, 37, 38, 39] (by decide +kernel) (by decide +kernel)
set_option maxRecDepth 20000 in
theorem gX11_isLawful_X11_arePairsWell : GoodIn wsX11_isLawful (wsV RX11 133 RX11 yX11_arePairsWell wsX11_arePairsWell) := goodIn_app (goodIn_of _ (by decide +kernel)) ggX11_isLawful_X11_arePairsWell
set_option maxRecDepth 20000 in
theorem ggX11_isLawful_X11_isCrossed : GoodIn wsX11_isLawful wsX11_isCrossed := goodIn_r _ [22, 7, 8, 9, 5, 10, 1, 23, 24, 25, 26, 27, 28, 29, 30, 31, 32, 33, 34, 35, 36, 37, 38, 39] (by decide +kernel) (by decide +kernel)
set_option maxRecDepth 20000 in
theorem gX11_isLawful_X11_isCrossed : GoodIn wsX11_isLawful (wsV RX11 137 RX11 yX11_isCrossed wsX11_isCrossed) := goodIn_app (goodIn_of _ (by decide +kernel)) ggX11_isLawful_X11_isCrossed
theorem dX11_isLawful_0 : decode cX11_isLawful 0 = .ok (.aload_n 0, 1) := by decide +kernel
theorem dX11_isLawful_1 : decode cX11_isLawful 1 = .ok (.aload_n 1, 1) := by decide +kernel
theorem dX11_isLawful_2 : decode cX11_isLawful 2 = .ok (.invokevirtual 125, 3) := by decide +kernel
theorem dX11_isLawful_5 : decode cX11_isLawful 5 = .ok (.istore_n 2, 1) := by decide +kernel
theorem dX11_isLawful_6 : decode cX11_isLawful 6 = .ok (.aload_n 0, 1) := by decide +kernel
theorem dX11_isLawful_7 : decode cX11_isLawful 7 = .ok (.getfield 13, 3) := by decide +kernel
theorem dX11_isLawful_10 : decode cX11_isLawful 10 = .ok (.bipush 9, 2) := by decide +kernel
theorem dX11_isLawful_12 : decode cX11_isLawful 12 = .ok (.iaload, 1) := by decide +kernel
theorem dX11_isLawful_13 : decode cX11_isLawful 13 = .ok (.ifCond .eq 14, 3) := by decide +kernel
theorem dX11_isLawful_16 : decode cX11_isLawful 16 = .ok (.iload_n 2, 1) := by decide +kernel
theorem dX11_isLawful_17 : decode cX11_isLawful 17 = .ok (.aload_n 0, 1) := by decide +kernel
theorem dX11_isLawful_18 : decode cX11_isLawful 18 = .ok (.getfield 13, 3) := by decide +kernel
theorem dX11_isLawful_21 : decode cX11_isLawful 21 = .ok (.bipush 9, 2) := by decide +kernel
theorem dX11_isLawful_23 : decode cX11_isLawful 23 = .ok (.iaload, 1) := by decide +kernel
theorem dX11_isLawful_24 : decode cX11_isLawful 24 = .ok (.if_icmp .ne 7, 3) := by decide +kernel
theorem dX11_isLawful_27 : decode cX11_isLawful 27 = .ok (.iconst 1, 1) := by decide +kernel
theorem dX11_isLawful_28 : decode cX11_isLawful 28 = .ok (.goto 4, 3) := by decide +kernel
theorem dX11_isLawful_31 : decode cX11_isLawful 31 = .ok (.iconst 0, 1) := by decide +kernel
theorem dX11_isLawful_32 : decode cX11_isLawful 32 = .ok (.istore_n 3, 1) := by decide +kernel
theorem dX11_isLawful_33 : decode cX11_isLawful 33 = .ok (.iconst 0, 1) := by decide +kernel
theorem dX11_isLawful_34 : decode cX11_isLawful 34 = .ok (.istore 4, 2) := by decide +kernel
theorem dX11_isLawful_36 : decode cX11_isLawful 36 = .ok (.iload 4, 2) := by decide +kernel
theorem dX11_isLawful_38 : decode cX11_isLawful 38 = .ok (.iload_n 2, 1) := by decide +kernel
theorem dX11_isLawful_39 : decode cX11_isLawful 39 = .ok (.if_icmp .ge 62, 3) := by decide +kernel
theorem dX11_isLawful_42 : decode cX11_isLawful 42 = .ok (.iload_n 3, 1) := by decide +kernel
theorem dX11_isLawful_43 : decode cX11_isLawful 43 = .ok (.ifCond .eq 58, 3) := by decide +kernel
theorem dX11_isLawful_46 : decode cX11_isLawful 46 = .ok (.aload_n 0, 1) := by decide +kernel
theorem dX11_isLawful_47 : decode cX11_isLawful 47 = .ok (.aload_n 1, 1) := by decide +kernel
theorem dX11_isLawful_48 : decode cX11_isLawful 48 = .ok (.iload 4, 2) := by decide +kernel
theorem dX11_isLawful_50 : decode cX11_isLawful 50 = .ok (.invokevirtual 129, 3) := by decide +kernel
theorem dX11_isLawful_53 : decode cX11_isLawful 53 = .ok (.istore 5, 2) := by decide +kernel
theorem dX11_isLawful_55 : decode cX11_isLawful 55 = .ok (.iload 5, 2) := by decide +kernel
theorem dX11_isLawful_57 : decode cX11_isLawful 57 = .ok (.aload_n 0, 1) := by decide +kernel
theorem dX11_isLawful_58 : decode cX11_isLawful 58 = .ok (.getfield 13, 3) := by decide +kernel
theorem dX11_isLawful_61 : decode cX11_isLawful 61 = .ok (.bipush 10, 2) := by decide +kernel
theorem dX11_isLawful_63 : decode cX11_isLawful 63 = .ok (.iaload, 1) := by decide +kernel
theorem dX11_isLawful_64 : decode cX11_isLawful 64 = .ok (.if_icmp .lt 29, 3) := by decide +kernel
theorem dX11_isLawful_67 : decode cX11_isLawful 67 = .ok (.aload_n 0, 1) := by decide +kernel
theorem dX11_isLawful_68 : decode cX11_isLawful 68 = .ok (.getfield 13, 3) := by decide +kernel
theorem dX11_isLawful_71 : decode cX11_isLawful 71 = .ok (.bipush 11, 2) := by decide +kernel
theorem dX11_isLawful_73 : decode cX11_isLawful 73 = .ok (.iaload, 1) := by decide +kernel
theorem dX11_isLawful_74 : decode cX11_isLawful 74 = .ok (.ifCond .eq 15, 3) := by decide +kernel
theorem dX11_isLawful_77 : decode cX11_isLawful 77 = .ok (.iload 5, 2) := by decide +kernel
theorem dX11_isLawful_79 : decode cX11_isLawful 79 = .ok (.aload_n 0, 1) := by decide +kernel
theorem dX11_isLawful_80 : decode cX11_isLawful 80 = .ok (.getfield 13, 3) := by decide +kernel
theorem dX11_isLawful_83 : decode cX11_isLawful 83 = .ok (.bipush 11, 2) := by decide +kernel
theorem dX11_isLawful_85 : decode cX11_isLawful 85 = .ok (.iaload, 1) := by decide +kernel
theorem dX11_isLawful_86 : decode cX11_isLawful 86 = .ok (.if_icmp .gt 7, 3) := by decide +kernel
theorem dX11_isLawful_89 : decode cX11_isLawful 89 = .ok (.iconst 1, 1) := by decide +kernel
theorem dX11_isLawful_90 : decode cX11_isLawful 90 = .ok (.goto 4, 3) := by decide +kernel
theorem dX11_isLawful_93 : decode cX11_isLawful 93 = .ok (.iconst 0, 1) := by decide +kernel
theorem dX11_isLawful_94 : decode cX11_isLawful 94 = .ok (.istore_n 3, 1) := by decide +kernel
theorem dX11_isLawful_95 : decode cX11_isLawful 95 = .ok (.iinc 4 1, 3) := by decide +kernel
theorem dX11_isLawful_98 : decode cX11_isLawful 98 = .ok (.goto (-62), 3) := by decide +kernel
theorem dX11_isLawful_101 : decode cX11_isLawful 101 = .ok (.iload_n 3, 1) := by decide +kernel
theorem dX11_isLawful_102 : decode cX11_isLawful 102 = .ok (.ifCond .eq 34, 3) := by decide +kernel
theorem dX11_isLawful_105 : decode cX11_isLawful 105 = .ok (.aload_n 0, 1) := by decide +kernel
theorem dX11_isLawful_106 : decode cX11_isLawful 106 = .ok (.aload_n 1, 1) := by decide +kernel
theorem dX11_isLawful_107 : decode cX11_isLawful 107 = .ok (.invokevirtual 133, 3) := by decide +kernel
theorem dX11_isLawful_110 : decode cX11_isLawful 110 = .ok (.ifCond .eq 26, 3) := by decide +kernel
theorem dX11_isLawful_113 : decode cX11_isLawful 113 = .ok (.aload_n 0, 1) := by decide +kernel
theorem dX11_isLawful_114 : decode cX11_isLawful 114 = .ok (.getfield 13, 3) := by decide +kernel
theorem dX11_isLawful_117 : decode cX11_isLawful 117 = .ok (.bipush 13, 2) := by decide +kernel
theorem dX11_isLawful_119 : decode cX11_isLawful 119 = .ok (.iaload, 1) := by decide +kernel
theorem dX11_isLawful_120 : decode cX11_isLawful 120 = .ok (.iconst 1, 1) := by decide +kernel
theorem dX11_isLawful_121 : decode cX11_isLawful 121 = .ok (.if_icmp .ne 11, 3) := by decide +kernel
theorem dX11_isLawful_124 : decode cX11_isLawful 124 = .ok (.aload_n 0, 1) := by decide +kernel
theorem dX11_isLawful_125 : decode cX11_isLawful 125 = .ok (.aload_n 1, 1) := by decide +kernel
theorem dX11_isLawful_126 : decode cX11_isLawful 126 = .ok (.invokevirtual 137, 3) := by decide +kernel
theorem dX11_isLawful_129 : decode cX11_isLawful 129 = .ok (.ifCond .ne 7, 3) := by decide +kernel
theorem dX11_isLawful_132 : decode cX11_isLawful 132 = .ok (.iconst 1, 1) := by decide +kernel
theorem dX11_isLawful_133 : decode cX11_isLawful 133 = .ok (.goto 4, 3) := by decide +kernel
theorem dX11_isLawful_136 : decode cX11_isLawful 136 = .ok (.iconst 0, 1) := by decide +kernel
theorem dX11_isLawful_137 : decode cX11_isLawful 137 = .ok (.ireturn, 1) := by decide +kernel
set_option maxRecDepth 20000 in
theorem ggX11_party_X11_isGuest : GoodIn wsX11_party wsX11_isGuest := goodIn_r _ [7, 8, 9, 10, 6, 11, 12, 13, 14, 15, 16, 17, 18, 19, 20, 21, 22, 23, 24, 25, 26, 27, 28, 29, 30, 31, 32] (by decide +kernel) (by decide +kernel)
set_option maxRecDepth 20000 in
theorem gX11_party_X11_isGuest : GoodIn wsX11_party (wsV RX11 116 RX11 yX11_isGuest wsX11_isGuest) := goodIn_app (goodIn_of _ (by decide +kernel)) ggX11_party_X11_isGuest
theorem dX11_party_0 : decode cX11_party 0 = .ok (.aload_n 0, 1) := by decide +kernel
theorem dX11_party_1 : decode cX11_party 1 = .ok (.iconst 0, 1) := by decide +kernel
theorem dX11_party_2 : decode cX11_party 2 = .ok (.putfield 45, 3) := by decide +kernel
theorem dX11_party_5 : decode cX11_party 5 = .ok (.aload_n 0, 1) := by decide +kernel
theorem dX11_party_6 : decode cX11_party 6 = .ok (.iload_n 1, 1) := by decide +kernel
theorem dX11_party_7 : decode cX11_party 7 = .ok (.invokevirtual 116, 3) := by decide +kernel
theorem dX11_party_10 : decode cX11_party 10 = .ok (.ifCond .eq 12, 3) := by decide +kernel
theorem dX11_party_13 : decode cX11_party 13 = .ok (.aload_n 0, 1) := by decide +kernel
theorem dX11_party_14 : decode cX11_party 14 = .ok (.getfield 16, 3) := by decide +kernel
theorem dX11_party_17 : decode cX11_party 17 = .ok (.iload_n 1, 1) := by decide +kernel
theorem dX11_party_18 : decode cX11_party 18 = .ok (.iaload, 1) := by decide +kernel
theorem dX11_party_19 : decode cX11_party 19 = .ok (.goto 4, 3) := by decide +kernel
theorem dX11_party_22 : decode cX11_party 22 = .ok (.iconst (-1), 1) := by decide +kernel
theorem dX11_party_23 : decode cX11_party 23 = .ok (.ireturn, 1) := by decide +kernel
set_option maxRecDepth 20000 in
theorem ggX11_moves_X11_sizeOf : GoodIn wsX11_moves wsX11_sizeOf := goodIn_r _ [5, 6, 7, 8, 4, 9, 10, 15, 16, 17, 18, 19, 20, 21, 22, 23, 24, 25, 26, 27, 28, 29, 30, 31] (by decide +kernel) (by decide +kernel)
set_option maxRecDepth 20000 in
theorem gX11_moves_X11_sizeOf : GoodIn wsX11_moves (wsV RX11 129 RX11 yX11_sizeOf wsX11_sizeOf) := goodIn_app (goodIn_of _ (by decide +kernel)) ggX11_moves_X11_sizeOf
set_option maxRecDepth 20000 in
theorem ggX11_moves_X11_numbers : GoodIn wsX11_moves wsX11_numbers := goodIn_r _ [14, 6, 7, 8, 4, 9, 10, 15, 16, 17, 18, 19, 20, 21, 22, 23, 24, 25, 26, 27, 28, 29, 30, 31] (by decide +kernel) (by decide +kernel)
set_option maxRecDepth 20000 in
theorem gX11_moves_X11_numbers : GoodIn wsX11_moves (wsV RX11 140 RX11 yX11_numbers wsX11_numbers) := goodIn_app (goodIn_of _ (by decide +kernel)) ggX11_moves_X11_numbers
theorem dX11_moves_0 : decode cX11_moves 0 = .ok (.iload_n 2, 1) := by decide +kernel
theorem dX11_moves_1 : decode cX11_moves 1 = .ok (.iload_n 3, 1) := by decide +kernel
theorem dX11_moves_2 : decode cX11_moves 2 = .ok (.if_icmp .ne 18, 3) := by decide +kernel
theorem dX11_moves_5 : decode cX11_moves 5 = .ok (.aload_n 0, 1) := by decide +kernel
theorem dX11_moves_6 : decode cX11_moves 6 = .ok (.aload_n 1, 1) := by decide +kernel
theorem dX11_moves_7 : decode cX11_moves 7 = .ok (.aload_n 1, 1) := by decide +kernel
theorem dX11_moves_8 : decode cX11_moves 8 = .ok (.iload_n 2, 1) := by decide +kernel
theorem dX11_moves_9 : decode cX11_moves 9 = .ok (.iaload, 1) := by decide +kernel
theorem dX11_moves_10 : decode cX11_moves 10 = .ok (.invokevirtual 129, 3) := by decide +kernel
theorem dX11_moves_13 : decode cX11_moves 13 = .ok (.iconst 1, 1) := by decide +kernel
theorem dX11_moves_14 : decode cX11_moves 14 = .ok (.if_icmp .ne 17, 3) := by decide +kernel
theorem dX11_moves_17 : decode cX11_moves 17 = .ok (.goto 12, 3) := by decide +kernel
theorem dX11_moves_20 : decode cX11_moves 20 = .ok (.aload_n 1, 1) := by decide +kernel
theorem dX11_moves_21 : decode cX11_moves 21 = .ok (.iload_n 2, 1) := by decide +kernel
theorem dX11_moves_22 : decode cX11_moves 22 = .ok (.iaload, 1) := by decide +kernel
theorem dX11_moves_23 : decode cX11_moves 23 = .ok (.aload_n 1, 1) := by decide +kernel
theorem dX11_moves_24 : decode cX11_moves 24 = .ok (.iload_n 3, 1) := by decide +kernel
theorem dX11_moves_25 : decode cX11_moves 25 = .ok (.iaload, 1) := by decide +kernel
theorem dX11_moves_26 : decode cX11_moves 26 = .ok (.if_icmp .ne 5, 3) := by decide +kernel
theorem dX11_moves_29 : decode cX11_moves 29 = .ok (.iconst 0, 1) := by decide +kernel
theorem dX11_moves_30 : decode cX11_moves 30 = .ok (.ireturn, 1) := by decide +kernel
theorem dX11_moves_31 : decode cX11_moves 31 = .ok (.aload_n 1, 1) := by decide +kernel
theorem dX11_moves_32 : decode cX11_moves 32 = .ok (.iload_n 2, 1) := by decide +kernel
theorem dX11_moves_33 : decode cX11_moves 33 = .ok (.iload_n 2, 1) := by decide +kernel
theorem dX11_moves_34 : decode cX11_moves 34 = .ok (.iload_n 3, 1) := by decide +kernel
theorem dX11_moves_35 : decode cX11_moves 35 = .ok (.if_icmp .ne 8, 3) := by decide +kernel
theorem dX11_moves_38 : decode cX11_moves 38 = .ok (.bipush 50, 2) := by decide +kernel
theorem dX11_moves_40 : decode cX11_moves 40 = .ok (.goto 6, 3) := by decide +kernel
theorem dX11_moves_43 : decode cX11_moves 43 = .ok (.aload_n 1, 1) := by decide +kernel
theorem dX11_moves_44 : decode cX11_moves 44 = .ok (.iload_n 3, 1) := by decide +kernel
theorem dX11_moves_45 : decode cX11_moves 45 = .ok (.iaload, 1) := by decide +kernel
theorem dX11_moves_46 : decode cX11_moves 46 = .ok (.iastore, 1) := by decide +kernel
theorem dX11_moves_47 : decode cX11_moves 47 = .ok (.aload_n 0, 1) := by decide +kernel
theorem dX11_moves_48 : decode cX11_moves 48 = .ok (.aload_n 1, 1) := by decide +kernel
theorem dX11_moves_49 : decode cX11_moves 49 = .ok (.invokevirtual 140, 3) := by decide +kernel
theorem dX11_moves_52 : decode cX11_moves 52 = .ok (.iconst 1, 1) := by decide +kernel
theorem dX11_moves_53 : decode cX11_moves 53 = .ok (.ireturn, 1) := by decide +kernel
set_option maxRecDepth 20000 in
theorem ggX11_goes_X11_isGuest : GoodIn wsX11_goes wsX11_isGuest := goodIn_r _ [7, 8, 9, 10, 6, 11, 12, 13, 14, 15, 28, 29, 30, 31, 32, 33, 34, 35, 36, 37, 38, 39, 40, 41, 42, 43, 44] (by decide +kernel) (by decide +kernel)
set_option maxRecDepth 20000 in
theorem gX11_goes_X11_isGuest : GoodIn wsX11_goes (wsV RX11 116 RX11 yX11_isGuest wsX11_isGuest) := goodIn_app (goodIn_of _ (by decide +kernel)) ggX11_goes_X11_isGuest
set_option maxRecDepth 20000 in
theorem ggX11_goes_X11_moves : GoodIn wsX11_goes wsX11_moves := goodIn_r _ [19, 20, 21, 22, 6, 23, 8, 9, 10, 11, 12, 24, 25, 26, 27, 28, 29, 30, 31, 32, 33, 34, 35, 36, 37, 38, 39, 40, 41, 42, 43, 44] (by decide +kernel) (by decide +kernel)
set_option maxRecDepth 20000 in
theorem gX11_goes_X11_moves : GoodIn wsX11_goes (wsV RX11 144 RX11 yX11_moves wsX11_moves) := goodIn_app (goodIn_of _ (by decide +kernel)) ggX11_goes_X11_moves
theorem dX11_goes_0 : decode cX11_goes 0 = .ok (.aload_n 0, 1) := by decide +kernel
theorem dX11_goes_1 : decode cX11_goes 1 = .ok (.iconst 0, 1) := by decide +kernel
theorem dX11_goes_2 : decode cX11_goes 2 = .ok (.putfield 45, 3) := by decide +kernel
theorem dX11_goes_5 : decode cX11_goes 5 = .ok (.aload_n 0, 1) := by decide +kernel
theorem dX11_goes_6 : decode cX11_goes 6 = .ok (.iload_n 1, 1) := by decide +kernel
theorem dX11_goes_7 : decode cX11_goes 7 = .ok (.invokevirtual 116, 3) := by decide +kernel
theorem dX11_goes_10 : decode cX11_goes 10 = .ok (.ifCond .eq 11, 3) := by decide +kernel
theorem dX11_goes_13 : decode cX11_goes 13 = .ok (.aload_n 0, 1) := by decide +kernel
theorem dX11_goes_14 : decode cX11_goes 14 = .ok (.iload_n 2, 1) := by decide +kernel
theorem dX11_goes_15 : decode cX11_goes 15 = .ok (.invokevirtual 116, 3) := by decide +kernel
theorem dX11_goes_18 : decode cX11_goes 18 = .ok (.ifCond .ne 5, 3) := by decide +kernel
theorem dX11_goes_21 : decode cX11_goes 21 = .ok (.iconst (-1), 1) := by decide +kernel
theorem dX11_goes_22 : decode cX11_goes 22 = .ok (.ireturn, 1) := by decide +kernel
theorem dX11_goes_23 : decode cX11_goes 23 = .ok (.aload_n 0, 1) := by decide +kernel
theorem dX11_goes_24 : decode cX11_goes 24 = .ok (.aload_n 0, 1) := by decide +kernel
theorem dX11_goes_25 : decode cX11_goes 25 = .ok (.getfield 16, 3) := by decide +kernel
theorem dX11_goes_28 : decode cX11_goes 28 = .ok (.iload_n 1, 1) := by decide +kernel
theorem dX11_goes_29 : decode cX11_goes 29 = .ok (.iload_n 2, 1) := by decide +kernel
theorem dX11_goes_30 : decode cX11_goes 30 = .ok (.invokevirtual 144, 3) := by decide +kernel
theorem dX11_goes_33 : decode cX11_goes 33 = .ok (.ifCond .eq 12, 3) := by decide +kernel
theorem dX11_goes_36 : decode cX11_goes 36 = .ok (.aload_n 0, 1) := by decide +kernel
theorem dX11_goes_37 : decode cX11_goes 37 = .ok (.getfield 16, 3) := by decide +kernel
theorem dX11_goes_40 : decode cX11_goes 40 = .ok (.iload_n 1, 1) := by decide +kernel
theorem dX11_goes_41 : decode cX11_goes 41 = .ok (.iaload, 1) := by decide +kernel
theorem dX11_goes_42 : decode cX11_goes 42 = .ok (.goto 5, 3) := by decide +kernel
theorem dX11_goes_45 : decode cX11_goes 45 = .ok (.bipush (-2), 2) := by decide +kernel
theorem dX11_goes_47 : decode cX11_goes 47 = .ok (.ireturn, 1) := by decide +kernel
set_option maxRecDepth 20000 in
theorem ggX11_join_X11_partiesOf : GoodIn wsX11_join wsX11_partiesOf := goodIn_r _ [7, 8, 9, 10, 6, 11, 12, 20, 21, 22, 23, 24, 25, 26, 27, 28, 29, 30, 31, 32, 33, 34, 35, 36] (by decide +kernel) (by decide +kernel)
set_option maxRecDepth 20000 in
theorem gX11_join_X11_partiesOf : GoodIn wsX11_join (wsV RX11 125 RX11 yX11_partiesOf wsX11_partiesOf) := goodIn_app (goodIn_of _ (by decide +kernel)) ggX11_join_X11_partiesOf
set_option maxRecDepth 20000 in
theorem ggX11_join_X11_in : GoodIn wsX11_join wsX11_in := goodIn_r _ [15] (by decide +kernel) (by decide +kernel)
set_option maxRecDepth 20000 in
theorem gX11_join_X11_in : GoodIn wsX11_join (va_wsS RX11 49 yX11_in wsX11_in) := goodIn_app (goodIn_of _ (by decide +kernel)) ggX11_join_X11_in
set_option maxRecDepth 20000 in
theorem ggX11_join_X11_guests : GoodIn wsX11_join wsX11_guests := goodIn_r _ [11, 12, 20, 21, 22, 23, 24, 25, 26, 27, 28, 29, 30, 31, 32, 33, 34, 35, 36] (by decide +kernel) (by decide +kernel)
set_option maxRecDepth 20000 in
theorem gX11_join_X11_guests : GoodIn wsX11_join (wsV RX11 112 RX11 yX11_guests wsX11_guests) := goodIn_app (goodIn_of _ (by decide +kernel)) ggX11_join_X11_guests
set_option maxRecDepth 20000 in
theorem ggX11_join_X11_numbers : GoodIn wsX11_join wsX11_numbers := goodIn_r _ [19, 8, 9, 10, 6, 11, 12, 20, 21, 22, 23, 24, 25, 26, 27, 28, 29, 30, 31, 32, 33, 34, 35, 36] (by decide +kernel) (by decide +kernel)
set_option maxRecDepth 20000 in
theorem gX11_join_X11_numbers : GoodIn wsX11_join (wsV RX11 140 RX11 yX11_numbers wsX11_numbers) := goodIn_app (goodIn_of _ (by decide +kernel)) ggX11_join_X11_numbers
theorem dX11_join_0 : decode cX11_join 0 = .ok (.aload_n 0, 1) := by decide +kernel
theorem dX11_join_1 : decode cX11_join 1 = .ok (.iconst 0, 1) := by decide +kernel
theorem dX11_join_2 : decode cX11_join 2 = .ok (.putfield 45, 3) := by decide +kernel
theorem dX11_join_5 : decode cX11_join 5 = .ok (.aload_n 0, 1) := by decide +kernel
theorem dX11_join_6 : decode cX11_join 6 = .ok (.aload_n 0, 1) := by decide +kernel
theorem dX11_join_7 : decode cX11_join 7 = .ok (.getfield 16, 3) := by decide +kernel
theorem dX11_join_10 : decode cX11_join 10 = .ok (.invokevirtual 125, 3) := by decide +kernel
theorem dX11_join_13 : decode cX11_join 13 = .ok (.istore_n 3, 1) := by decide +kernel
theorem dX11_join_14 : decode cX11_join 14 = .ok (.iload_n 1, 1) := by decide +kernel
theorem dX11_join_15 : decode cX11_join 15 = .ok (.iconst 0, 1) := by decide +kernel
theorem dX11_join_16 : decode cX11_join 16 = .ok (.iload_n 3, 1) := by decide +kernel
theorem dX11_join_17 : decode cX11_join 17 = .ok (.iconst 1, 1) := by decide +kernel
theorem dX11_join_18 : decode cX11_join 18 = .ok (.isub, 1) := by decide +kernel
theorem dX11_join_19 : decode cX11_join 19 = .ok (.invokestatic 49, 3) := by decide +kernel
theorem dX11_join_22 : decode cX11_join 22 = .ok (.ifCond .eq 19, 3) := by decide +kernel
theorem dX11_join_25 : decode cX11_join 25 = .ok (.iload_n 2, 1) := by decide +kernel
theorem dX11_join_26 : decode cX11_join 26 = .ok (.iconst 0, 1) := by decide +kernel
theorem dX11_join_27 : decode cX11_join 27 = .ok (.iload_n 3, 1) := by decide +kernel
theorem dX11_join_28 : decode cX11_join 28 = .ok (.iconst 1, 1) := by decide +kernel
theorem dX11_join_29 : decode cX11_join 29 = .ok (.isub, 1) := by decide +kernel
theorem dX11_join_30 : decode cX11_join 30 = .ok (.invokestatic 49, 3) := by decide +kernel
theorem dX11_join_33 : decode cX11_join 33 = .ok (.ifCond .eq 8, 3) := by decide +kernel
theorem dX11_join_36 : decode cX11_join 36 = .ok (.iload_n 1, 1) := by decide +kernel
theorem dX11_join_37 : decode cX11_join 37 = .ok (.iload_n 2, 1) := by decide +kernel
theorem dX11_join_38 : decode cX11_join 38 = .ok (.if_icmp .ne 5, 3) := by decide +kernel
theorem dX11_join_41 : decode cX11_join 41 = .ok (.iconst (-1), 1) := by decide +kernel
theorem dX11_join_42 : decode cX11_join 42 = .ok (.ireturn, 1) := by decide +kernel
theorem dX11_join_43 : decode cX11_join 43 = .ok (.iconst 0, 1) := by decide +kernel
theorem dX11_join_44 : decode cX11_join 44 = .ok (.istore 4, 2) := by decide +kernel
theorem dX11_join_46 : decode cX11_join 46 = .ok (.iload 4, 2) := by decide +kernel
theorem dX11_join_48 : decode cX11_join 48 = .ok (.aload_n 0, 1) := by decide +kernel
theorem dX11_join_49 : decode cX11_join 49 = .ok (.invokevirtual 112, 3) := by decide +kernel
theorem dX11_join_52 : decode cX11_join 52 = .ok (.if_icmp .ge 38, 3) := by decide +kernel
theorem dX11_join_55 : decode cX11_join 55 = .ok (.aload_n 0, 1) := by decide +kernel
theorem dX11_join_56 : decode cX11_join 56 = .ok (.getfield 16, 3) := by decide +kernel
theorem dX11_join_59 : decode cX11_join 59 = .ok (.iload 4, 2) := by decide +kernel
theorem dX11_join_61 : decode cX11_join 61 = .ok (.aload_n 0, 1) := by decide +kernel
theorem dX11_join_62 : decode cX11_join 62 = .ok (.getfield 16, 3) := by decide +kernel
theorem dX11_join_65 : decode cX11_join 65 = .ok (.iload 4, 2) := by decide +kernel
theorem dX11_join_67 : decode cX11_join 67 = .ok (.iaload, 1) := by decide +kernel
theorem dX11_join_68 : decode cX11_join 68 = .ok (.iload_n 2, 1) := by decide +kernel
theorem dX11_join_69 : decode cX11_join 69 = .ok (.if_icmp .ne 7, 3) := by decide +kernel
theorem dX11_join_72 : decode cX11_join 72 = .ok (.iload_n 1, 1) := by decide +kernel
theorem dX11_join_73 : decode cX11_join 73 = .ok (.goto 10, 3) := by decide +kernel
theorem dX11_join_76 : decode cX11_join 76 = .ok (.aload_n 0, 1) := by decide +kernel
theorem dX11_join_77 : decode cX11_join 77 = .ok (.getfield 16, 3) := by decide +kernel
theorem dX11_join_80 : decode cX11_join 80 = .ok (.iload 4, 2) := by decide +kernel
theorem dX11_join_82 : decode cX11_join 82 = .ok (.iaload, 1) := by decide +kernel
theorem dX11_join_83 : decode cX11_join 83 = .ok (.iastore, 1) := by decide +kernel
theorem dX11_join_84 : decode cX11_join 84 = .ok (.iinc 4 1, 3) := by decide +kernel
theorem dX11_join_87 : decode cX11_join 87 = .ok (.goto (-41), 3) := by decide +kernel
theorem dX11_join_90 : decode cX11_join 90 = .ok (.aload_n 0, 1) := by decide +kernel
theorem dX11_join_91 : decode cX11_join 91 = .ok (.aload_n 0, 1) := by decide +kernel
theorem dX11_join_92 : decode cX11_join 92 = .ok (.getfield 16, 3) := by decide +kernel
theorem dX11_join_95 : decode cX11_join 95 = .ok (.invokevirtual 140, 3) := by decide +kernel
theorem dX11_join_98 : decode cX11_join 98 = .ok (.aload_n 0, 1) := by decide +kernel
theorem dX11_join_99 : decode cX11_join 99 = .ok (.aload_n 0, 1) := by decide +kernel
theorem dX11_join_100 : decode cX11_join 100 = .ok (.getfield 16, 3) := by decide +kernel
theorem dX11_join_103 : decode cX11_join 103 = .ok (.invokevirtual 125, 3) := by decide +kernel
theorem dX11_join_106 : decode cX11_join 106 = .ok (.ireturn, 1) := by decide +kernel
set_option maxRecDepth 20000 in
theorem ggX11_part_X11_partiesOf : GoodIn wsX11_part wsX11_partiesOf := goodIn_r _ [7, 8, 9, 10, 6, 11, 12, 20, 21, 22, 23, 24, 25, 26, 27, 28, 29, 30, 31, 32, 33, 34, 35, 36] (by decide +kernel) (by decide +kernel)
set_option maxRecDepth 20000 in
theorem gX11_part_X11_partiesOf : GoodIn wsX11_part (wsV RX11 125 RX11 yX11_partiesOf wsX11_partiesOf) := goodIn_app (goodIn_of _ (by decide +kernel)) ggX11_part_X11_partiesOf
set_option maxRecDepth 20000 in
theorem ggX11_part_X11_in : GoodIn wsX11_part wsX11_in := goodIn_r _ [15] (by decide +kernel) (by decide +kernel)
set_option maxRecDepth 20000 in
theorem gX11_part_X11_in : GoodIn wsX11_part (va_wsS RX11 49 yX11_in wsX11_in) := goodIn_app (goodIn_of _ (by decide +kernel)) ggX11_part_X11_in
set_option maxRecDepth 20000 in
theorem ggX11_part_X11_guests : GoodIn wsX11_part wsX11_guests := goodIn_r _ [11, 12, 20, 21, 22, 23, 24, 25, 26, 27, 28, 29, 30, 31, 32, 33, 34, 35, 36] (by decide +kernel) (by decide +kernel)
set_option maxRecDepth 20000 in
theorem gX11_part_X11_guests : GoodIn wsX11_part (wsV RX11 112 RX11 yX11_guests wsX11_guests) := goodIn_app (goodIn_of _ (by decide +kernel)) ggX11_part_X11_guests
set_option maxRecDepth 20000 in
theorem ggX11_part_X11_numbers : GoodIn wsX11_part wsX11_numbers := goodIn_r _ [19, 8, 9, 10, 6, 11, 12, 20, 21, 22, 23, 24, 25, 26, 27, 28, 29, 30, 31, 32, 33, 34, 35, 36] (by decide +kernel) (by decide +kernel)
set_option maxRecDepth 20000 in
theorem gX11_part_X11_numbers : GoodIn wsX11_part (wsV RX11 140 RX11 yX11_numbers wsX11_numbers) := goodIn_app (goodIn_of _ (by decide +kernel)) ggX11_part_X11_numbers
theorem dX11_part_0 : decode cX11_part 0 = .ok (.aload_n 0, 1) := by decide +kernel
theorem dX11_part_1 : decode cX11_part 1 = .ok (.iconst 0, 1) := by decide +kernel
theorem dX11_part_2 : decode cX11_part 2 = .ok (.putfield 45, 3) := by decide +kernel
theorem dX11_part_5 : decode cX11_part 5 = .ok (.iload_n 1, 1) := by decide +kernel
theorem dX11_part_6 : decode cX11_part 6 = .ok (.iconst 0, 1) := by decide +kernel
theorem dX11_part_7 : decode cX11_part 7 = .ok (.aload_n 0, 1) := by decide +kernel
theorem dX11_part_8 : decode cX11_part 8 = .ok (.aload_n 0, 1) := by decide +kernel
theorem dX11_part_9 : decode cX11_part 9 = .ok (.getfield 16, 3) := by decide +kernel
theorem dX11_part_12 : decode cX11_part 12 = .ok (.invokevirtual 125, 3) := by decide +kernel
theorem dX11_part_15 : decode cX11_part 15 = .ok (.iconst 1, 1) := by decide +kernel
theorem dX11_part_16 : decode cX11_part 16 = .ok (.isub, 1) := by decide +kernel
theorem dX11_part_17 : decode cX11_part 17 = .ok (.invokestatic 49, 3) := by decide +kernel
theorem dX11_part_20 : decode cX11_part 20 = .ok (.ifCond .ne 5, 3) := by decide +kernel
theorem dX11_part_23 : decode cX11_part 23 = .ok (.iconst (-1), 1) := by decide +kernel
theorem dX11_part_24 : decode cX11_part 24 = .ok (.ireturn, 1) := by decide +kernel
theorem dX11_part_25 : decode cX11_part 25 = .ok (.iconst 0, 1) := by decide +kernel
theorem dX11_part_26 : decode cX11_part 26 = .ok (.istore_n 3, 1) := by decide +kernel
theorem dX11_part_27 : decode cX11_part 27 = .ok (.iconst 0, 1) := by decide +kernel
theorem dX11_part_28 : decode cX11_part 28 = .ok (.istore 4, 2) := by decide +kernel
theorem dX11_part_30 : decode cX11_part 30 = .ok (.iload 4, 2) := by decide +kernel
theorem dX11_part_32 : decode cX11_part 32 = .ok (.aload_n 0, 1) := by decide +kernel
theorem dX11_part_33 : decode cX11_part 33 = .ok (.invokevirtual 112, 3) := by decide +kernel
theorem dX11_part_36 : decode cX11_part 36 = .ok (.if_icmp .ge 31, 3) := by decide +kernel
theorem dX11_part_39 : decode cX11_part 39 = .ok (.iload_n 3, 1) := by decide +kernel
theorem dX11_part_40 : decode cX11_part 40 = .ok (.aload_n 0, 1) := by decide +kernel
theorem dX11_part_41 : decode cX11_part 41 = .ok (.getfield 16, 3) := by decide +kernel
theorem dX11_part_44 : decode cX11_part 44 = .ok (.iload 4, 2) := by decide +kernel
theorem dX11_part_46 : decode cX11_part 46 = .ok (.iaload, 1) := by decide +kernel
theorem dX11_part_47 : decode cX11_part 47 = .ok (.iload_n 1, 1) := by decide +kernel
theorem dX11_part_48 : decode cX11_part 48 = .ok (.if_icmp .ne 10, 3) := by decide +kernel
theorem dX11_part_51 : decode cX11_part 51 = .ok (.iconst 1, 1) := by decide +kernel
theorem dX11_part_52 : decode cX11_part 52 = .ok (.iload 4, 2) := by decide +kernel
theorem dX11_part_54 : decode cX11_part 54 = .ok (.ishl, 1) := by decide +kernel
theorem dX11_part_55 : decode cX11_part 55 = .ok (.goto 4, 3) := by decide +kernel
theorem dX11_part_58 : decode cX11_part 58 = .ok (.iconst 0, 1) := by decide +kernel
theorem dX11_part_59 : decode cX11_part 59 = .ok (.ior, 1) := by decide +kernel
theorem dX11_part_60 : decode cX11_part 60 = .ok (.istore_n 3, 1) := by decide +kernel
theorem dX11_part_61 : decode cX11_part 61 = .ok (.iinc 4 1, 3) := by decide +kernel
theorem dX11_part_64 : decode cX11_part 64 = .ok (.goto (-34), 3) := by decide +kernel
theorem dX11_part_67 : decode cX11_part 67 = .ok (.iload_n 2, 1) := by decide +kernel
theorem dX11_part_68 : decode cX11_part 68 = .ok (.ifCond .eq 16, 3) := by decide +kernel
theorem dX11_part_71 : decode cX11_part 71 = .ok (.iload_n 2, 1) := by decide +kernel
theorem dX11_part_72 : decode cX11_part 72 = .ok (.iload_n 3, 1) := by decide +kernel
theorem dX11_part_73 : decode cX11_part 73 = .ok (.if_icmp .eq 11, 3) := by decide +kernel
theorem dX11_part_76 : decode cX11_part 76 = .ok (.iload_n 2, 1) := by decide +kernel
theorem dX11_part_77 : decode cX11_part 77 = .ok (.iload_n 3, 1) := by decide +kernel
theorem dX11_part_78 : decode cX11_part 78 = .ok (.iconst (-1), 1) := by decide +kernel
theorem dX11_part_79 : decode cX11_part 79 = .ok (.ixor, 1) := by decide +kernel
theorem dX11_part_80 : decode cX11_part 80 = .ok (.iand, 1) := by decide +kernel
theorem dX11_part_81 : decode cX11_part 81 = .ok (.ifCond .eq 6, 3) := by decide +kernel
theorem dX11_part_84 : decode cX11_part 84 = .ok (.bipush (-2), 2) := by decide +kernel
theorem dX11_part_86 : decode cX11_part 86 = .ok (.ireturn, 1) := by decide +kernel
theorem dX11_part_87 : decode cX11_part 87 = .ok (.iconst 0, 1) := by decide +kernel
theorem dX11_part_88 : decode cX11_part 88 = .ok (.istore 4, 2) := by decide +kernel
theorem dX11_part_90 : decode cX11_part 90 = .ok (.iload 4, 2) := by decide +kernel
theorem dX11_part_92 : decode cX11_part 92 = .ok (.aload_n 0, 1) := by decide +kernel
theorem dX11_part_93 : decode cX11_part 93 = .ok (.invokevirtual 112, 3) := by decide +kernel
theorem dX11_part_96 : decode cX11_part 96 = .ok (.if_icmp .ge 38, 3) := by decide +kernel
theorem dX11_part_99 : decode cX11_part 99 = .ok (.aload_n 0, 1) := by decide +kernel
theorem dX11_part_100 : decode cX11_part 100 = .ok (.getfield 16, 3) := by decide +kernel
theorem dX11_part_103 : decode cX11_part 103 = .ok (.iload 4, 2) := by decide +kernel
theorem dX11_part_105 : decode cX11_part 105 = .ok (.iload_n 2, 1) := by decide +kernel
theorem dX11_part_106 : decode cX11_part 106 = .ok (.iload 4, 2) := by decide +kernel
theorem dX11_part_108 : decode cX11_part 108 = .ok (.ishr, 1) := by decide +kernel
theorem dX11_part_109 : decode cX11_part 109 = .ok (.iconst 1, 1) := by decide +kernel
theorem dX11_part_110 : decode cX11_part 110 = .ok (.iand, 1) := by decide +kernel
theorem dX11_part_111 : decode cX11_part 111 = .ok (.iconst 1, 1) := by decide +kernel
theorem dX11_part_112 : decode cX11_part 112 = .ok (.if_icmp .ne 8, 3) := by decide +kernel
theorem dX11_part_115 : decode cX11_part 115 = .ok (.bipush 50, 2) := by decide +kernel
theorem dX11_part_117 : decode cX11_part 117 = .ok (.goto 10, 3) := by decide +kernel
theorem dX11_part_120 : decode cX11_part 120 = .ok (.aload_n 0, 1) := by decide +kernel
theorem dX11_part_121 : decode cX11_part 121 = .ok (.getfield 16, 3) := by decide +kernel
theorem dX11_part_124 : decode cX11_part 124 = .ok (.iload 4, 2) := by decide +kernel
theorem dX11_part_126 : decode cX11_part 126 = .ok (.iaload, 1) := by decide +kernel
theorem dX11_part_127 : decode cX11_part 127 = .ok (.iastore, 1) := by decide +kernel
theorem dX11_part_128 : decode cX11_part 128 = .ok (.iinc 4 1, 3) := by decide +kernel
theorem dX11_part_131 : decode cX11_part 131 = .ok (.goto (-41), 3) := by decide +kernel
theorem dX11_part_134 : decode cX11_part 134 = .ok (.aload_n 0, 1) := by decide +kernel
theorem dX11_part_135 : decode cX11_part 135 = .ok (.aload_n 0, 1) := by decide +kernel
theorem dX11_part_136 : decode cX11_part 136 = .ok (.getfield 16, 3) := by decide +kernel
theorem dX11_part_139 : decode cX11_part 139 = .ok (.invokevirtual 140, 3) := by decide +kernel
theorem dX11_part_142 : decode cX11_part 142 = .ok (.aload_n 0, 1) := by decide +kernel
theorem dX11_part_143 : decode cX11_part 143 = .ok (.aload_n 0, 1) := by decide +kernel
theorem dX11_part_144 : decode cX11_part 144 = .ok (.getfield 16, 3) := by decide +kernel
theorem dX11_part_147 : decode cX11_part 147 = .ok (.invokevirtual 125, 3) := by decide +kernel
theorem dX11_part_150 : decode cX11_part 150 = .ok (.ireturn, 1) := by decide +kernel
set_option maxRecDepth 20000 in
theorem ggX11_alone_X11_guests : GoodIn wsX11_alone wsX11_guests := goodIn_r _ [6, 7, 12, 13, 14, 15, 16, 17, 18, 19, 20, 21, 22, 23, 24, 25, 26, 27, 28] (by decide +kernel) (by decide +kernel)
set_option maxRecDepth 20000 in
theorem gX11_alone_X11_guests : GoodIn wsX11_alone (wsV RX11 112 RX11 yX11_guests wsX11_guests) := goodIn_app (goodIn_of _ (by decide +kernel)) ggX11_alone_X11_guests
set_option maxRecDepth 20000 in
theorem ggX11_alone_X11_sizeOf : GoodIn wsX11_alone wsX11_sizeOf := goodIn_r _ [11, 2, 3, 4, 5, 6, 7, 12, 13, 14, 15, 16, 17, 18, 19, 20, 21, 22, 23, 24, 25, 26, 27, 28] (by decide +kernel) (by decide +kernel)
set_option maxRecDepth 20000 in
theorem gX11_alone_X11_sizeOf : GoodIn wsX11_alone (wsV RX11 129 RX11 yX11_sizeOf wsX11_sizeOf) := goodIn_app (goodIn_of _ (by decide +kernel)) ggX11_alone_X11_sizeOf
theorem dX11_alone_0 : decode cX11_alone 0 = .ok (.iconst 0, 1) := by decide +kernel
theorem dX11_alone_1 : decode cX11_alone 1 = .ok (.istore_n 1, 1) := by decide +kernel
theorem dX11_alone_2 : decode cX11_alone 2 = .ok (.iconst 0, 1) := by decide +kernel
theorem dX11_alone_3 : decode cX11_alone 3 = .ok (.istore_n 2, 1) := by decide +kernel
theorem dX11_alone_4 : decode cX11_alone 4 = .ok (.iload_n 2, 1) := by decide +kernel
theorem dX11_alone_5 : decode cX11_alone 5 = .ok (.aload_n 0, 1) := by decide +kernel
theorem dX11_alone_6 : decode cX11_alone 6 = .ok (.invokevirtual 112, 3) := by decide +kernel
theorem dX11_alone_9 : decode cX11_alone 9 = .ok (.if_icmp .ge 35, 3) := by decide +kernel
theorem dX11_alone_12 : decode cX11_alone 12 = .ok (.iload_n 1, 1) := by decide +kernel
theorem dX11_alone_13 : decode cX11_alone 13 = .ok (.aload_n 0, 1) := by decide +kernel
theorem dX11_alone_14 : decode cX11_alone 14 = .ok (.aload_n 0, 1) := by decide +kernel
theorem dX11_alone_15 : decode cX11_alone 15 = .ok (.getfield 16, 3) := by decide +kernel
theorem dX11_alone_18 : decode cX11_alone 18 = .ok (.aload_n 0, 1) := by decide +kernel
theorem dX11_alone_19 : decode cX11_alone 19 = .ok (.getfield 16, 3) := by decide +kernel
theorem dX11_alone_22 : decode cX11_alone 22 = .ok (.iload_n 2, 1) := by decide +kernel
theorem dX11_alone_23 : decode cX11_alone 23 = .ok (.iaload, 1) := by decide +kernel
theorem dX11_alone_24 : decode cX11_alone 24 = .ok (.invokevirtual 129, 3) := by decide +kernel
theorem dX11_alone_27 : decode cX11_alone 27 = .ok (.iconst 1, 1) := by decide +kernel
theorem dX11_alone_28 : decode cX11_alone 28 = .ok (.if_icmp .ne 7, 3) := by decide +kernel
theorem dX11_alone_31 : decode cX11_alone 31 = .ok (.iconst 1, 1) := by decide +kernel
theorem dX11_alone_32 : decode cX11_alone 32 = .ok (.goto 4, 3) := by decide +kernel
theorem dX11_alone_35 : decode cX11_alone 35 = .ok (.iconst 0, 1) := by decide +kernel
theorem dX11_alone_36 : decode cX11_alone 36 = .ok (.iadd, 1) := by decide +kernel
theorem dX11_alone_37 : decode cX11_alone 37 = .ok (.istore_n 1, 1) := by decide +kernel
theorem dX11_alone_38 : decode cX11_alone 38 = .ok (.iinc 2 1, 3) := by decide +kernel
theorem dX11_alone_41 : decode cX11_alone 41 = .ok (.goto (-37), 3) := by decide +kernel
theorem dX11_alone_44 : decode cX11_alone 44 = .ok (.iload_n 1, 1) := by decide +kernel
theorem dX11_alone_45 : decode cX11_alone 45 = .ok (.ireturn, 1) := by decide +kernel
set_option maxRecDepth 20000 in
theorem ggX11_now_X11_partiesOf : GoodIn wsX11_now wsX11_partiesOf := goodIn_r _ [8, 9, 10, 11, 7, 12, 13, 38, 39, 40, 41, 42, 43, 44, 45, 46, 47, 48, 49, 50, 51, 52, 53, 54] (by decide +kernel) (by decide +kernel)
set_option maxRecDepth 20000 in
theorem gX11_now_X11_partiesOf : GoodIn wsX11_now (wsV RX11 125 RX11 yX11_partiesOf wsX11_partiesOf) := goodIn_app (goodIn_of _ (by decide +kernel)) ggX11_now_X11_partiesOf
set_option maxRecDepth 20000 in
theorem ggX11_now_X11_isLawful : GoodIn wsX11_now wsX11_isLawful := goodIn_r _ [17, 13, 4, 5, 6, 7, 8, 9, 10, 11, 12, 18, 19, 20, 21, 22, 23, 24, 25, 26, 27, 28, 29, 38, 39, 40, 41, 42, 43, 44, 45, 46, 47, 48, 49, 50, 51, 52, 53, 54] (by decide +kernel) (by decide +kernel)
set_option maxRecDepth 20000 in
theorem gX11_now_X11_isLawful : GoodIn wsX11_now (wsV RX11 148 RX11 yX11_isLawful wsX11_isLawful) := goodIn_app (goodIn_of _ (by decide +kernel)) ggX11_now_X11_isLawful
set_option maxRecDepth 20000 in
theorem ggX11_now_X11_worthOf : GoodIn wsX11_now wsX11_worthOf := goodIn_r _ [33, 13, 9, 10, 11, 7, 12, 38, 39, 40, 41, 42, 43, 44, 45, 46, 47, 48, 49, 50, 51, 52, 53, 54] (by decide +kernel) (by decide +kernel)
set_option maxRecDepth 20000 in
theorem gX11_now_X11_worthOf : GoodIn wsX11_now (wsV RX11 151 RX11 yX11_worthOf wsX11_worthOf) := goodIn_app (goodIn_of _ (by decide +kernel)) ggX11_now_X11_worthOf
set_option maxRecDepth 20000 in
theorem ggX11_now_X11_alone : GoodIn wsX11_now wsX11_alone := goodIn_r _ [37, 2, 9, 10, 11, 7, 12, 13, 18, 19, 20, 21, 38, 39, 40, 41, 42, 43, 44, 45, 46, 47, 48, 49, 50, 51, 52, 53, 54] (by decide +kernel) (by decide +kernel)
set_option maxRecDepth 20000 in
theorem gX11_now_X11_alone : GoodIn wsX11_now (wsV RX11 154 RX11 yX11_alone wsX11_alone) := goodIn_app (goodIn_of _ (by decide +kernel)) ggX11_now_X11_alone
theorem dX11_now_0 : decode cX11_now 0 = .ok (.aload_n 0, 1) := by decide +kernel
theorem dX11_now_1 : decode cX11_now 1 = .ok (.iconst 0, 1) := by decide +kernel
theorem dX11_now_2 : decode cX11_now 2 = .ok (.putfield 45, 3) := by decide +kernel
theorem dX11_now_5 : decode cX11_now 5 = .ok (.iload_n 1, 1) := by decide +kernel
theorem dX11_now_6 : decode cX11_now 6 = .ok (.ifCond .ne 14, 3) := by decide +kernel
theorem dX11_now_9 : decode cX11_now 9 = .ok (.aload_n 0, 1) := by decide +kernel
theorem dX11_now_10 : decode cX11_now 10 = .ok (.aload_n 0, 1) := by decide +kernel
theorem dX11_now_11 : decode cX11_now 11 = .ok (.getfield 16, 3) := by decide +kernel
theorem dX11_now_14 : decode cX11_now 14 = .ok (.invokevirtual 125, 3) := by decide +kernel
theorem dX11_now_17 : decode cX11_now 17 = .ok (.goto 57, 3) := by decide +kernel
theorem dX11_now_20 : decode cX11_now 20 = .ok (.iload_n 1, 1) := by decide +kernel
theorem dX11_now_21 : decode cX11_now 21 = .ok (.iconst 1, 1) := by decide +kernel
theorem dX11_now_22 : decode cX11_now 22 = .ok (.if_icmp .ne 22, 3) := by decide +kernel
theorem dX11_now_25 : decode cX11_now 25 = .ok (.aload_n 0, 1) := by decide +kernel
theorem dX11_now_26 : decode cX11_now 26 = .ok (.aload_n 0, 1) := by decide +kernel
theorem dX11_now_27 : decode cX11_now 27 = .ok (.getfield 16, 3) := by decide +kernel
theorem dX11_now_30 : decode cX11_now 30 = .ok (.invokevirtual 148, 3) := by decide +kernel
theorem dX11_now_33 : decode cX11_now 33 = .ok (.ifCond .eq 7, 3) := by decide +kernel
theorem dX11_now_36 : decode cX11_now 36 = .ok (.iconst 1, 1) := by decide +kernel
theorem dX11_now_37 : decode cX11_now 37 = .ok (.goto 37, 3) := by decide +kernel
theorem dX11_now_40 : decode cX11_now 40 = .ok (.iconst 0, 1) := by decide +kernel
theorem dX11_now_41 : decode cX11_now 41 = .ok (.goto 33, 3) := by decide +kernel
theorem dX11_now_44 : decode cX11_now 44 = .ok (.iload_n 1, 1) := by decide +kernel
theorem dX11_now_45 : decode cX11_now 45 = .ok (.iconst 2, 1) := by decide +kernel
theorem dX11_now_46 : decode cX11_now 46 = .ok (.if_icmp .ne 14, 3) := by decide +kernel
theorem dX11_now_49 : decode cX11_now 49 = .ok (.aload_n 0, 1) := by decide +kernel
theorem dX11_now_50 : decode cX11_now 50 = .ok (.aload_n 0, 1) := by decide +kernel
theorem dX11_now_51 : decode cX11_now 51 = .ok (.getfield 16, 3) := by decide +kernel
theorem dX11_now_54 : decode cX11_now 54 = .ok (.invokevirtual 151, 3) := by decide +kernel
theorem dX11_now_57 : decode cX11_now 57 = .ok (.goto 17, 3) := by decide +kernel
theorem dX11_now_60 : decode cX11_now 60 = .ok (.iload_n 1, 1) := by decide +kernel
theorem dX11_now_61 : decode cX11_now 61 = .ok (.iconst 3, 1) := by decide +kernel
theorem dX11_now_62 : decode cX11_now 62 = .ok (.if_icmp .ne 10, 3) := by decide +kernel
theorem dX11_now_65 : decode cX11_now 65 = .ok (.aload_n 0, 1) := by decide +kernel
