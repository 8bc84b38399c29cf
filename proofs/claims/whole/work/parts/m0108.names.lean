theorem dX11_fewest_166 : decode cX11_fewest 166 = .ok (.iconst 0, 1) := by decide +kernel
theorem dX11_fewest_167 : decode cX11_fewest 167 = .ok (.iadd, 1) := by decide +kernel
theorem dX11_fewest_168 : decode cX11_fewest 168 = .ok (.istore 5, 2) := by decide +kernel
theorem dX11_fewest_170 : decode cX11_fewest 170 = .ok (.iinc 6 1, 3) := by decide +kernel
theorem dX11_fewest_173 : decode cX11_fewest 173 = .ok (.goto (-50), 3) := by decide +kernel
theorem dX11_fewest_176 : decode cX11_fewest 176 = .ok (.aload_n 0, 1) := by decide +kernel
theorem dX11_fewest_177 : decode cX11_fewest 177 = .ok (.getfield 35, 3) := by decide +kernel
theorem dX11_fewest_180 : decode cX11_fewest 180 = .ok (.iload_n 3, 1) := by decide +kernel
theorem dX11_fewest_181 : decode cX11_fewest 181 = .ok (.iconst 1, 1) := by decide +kernel
theorem dX11_fewest_182 : decode cX11_fewest 182 = .ok (.iload 4, 2) := by decide +kernel
theorem dX11_fewest_184 : decode cX11_fewest 184 = .ok (.ishl, 1) := by decide +kernel
theorem dX11_fewest_185 : decode cX11_fewest 185 = .ok (.iconst (-1), 1) := by decide +kernel
theorem dX11_fewest_186 : decode cX11_fewest 186 = .ok (.ixor, 1) := by decide +kernel
theorem dX11_fewest_187 : decode cX11_fewest 187 = .ok (.iand, 1) := by decide +kernel
theorem dX11_fewest_188 : decode cX11_fewest 188 = .ok (.iaload, 1) := by decide +kernel
theorem dX11_fewest_189 : decode cX11_fewest 189 = .ok (.iload 5, 2) := by decide +kernel
theorem dX11_fewest_191 : decode cX11_fewest 191 = .ok (.iadd, 1) := by decide +kernel
theorem dX11_fewest_192 : decode cX11_fewest 192 = .ok (.istore 6, 2) := by decide +kernel
theorem dX11_fewest_194 : decode cX11_fewest 194 = .ok (.aload_n 0, 1) := by decide +kernel
theorem dX11_fewest_195 : decode cX11_fewest 195 = .ok (.getfield 35, 3) := by decide +kernel
theorem dX11_fewest_198 : decode cX11_fewest 198 = .ok (.iload_n 3, 1) := by decide +kernel
theorem dX11_fewest_199 : decode cX11_fewest 199 = .ok (.iload 6, 2) := by decide +kernel
theorem dX11_fewest_201 : decode cX11_fewest 201 = .ok (.aload_n 0, 1) := by decide +kernel
theorem dX11_fewest_202 : decode cX11_fewest 202 = .ok (.getfield 35, 3) := by decide +kernel
theorem dX11_fewest_205 : decode cX11_fewest 205 = .ok (.iload_n 3, 1) := by decide +kernel
theorem dX11_fewest_206 : decode cX11_fewest 206 = .ok (.iaload, 1) := by decide +kernel
theorem dX11_fewest_207 : decode cX11_fewest 207 = .ok (.if_icmp .le 8, 3) := by decide +kernel
theorem dX11_fewest_210 : decode cX11_fewest 210 = .ok (.iload 6, 2) := by decide +kernel
theorem dX11_fewest_212 : decode cX11_fewest 212 = .ok (.goto 9, 3) := by decide +kernel
theorem dX11_fewest_215 : decode cX11_fewest 215 = .ok (.aload_n 0, 1) := by decide +kernel
theorem dX11_fewest_216 : decode cX11_fewest 216 = .ok (.getfield 35, 3) := by decide +kernel
theorem dX11_fewest_219 : decode cX11_fewest 219 = .ok (.iload_n 3, 1) := by decide +kernel
theorem dX11_fewest_220 : decode cX11_fewest 220 = .ok (.iaload, 1) := by decide +kernel
theorem dX11_fewest_221 : decode cX11_fewest 221 = .ok (.iastore, 1) := by decide +kernel
theorem dX11_fewest_222 : decode cX11_fewest 222 = .ok (.iinc 4 1, 3) := by decide +kernel
theorem dX11_fewest_225 : decode cX11_fewest 225 = .ok (.goto (-143), 3) := by decide +kernel
theorem dX11_fewest_228 : decode cX11_fewest 228 = .ok (.iinc 3 (-1), 3) := by decide +kernel
theorem dX11_fewest_231 : decode cX11_fewest 231 = .ok (.goto (-156), 3) := by decide +kernel
theorem dX11_fewest_234 : decode cX11_fewest 234 = .ok (.iinc 2 1, 3) := by decide +kernel
theorem dX11_fewest_237 : decode cX11_fewest 237 = .ok (.goto (-178), 3) := by decide +kernel
theorem dX11_fewest_240 : decode cX11_fewest 240 = .ok (.iconst 0, 1) := by decide +kernel
theorem dX11_fewest_241 : decode cX11_fewest 241 = .ok (.istore_n 2, 1) := by decide +kernel
theorem dX11_fewest_242 : decode cX11_fewest 242 = .ok (.iconst 0, 1) := by decide +kernel
theorem dX11_fewest_243 : decode cX11_fewest 243 = .ok (.istore_n 3, 1) := by decide +kernel
theorem dX11_fewest_244 : decode cX11_fewest 244 = .ok (.iload_n 3, 1) := by decide +kernel
theorem dX11_fewest_245 : decode cX11_fewest 245 = .ok (.sipush 256, 3) := by decide +kernel
theorem dX11_fewest_248 : decode cX11_fewest 248 = .ok (.if_icmp .ge 30, 3) := by decide +kernel
theorem dX11_fewest_251 : decode cX11_fewest 251 = .ok (.aload_n 0, 1) := by decide +kernel
theorem dX11_fewest_252 : decode cX11_fewest 252 = .ok (.getfield 35, 3) := by decide +kernel
theorem dX11_fewest_255 : decode cX11_fewest 255 = .ok (.iload_n 3, 1) := by decide +kernel
theorem dX11_fewest_256 : decode cX11_fewest 256 = .ok (.iaload, 1) := by decide +kernel
theorem dX11_fewest_257 : decode cX11_fewest 257 = .ok (.iload_n 2, 1) := by decide +kernel
theorem dX11_fewest_258 : decode cX11_fewest 258 = .ok (.if_icmp .le 12, 3) := by decide +kernel
theorem dX11_fewest_261 : decode cX11_fewest 261 = .ok (.aload_n 0, 1) := by decide +kernel
theorem dX11_fewest_262 : decode cX11_fewest 262 = .ok (.getfield 35, 3) := by decide +kernel
theorem dX11_fewest_265 : decode cX11_fewest 265 = .ok (.iload_n 3, 1) := by decide +kernel
theorem dX11_fewest_266 : decode cX11_fewest 266 = .ok (.iaload, 1) := by decide +kernel
theorem dX11_fewest_267 : decode cX11_fewest 267 = .ok (.goto 4, 3) := by decide +kernel
theorem dX11_fewest_270 : decode cX11_fewest 270 = .ok (.iload_n 2, 1) := by decide +kernel
theorem dX11_fewest_271 : decode cX11_fewest 271 = .ok (.istore_n 2, 1) := by decide +kernel
theorem dX11_fewest_272 : decode cX11_fewest 272 = .ok (.iinc 3 1, 3) := by decide +kernel
theorem dX11_fewest_275 : decode cX11_fewest 275 = .ok (.goto (-31), 3) := by decide +kernel
theorem dX11_fewest_278 : decode cX11_fewest 278 = .ok (.aload_n 0, 1) := by decide +kernel
theorem dX11_fewest_279 : decode cX11_fewest 279 = .ok (.invokevirtual 112, 3) := by decide +kernel
theorem dX11_fewest_282 : decode cX11_fewest 282 = .ok (.iload_n 2, 1) := by decide +kernel
theorem dX11_fewest_283 : decode cX11_fewest 283 = .ok (.isub, 1) := by decide +kernel
theorem dX11_fewest_284 : decode cX11_fewest 284 = .ok (.ireturn, 1) := by decide +kernel
set_option maxRecDepth 20000 in
theorem ggX11_best_X11_isGuest : GoodIn wsX11_best wsX11_isGuest := goodIn_r _ [9, 10, 11, 12, 8, 13, 14, 15, 16, 17, 50, 51, 52, 53, 54, 55, 56, 57, 58, 59, 60, 61, 62, 63, 64, 65, 66] (by decide +kernel) (by decide +kernel)
set_option maxRecDepth 20000 in
theorem gX11_best_X11_isGuest : GoodIn wsX11_best (wsV RX11 116 RX11 yX11_isGuest wsX11_isGuest) := goodIn_app (goodIn_of _ (by decide +kernel)) ggX11_best_X11_isGuest
set_option maxRecDepth 20000 in
theorem ggX11_best_X11_firstRow : GoodIn wsX11_best wsX11_firstRow := goodIn_r _ [21, 3, 50, 51, 52, 53, 54, 55, 56, 57, 58, 59, 60, 61, 62, 63, 64, 65, 66] (by decide +kernel) (by decide +kernel)
set_option maxRecDepth 20000 in
theorem gX11_best_X11_firstRow : GoodIn wsX11_best (wsV RX11 157 RX11 yX11_firstRow wsX11_firstRow) := goodIn_app (goodIn_of _ (by decide +kernel)) ggX11_best_X11_firstRow
set_option maxRecDepth 20000 in
theorem ggX11_best_X11_isLawful : GoodIn wsX11_best wsX11_isLawful := goodIn_r _ [25, 14, 26, 27, 28, 8, 29, 10, 11, 12, 13, 30, 31, 32, 33, 34, 35, 36, 37, 38, 39, 40, 41, 50, 51, 52, 53, 54, 55, 56, 57, 58, 59, 60, 61, 62, 63, 64, 65, 66] (by decide +kernel) (by decide +kernel)
set_option maxRecDepth 20000 in
theorem gX11_best_X11_isLawful : GoodIn wsX11_best (wsV RX11 148 RX11 yX11_isLawful wsX11_isLawful) := goodIn_app (goodIn_of _ (by decide +kernel)) ggX11_best_X11_isLawful
set_option maxRecDepth 20000 in
theorem ggX11_best_X11_worthOf : GoodIn wsX11_best wsX11_worthOf := goodIn_r _ [45, 14, 10, 11, 12, 8, 13, 50, 51, 52, 53, 54, 55, 56, 57, 58, 59, 60, 61, 62, 63, 64, 65, 66] (by decide +kernel) (by decide +kernel)
set_option maxRecDepth 20000 in
theorem gX11_best_X11_worthOf : GoodIn wsX11_best (wsV RX11 151 RX11 yX11_worthOf wsX11_worthOf) := goodIn_app (goodIn_of _ (by decide +kernel)) ggX11_best_X11_worthOf
set_option maxRecDepth 20000 in
theorem ggX11_best_X11_nextRow : GoodIn wsX11_best wsX11_nextRow := goodIn_r _ [49, 3, 10, 11, 12, 8, 13, 14, 50, 51, 52, 53, 54, 55, 56, 57, 58, 59, 60, 61, 62, 63, 64, 65, 66] (by decide +kernel) (by decide +kernel)
set_option maxRecDepth 20000 in
theorem gX11_best_X11_nextRow : GoodIn wsX11_best (wsV RX11 160 RX11 yX11_nextRow wsX11_nextRow) := goodIn_app (goodIn_of _ (by decide +kernel)) ggX11_best_X11_nextRow
theorem dX11_best_0 : decode cX11_best 0 = .ok (.aload_n 0, 1) := by decide +kernel
theorem dX11_best_1 : decode cX11_best 1 = .ok (.iconst 0, 1) := by decide +kernel
theorem dX11_best_2 : decode cX11_best 2 = .ok (.putfield 45, 3) := by decide +kernel
theorem dX11_best_5 : decode cX11_best 5 = .ok (.iload_n 1, 1) := by decide +kernel
theorem dX11_best_6 : decode cX11_best 6 = .ok (.iconst (-1), 1) := by decide +kernel
theorem dX11_best_7 : decode cX11_best 7 = .ok (.if_icmp .eq 14, 3) := by decide +kernel
theorem dX11_best_10 : decode cX11_best 10 = .ok (.aload_n 0, 1) := by decide +kernel
theorem dX11_best_11 : decode cX11_best 11 = .ok (.iload_n 1, 1) := by decide +kernel
theorem dX11_best_12 : decode cX11_best 12 = .ok (.invokevirtual 116, 3) := by decide +kernel
theorem dX11_best_15 : decode cX11_best 15 = .ok (.ifCond .ne 6, 3) := by decide +kernel
theorem dX11_best_18 : decode cX11_best 18 = .ok (.ldc 124, 2) := by decide +kernel
theorem dX11_best_20 : decode cX11_best 20 = .ok (.ireturn, 1) := by decide +kernel
theorem dX11_best_21 : decode cX11_best 21 = .ok (.ldc 124, 2) := by decide +kernel
theorem dX11_best_23 : decode cX11_best 23 = .ok (.istore_n 2, 1) := by decide +kernel
theorem dX11_best_24 : decode cX11_best 24 = .ok (.aload_n 0, 1) := by decide +kernel
theorem dX11_best_25 : decode cX11_best 25 = .ok (.invokevirtual 157, 3) := by decide +kernel
theorem dX11_best_28 : decode cX11_best 28 = .ok (.iconst 1, 1) := by decide +kernel
theorem dX11_best_29 : decode cX11_best 29 = .ok (.istore_n 3, 1) := by decide +kernel
theorem dX11_best_30 : decode cX11_best 30 = .ok (.iload_n 3, 1) := by decide +kernel
theorem dX11_best_31 : decode cX11_best 31 = .ok (.ifCond .eq 73, 3) := by decide +kernel
theorem dX11_best_34 : decode cX11_best 34 = .ok (.aload_n 0, 1) := by decide +kernel
theorem dX11_best_35 : decode cX11_best 35 = .ok (.aload_n 0, 1) := by decide +kernel
theorem dX11_best_36 : decode cX11_best 36 = .ok (.getfield 26, 3) := by decide +kernel
theorem dX11_best_39 : decode cX11_best 39 = .ok (.invokevirtual 148, 3) := by decide +kernel
theorem dX11_best_42 : decode cX11_best 42 = .ok (.ifCond .eq 54, 3) := by decide +kernel
theorem dX11_best_45 : decode cX11_best 45 = .ok (.aload_n 0, 1) := by decide +kernel
theorem dX11_best_46 : decode cX11_best 46 = .ok (.aload_n 0, 1) := by decide +kernel
theorem dX11_best_47 : decode cX11_best 47 = .ok (.getfield 26, 3) := by decide +kernel
theorem dX11_best_50 : decode cX11_best 50 = .ok (.invokevirtual 151, 3) := by decide +kernel
theorem dX11_best_53 : decode cX11_best 53 = .ok (.iload_n 2, 1) := by decide +kernel
theorem dX11_best_54 : decode cX11_best 54 = .ok (.if_icmp .le 42, 3) := by decide +kernel
theorem dX11_best_57 : decode cX11_best 57 = .ok (.aload_n 0, 1) := by decide +kernel
theorem dX11_best_58 : decode cX11_best 58 = .ok (.aload_n 0, 1) := by decide +kernel
theorem dX11_best_59 : decode cX11_best 59 = .ok (.getfield 26, 3) := by decide +kernel
theorem dX11_best_62 : decode cX11_best 62 = .ok (.invokevirtual 151, 3) := by decide +kernel
theorem dX11_best_65 : decode cX11_best 65 = .ok (.istore_n 2, 1) := by decide +kernel
theorem dX11_best_66 : decode cX11_best 66 = .ok (.iconst 0, 1) := by decide +kernel
theorem dX11_best_67 : decode cX11_best 67 = .ok (.istore 4, 2) := by decide +kernel
theorem dX11_best_69 : decode cX11_best 69 = .ok (.iload 4, 2) := by decide +kernel
theorem dX11_best_71 : decode cX11_best 71 = .ok (.bipush 8, 2) := by decide +kernel
theorem dX11_best_73 : decode cX11_best 73 = .ok (.if_icmp .ge 23, 3) := by decide +kernel
theorem dX11_best_76 : decode cX11_best 76 = .ok (.aload_n 0, 1) := by decide +kernel
theorem dX11_best_77 : decode cX11_best 77 = .ok (.getfield 29, 3) := by decide +kernel
theorem dX11_best_80 : decode cX11_best 80 = .ok (.iload 4, 2) := by decide +kernel
theorem dX11_best_82 : decode cX11_best 82 = .ok (.aload_n 0, 1) := by decide +kernel
theorem dX11_best_83 : decode cX11_best 83 = .ok (.getfield 26, 3) := by decide +kernel
theorem dX11_best_86 : decode cX11_best 86 = .ok (.iload 4, 2) := by decide +kernel
theorem dX11_best_88 : decode cX11_best 88 = .ok (.iaload, 1) := by decide +kernel
theorem dX11_best_89 : decode cX11_best 89 = .ok (.iastore, 1) := by decide +kernel
theorem dX11_best_90 : decode cX11_best 90 = .ok (.iinc 4 1, 3) := by decide +kernel
theorem dX11_best_93 : decode cX11_best 93 = .ok (.goto (-24), 3) := by decide +kernel
theorem dX11_best_96 : decode cX11_best 96 = .ok (.aload_n 0, 1) := by decide +kernel
theorem dX11_best_97 : decode cX11_best 97 = .ok (.invokevirtual 160, 3) := by decide +kernel
theorem dX11_best_100 : decode cX11_best 100 = .ok (.istore_n 3, 1) := by decide +kernel
theorem dX11_best_101 : decode cX11_best 101 = .ok (.goto (-71), 3) := by decide +kernel
theorem dX11_best_104 : decode cX11_best 104 = .ok (.iload_n 2, 1) := by decide +kernel
theorem dX11_best_105 : decode cX11_best 105 = .ok (.ldc 124, 2) := by decide +kernel
theorem dX11_best_107 : decode cX11_best 107 = .ok (.if_icmp .eq 8, 3) := by decide +kernel
theorem dX11_best_110 : decode cX11_best 110 = .ok (.iload_n 1, 1) := by decide +kernel
theorem dX11_best_111 : decode cX11_best 111 = .ok (.iconst (-1), 1) := by decide +kernel
theorem dX11_best_112 : decode cX11_best 112 = .ok (.if_icmp .ne 7, 3) := by decide +kernel
theorem dX11_best_115 : decode cX11_best 115 = .ok (.iload_n 2, 1) := by decide +kernel
theorem dX11_best_116 : decode cX11_best 116 = .ok (.goto 9, 3) := by decide +kernel
theorem dX11_best_119 : decode cX11_best 119 = .ok (.aload_n 0, 1) := by decide +kernel
theorem dX11_best_120 : decode cX11_best 120 = .ok (.getfield 29, 3) := by decide +kernel
theorem dX11_best_123 : decode cX11_best 123 = .ok (.iload_n 1, 1) := by decide +kernel
theorem dX11_best_124 : decode cX11_best 124 = .ok (.iaload, 1) := by decide +kernel
theorem dX11_best_125 : decode cX11_best 125 = .ok (.ireturn, 1) := by decide +kernel
set_option maxRecDepth 20000 in
theorem ggX11_ratherAt_X11_guests : GoodIn wsX11_ratherAt wsX11_guests := goodIn_r _ [8, 3, 13, 14, 15, 16, 17, 18, 19, 20, 21, 22, 23, 24, 25, 26, 27, 28, 29] (by decide +kernel) (by decide +kernel)
set_option maxRecDepth 20000 in
theorem gX11_ratherAt_X11_guests : GoodIn wsX11_ratherAt (wsV RX11 112 RX11 yX11_guests wsX11_guests) := goodIn_app (goodIn_of _ (by decide +kernel)) ggX11_ratherAt_X11_guests
set_option maxRecDepth 20000 in
theorem ggX11_ratherAt_X11_partiesOf : GoodIn wsX11_ratherAt wsX11_partiesOf := goodIn_r _ [12, 4, 5, 6, 7, 8, 3, 13, 14, 15, 16, 17, 18, 19, 20, 21, 22, 23, 24, 25, 26, 27, 28, 29] (by decide +kernel) (by decide +kernel)
set_option maxRecDepth 20000 in
theorem gX11_ratherAt_X11_partiesOf : GoodIn wsX11_ratherAt (wsV RX11 125 RX11 yX11_partiesOf wsX11_partiesOf) := goodIn_app (goodIn_of _ (by decide +kernel)) ggX11_ratherAt_X11_partiesOf
theorem dX11_ratherAt_0 : decode cX11_ratherAt 0 = .ok (.iconst 0, 1) := by decide +kernel
theorem dX11_ratherAt_1 : decode cX11_ratherAt 1 = .ok (.istore_n 2, 1) := by decide +kernel
theorem dX11_ratherAt_2 : decode cX11_ratherAt 2 = .ok (.iconst 0, 1) := by decide +kernel
theorem dX11_ratherAt_3 : decode cX11_ratherAt 3 = .ok (.istore_n 3, 1) := by decide +kernel
theorem dX11_ratherAt_4 : decode cX11_ratherAt 4 = .ok (.iload_n 3, 1) := by decide +kernel
theorem dX11_ratherAt_5 : decode cX11_ratherAt 5 = .ok (.bipush 8, 2) := by decide +kernel
theorem dX11_ratherAt_7 : decode cX11_ratherAt 7 = .ok (.if_icmp .ge 16, 3) := by decide +kernel
theorem dX11_ratherAt_10 : decode cX11_ratherAt 10 = .ok (.aload_n 0, 1) := by decide +kernel
theorem dX11_ratherAt_11 : decode cX11_ratherAt 11 = .ok (.getfield 32, 3) := by decide +kernel
theorem dX11_ratherAt_14 : decode cX11_ratherAt 14 = .ok (.iload_n 3, 1) := by decide +kernel
theorem dX11_ratherAt_15 : decode cX11_ratherAt 15 = .ok (.iconst 0, 1) := by decide +kernel
theorem dX11_ratherAt_16 : decode cX11_ratherAt 16 = .ok (.iastore, 1) := by decide +kernel
theorem dX11_ratherAt_17 : decode cX11_ratherAt 17 = .ok (.iinc 3 1, 3) := by decide +kernel
theorem dX11_ratherAt_20 : decode cX11_ratherAt 20 = .ok (.goto (-16), 3) := by decide +kernel
theorem dX11_ratherAt_23 : decode cX11_ratherAt 23 = .ok (.iconst 0, 1) := by decide +kernel
theorem dX11_ratherAt_24 : decode cX11_ratherAt 24 = .ok (.istore_n 3, 1) := by decide +kernel
theorem dX11_ratherAt_25 : decode cX11_ratherAt 25 = .ok (.iload_n 3, 1) := by decide +kernel
theorem dX11_ratherAt_26 : decode cX11_ratherAt 26 = .ok (.aload_n 0, 1) := by decide +kernel
theorem dX11_ratherAt_27 : decode cX11_ratherAt 27 = .ok (.invokevirtual 112, 3) := by decide +kernel
theorem dX11_ratherAt_30 : decode cX11_ratherAt 30 = .ok (.if_icmp .ge 46, 3) := by decide +kernel
theorem dX11_ratherAt_33 : decode cX11_ratherAt 33 = .ok (.aload_n 0, 1) := by decide +kernel
theorem dX11_ratherAt_34 : decode cX11_ratherAt 34 = .ok (.getfield 32, 3) := by decide +kernel
theorem dX11_ratherAt_37 : decode cX11_ratherAt 37 = .ok (.aload_n 0, 1) := by decide +kernel
theorem dX11_ratherAt_38 : decode cX11_ratherAt 38 = .ok (.getfield 26, 3) := by decide +kernel
theorem dX11_ratherAt_41 : decode cX11_ratherAt 41 = .ok (.iload_n 3, 1) := by decide +kernel
theorem dX11_ratherAt_42 : decode cX11_ratherAt 42 = .ok (.iaload, 1) := by decide +kernel
theorem dX11_ratherAt_43 : decode cX11_ratherAt 43 = .ok (.dup2, 1) := by decide +kernel
theorem dX11_ratherAt_44 : decode cX11_ratherAt 44 = .ok (.iaload, 1) := by decide +kernel
theorem dX11_ratherAt_45 : decode cX11_ratherAt 45 = .ok (.iload_n 3, 1) := by decide +kernel
theorem dX11_ratherAt_46 : decode cX11_ratherAt 46 = .ok (.iload_n 1, 1) := by decide +kernel
theorem dX11_ratherAt_47 : decode cX11_ratherAt 47 = .ok (.if_icmp .ne 7, 3) := by decide +kernel
theorem dX11_ratherAt_50 : decode cX11_ratherAt 50 = .ok (.iconst 0, 1) := by decide +kernel
theorem dX11_ratherAt_51 : decode cX11_ratherAt 51 = .ok (.goto 17, 3) := by decide +kernel
theorem dX11_ratherAt_54 : decode cX11_ratherAt 54 = .ok (.aload_n 0, 1) := by decide +kernel
theorem dX11_ratherAt_55 : decode cX11_ratherAt 55 = .ok (.getfield 13, 3) := by decide +kernel
theorem dX11_ratherAt_58 : decode cX11_ratherAt 58 = .ok (.bipush 30, 2) := by decide +kernel
theorem dX11_ratherAt_60 : decode cX11_ratherAt 60 = .ok (.bipush 8, 2) := by decide +kernel
theorem dX11_ratherAt_62 : decode cX11_ratherAt 62 = .ok (.iload_n 1, 1) := by decide +kernel
theorem dX11_ratherAt_63 : decode cX11_ratherAt 63 = .ok (.imul, 1) := by decide +kernel
theorem dX11_ratherAt_64 : decode cX11_ratherAt 64 = .ok (.iadd, 1) := by decide +kernel
theorem dX11_ratherAt_65 : decode cX11_ratherAt 65 = .ok (.iload_n 3, 1) := by decide +kernel
theorem dX11_ratherAt_66 : decode cX11_ratherAt 66 = .ok (.iadd, 1) := by decide +kernel
theorem dX11_ratherAt_67 : decode cX11_ratherAt 67 = .ok (.iaload, 1) := by decide +kernel
theorem dX11_ratherAt_68 : decode cX11_ratherAt 68 = .ok (.iadd, 1) := by decide +kernel
theorem dX11_ratherAt_69 : decode cX11_ratherAt 69 = .ok (.iastore, 1) := by decide +kernel
theorem dX11_ratherAt_70 : decode cX11_ratherAt 70 = .ok (.iinc 3 1, 3) := by decide +kernel
theorem dX11_ratherAt_73 : decode cX11_ratherAt 73 = .ok (.goto (-48), 3) := by decide +kernel
theorem dX11_ratherAt_76 : decode cX11_ratherAt 76 = .ok (.aload_n 0, 1) := by decide +kernel
theorem dX11_ratherAt_77 : decode cX11_ratherAt 77 = .ok (.getfield 32, 3) := by decide +kernel
theorem dX11_ratherAt_80 : decode cX11_ratherAt 80 = .ok (.aload_n 0, 1) := by decide +kernel
theorem dX11_ratherAt_81 : decode cX11_ratherAt 81 = .ok (.getfield 26, 3) := by decide +kernel
theorem dX11_ratherAt_84 : decode cX11_ratherAt 84 = .ok (.iload_n 1, 1) := by decide +kernel
theorem dX11_ratherAt_85 : decode cX11_ratherAt 85 = .ok (.iaload, 1) := by decide +kernel
theorem dX11_ratherAt_86 : decode cX11_ratherAt 86 = .ok (.iaload, 1) := by decide +kernel
theorem dX11_ratherAt_87 : decode cX11_ratherAt 87 = .ok (.istore_n 2, 1) := by decide +kernel
theorem dX11_ratherAt_88 : decode cX11_ratherAt 88 = .ok (.iconst 0, 1) := by decide +kernel
theorem dX11_ratherAt_89 : decode cX11_ratherAt 89 = .ok (.iload_n 2, 1) := by decide +kernel
theorem dX11_ratherAt_90 : decode cX11_ratherAt 90 = .ok (.if_icmp .le 7, 3) := by decide +kernel
theorem dX11_ratherAt_93 : decode cX11_ratherAt 93 = .ok (.iload_n 1, 1) := by decide +kernel
theorem dX11_ratherAt_94 : decode cX11_ratherAt 94 = .ok (.goto 5, 3) := by decide +kernel
theorem dX11_ratherAt_97 : decode cX11_ratherAt 97 = .ok (.bipush (-9), 2) := by decide +kernel
theorem dX11_ratherAt_99 : decode cX11_ratherAt 99 = .ok (.istore_n 3, 1) := by decide +kernel
theorem dX11_ratherAt_100 : decode cX11_ratherAt 100 = .ok (.iconst 0, 1) := by decide +kernel
theorem dX11_ratherAt_101 : decode cX11_ratherAt 101 = .ok (.iload_n 2, 1) := by decide +kernel
theorem dX11_ratherAt_102 : decode cX11_ratherAt 102 = .ok (.if_icmp .le 7, 3) := by decide +kernel
theorem dX11_ratherAt_105 : decode cX11_ratherAt 105 = .ok (.iconst 0, 1) := by decide +kernel
theorem dX11_ratherAt_106 : decode cX11_ratherAt 106 = .ok (.goto 4, 3) := by decide +kernel
theorem dX11_ratherAt_109 : decode cX11_ratherAt 109 = .ok (.iload_n 2, 1) := by decide +kernel
theorem dX11_ratherAt_110 : decode cX11_ratherAt 110 = .ok (.istore 4, 2) := by decide +kernel
theorem dX11_ratherAt_112 : decode cX11_ratherAt 112 = .ok (.iconst 0, 1) := by decide +kernel
theorem dX11_ratherAt_113 : decode cX11_ratherAt 113 = .ok (.istore 5, 2) := by decide +kernel
theorem dX11_ratherAt_115 : decode cX11_ratherAt 115 = .ok (.iload 5, 2) := by decide +kernel
theorem dX11_ratherAt_117 : decode cX11_ratherAt 117 = .ok (.aload_n 0, 1) := by decide +kernel
theorem dX11_ratherAt_118 : decode cX11_ratherAt 118 = .ok (.aload_n 0, 1) := by decide +kernel
theorem dX11_ratherAt_119 : decode cX11_ratherAt 119 = .ok (.getfield 26, 3) := by decide +kernel
theorem dX11_ratherAt_122 : decode cX11_ratherAt 122 = .ok (.invokevirtual 125, 3) := by decide +kernel
theorem dX11_ratherAt_125 : decode cX11_ratherAt 125 = .ok (.if_icmp .ge 79, 3) := by decide +kernel
theorem dX11_ratherAt_128 : decode cX11_ratherAt 128 = .ok (.iload 5, 2) := by decide +kernel
theorem dX11_ratherAt_130 : decode cX11_ratherAt 130 = .ok (.aload_n 0, 1) := by decide +kernel
theorem dX11_ratherAt_131 : decode cX11_ratherAt 131 = .ok (.getfield 26, 3) := by decide +kernel
theorem dX11_ratherAt_134 : decode cX11_ratherAt 134 = .ok (.iload_n 1, 1) := by decide +kernel
theorem dX11_ratherAt_135 : decode cX11_ratherAt 135 = .ok (.iaload, 1) := by decide +kernel
theorem dX11_ratherAt_136 : decode cX11_ratherAt 136 = .ok (.if_icmp .eq 62, 3) := by decide +kernel
theorem dX11_ratherAt_139 : decode cX11_ratherAt 139 = .ok (.aload_n 0, 1) := by decide +kernel
theorem dX11_ratherAt_140 : decode cX11_ratherAt 140 = .ok (.getfield 32, 3) := by decide +kernel
theorem dX11_ratherAt_143 : decode cX11_ratherAt 143 = .ok (.iload 5, 2) := by decide +kernel
theorem dX11_ratherAt_145 : decode cX11_ratherAt 145 = .ok (.iaload, 1) := by decide +kernel
theorem dX11_ratherAt_146 : decode cX11_ratherAt 146 = .ok (.iload 4, 2) := by decide +kernel
theorem dX11_ratherAt_148 : decode cX11_ratherAt 148 = .ok (.if_icmp .le 50, 3) := by decide +kernel
theorem dX11_ratherAt_151 : decode cX11_ratherAt 151 = .ok (.aload_n 0, 1) := by decide +kernel
theorem dX11_ratherAt_152 : decode cX11_ratherAt 152 = .ok (.getfield 32, 3) := by decide +kernel
theorem dX11_ratherAt_155 : decode cX11_ratherAt 155 = .ok (.iload 5, 2) := by decide +kernel
theorem dX11_ratherAt_157 : decode cX11_ratherAt 157 = .ok (.iaload, 1) := by decide +kernel
theorem dX11_ratherAt_158 : decode cX11_ratherAt 158 = .ok (.istore 4, 2) := by decide +kernel
theorem dX11_ratherAt_160 : decode cX11_ratherAt 160 = .ok (.aload_n 0, 1) := by decide +kernel
theorem dX11_ratherAt_161 : decode cX11_ratherAt 161 = .ok (.invokevirtual 112, 3) := by decide +kernel
theorem dX11_ratherAt_164 : decode cX11_ratherAt 164 = .ok (.iconst 1, 1) := by decide +kernel
theorem dX11_ratherAt_165 : decode cX11_ratherAt 165 = .ok (.isub, 1) := by decide +kernel
theorem dX11_ratherAt_166 : decode cX11_ratherAt 166 = .ok (.istore 6, 2) := by decide +kernel
theorem dX11_ratherAt_168 : decode cX11_ratherAt 168 = .ok (.iload 6, 2) := by decide +kernel
theorem dX11_ratherAt_170 : decode cX11_ratherAt 170 = .ok (.ifCond .lt 28, 3) := by decide +kernel
theorem dX11_ratherAt_173 : decode cX11_ratherAt 173 = .ok (.aload_n 0, 1) := by decide +kernel
theorem dX11_ratherAt_174 : decode cX11_ratherAt 174 = .ok (.getfield 26, 3) := by decide +kernel
theorem dX11_ratherAt_177 : decode cX11_ratherAt 177 = .ok (.iload 6, 2) := by decide +kernel
theorem dX11_ratherAt_179 : decode cX11_ratherAt 179 = .ok (.iaload, 1) := by decide +kernel
theorem dX11_ratherAt_180 : decode cX11_ratherAt 180 = .ok (.iload 5, 2) := by decide +kernel
theorem dX11_ratherAt_182 : decode cX11_ratherAt 182 = .ok (.if_icmp .ne 8, 3) := by decide +kernel
theorem dX11_ratherAt_185 : decode cX11_ratherAt 185 = .ok (.iload 6, 2) := by decide +kernel
theorem dX11_ratherAt_187 : decode cX11_ratherAt 187 = .ok (.goto 4, 3) := by decide +kernel
theorem dX11_ratherAt_190 : decode cX11_ratherAt 190 = .ok (.iload_n 3, 1) := by decide +kernel
theorem dX11_ratherAt_191 : decode cX11_ratherAt 191 = .ok (.istore_n 3, 1) := by decide +kernel
theorem dX11_ratherAt_192 : decode cX11_ratherAt 192 = .ok (.iinc 6 (-1), 3) := by decide +kernel
theorem dX11_ratherAt_195 : decode cX11_ratherAt 195 = .ok (.goto (-27), 3) := by decide +kernel
theorem dX11_ratherAt_198 : decode cX11_ratherAt 198 = .ok (.iinc 5 1, 3) := by decide +kernel
theorem dX11_ratherAt_201 : decode cX11_ratherAt 201 = .ok (.goto (-86), 3) := by decide +kernel
theorem dX11_ratherAt_204 : decode cX11_ratherAt 204 = .ok (.iload_n 3, 1) := by decide +kernel
theorem dX11_ratherAt_205 : decode cX11_ratherAt 205 = .ok (.ireturn, 1) := by decide +kernel
set_option maxRecDepth 20000 in
theorem ggX11_leaving_X11_isGuest : GoodIn wsX11_leaving wsX11_isGuest := goodIn_r _ [8, 9, 10, 11, 7, 12, 13, 14, 15, 16, 38, 39, 40, 41, 42, 43, 44, 45, 46, 47, 48, 49, 50, 51, 52, 53, 54] (by decide +kernel) (by decide +kernel)
set_option maxRecDepth 20000 in
theorem gX11_leaving_X11_isGuest : GoodIn wsX11_leaving (wsV RX11 116 RX11 yX11_isGuest wsX11_isGuest) := goodIn_app (goodIn_of _ (by decide +kernel)) ggX11_leaving_X11_isGuest
set_option maxRecDepth 20000 in
theorem ggX11_leaving_X11_guests : GoodIn wsX11_leaving wsX11_guests := goodIn_r _ [12, 13, 38, 39, 40, 41, 42, 43, 44, 45, 46, 47, 48, 49, 50, 51, 52, 53, 54] (by decide +kernel) (by decide +kernel)
set_option maxRecDepth 20000 in
theorem gX11_leaving_X11_guests : GoodIn wsX11_leaving (wsV RX11 112 RX11 yX11_guests wsX11_guests) := goodIn_app (goodIn_of _ (by decide +kernel)) ggX11_leaving_X11_guests
set_option maxRecDepth 20000 in
theorem ggX11_leaving_X11_ratherAt : GoodIn wsX11_leaving wsX11_ratherAt := goodIn_r _ [20, 21, 2, 13, 9, 10, 11, 7, 12, 22, 23, 24, 25, 38, 39, 40, 41, 42, 43, 44, 45, 46, 47, 48, 49, 50, 51, 52, 53, 54] (by decide +kernel) (by decide +kernel)
set_option maxRecDepth 20000 in
theorem gX11_leaving_X11_ratherAt : GoodIn wsX11_leaving (wsV RX11 195 RX11 yX11_ratherAt wsX11_ratherAt) := goodIn_app (goodIn_of _ (by decide +kernel)) ggX11_leaving_X11_ratherAt
set_option maxRecDepth 20000 in
theorem ggX11_leaving_X11_moves : GoodIn wsX11_leaving wsX11_moves := goodIn_r _ [29, 30, 31, 32, 7, 33, 9, 10, 11, 12, 13, 34, 35, 36, 37, 38, 39, 40, 41, 42, 43, 44, 45, 46, 47, 48, 49, 50, 51, 52, 53, 54] (by decide +kernel) (by decide +kernel)
set_option maxRecDepth 20000 in
theorem gX11_leaving_X11_moves : GoodIn wsX11_leaving (wsV RX11 144 RX11 yX11_moves wsX11_moves) := goodIn_app (goodIn_of _ (by decide +kernel)) ggX11_leaving_X11_moves
theorem dX11_leaving_0 : decode cX11_leaving 0 = .ok (.aload_n 0, 1) := by decide +kernel
theorem dX11_leaving_1 : decode cX11_leaving 1 = .ok (.iconst 0, 1) := by decide +kernel
theorem dX11_leaving_2 : decode cX11_leaving 2 = .ok (.putfield 45, 3) := by decide +kernel
theorem dX11_leaving_5 : decode cX11_leaving 5 = .ok (.iload_n 1, 1) := by decide +kernel
theorem dX11_leaving_6 : decode cX11_leaving 6 = .ok (.iconst (-1), 1) := by decide +kernel
theorem dX11_leaving_7 : decode cX11_leaving 7 = .ok (.if_icmp .eq 13, 3) := by decide +kernel
theorem dX11_leaving_10 : decode cX11_leaving 10 = .ok (.aload_n 0, 1) := by decide +kernel
theorem dX11_leaving_11 : decode cX11_leaving 11 = .ok (.iload_n 1, 1) := by decide +kernel
theorem dX11_leaving_12 : decode cX11_leaving 12 = .ok (.invokevirtual 116, 3) := by decide +kernel
theorem dX11_leaving_15 : decode cX11_leaving 15 = .ok (.ifCond .ne 5, 3) := by decide +kernel
theorem dX11_leaving_18 : decode cX11_leaving 18 = .ok (.iconst (-1), 1) := by decide +kernel
theorem dX11_leaving_19 : decode cX11_leaving 19 = .ok (.ireturn, 1) := by decide +kernel
theorem dX11_leaving_20 : decode cX11_leaving 20 = .ok (.iconst 0, 1) := by decide +kernel
theorem dX11_leaving_21 : decode cX11_leaving 21 = .ok (.istore_n 2, 1) := by decide +kernel
theorem dX11_leaving_22 : decode cX11_leaving 22 = .ok (.iload_n 2, 1) := by decide +kernel
theorem dX11_leaving_23 : decode cX11_leaving 23 = .ok (.bipush 8, 2) := by decide +kernel
theorem dX11_leaving_25 : decode cX11_leaving 25 = .ok (.if_icmp .ge 21, 3) := by decide +kernel
theorem dX11_leaving_28 : decode cX11_leaving 28 = .ok (.aload_n 0, 1) := by decide +kernel
theorem dX11_leaving_29 : decode cX11_leaving 29 = .ok (.getfield 26, 3) := by decide +kernel
theorem dX11_leaving_32 : decode cX11_leaving 32 = .ok (.iload_n 2, 1) := by decide +kernel
theorem dX11_leaving_33 : decode cX11_leaving 33 = .ok (.aload_n 0, 1) := by decide +kernel
theorem dX11_leaving_34 : decode cX11_leaving 34 = .ok (.getfield 16, 3) := by decide +kernel
theorem dX11_leaving_37 : decode cX11_leaving 37 = .ok (.iload_n 2, 1) := by decide +kernel
theorem dX11_leaving_38 : decode cX11_leaving 38 = .ok (.iaload, 1) := by decide +kernel
theorem dX11_leaving_39 : decode cX11_leaving 39 = .ok (.iastore, 1) := by decide +kernel
theorem dX11_leaving_40 : decode cX11_leaving 40 = .ok (.iinc 2 1, 3) := by decide +kernel
theorem dX11_leaving_43 : decode cX11_leaving 43 = .ok (.goto (-21), 3) := by decide +kernel
theorem dX11_leaving_46 : decode cX11_leaving 46 = .ok (.iconst 0, 1) := by decide +kernel
theorem dX11_leaving_47 : decode cX11_leaving 47 = .ok (.istore_n 2, 1) := by decide +kernel
theorem dX11_leaving_48 : decode cX11_leaving 48 = .ok (.iconst 0, 1) := by decide +kernel
theorem dX11_leaving_49 : decode cX11_leaving 49 = .ok (.istore_n 3, 1) := by decide +kernel
theorem dX11_leaving_50 : decode cX11_leaving 50 = .ok (.iconst 0, 1) := by decide +kernel
theorem dX11_leaving_51 : decode cX11_leaving 51 = .ok (.istore 4, 2) := by decide +kernel
theorem dX11_leaving_53 : decode cX11_leaving 53 = .ok (.iload_n 3, 1) := by decide +kernel
theorem dX11_leaving_54 : decode cX11_leaving 54 = .ok (.aload_n 0, 1) := by decide +kernel
theorem dX11_leaving_55 : decode cX11_leaving 55 = .ok (.invokevirtual 112, 3) := by decide +kernel
theorem dX11_leaving_58 : decode cX11_leaving 58 = .ok (.if_icmp .ge 64, 3) := by decide +kernel
theorem dX11_leaving_61 : decode cX11_leaving 61 = .ok (.iload_n 2, 1) := by decide +kernel
theorem dX11_leaving_62 : decode cX11_leaving 62 = .ok (.bipush 60, 2) := by decide +kernel
theorem dX11_leaving_64 : decode cX11_leaving 64 = .ok (.if_icmp .ge 58, 3) := by decide +kernel
theorem dX11_leaving_67 : decode cX11_leaving 67 = .ok (.aload_n 0, 1) := by decide +kernel
theorem dX11_leaving_68 : decode cX11_leaving 68 = .ok (.iload 4, 2) := by decide +kernel
theorem dX11_leaving_70 : decode cX11_leaving 70 = .ok (.invokevirtual 195, 3) := by decide +kernel
theorem dX11_leaving_73 : decode cX11_leaving 73 = .ok (.istore 5, 2) := by decide +kernel
theorem dX11_leaving_75 : decode cX11_leaving 75 = .ok (.iload 5, 2) := by decide +kernel
theorem dX11_leaving_77 : decode cX11_leaving 77 = .ok (.bipush (-9), 2) := by decide +kernel
theorem dX11_leaving_79 : decode cX11_leaving 79 = .ok (.if_icmp .eq 26, 3) := by decide +kernel
theorem dX11_leaving_82 : decode cX11_leaving 82 = .ok (.aload_n 0, 1) := by decide +kernel
theorem dX11_leaving_83 : decode cX11_leaving 83 = .ok (.aload_n 0, 1) := by decide +kernel
theorem dX11_leaving_84 : decode cX11_leaving 84 = .ok (.getfield 26, 3) := by decide +kernel
theorem dX11_leaving_87 : decode cX11_leaving 87 = .ok (.iload 4, 2) := by decide +kernel
theorem dX11_leaving_89 : decode cX11_leaving 89 = .ok (.iload 5, 2) := by decide +kernel
theorem dX11_leaving_91 : decode cX11_leaving 91 = .ok (.invokevirtual 144, 3) := by decide +kernel
theorem dX11_leaving_94 : decode cX11_leaving 94 = .ok (.ifCond .eq 11, 3) := by decide +kernel
theorem dX11_leaving_97 : decode cX11_leaving 97 = .ok (.iinc 2 1, 3) := by decide +kernel
theorem dX11_leaving_100 : decode cX11_leaving 100 = .ok (.iconst 0, 1) := by decide +kernel
theorem dX11_leaving_101 : decode cX11_leaving 101 = .ok (.istore_n 3, 1) := by decide +kernel
theorem dX11_leaving_102 : decode cX11_leaving 102 = .ok (.goto 6, 3) := by decide +kernel
theorem dX11_leaving_105 : decode cX11_leaving 105 = .ok (.iinc 3 1, 3) := by decide +kernel
theorem dX11_leaving_108 : decode cX11_leaving 108 = .ok (.iload 4, 2) := by decide +kernel
theorem dX11_leaving_110 : decode cX11_leaving 110 = .ok (.iconst 1, 1) := by decide +kernel
theorem dX11_leaving_111 : decode cX11_leaving 111 = .ok (.iadd, 1) := by decide +kernel
theorem dX11_leaving_112 : decode cX11_leaving 112 = .ok (.aload_n 0, 1) := by decide +kernel
theorem dX11_leaving_113 : decode cX11_leaving 113 = .ok (.invokevirtual 112, 3) := by decide +kernel
theorem dX11_leaving_116 : decode cX11_leaving 116 = .ok (.irem, 1) := by decide +kernel
theorem dX11_leaving_117 : decode cX11_leaving 117 = .ok (.istore 4, 2) := by decide +kernel
theorem dX11_leaving_119 : decode cX11_leaving 119 = .ok (.goto (-66), 3) := by decide +kernel
theorem dX11_leaving_122 : decode cX11_leaving 122 = .ok (.iload_n 1, 1) := by decide +kernel
theorem dX11_leaving_123 : decode cX11_leaving 123 = .ok (.ifCond .lt 12, 3) := by decide +kernel
theorem dX11_leaving_126 : decode cX11_leaving 126 = .ok (.aload_n 0, 1) := by decide +kernel
theorem dX11_leaving_127 : decode cX11_leaving 127 = .ok (.getfield 26, 3) := by decide +kernel
theorem dX11_leaving_130 : decode cX11_leaving 130 = .ok (.iload_n 1, 1) := by decide +kernel
theorem dX11_leaving_131 : decode cX11_leaving 131 = .ok (.iaload, 1) := by decide +kernel
theorem dX11_leaving_132 : decode cX11_leaving 132 = .ok (.goto 15, 3) := by decide +kernel
theorem dX11_leaving_135 : decode cX11_leaving 135 = .ok (.iload_n 2, 1) := by decide +kernel
theorem dX11_leaving_136 : decode cX11_leaving 136 = .ok (.bipush 60, 2) := by decide +kernel
theorem dX11_leaving_138 : decode cX11_leaving 138 = .ok (.if_icmp .ne 8, 3) := by decide +kernel
theorem dX11_leaving_141 : decode cX11_leaving 141 = .ok (.bipush (-9), 2) := by decide +kernel
theorem dX11_leaving_143 : decode cX11_leaving 143 = .ok (.goto 4, 3) := by decide +kernel
theorem dX11_leaving_146 : decode cX11_leaving 146 = .ok (.iload_n 2, 1) := by decide +kernel
theorem dX11_leaving_147 : decode cX11_leaving 147 = .ok (.ireturn, 1) := by decide +kernel
set_option maxRecDepth 20000 in
theorem ggX11_evening_X11_in : GoodIn wsX11_evening wsX11_in := goodIn_r _ [6] (by decide +kernel) (by decide +kernel)
set_option maxRecDepth 20000 in
theorem gX11_evening_X11_in : GoodIn wsX11_evening (va_wsS RX11 49 yX11_in wsX11_in) := goodIn_app (goodIn_of _ (by decide +kernel)) ggX11_evening_X11_in
set_option maxRecDepth 20000 in
theorem ggX11_evening_X11_guests : GoodIn wsX11_evening wsX11_guests := goodIn_r _ [10, 11, 34, 35, 36, 37, 38, 39, 40, 41, 42, 43, 44, 45, 46, 47, 48, 49, 50] (by decide +kernel) (by decide +kernel)
set_option maxRecDepth 20000 in
theorem gX11_evening_X11_guests : GoodIn wsX11_evening (wsV RX11 112 RX11 yX11_guests wsX11_guests) := goodIn_app (goodIn_of _ (by decide +kernel)) ggX11_evening_X11_guests
set_option maxRecDepth 20000 in
theorem ggX11_evening_X11_draws : GoodIn wsX11_evening wsX11_draws := goodIn_r _ [15, 2, 16, 17, 34, 35, 36, 37, 38, 39, 40, 41, 42, 43, 44, 45, 46, 47, 48, 49, 50] (by decide +kernel) (by decide +kernel)
set_option maxRecDepth 20000 in
theorem gX11_evening_X11_draws : GoodIn wsX11_evening (wsV RX11 171 RX11 yX11_draws wsX11_draws) := goodIn_app (goodIn_of _ (by decide +kernel)) ggX11_evening_X11_draws
set_option maxRecDepth 20000 in
theorem ggX11_evening_X11_moves : GoodIn wsX11_evening wsX11_moves := goodIn_r _ [21, 22, 23, 24, 5, 25, 7, 8, 9, 10, 11, 26, 27, 28, 29, 34, 35, 36, 37, 38, 39, 40, 41, 42, 43, 44, 45, 46, 47, 48, 49, 50] (by decide +kernel) (by decide +kernel)
set_option maxRecDepth 20000 in
theorem gX11_evening_X11_moves : GoodIn wsX11_evening (wsV RX11 144 RX11 yX11_moves wsX11_moves) := goodIn_app (goodIn_of _ (by decide +kernel)) ggX11_evening_X11_moves
set_option maxRecDepth 20000 in
theorem ggX11_evening_X11_alone : GoodIn wsX11_evening wsX11_alone := goodIn_r _ [33, 2, 7, 8, 9, 5, 10, 11, 22, 23, 24, 25, 34, 35, 36, 37, 38, 39, 40, 41, 42, 43, 44, 45, 46, 47, 48, 49, 50] (by decide +kernel) (by decide +kernel)
set_option maxRecDepth 20000 in
theorem gX11_evening_X11_alone : GoodIn wsX11_evening (wsV RX11 154 RX11 yX11_alone wsX11_alone) := goodIn_app (goodIn_of _ (by decide +kernel)) ggX11_evening_X11_alone
theorem dX11_evening_0 : decode cX11_evening 0 = .ok (.aload_n 0, 1) := by decide +kernel
theorem dX11_evening_1 : decode cX11_evening 1 = .ok (.iconst 0, 1) := by decide +kernel
theorem dX11_evening_2 : decode cX11_evening 2 = .ok (.putfield 45, 3) := by decide +kernel
theorem dX11_evening_5 : decode cX11_evening 5 = .ok (.iload_n 1, 1) := by decide +kernel
theorem dX11_evening_6 : decode cX11_evening 6 = .ok (.iconst 1, 1) := by decide +kernel
theorem dX11_evening_7 : decode cX11_evening 7 = .ok (.bipush 99, 2) := by decide +kernel
theorem dX11_evening_9 : decode cX11_evening 9 = .ok (.invokestatic 49, 3) := by decide +kernel
theorem dX11_evening_12 : decode cX11_evening 12 = .ok (.ifCond .ne 5, 3) := by decide +kernel
theorem dX11_evening_15 : decode cX11_evening 15 = .ok (.iconst (-1), 1) := by decide +kernel
theorem dX11_evening_16 : decode cX11_evening 16 = .ok (.ireturn, 1) := by decide +kernel
theorem dX11_evening_17 : decode cX11_evening 17 = .ok (.iconst 0, 1) := by decide +kernel
theorem dX11_evening_18 : decode cX11_evening 18 = .ok (.istore_n 2, 1) := by decide +kernel
theorem dX11_evening_19 : decode cX11_evening 19 = .ok (.iconst 0, 1) := by decide +kernel
theorem dX11_evening_20 : decode cX11_evening 20 = .ok (.istore_n 3, 1) := by decide +kernel
theorem dX11_evening_21 : decode cX11_evening 21 = .ok (.iload_n 3, 1) := by decide +kernel
theorem dX11_evening_22 : decode cX11_evening 22 = .ok (.iload_n 1, 1) := by decide +kernel
theorem dX11_evening_23 : decode cX11_evening 23 = .ok (.if_icmp .ge 57, 3) := by decide +kernel
theorem dX11_evening_26 : decode cX11_evening 26 = .ok (.aload_n 0, 1) := by decide +kernel
theorem dX11_evening_27 : decode cX11_evening 27 = .ok (.aload_n 0, 1) := by decide +kernel
theorem dX11_evening_28 : decode cX11_evening 28 = .ok (.invokevirtual 112, 3) := by decide +kernel
theorem dX11_evening_31 : decode cX11_evening 31 = .ok (.invokevirtual 171, 3) := by decide +kernel
theorem dX11_evening_34 : decode cX11_evening 34 = .ok (.istore 4, 2) := by decide +kernel
theorem dX11_evening_36 : decode cX11_evening 36 = .ok (.aload_n 0, 1) := by decide +kernel
theorem dX11_evening_37 : decode cX11_evening 37 = .ok (.aload_n 0, 1) := by decide +kernel
theorem dX11_evening_38 : decode cX11_evening 38 = .ok (.invokevirtual 112, 3) := by decide +kernel
theorem dX11_evening_41 : decode cX11_evening 41 = .ok (.invokevirtual 171, 3) := by decide +kernel
theorem dX11_evening_44 : decode cX11_evening 44 = .ok (.istore 5, 2) := by decide +kernel
theorem dX11_evening_46 : decode cX11_evening 46 = .ok (.aload_n 0, 1) := by decide +kernel
theorem dX11_evening_47 : decode cX11_evening 47 = .ok (.aload_n 0, 1) := by decide +kernel
theorem dX11_evening_48 : decode cX11_evening 48 = .ok (.getfield 16, 3) := by decide +kernel
theorem dX11_evening_51 : decode cX11_evening 51 = .ok (.iload 4, 2) := by decide +kernel
theorem dX11_evening_53 : decode cX11_evening 53 = .ok (.iload 5, 2) := by decide +kernel
theorem dX11_evening_55 : decode cX11_evening 55 = .ok (.invokevirtual 144, 3) := by decide +kernel
theorem dX11_evening_58 : decode cX11_evening 58 = .ok (.pop, 1) := by decide +kernel
theorem dX11_evening_59 : decode cX11_evening 59 = .ok (.iload_n 2, 1) := by decide +kernel
theorem dX11_evening_60 : decode cX11_evening 60 = .ok (.aload_n 0, 1) := by decide +kernel
theorem dX11_evening_61 : decode cX11_evening 61 = .ok (.invokevirtual 154, 3) := by decide +kernel
theorem dX11_evening_64 : decode cX11_evening 64 = .ok (.ifCond .le 7, 3) := by decide +kernel
theorem dX11_evening_67 : decode cX11_evening 67 = .ok (.iconst 1, 1) := by decide +kernel
theorem dX11_evening_68 : decode cX11_evening 68 = .ok (.goto 4, 3) := by decide +kernel
theorem dX11_evening_71 : decode cX11_evening 71 = .ok (.iconst 0, 1) := by decide +kernel
theorem dX11_evening_72 : decode cX11_evening 72 = .ok (.iadd, 1) := by decide +kernel
theorem dX11_evening_73 : decode cX11_evening 73 = .ok (.istore_n 2, 1) := by decide +kernel
theorem dX11_evening_74 : decode cX11_evening 74 = .ok (.iinc 3 1, 3) := by decide +kernel
theorem dX11_evening_77 : decode cX11_evening 77 = .ok (.goto (-56), 3) := by decide +kernel
theorem dX11_evening_80 : decode cX11_evening 80 = .ok (.iload_n 2, 1) := by decide +kernel
theorem dX11_evening_81 : decode cX11_evening 81 = .ok (.ireturn, 1) := by decide +kernel
set_option maxRecDepth 20000 in
theorem ggX11_rate_X11_in : GoodIn wsX11_rate wsX11_in := goodIn_r _ [14] (by decide +kernel) (by decide +kernel)
set_option maxRecDepth 20000 in
theorem gX11_rate_X11_in : GoodIn wsX11_rate (va_wsS RX11 49 yX11_in wsX11_in) := goodIn_app (goodIn_of _ (by decide +kernel)) ggX11_rate_X11_in
set_option maxRecDepth 20000 in
theorem ggX11_rate_X11_isGuest : GoodIn wsX11_rate wsX11_isGuest := goodIn_r _ [18, 19, 20, 21, 13, 22, 4, 11, 12, 14, 31, 32, 33, 34, 35, 36, 37, 38, 39, 40, 41, 42, 43, 44, 45, 46, 47] (by decide +kernel) (by decide +kernel)
set_option maxRecDepth 20000 in
theorem gX11_rate_X11_isGuest : GoodIn wsX11_rate (wsV RX11 116 RX11 yX11_isGuest wsX11_isGuest) := goodIn_app (goodIn_of _ (by decide +kernel)) ggX11_rate_X11_isGuest
set_option maxRecDepth 20000 in
theorem ggX11_rate_X11_sizeOf : GoodIn wsX11_rate wsX11_sizeOf := goodIn_r _ [26, 19, 20, 21, 13, 22, 4, 31, 32, 33, 34, 35, 36, 37, 38, 39, 40, 41, 42, 43, 44, 45, 46, 47] (by decide +kernel) (by decide +kernel)
set_option maxRecDepth 20000 in
theorem gX11_rate_X11_sizeOf : GoodIn wsX11_rate (wsV RX11 129 RX11 yX11_sizeOf wsX11_sizeOf) := goodIn_app (goodIn_of _ (by decide +kernel)) ggX11_rate_X11_sizeOf
set_option maxRecDepth 20000 in
theorem ggX11_rate_X11_guests : GoodIn wsX11_rate wsX11_guests := goodIn_r _ [22, 4, 31, 32, 33, 34, 35, 36, 37, 38, 39, 40, 41, 42, 43, 44, 45, 46, 47] (by decide +kernel) (by decide +kernel)
set_option maxRecDepth 20000 in
theorem gX11_rate_X11_guests : GoodIn wsX11_rate (wsV RX11 112 RX11 yX11_guests wsX11_guests) := goodIn_app (goodIn_of _ (by decide +kernel)) ggX11_rate_X11_guests
set_option maxRecDepth 20000 in
theorem ggX11_rate_X11_partiesOf : GoodIn wsX11_rate wsX11_partiesOf := goodIn_r _ [30, 19, 20, 21, 13, 22, 4, 31, 32, 33, 34, 35, 36, 37, 38, 39, 40, 41, 42, 43, 44, 45, 46, 47] (by decide +kernel) (by decide +kernel)
set_option maxRecDepth 20000 in
theorem gX11_rate_X11_partiesOf : GoodIn wsX11_rate (wsV RX11 125 RX11 yX11_partiesOf wsX11_partiesOf) := goodIn_app (goodIn_of _ (by decide +kernel)) ggX11_rate_X11_partiesOf
theorem dX11_rate_0 : decode cX11_rate 0 = .ok (.aload_n 0, 1) := by decide +kernel
theorem dX11_rate_1 : decode cX11_rate 1 = .ok (.iconst 0, 1) := by decide +kernel
theorem dX11_rate_2 : decode cX11_rate 2 = .ok (.putfield 45, 3) := by decide +kernel
theorem dX11_rate_5 : decode cX11_rate 5 = .ok (.iload_n 1, 1) := by decide +kernel
theorem dX11_rate_6 : decode cX11_rate 6 = .ok (.iconst 0, 1) := by decide +kernel
theorem dX11_rate_7 : decode cX11_rate 7 = .ok (.iconst 5, 1) := by decide +kernel
theorem dX11_rate_8 : decode cX11_rate 8 = .ok (.invokestatic 49, 3) := by decide +kernel
theorem dX11_rate_11 : decode cX11_rate 11 = .ok (.ifCond .eq 11, 3) := by decide +kernel
theorem dX11_rate_14 : decode cX11_rate 14 = .ok (.aload_n 0, 1) := by decide +kernel
theorem dX11_rate_15 : decode cX11_rate 15 = .ok (.iload_n 2, 1) := by decide +kernel
theorem dX11_rate_16 : decode cX11_rate 16 = .ok (.invokevirtual 116, 3) := by decide +kernel
theorem dX11_rate_19 : decode cX11_rate 19 = .ok (.ifCond .ne 6, 3) := by decide +kernel
theorem dX11_rate_22 : decode cX11_rate 22 = .ok (.ldc 124, 2) := by decide +kernel
theorem dX11_rate_24 : decode cX11_rate 24 = .ok (.ireturn, 1) := by decide +kernel
theorem dX11_rate_25 : decode cX11_rate 25 = .ok (.aload_n 0, 1) := by decide +kernel
theorem dX11_rate_26 : decode cX11_rate 26 = .ok (.aload_n 0, 1) := by decide +kernel
theorem dX11_rate_27 : decode cX11_rate 27 = .ok (.getfield 16, 3) := by decide +kernel
theorem dX11_rate_30 : decode cX11_rate 30 = .ok (.aload_n 0, 1) := by decide +kernel
theorem dX11_rate_31 : decode cX11_rate 31 = .ok (.getfield 16, 3) := by decide +kernel
theorem dX11_rate_34 : decode cX11_rate 34 = .ok (.iload_n 2, 1) := by decide +kernel
theorem dX11_rate_35 : decode cX11_rate 35 = .ok (.iaload, 1) := by decide +kernel
theorem dX11_rate_36 : decode cX11_rate 36 = .ok (.invokevirtual 129, 3) := by decide +kernel
theorem dX11_rate_39 : decode cX11_rate 39 = .ok (.istore_n 3, 1) := by decide +kernel
theorem dX11_rate_40 : decode cX11_rate 40 = .ok (.iload_n 3, 1) := by decide +kernel
theorem dX11_rate_41 : decode cX11_rate 41 = .ok (.istore 4, 2) := by decide +kernel
theorem dX11_rate_43 : decode cX11_rate 43 = .ok (.iconst 0, 1) := by decide +kernel
theorem dX11_rate_44 : decode cX11_rate 44 = .ok (.istore 5, 2) := by decide +kernel
theorem dX11_rate_46 : decode cX11_rate 46 = .ok (.iload 5, 2) := by decide +kernel
theorem dX11_rate_48 : decode cX11_rate 48 = .ok (.aload_n 0, 1) := by decide +kernel
theorem dX11_rate_49 : decode cX11_rate 49 = .ok (.invokevirtual 112, 3) := by decide +kernel
theorem dX11_rate_52 : decode cX11_rate 52 = .ok (.if_icmp .ge 55, 3) := by decide +kernel
theorem dX11_rate_55 : decode cX11_rate 55 = .ok (.iload 4, 2) := by decide +kernel
theorem dX11_rate_57 : decode cX11_rate 57 = .ok (.iload 5, 2) := by decide +kernel
theorem dX11_rate_59 : decode cX11_rate 59 = .ok (.iload_n 2, 1) := by decide +kernel
theorem dX11_rate_60 : decode cX11_rate 60 = .ok (.if_icmp .eq 37, 3) := by decide +kernel
theorem dX11_rate_63 : decode cX11_rate 63 = .ok (.aload_n 0, 1) := by decide +kernel
theorem dX11_rate_64 : decode cX11_rate 64 = .ok (.getfield 16, 3) := by decide +kernel
theorem dX11_rate_67 : decode cX11_rate 67 = .ok (.iload 5, 2) := by decide +kernel
theorem dX11_rate_69 : decode cX11_rate 69 = .ok (.iaload, 1) := by decide +kernel
theorem dX11_rate_70 : decode cX11_rate 70 = .ok (.aload_n 0, 1) := by decide +kernel
theorem dX11_rate_71 : decode cX11_rate 71 = .ok (.getfield 16, 3) := by decide +kernel
theorem dX11_rate_74 : decode cX11_rate 74 = .ok (.iload_n 2, 1) := by decide +kernel
theorem dX11_rate_75 : decode cX11_rate 75 = .ok (.iaload, 1) := by decide +kernel
theorem dX11_rate_76 : decode cX11_rate 76 = .ok (.if_icmp .ne 21, 3) := by decide +kernel
theorem dX11_rate_79 : decode cX11_rate 79 = .ok (.aload_n 0, 1) := by decide +kernel
theorem dX11_rate_80 : decode cX11_rate 80 = .ok (.getfield 13, 3) := by decide +kernel
theorem dX11_rate_83 : decode cX11_rate 83 = .ok (.bipush 30, 2) := by decide +kernel
theorem dX11_rate_85 : decode cX11_rate 85 = .ok (.bipush 8, 2) := by decide +kernel
theorem dX11_rate_87 : decode cX11_rate 87 = .ok (.iload_n 2, 1) := by decide +kernel
theorem dX11_rate_88 : decode cX11_rate 88 = .ok (.imul, 1) := by decide +kernel
theorem dX11_rate_89 : decode cX11_rate 89 = .ok (.iadd, 1) := by decide +kernel
theorem dX11_rate_90 : decode cX11_rate 90 = .ok (.iload 5, 2) := by decide +kernel
theorem dX11_rate_92 : decode cX11_rate 92 = .ok (.iadd, 1) := by decide +kernel
theorem dX11_rate_93 : decode cX11_rate 93 = .ok (.iaload, 1) := by decide +kernel
theorem dX11_rate_94 : decode cX11_rate 94 = .ok (.goto 4, 3) := by decide +kernel
theorem dX11_rate_97 : decode cX11_rate 97 = .ok (.iconst 0, 1) := by decide +kernel
theorem dX11_rate_98 : decode cX11_rate 98 = .ok (.iadd, 1) := by decide +kernel
theorem dX11_rate_99 : decode cX11_rate 99 = .ok (.istore 4, 2) := by decide +kernel
theorem dX11_rate_101 : decode cX11_rate 101 = .ok (.iinc 5 1, 3) := by decide +kernel
theorem dX11_rate_104 : decode cX11_rate 104 = .ok (.goto (-58), 3) := by decide +kernel
theorem dX11_rate_107 : decode cX11_rate 107 = .ok (.iload_n 3, 1) := by decide +kernel
theorem dX11_rate_108 : decode cX11_rate 108 = .ok (.aload_n 0, 1) := by decide +kernel
theorem dX11_rate_109 : decode cX11_rate 109 = .ok (.getfield 13, 3) := by decide +kernel
theorem dX11_rate_112 : decode cX11_rate 112 = .ok (.iconst 1, 1) := by decide +kernel
theorem dX11_rate_113 : decode cX11_rate 113 = .ok (.iload_n 2, 1) := by decide +kernel
theorem dX11_rate_114 : decode cX11_rate 114 = .ok (.iadd, 1) := by decide +kernel
theorem dX11_rate_115 : decode cX11_rate 115 = .ok (.iaload, 1) := by decide +kernel
theorem dX11_rate_116 : decode cX11_rate 116 = .ok (.isub, 1) := by decide +kernel
theorem dX11_rate_117 : decode cX11_rate 117 = .ok (.istore 5, 2) := by decide +kernel
theorem dX11_rate_119 : decode cX11_rate 119 = .ok (.aload_n 0, 1) := by decide +kernel
theorem dX11_rate_120 : decode cX11_rate 120 = .ok (.dup, 1) := by decide +kernel
theorem dX11_rate_121 : decode cX11_rate 121 = .ok (.getfield 198, 3) := by decide +kernel
theorem dX11_rate_124 : decode cX11_rate 124 = .ok (.iload_n 1, 1) := by decide +kernel
theorem dX11_rate_125 : decode cX11_rate 125 = .ok (.ifCond .ne 7, 3) := by decide +kernel
theorem dX11_rate_128 : decode cX11_rate 128 = .ok (.lconst 1, 1) := by decide +kernel
theorem dX11_rate_129 : decode cX11_rate 129 = .ok (.goto 50, 3) := by decide +kernel
theorem dX11_rate_132 : decode cX11_rate 132 = .ok (.iload_n 1, 1) := by decide +kernel
theorem dX11_rate_133 : decode cX11_rate 133 = .ok (.iconst 1, 1) := by decide +kernel
theorem dX11_rate_134 : decode cX11_rate 134 = .ok (.if_icmp .ne 9, 3) := by decide +kernel
theorem dX11_rate_137 : decode cX11_rate 137 = .ok (.ldc2_w 202, 3) := by decide +kernel
theorem dX11_rate_140 : decode cX11_rate 140 = .ok (.goto 39, 3) := by decide +kernel
theorem dX11_rate_143 : decode cX11_rate 143 = .ok (.iload_n 1, 1) := by decide +kernel
theorem dX11_rate_144 : decode cX11_rate 144 = .ok (.iconst 2, 1) := by decide +kernel
theorem dX11_rate_145 : decode cX11_rate 145 = .ok (.if_icmp .ne 9, 3) := by decide +kernel
theorem dX11_rate_148 : decode cX11_rate 148 = .ok (.ldc2_w 204, 3) := by decide +kernel
theorem dX11_rate_151 : decode cX11_rate 151 = .ok (.goto 28, 3) := by decide +kernel
theorem dX11_rate_154 : decode cX11_rate 154 = .ok (.iload_n 1, 1) := by decide +kernel
theorem dX11_rate_155 : decode cX11_rate 155 = .ok (.iconst 3, 1) := by decide +kernel
theorem dX11_rate_156 : decode cX11_rate 156 = .ok (.if_icmp .ne 9, 3) := by decide +kernel
theorem dX11_rate_159 : decode cX11_rate 159 = .ok (.ldc2_w 206, 3) := by decide +kernel
theorem dX11_rate_162 : decode cX11_rate 162 = .ok (.goto 17, 3) := by decide +kernel
theorem dX11_rate_165 : decode cX11_rate 165 = .ok (.iload_n 1, 1) := by decide +kernel
theorem dX11_rate_166 : decode cX11_rate 166 = .ok (.iconst 4, 1) := by decide +kernel
theorem dX11_rate_167 : decode cX11_rate 167 = .ok (.if_icmp .ne 9, 3) := by decide +kernel
theorem dX11_rate_170 : decode cX11_rate 170 = .ok (.ldc2_w 208, 3) := by decide +kernel
theorem dX11_rate_173 : decode cX11_rate 173 = .ok (.goto 6, 3) := by decide +kernel
theorem dX11_rate_176 : decode cX11_rate 176 = .ok (.ldc2_w 210, 3) := by decide +kernel
theorem dX11_rate_179 : decode cX11_rate 179 = .ok (.ladd, 1) := by decide +kernel
theorem dX11_rate_180 : decode cX11_rate 180 = .ok (.putfield 198, 3) := by decide +kernel
theorem dX11_rate_183 : decode cX11_rate 183 = .ok (.iload_n 1, 1) := by decide +kernel
theorem dX11_rate_184 : decode cX11_rate 184 = .ok (.ifCond .ne 7, 3) := by decide +kernel
theorem dX11_rate_187 : decode cX11_rate 187 = .ok (.iload_n 3, 1) := by decide +kernel
theorem dX11_rate_188 : decode cX11_rate 188 = .ok (.goto 62, 3) := by decide +kernel
theorem dX11_rate_191 : decode cX11_rate 191 = .ok (.iload_n 1, 1) := by decide +kernel
theorem dX11_rate_192 : decode cX11_rate 192 = .ok (.iconst 1, 1) := by decide +kernel
theorem dX11_rate_193 : decode cX11_rate 193 = .ok (.if_icmp .ne 8, 3) := by decide +kernel
theorem dX11_rate_196 : decode cX11_rate 196 = .ok (.iload 4, 2) := by decide +kernel
theorem dX11_rate_198 : decode cX11_rate 198 = .ok (.goto 52, 3) := by decide +kernel
theorem dX11_rate_201 : decode cX11_rate 201 = .ok (.iload_n 1, 1) := by decide +kernel
theorem dX11_rate_202 : decode cX11_rate 202 = .ok (.iconst 2, 1) := by decide +kernel
theorem dX11_rate_203 : decode cX11_rate 203 = .ok (.if_icmp .ne 8, 3) := by decide +kernel
theorem dX11_rate_206 : decode cX11_rate 206 = .ok (.iload 5, 2) := by decide +kernel
theorem dX11_rate_208 : decode cX11_rate 208 = .ok (.goto 42, 3) := by decide +kernel
theorem dX11_rate_211 : decode cX11_rate 211 = .ok (.iload_n 1, 1) := by decide +kernel
theorem dX11_rate_212 : decode cX11_rate 212 = .ok (.iconst 3, 1) := by decide +kernel
theorem dX11_rate_213 : decode cX11_rate 213 = .ok (.if_icmp .ne 10, 3) := by decide +kernel
theorem dX11_rate_216 : decode cX11_rate 216 = .ok (.iconst 2, 1) := by decide +kernel
theorem dX11_rate_217 : decode cX11_rate 217 = .ok (.iload 4, 2) := by decide +kernel
theorem dX11_rate_219 : decode cX11_rate 219 = .ok (.imul, 1) := by decide +kernel
theorem dX11_rate_220 : decode cX11_rate 220 = .ok (.goto 30, 3) := by decide +kernel
theorem dX11_rate_223 : decode cX11_rate 223 = .ok (.iload_n 1, 1) := by decide +kernel
theorem dX11_rate_224 : decode cX11_rate 224 = .ok (.iconst 4, 1) := by decide +kernel
theorem dX11_rate_225 : decode cX11_rate 225 = .ok (.if_icmp .ne 15, 3) := by decide +kernel
theorem dX11_rate_228 : decode cX11_rate 228 = .ok (.iload 5, 2) := by decide +kernel
theorem dX11_rate_230 : decode cX11_rate 230 = .ok (.aload_n 0, 1) := by decide +kernel
theorem dX11_rate_231 : decode cX11_rate 231 = .ok (.getfield 16, 3) := by decide +kernel
theorem dX11_rate_234 : decode cX11_rate 234 = .ok (.iload_n 2, 1) := by decide +kernel
theorem dX11_rate_235 : decode cX11_rate 235 = .ok (.iaload, 1) := by decide +kernel
theorem dX11_rate_236 : decode cX11_rate 236 = .ok (.iadd, 1) := by decide +kernel
theorem dX11_rate_237 : decode cX11_rate 237 = .ok (.goto 13, 3) := by decide +kernel
theorem dX11_rate_240 : decode cX11_rate 240 = .ok (.iload_n 3, 1) := by decide +kernel
theorem dX11_rate_241 : decode cX11_rate 241 = .ok (.aload_n 0, 1) := by decide +kernel
theorem dX11_rate_242 : decode cX11_rate 242 = .ok (.aload_n 0, 1) := by decide +kernel
theorem dX11_rate_243 : decode cX11_rate 243 = .ok (.getfield 16, 3) := by decide +kernel
theorem dX11_rate_246 : decode cX11_rate 246 = .ok (.invokevirtual 125, 3) := by decide +kernel
theorem dX11_rate_249 : decode cX11_rate 249 = .ok (.iadd, 1) := by decide +kernel
theorem dX11_rate_250 : decode cX11_rate 250 = .ok (.ireturn, 1) := by decide +kernel
set_option maxRecDepth 20000 in
theorem ggX11_keep_X11_isImage : GoodIn wsX11_keep wsX11_isImage := goodIn_r _ [8, 9, 10, 7, 11] (by decide +kernel) (by decide +kernel)
set_option maxRecDepth 20000 in
theorem gX11_keep_X11_isImage : GoodIn wsX11_keep (va_wsS RX11 180 yX11_isImage wsX11_isImage) := goodIn_app (goodIn_of _ (by decide +kernel)) ggX11_keep_X11_isImage
set_option maxRecDepth 20000 in
theorem ggX11_keep_X11_partiesOf : GoodIn wsX11_keep wsX11_partiesOf := goodIn_r _ [15, 16, 17, 18, 7, 19, 20, 21, 22, 23, 24, 25, 26, 27, 28, 29, 30, 31, 32, 33, 34, 35, 36, 37] (by decide +kernel) (by decide +kernel)
set_option maxRecDepth 20000 in
theorem gX11_keep_X11_partiesOf : GoodIn wsX11_keep (wsV RX11 125 RX11 yX11_partiesOf wsX11_partiesOf) := goodIn_app (goodIn_of _ (by decide +kernel)) ggX11_keep_X11_partiesOf
theorem dX11_keep_0 : decode cX11_keep 0 = .ok (.aload_n 0, 1) := by decide +kernel
theorem dX11_keep_1 : decode cX11_keep 1 = .ok (.iconst 0, 1) := by decide +kernel
theorem dX11_keep_2 : decode cX11_keep 2 = .ok (.putfield 45, 3) := by decide +kernel
theorem dX11_keep_5 : decode cX11_keep 5 = .ok (.iload_n 1, 1) := by decide +kernel
theorem dX11_keep_6 : decode cX11_keep 6 = .ok (.invokestatic 180, 3) := by decide +kernel
theorem dX11_keep_9 : decode cX11_keep 9 = .ok (.ifCond .ne 5, 3) := by decide +kernel
theorem dX11_keep_12 : decode cX11_keep 12 = .ok (.iconst (-1), 1) := by decide +kernel
theorem dX11_keep_13 : decode cX11_keep 13 = .ok (.ireturn, 1) := by decide +kernel
theorem dX11_keep_14 : decode cX11_keep 14 = .ok (.iconst 0, 1) := by decide +kernel
theorem dX11_keep_15 : decode cX11_keep 15 = .ok (.istore_n 2, 1) := by decide +kernel
theorem dX11_keep_16 : decode cX11_keep 16 = .ok (.iload_n 2, 1) := by decide +kernel
theorem dX11_keep_17 : decode cX11_keep 17 = .ok (.bipush 40, 2) := by decide +kernel
theorem dX11_keep_19 : decode cX11_keep 19 = .ok (.if_icmp .ge 26, 3) := by decide +kernel
theorem dX11_keep_22 : decode cX11_keep 22 = .ok (.aload_n 0, 1) := by decide +kernel
theorem dX11_keep_23 : decode cX11_keep 23 = .ok (.getfield 19, 3) := by decide +kernel
theorem dX11_keep_26 : decode cX11_keep 26 = .ok (.bipush 40, 2) := by decide +kernel
theorem dX11_keep_28 : decode cX11_keep 28 = .ok (.iload_n 1, 1) := by decide +kernel
theorem dX11_keep_29 : decode cX11_keep 29 = .ok (.imul, 1) := by decide +kernel
theorem dX11_keep_30 : decode cX11_keep 30 = .ok (.iload_n 2, 1) := by decide +kernel
theorem dX11_keep_31 : decode cX11_keep 31 = .ok (.iadd, 1) := by decide +kernel
theorem dX11_keep_32 : decode cX11_keep 32 = .ok (.aload_n 0, 1) := by decide +kernel
theorem dX11_keep_33 : decode cX11_keep 33 = .ok (.getfield 16, 3) := by decide +kernel
theorem dX11_keep_36 : decode cX11_keep 36 = .ok (.iload_n 2, 1) := by decide +kernel
theorem dX11_keep_37 : decode cX11_keep 37 = .ok (.iaload, 1) := by decide +kernel
theorem dX11_keep_38 : decode cX11_keep 38 = .ok (.iastore, 1) := by decide +kernel
theorem dX11_keep_39 : decode cX11_keep 39 = .ok (.iinc 2 1, 3) := by decide +kernel
theorem dX11_keep_42 : decode cX11_keep 42 = .ok (.goto (-26), 3) := by decide +kernel
theorem dX11_keep_45 : decode cX11_keep 45 = .ok (.aload_n 0, 1) := by decide +kernel
theorem dX11_keep_46 : decode cX11_keep 46 = .ok (.getfield 22, 3) := by decide +kernel
theorem dX11_keep_49 : decode cX11_keep 49 = .ok (.iload_n 1, 1) := by decide +kernel
theorem dX11_keep_50 : decode cX11_keep 50 = .ok (.iconst 1, 1) := by decide +kernel
theorem dX11_keep_51 : decode cX11_keep 51 = .ok (.bastore, 1) := by decide +kernel
theorem dX11_keep_52 : decode cX11_keep 52 = .ok (.aload_n 0, 1) := by decide +kernel
theorem dX11_keep_53 : decode cX11_keep 53 = .ok (.aload_n 0, 1) := by decide +kernel
theorem dX11_keep_54 : decode cX11_keep 54 = .ok (.getfield 16, 3) := by decide +kernel
theorem dX11_keep_57 : decode cX11_keep 57 = .ok (.invokevirtual 125, 3) := by decide +kernel
theorem dX11_keep_60 : decode cX11_keep 60 = .ok (.ireturn, 1) := by decide +kernel
set_option maxRecDepth 20000 in
theorem ggX11_back_X11_isImage : GoodIn wsX11_back wsX11_isImage := goodIn_r _ [8, 9, 10, 7, 11] (by decide +kernel) (by decide +kernel)
set_option maxRecDepth 20000 in
theorem gX11_back_X11_isImage : GoodIn wsX11_back (va_wsS RX11 180 yX11_isImage wsX11_isImage) := goodIn_app (goodIn_of _ (by decide +kernel)) ggX11_back_X11_isImage
set_option maxRecDepth 20000 in
theorem ggX11_back_X11_partiesOf : GoodIn wsX11_back wsX11_partiesOf := goodIn_r _ [15, 16, 17, 18, 7, 19, 20, 21, 22, 23, 24, 25, 26, 27, 28, 29, 30, 31, 32, 33, 34, 35, 36, 37] (by decide +kernel) (by decide +kernel)
set_option maxRecDepth 20000 in
theorem gX11_back_X11_partiesOf : GoodIn wsX11_back (wsV RX11 125 RX11 yX11_partiesOf wsX11_partiesOf) := goodIn_app (goodIn_of _ (by decide +kernel)) ggX11_back_X11_partiesOf
theorem dX11_back_0 : decode cX11_back 0 = .ok (.aload_n 0, 1) := by decide +kernel
theorem dX11_back_1 : decode cX11_back 1 = .ok (.iconst 0, 1) := by decide +kernel
theorem dX11_back_2 : decode cX11_back 2 = .ok (.putfield 45, 3) := by decide +kernel
theorem dX11_back_5 : decode cX11_back 5 = .ok (.iload_n 1, 1) := by decide +kernel
theorem dX11_back_6 : decode cX11_back 6 = .ok (.invokestatic 180, 3) := by decide +kernel
theorem dX11_back_9 : decode cX11_back 9 = .ok (.ifCond .ne 5, 3) := by decide +kernel
theorem dX11_back_12 : decode cX11_back 12 = .ok (.iconst (-1), 1) := by decide +kernel
theorem dX11_back_13 : decode cX11_back 13 = .ok (.ireturn, 1) := by decide +kernel
theorem dX11_back_14 : decode cX11_back 14 = .ok (.aload_n 0, 1) := by decide +kernel
theorem dX11_back_15 : decode cX11_back 15 = .ok (.getfield 22, 3) := by decide +kernel
theorem dX11_back_18 : decode cX11_back 18 = .ok (.iload_n 1, 1) := by decide +kernel
theorem dX11_back_19 : decode cX11_back 19 = .ok (.baload, 1) := by decide +kernel
theorem dX11_back_20 : decode cX11_back 20 = .ok (.ifCond .ne 6, 3) := by decide +kernel
theorem dX11_back_23 : decode cX11_back 23 = .ok (.bipush (-2), 2) := by decide +kernel
theorem dX11_back_25 : decode cX11_back 25 = .ok (.ireturn, 1) := by decide +kernel
theorem dX11_back_26 : decode cX11_back 26 = .ok (.iconst 0, 1) := by decide +kernel
theorem dX11_back_27 : decode cX11_back 27 = .ok (.istore_n 2, 1) := by decide +kernel
theorem dX11_back_28 : decode cX11_back 28 = .ok (.iload_n 2, 1) := by decide +kernel
theorem dX11_back_29 : decode cX11_back 29 = .ok (.bipush 40, 2) := by decide +kernel
theorem dX11_back_31 : decode cX11_back 31 = .ok (.if_icmp .ge 26, 3) := by decide +kernel
theorem dX11_back_34 : decode cX11_back 34 = .ok (.aload_n 0, 1) := by decide +kernel
theorem dX11_back_35 : decode cX11_back 35 = .ok (.getfield 16, 3) := by decide +kernel
theorem dX11_back_38 : decode cX11_back 38 = .ok (.iload_n 2, 1) := by decide +kernel
theorem dX11_back_39 : decode cX11_back 39 = .ok (.aload_n 0, 1) := by decide +kernel
theorem dX11_back_40 : decode cX11_back 40 = .ok (.getfield 19, 3) := by decide +kernel
theorem dX11_back_43 : decode cX11_back 43 = .ok (.bipush 40, 2) := by decide +kernel
theorem dX11_back_45 : decode cX11_back 45 = .ok (.iload_n 1, 1) := by decide +kernel
theorem dX11_back_46 : decode cX11_back 46 = .ok (.imul, 1) := by decide +kernel
theorem dX11_back_47 : decode cX11_back 47 = .ok (.iload_n 2, 1) := by decide +kernel
theorem dX11_back_48 : decode cX11_back 48 = .ok (.iadd, 1) := by decide +kernel
theorem dX11_back_49 : decode cX11_back 49 = .ok (.iaload, 1) := by decide +kernel
theorem dX11_back_50 : decode cX11_back 50 = .ok (.iastore, 1) := by decide +kernel
theorem dX11_back_51 : decode cX11_back 51 = .ok (.iinc 2 1, 3) := by decide +kernel
theorem dX11_back_54 : decode cX11_back 54 = .ok (.goto (-26), 3) := by decide +kernel
theorem dX11_back_57 : decode cX11_back 57 = .ok (.aload_n 0, 1) := by decide +kernel
theorem dX11_back_58 : decode cX11_back 58 = .ok (.aload_n 0, 1) := by decide +kernel
theorem dX11_back_59 : decode cX11_back 59 = .ok (.getfield 16, 3) := by decide +kernel
theorem dX11_back_62 : decode cX11_back 62 = .ok (.invokevirtual 125, 3) := by decide +kernel
theorem dX11_back_65 : decode cX11_back 65 = .ok (.ireturn, 1) := by decide +kernel
set_option maxRecDepth 20000 in
theorem ggX11_count_X11_guests : GoodIn wsX11_count wsX11_guests := goodIn_r _ [9, 2, 16, 17, 18, 19, 20, 21, 22, 23, 24, 25, 26, 27, 28, 29, 30, 31, 32] (by decide +kernel) (by decide +kernel)
set_option maxRecDepth 20000 in
theorem gX11_count_X11_guests : GoodIn wsX11_count (wsV RX11 112 RX11 yX11_guests wsX11_guests) := goodIn_app (goodIn_of _ (by decide +kernel)) ggX11_count_X11_guests
set_option maxRecDepth 20000 in
theorem ggX11_count_X11_ones : GoodIn wsX11_count wsX11_ones := goodIn_r _ [12] (by decide +kernel) (by decide +kernel)
set_option maxRecDepth 20000 in
theorem gX11_count_X11_ones : GoodIn wsX11_count (va_wsS RX11 189 yX11_ones wsX11_ones) := goodIn_app (goodIn_of _ (by decide +kernel)) ggX11_count_X11_ones
set_option maxRecDepth 20000 in
theorem ggX11_count_X11_in : GoodIn wsX11_count wsX11_in := goodIn_r _ [15] (by decide +kernel) (by decide +kernel)
set_option maxRecDepth 20000 in
theorem gX11_count_X11_in : GoodIn wsX11_count (va_wsS RX11 49 yX11_in wsX11_in) := goodIn_app (goodIn_of _ (by decide +kernel)) ggX11_count_X11_in
theorem dX11_count_0 : decode cX11_count 0 = .ok (.aload_n 0, 1) := by decide +kernel
theorem dX11_count_1 : decode cX11_count 1 = .ok (.iconst 0, 1) := by decide +kernel
theorem dX11_count_2 : decode cX11_count 2 = .ok (.putfield 45, 3) := by decide +kernel
theorem dX11_count_5 : decode cX11_count 5 = .ok (.iconst 0, 1) := by decide +kernel
theorem dX11_count_6 : decode cX11_count 6 = .ok (.istore_n 2, 1) := by decide +kernel
theorem dX11_count_7 : decode cX11_count 7 = .ok (.iconst 0, 1) := by decide +kernel
theorem dX11_count_8 : decode cX11_count 8 = .ok (.istore_n 3, 1) := by decide +kernel
theorem dX11_count_9 : decode cX11_count 9 = .ok (.iload_n 3, 1) := by decide +kernel
theorem dX11_count_10 : decode cX11_count 10 = .ok (.aload_n 0, 1) := by decide +kernel
theorem dX11_count_11 : decode cX11_count 11 = .ok (.invokevirtual 112, 3) := by decide +kernel
theorem dX11_count_14 : decode cX11_count 14 = .ok (.if_icmp .ge 53, 3) := by decide +kernel
theorem dX11_count_17 : decode cX11_count 17 = .ok (.iload_n 2, 1) := by decide +kernel
theorem dX11_count_18 : decode cX11_count 18 = .ok (.iload_n 1, 1) := by decide +kernel
theorem dX11_count_19 : decode cX11_count 19 = .ok (.iconst 2, 1) := by decide +kernel
theorem dX11_count_20 : decode cX11_count 20 = .ok (.if_icmp .ne 18, 3) := by decide +kernel
theorem dX11_count_23 : decode cX11_count 23 = .ok (.aload_n 0, 1) := by decide +kernel
theorem dX11_count_24 : decode cX11_count 24 = .ok (.getfield 13, 3) := by decide +kernel
theorem dX11_count_27 : decode cX11_count 27 = .ok (.bipush 14, 2) := by decide +kernel
theorem dX11_count_29 : decode cX11_count 29 = .ok (.iload_n 3, 1) := by decide +kernel
theorem dX11_count_30 : decode cX11_count 30 = .ok (.iadd, 1) := by decide +kernel
theorem dX11_count_31 : decode cX11_count 31 = .ok (.iaload, 1) := by decide +kernel
theorem dX11_count_32 : decode cX11_count 32 = .ok (.invokestatic 189, 3) := by decide +kernel
theorem dX11_count_35 : decode cX11_count 35 = .ok (.goto 24, 3) := by decide +kernel
theorem dX11_count_38 : decode cX11_count 38 = .ok (.iload_n 1, 1) := by decide +kernel
theorem dX11_count_39 : decode cX11_count 39 = .ok (.iconst 3, 1) := by decide +kernel
theorem dX11_count_40 : decode cX11_count 40 = .ok (.if_icmp .ne 18, 3) := by decide +kernel
theorem dX11_count_43 : decode cX11_count 43 = .ok (.aload_n 0, 1) := by decide +kernel
theorem dX11_count_44 : decode cX11_count 44 = .ok (.getfield 13, 3) := by decide +kernel
theorem dX11_count_47 : decode cX11_count 47 = .ok (.bipush 22, 2) := by decide +kernel
theorem dX11_count_49 : decode cX11_count 49 = .ok (.iload_n 3, 1) := by decide +kernel
theorem dX11_count_50 : decode cX11_count 50 = .ok (.iadd, 1) := by decide +kernel
theorem dX11_count_51 : decode cX11_count 51 = .ok (.iaload, 1) := by decide +kernel
theorem dX11_count_52 : decode cX11_count 52 = .ok (.invokestatic 189, 3) := by decide +kernel
theorem dX11_count_55 : decode cX11_count 55 = .ok (.goto 4, 3) := by decide +kernel
theorem dX11_count_58 : decode cX11_count 58 = .ok (.iconst 0, 1) := by decide +kernel
theorem dX11_count_59 : decode cX11_count 59 = .ok (.iadd, 1) := by decide +kernel
theorem dX11_count_60 : decode cX11_count 60 = .ok (.istore_n 2, 1) := by decide +kernel
theorem dX11_count_61 : decode cX11_count 61 = .ok (.iinc 3 1, 3) := by decide +kernel
theorem dX11_count_64 : decode cX11_count 64 = .ok (.goto (-55), 3) := by decide +kernel
theorem dX11_count_67 : decode cX11_count 67 = .ok (.iload_n 1, 1) := by decide +kernel
theorem dX11_count_68 : decode cX11_count 68 = .ok (.ifCond .ne 10, 3) := by decide +kernel
theorem dX11_count_71 : decode cX11_count 71 = .ok (.aload_n 0, 1) := by decide +kernel
theorem dX11_count_72 : decode cX11_count 72 = .ok (.invokevirtual 112, 3) := by decide +kernel
theorem dX11_count_75 : decode cX11_count 75 = .ok (.goto 46, 3) := by decide +kernel
theorem dX11_count_78 : decode cX11_count 78 = .ok (.iload_n 1, 1) := by decide +kernel
theorem dX11_count_79 : decode cX11_count 79 = .ok (.iconst 1, 1) := by decide +kernel
theorem dX11_count_80 : decode cX11_count 80 = .ok (.if_icmp .ne 13, 3) := by decide +kernel
theorem dX11_count_83 : decode cX11_count 83 = .ok (.aload_n 0, 1) := by decide +kernel
theorem dX11_count_84 : decode cX11_count 84 = .ok (.getfield 16, 3) := by decide +kernel
theorem dX11_count_87 : decode cX11_count 87 = .ok (.bipush 8, 2) := by decide +kernel
theorem dX11_count_89 : decode cX11_count 89 = .ok (.iaload, 1) := by decide +kernel
theorem dX11_count_90 : decode cX11_count 90 = .ok (.goto 31, 3) := by decide +kernel
theorem dX11_count_93 : decode cX11_count 93 = .ok (.iload_n 1, 1) := by decide +kernel
theorem dX11_count_94 : decode cX11_count 94 = .ok (.iconst 2, 1) := by decide +kernel
theorem dX11_count_95 : decode cX11_count 95 = .ok (.iconst 3, 1) := by decide +kernel
theorem dX11_count_96 : decode cX11_count 96 = .ok (.invokestatic 49, 3) := by decide +kernel
theorem dX11_count_99 : decode cX11_count 99 = .ok (.ifCond .eq 9, 3) := by decide +kernel
theorem dX11_count_102 : decode cX11_count 102 = .ok (.iload_n 2, 1) := by decide +kernel
theorem dX11_count_103 : decode cX11_count 103 = .ok (.iconst 2, 1) := by decide +kernel
theorem dX11_count_104 : decode cX11_count 104 = .ok (.idiv, 1) := by decide +kernel
theorem dX11_count_105 : decode cX11_count 105 = .ok (.goto 16, 3) := by decide +kernel
theorem dX11_count_108 : decode cX11_count 108 = .ok (.iload_n 1, 1) := by decide +kernel
theorem dX11_count_109 : decode cX11_count 109 = .ok (.iconst 4, 1) := by decide +kernel
theorem dX11_count_110 : decode cX11_count 110 = .ok (.if_icmp .ne 10, 3) := by decide +kernel
theorem dX11_count_113 : decode cX11_count 113 = .ok (.aload_n 0, 1) := by decide +kernel
theorem dX11_count_114 : decode cX11_count 114 = .ok (.getfield 53, 3) := by decide +kernel
theorem dX11_count_117 : decode cX11_count 117 = .ok (.goto 4, 3) := by decide +kernel
theorem dX11_count_120 : decode cX11_count 120 = .ok (.iconst (-1), 1) := by decide +kernel
theorem dX11_count_121 : decode cX11_count 121 = .ok (.ireturn, 1) := by decide +kernel
theorem dX11_trace_0 : decode cX11_trace 0 = .ok (.aload_n 0, 1) := by decide +kernel
theorem dX11_trace_1 : decode cX11_trace 1 = .ok (.iconst 0, 1) := by decide +kernel
theorem dX11_trace_2 : decode cX11_trace 2 = .ok (.putfield 45, 3) := by decide +kernel
theorem dX11_trace_5 : decode cX11_trace 5 = .ok (.aload_n 0, 1) := by decide +kernel
theorem dX11_trace_6 : decode cX11_trace 6 = .ok (.getfield 198, 3) := by decide +kernel
theorem dX11_trace_9 : decode cX11_trace 9 = .ok (.lreturn, 1) := by decide +kernel
theorem dJ6_numberOfTrailingZeros_0f7a4_0 : decode cJ6_numberOfTrailingZeros_0f7a4 0 = .ok (.iload_n 0, 1) := by decide +kernel
theorem dJ6_numberOfTrailingZeros_0f7a4_1 : decode cJ6_numberOfTrailingZeros_0f7a4 1 = .ok (.iconst (-1), 1) := by decide +kernel
theorem dJ6_numberOfTrailingZeros_0f7a4_2 : decode cJ6_numberOfTrailingZeros_0f7a4 2 = .ok (.ixor, 1) := by decide +kernel
theorem dJ6_numberOfTrailingZeros_0f7a4_3 : decode cJ6_numberOfTrailingZeros_0f7a4 3 = .ok (.iload_n 0, 1) := by decide +kernel
theorem dJ6_numberOfTrailingZeros_0f7a4_4 : decode cJ6_numberOfTrailingZeros_0f7a4 4 = .ok (.iconst 1, 1) := by decide +kernel
theorem dJ6_numberOfTrailingZeros_0f7a4_5 : decode cJ6_numberOfTrailingZeros_0f7a4 5 = .ok (.isub, 1) := by decide +kernel
theorem dJ6_numberOfTrailingZeros_0f7a4_6 : decode cJ6_numberOfTrailingZeros_0f7a4 6 = .ok (.iand, 1) := by decide +kernel
theorem dJ6_numberOfTrailingZeros_0f7a4_7 : decode cJ6_numberOfTrailingZeros_0f7a4 7 = .ok (.istore_n 0, 1) := by decide +kernel
theorem dJ6_numberOfTrailingZeros_0f7a4_8 : decode cJ6_numberOfTrailingZeros_0f7a4 8 = .ok (.iload_n 0, 1) := by decide +kernel
theorem dJ6_numberOfTrailingZeros_0f7a4_9 : decode cJ6_numberOfTrailingZeros_0f7a4 9 = .ok (.ifCond .gt 8, 3) := by decide +kernel
theorem dJ6_numberOfTrailingZeros_0f7a4_12 : decode cJ6_numberOfTrailingZeros_0f7a4 12 = .ok (.iload_n 0, 1) := by decide +kernel
theorem dJ6_numberOfTrailingZeros_0f7a4_13 : decode cJ6_numberOfTrailingZeros_0f7a4 13 = .ok (.bipush 32, 2) := by decide +kernel
theorem dJ6_numberOfTrailingZeros_0f7a4_15 : decode cJ6_numberOfTrailingZeros_0f7a4 15 = .ok (.iand, 1) := by decide +kernel
theorem dJ6_numberOfTrailingZeros_0f7a4_16 : decode cJ6_numberOfTrailingZeros_0f7a4 16 = .ok (.ireturn, 1) := by decide +kernel
theorem dJ6_numberOfTrailingZeros_0f7a4_17 : decode cJ6_numberOfTrailingZeros_0f7a4 17 = .ok (.iconst 1, 1) := by decide +kernel
theorem dJ6_numberOfTrailingZeros_0f7a4_18 : decode cJ6_numberOfTrailingZeros_0f7a4 18 = .ok (.istore_n 1, 1) := by decide +kernel
theorem dJ6_numberOfTrailingZeros_0f7a4_19 : decode cJ6_numberOfTrailingZeros_0f7a4 19 = .ok (.iload_n 0, 1) := by decide +kernel
theorem dJ6_numberOfTrailingZeros_0f7a4_20 : decode cJ6_numberOfTrailingZeros_0f7a4 20 = .ok (.ldc_w 264, 3) := by decide +kernel
theorem dJ6_numberOfTrailingZeros_0f7a4_23 : decode cJ6_numberOfTrailingZeros_0f7a4 23 = .ok (.if_icmp .le 11, 3) := by decide +kernel
theorem dJ6_numberOfTrailingZeros_0f7a4_26 : decode cJ6_numberOfTrailingZeros_0f7a4 26 = .ok (.iinc 1 16, 3) := by decide +kernel
theorem dJ6_numberOfTrailingZeros_0f7a4_29 : decode cJ6_numberOfTrailingZeros_0f7a4 29 = .ok (.iload_n 0, 1) := by decide +kernel
theorem dJ6_numberOfTrailingZeros_0f7a4_30 : decode cJ6_numberOfTrailingZeros_0f7a4 30 = .ok (.bipush 16, 2) := by decide +kernel
theorem dJ6_numberOfTrailingZeros_0f7a4_32 : decode cJ6_numberOfTrailingZeros_0f7a4 32 = .ok (.iushr, 1) := by decide +kernel
theorem dJ6_numberOfTrailingZeros_0f7a4_33 : decode cJ6_numberOfTrailingZeros_0f7a4 33 = .ok (.istore_n 0, 1) := by decide +kernel
theorem dJ6_numberOfTrailingZeros_0f7a4_34 : decode cJ6_numberOfTrailingZeros_0f7a4 34 = .ok (.iload_n 0, 1) := by decide +kernel
theorem dJ6_numberOfTrailingZeros_0f7a4_35 : decode cJ6_numberOfTrailingZeros_0f7a4 35 = .ok (.sipush 256, 3) := by decide +kernel
theorem dJ6_numberOfTrailingZeros_0f7a4_38 : decode cJ6_numberOfTrailingZeros_0f7a4 38 = .ok (.if_icmp .le 11, 3) := by decide +kernel
theorem dJ6_numberOfTrailingZeros_0f7a4_41 : decode cJ6_numberOfTrailingZeros_0f7a4 41 = .ok (.iinc 1 8, 3) := by decide +kernel
theorem dJ6_numberOfTrailingZeros_0f7a4_44 : decode cJ6_numberOfTrailingZeros_0f7a4 44 = .ok (.iload_n 0, 1) := by decide +kernel
theorem dJ6_numberOfTrailingZeros_0f7a4_45 : decode cJ6_numberOfTrailingZeros_0f7a4 45 = .ok (.bipush 8, 2) := by decide +kernel
theorem dJ6_numberOfTrailingZeros_0f7a4_47 : decode cJ6_numberOfTrailingZeros_0f7a4 47 = .ok (.iushr, 1) := by decide +kernel
theorem dJ6_numberOfTrailingZeros_0f7a4_48 : decode cJ6_numberOfTrailingZeros_0f7a4 48 = .ok (.istore_n 0, 1) := by decide +kernel
theorem dJ6_numberOfTrailingZeros_0f7a4_49 : decode cJ6_numberOfTrailingZeros_0f7a4 49 = .ok (.iload_n 0, 1) := by decide +kernel
theorem dJ6_numberOfTrailingZeros_0f7a4_50 : decode cJ6_numberOfTrailingZeros_0f7a4 50 = .ok (.bipush 16, 2) := by decide +kernel
theorem dJ6_numberOfTrailingZeros_0f7a4_52 : decode cJ6_numberOfTrailingZeros_0f7a4 52 = .ok (.if_icmp .le 10, 3) := by decide +kernel
theorem dJ6_numberOfTrailingZeros_0f7a4_55 : decode cJ6_numberOfTrailingZeros_0f7a4 55 = .ok (.iinc 1 4, 3) := by decide +kernel
theorem dJ6_numberOfTrailingZeros_0f7a4_58 : decode cJ6_numberOfTrailingZeros_0f7a4 58 = .ok (.iload_n 0, 1) := by decide +kernel
theorem dJ6_numberOfTrailingZeros_0f7a4_59 : decode cJ6_numberOfTrailingZeros_0f7a4 59 = .ok (.iconst 4, 1) := by decide +kernel
theorem dJ6_numberOfTrailingZeros_0f7a4_60 : decode cJ6_numberOfTrailingZeros_0f7a4 60 = .ok (.iushr, 1) := by decide +kernel
theorem dJ6_numberOfTrailingZeros_0f7a4_61 : decode cJ6_numberOfTrailingZeros_0f7a4 61 = .ok (.istore_n 0, 1) := by decide +kernel
theorem dJ6_numberOfTrailingZeros_0f7a4_62 : decode cJ6_numberOfTrailingZeros_0f7a4 62 = .ok (.iload_n 0, 1) := by decide +kernel
theorem dJ6_numberOfTrailingZeros_0f7a4_63 : decode cJ6_numberOfTrailingZeros_0f7a4 63 = .ok (.iconst 4, 1) := by decide +kernel
theorem dJ6_numberOfTrailingZeros_0f7a4_64 : decode cJ6_numberOfTrailingZeros_0f7a4 64 = .ok (.if_icmp .le 10, 3) := by decide +kernel
theorem dJ6_numberOfTrailingZeros_0f7a4_67 : decode cJ6_numberOfTrailingZeros_0f7a4 67 = .ok (.iinc 1 2, 3) := by decide +kernel
theorem dJ6_numberOfTrailingZeros_0f7a4_70 : decode cJ6_numberOfTrailingZeros_0f7a4 70 = .ok (.iload_n 0, 1) := by decide +kernel
theorem dJ6_numberOfTrailingZeros_0f7a4_71 : decode cJ6_numberOfTrailingZeros_0f7a4 71 = .ok (.iconst 2, 1) := by decide +kernel
theorem dJ6_numberOfTrailingZeros_0f7a4_72 : decode cJ6_numberOfTrailingZeros_0f7a4 72 = .ok (.iushr, 1) := by decide +kernel
theorem dJ6_numberOfTrailingZeros_0f7a4_73 : decode cJ6_numberOfTrailingZeros_0f7a4 73 = .ok (.istore_n 0, 1) := by decide +kernel
theorem dJ6_numberOfTrailingZeros_0f7a4_74 : decode cJ6_numberOfTrailingZeros_0f7a4 74 = .ok (.iload_n 1, 1) := by decide +kernel
theorem dJ6_numberOfTrailingZeros_0f7a4_75 : decode cJ6_numberOfTrailingZeros_0f7a4 75 = .ok (.iload_n 0, 1) := by decide +kernel
theorem dJ6_numberOfTrailingZeros_0f7a4_76 : decode cJ6_numberOfTrailingZeros_0f7a4 76 = .ok (.iconst 1, 1) := by decide +kernel
theorem dJ6_numberOfTrailingZeros_0f7a4_77 : decode cJ6_numberOfTrailingZeros_0f7a4 77 = .ok (.iushr, 1) := by decide +kernel
theorem dJ6_numberOfTrailingZeros_0f7a4_78 : decode cJ6_numberOfTrailingZeros_0f7a4 78 = .ok (.iadd, 1) := by decide +kernel
theorem dJ6_numberOfTrailingZeros_0f7a4_79 : decode cJ6_numberOfTrailingZeros_0f7a4 79 = .ok (.ireturn, 1) := by decide +kernel
theorem dJ6_bitCount_0f7a4_0 : decode cJ6_bitCount_0f7a4 0 = .ok (.iload_n 0, 1) := by decide +kernel
theorem dJ6_bitCount_0f7a4_1 : decode cJ6_bitCount_0f7a4 1 = .ok (.iload_n 0, 1) := by decide +kernel
theorem dJ6_bitCount_0f7a4_2 : decode cJ6_bitCount_0f7a4 2 = .ok (.iconst 1, 1) := by decide +kernel
theorem dJ6_bitCount_0f7a4_3 : decode cJ6_bitCount_0f7a4 3 = .ok (.iushr, 1) := by decide +kernel
theorem dJ6_bitCount_0f7a4_4 : decode cJ6_bitCount_0f7a4 4 = .ok (.ldc_w 265, 3) := by decide +kernel
theorem dJ6_bitCount_0f7a4_7 : decode cJ6_bitCount_0f7a4 7 = .ok (.iand, 1) := by decide +kernel
theorem dJ6_bitCount_0f7a4_8 : decode cJ6_bitCount_0f7a4 8 = .ok (.isub, 1) := by decide +kernel
theorem dJ6_bitCount_0f7a4_9 : decode cJ6_bitCount_0f7a4 9 = .ok (.istore_n 0, 1) := by decide +kernel
theorem dJ6_bitCount_0f7a4_10 : decode cJ6_bitCount_0f7a4 10 = .ok (.iload_n 0, 1) := by decide +kernel
theorem dJ6_bitCount_0f7a4_11 : decode cJ6_bitCount_0f7a4 11 = .ok (.ldc_w 266, 3) := by decide +kernel
theorem dJ6_bitCount_0f7a4_14 : decode cJ6_bitCount_0f7a4 14 = .ok (.iand, 1) := by decide +kernel
theorem dJ6_bitCount_0f7a4_15 : decode cJ6_bitCount_0f7a4 15 = .ok (.iload_n 0, 1) := by decide +kernel
theorem dJ6_bitCount_0f7a4_16 : decode cJ6_bitCount_0f7a4 16 = .ok (.iconst 2, 1) := by decide +kernel
theorem dJ6_bitCount_0f7a4_17 : decode cJ6_bitCount_0f7a4 17 = .ok (.iushr, 1) := by decide +kernel
theorem dJ6_bitCount_0f7a4_18 : decode cJ6_bitCount_0f7a4 18 = .ok (.ldc_w 266, 3) := by decide +kernel
theorem dJ6_bitCount_0f7a4_21 : decode cJ6_bitCount_0f7a4 21 = .ok (.iand, 1) := by decide +kernel
theorem dJ6_bitCount_0f7a4_22 : decode cJ6_bitCount_0f7a4 22 = .ok (.iadd, 1) := by decide +kernel
theorem dJ6_bitCount_0f7a4_23 : decode cJ6_bitCount_0f7a4 23 = .ok (.istore_n 0, 1) := by decide +kernel
theorem dJ6_bitCount_0f7a4_24 : decode cJ6_bitCount_0f7a4 24 = .ok (.iload_n 0, 1) := by decide +kernel
theorem dJ6_bitCount_0f7a4_25 : decode cJ6_bitCount_0f7a4 25 = .ok (.iload_n 0, 1) := by decide +kernel
theorem dJ6_bitCount_0f7a4_26 : decode cJ6_bitCount_0f7a4 26 = .ok (.iconst 4, 1) := by decide +kernel
theorem dJ6_bitCount_0f7a4_27 : decode cJ6_bitCount_0f7a4 27 = .ok (.iushr, 1) := by decide +kernel
theorem dJ6_bitCount_0f7a4_28 : decode cJ6_bitCount_0f7a4 28 = .ok (.iadd, 1) := by decide +kernel
theorem dJ6_bitCount_0f7a4_29 : decode cJ6_bitCount_0f7a4 29 = .ok (.ldc_w 267, 3) := by decide +kernel
theorem dJ6_bitCount_0f7a4_32 : decode cJ6_bitCount_0f7a4 32 = .ok (.iand, 1) := by decide +kernel
theorem dJ6_bitCount_0f7a4_33 : decode cJ6_bitCount_0f7a4 33 = .ok (.istore_n 0, 1) := by decide +kernel
theorem dJ6_bitCount_0f7a4_34 : decode cJ6_bitCount_0f7a4 34 = .ok (.iload_n 0, 1) := by decide +kernel
theorem dJ6_bitCount_0f7a4_35 : decode cJ6_bitCount_0f7a4 35 = .ok (.iload_n 0, 1) := by decide +kernel
theorem dJ6_bitCount_0f7a4_36 : decode cJ6_bitCount_0f7a4 36 = .ok (.bipush 8, 2) := by decide +kernel
theorem dJ6_bitCount_0f7a4_38 : decode cJ6_bitCount_0f7a4 38 = .ok (.iushr, 1) := by decide +kernel
theorem dJ6_bitCount_0f7a4_39 : decode cJ6_bitCount_0f7a4 39 = .ok (.iadd, 1) := by decide +kernel
theorem dJ6_bitCount_0f7a4_40 : decode cJ6_bitCount_0f7a4 40 = .ok (.istore_n 0, 1) := by decide +kernel
theorem dJ6_bitCount_0f7a4_41 : decode cJ6_bitCount_0f7a4 41 = .ok (.iload_n 0, 1) := by decide +kernel
theorem dJ6_bitCount_0f7a4_42 : decode cJ6_bitCount_0f7a4 42 = .ok (.iload_n 0, 1) := by decide +kernel
theorem dJ6_bitCount_0f7a4_43 : decode cJ6_bitCount_0f7a4 43 = .ok (.bipush 16, 2) := by decide +kernel
theorem dJ6_bitCount_0f7a4_45 : decode cJ6_bitCount_0f7a4 45 = .ok (.iushr, 1) := by decide +kernel
theorem dJ6_bitCount_0f7a4_46 : decode cJ6_bitCount_0f7a4 46 = .ok (.iadd, 1) := by decide +kernel
theorem dJ6_bitCount_0f7a4_47 : decode cJ6_bitCount_0f7a4 47 = .ok (.istore_n 0, 1) := by decide +kernel
theorem dJ6_bitCount_0f7a4_48 : decode cJ6_bitCount_0f7a4 48 = .ok (.iload_n 0, 1) := by decide +kernel
theorem dJ6_bitCount_0f7a4_49 : decode cJ6_bitCount_0f7a4 49 = .ok (.bipush 63, 2) := by decide +kernel
theorem dJ6_bitCount_0f7a4_51 : decode cJ6_bitCount_0f7a4 51 = .ok (.iand, 1) := by decide +kernel
theorem dJ6_bitCount_0f7a4_52 : decode cJ6_bitCount_0f7a4 52 = .ok (.ireturn, 1) := by decide +kernel
theorem dJ9_max_7cf53_0 : decode cJ9_max_7cf53 0 = .ok (.iload_n 0, 1) := by decide +kernel
theorem dJ9_max_7cf53_1 : decode cJ9_max_7cf53 1 = .ok (.iload_n 1, 1) := by decide +kernel
theorem dJ9_max_7cf53_2 : decode cJ9_max_7cf53 2 = .ok (.if_icmp .lt 7, 3) := by decide +kernel
theorem dJ9_max_7cf53_5 : decode cJ9_max_7cf53 5 = .ok (.iload_n 0, 1) := by decide +kernel
theorem dJ9_max_7cf53_6 : decode cJ9_max_7cf53 6 = .ok (.goto 4, 3) := by decide +kernel
theorem dJ9_max_7cf53_9 : decode cJ9_max_7cf53 9 = .ok (.iload_n 1, 1) := by decide +kernel
theorem dJ9_max_7cf53_10 : decode cJ9_max_7cf53 10 = .ok (.ireturn, 1) := by decide +kernel
theorem dJ9_min_7cf53_0 : decode cJ9_min_7cf53 0 = .ok (.iload_n 0, 1) := by decide +kernel
theorem dJ9_min_7cf53_1 : decode cJ9_min_7cf53 1 = .ok (.iload_n 1, 1) := by decide +kernel
theorem dJ9_min_7cf53_2 : decode cJ9_min_7cf53 2 = .ok (.if_icmp .gt 7, 3) := by decide +kernel
theorem dJ9_min_7cf53_5 : decode cJ9_min_7cf53 5 = .ok (.iload_n 0, 1) := by decide +kernel
theorem dJ9_min_7cf53_6 : decode cJ9_min_7cf53 6 = .ok (.goto 4, 3) := by decide +kernel
theorem dJ9_min_7cf53_9 : decode cJ9_min_7cf53 9 = .ok (.iload_n 1, 1) := by decide +kernel
theorem dJ9_min_7cf53_10 : decode cJ9_min_7cf53 10 = .ok (.ireturn, 1) := by decide +kernel
set_option maxRecDepth 20000 in
theorem ggJ0_length_8abf5_J0_coder_7d493 : GoodIn wsJ0_length_8abf5 wsJ0_coder_7d493 := goodIn_r _ [6, 7, 8] (by decide +kernel) (by decide +kernel)
set_option maxRecDepth 20000 in
theorem gJ0_length_8abf5_J0_coder_7d493 : GoodIn wsJ0_length_8abf5 (wsV RJ0 335 RJ0 yJ0_coder_7d493 wsJ0_coder_7d493) := goodIn_app (goodIn_of _ (by decide +kernel)) ggJ0_length_8abf5_J0_coder_7d493
theorem dJ0_length_8abf5_0 : decode cJ0_length_8abf5 0 = .ok (.aload_n 0, 1) := by decide +kernel
theorem dJ0_length_8abf5_1 : decode cJ0_length_8abf5 1 = .ok (.getfield 9, 3) := by decide +kernel
theorem dJ0_length_8abf5_4 : decode cJ0_length_8abf5 4 = .ok (.arraylength, 1) := by decide +kernel
theorem dJ0_length_8abf5_5 : decode cJ0_length_8abf5 5 = .ok (.aload_n 0, 1) := by decide +kernel
theorem dJ0_length_8abf5_6 : decode cJ0_length_8abf5 6 = .ok (.invokevirtual 335, 3) := by decide +kernel
theorem dJ0_length_8abf5_9 : decode cJ0_length_8abf5 9 = .ok (.ishr, 1) := by decide +kernel
theorem dJ0_length_8abf5_10 : decode cJ0_length_8abf5 10 = .ok (.ireturn, 1) := by decide +kernel
set_option maxRecDepth 20000 in
theorem ggJ0_charAt_5068e_J0_isLatin1_aae02 : GoodIn wsJ0_charAt_5068e wsJ0_isLatin1_aae02 := goodIn_r _ [6, 7, 8] (by decide +kernel) (by decide +kernel)
set_option maxRecDepth 20000 in
theorem gJ0_charAt_5068e_J0_isLatin1_aae02 : GoodIn wsJ0_charAt_5068e (wsV RJ0 492 RJ0 yJ0_isLatin1_aae02 wsJ0_isLatin1_aae02) := goodIn_app (goodIn_of _ (by decide +kernel)) ggJ0_charAt_5068e_J0_isLatin1_aae02
set_option maxRecDepth 20000 in
theorem ggJ0_charAt_5068e_J1_charAt_3b067 : GoodIn wsJ0_charAt_5068e wsJ1_charAt_3b067 := goodIn_r _ [12, 13, 14, 5, 15, 16, 17, 18, 19, 20] (by decide +kernel) (by decide +kernel)
set_option maxRecDepth 20000 in
theorem gJ0_charAt_5068e_J1_charAt_3b067 : GoodIn wsJ0_charAt_5068e (va_wsS RJ0 495 yJ1_charAt_3b067 wsJ1_charAt_3b067) := goodIn_app (goodIn_of _ (by decide +kernel)) ggJ0_charAt_5068e_J1_charAt_3b067
set_option maxRecDepth 20000 in
theorem ggJ0_charAt_5068e_J2_charAt_3b067 : GoodIn wsJ0_charAt_5068e wsJ2_charAt_3b067 := goodIn_r _ [24, 25, 26, 23, 27, 28, 29, 30, 31, 14, 5, 15, 16, 17, 18, 19, 20, 32, 33, 34, 35, 36, 37] (by decide +kernel) (by decide +kernel)
set_option maxRecDepth 20000 in
theorem gJ0_charAt_5068e_J2_charAt_3b067 : GoodIn wsJ0_charAt_5068e (va_wsS RJ0 498 yJ2_charAt_3b067 wsJ2_charAt_3b067) := goodIn_app (goodIn_of _ (by decide +kernel)) ggJ0_charAt_5068e_J2_charAt_3b067
theorem dJ0_charAt_5068e_0 : decode cJ0_charAt_5068e 0 = .ok (.aload_n 0, 1) := by decide +kernel
theorem dJ0_charAt_5068e_1 : decode cJ0_charAt_5068e 1 = .ok (.invokevirtual 492, 3) := by decide +kernel
theorem dJ0_charAt_5068e_4 : decode cJ0_charAt_5068e 4 = .ok (.ifCond .eq 12, 3) := by decide +kernel
theorem dJ0_charAt_5068e_7 : decode cJ0_charAt_5068e 7 = .ok (.aload_n 0, 1) := by decide +kernel
theorem dJ0_charAt_5068e_8 : decode cJ0_charAt_5068e 8 = .ok (.getfield 9, 3) := by decide +kernel
theorem dJ0_charAt_5068e_11 : decode cJ0_charAt_5068e 11 = .ok (.iload_n 1, 1) := by decide +kernel
theorem dJ0_charAt_5068e_12 : decode cJ0_charAt_5068e 12 = .ok (.invokestatic 495, 3) := by decide +kernel
theorem dJ0_charAt_5068e_15 : decode cJ0_charAt_5068e 15 = .ok (.ireturn, 1) := by decide +kernel
theorem dJ0_charAt_5068e_16 : decode cJ0_charAt_5068e 16 = .ok (.aload_n 0, 1) := by decide +kernel
theorem dJ0_charAt_5068e_17 : decode cJ0_charAt_5068e 17 = .ok (.getfield 9, 3) := by decide +kernel
theorem dJ0_charAt_5068e_20 : decode cJ0_charAt_5068e 20 = .ok (.iload_n 1, 1) := by decide +kernel
theorem dJ0_charAt_5068e_21 : decode cJ0_charAt_5068e 21 = .ok (.invokestatic 498, 3) := by decide +kernel
theorem dJ0_charAt_5068e_24 : decode cJ0_charAt_5068e 24 = .ok (.ireturn, 1) := by decide +kernel
theorem dJ0_coder_7d493_0 : decode cJ0_coder_7d493 0 = .ok (.getstatic 38, 3) := by decide +kernel
theorem dJ0_coder_7d493_3 : decode cJ0_coder_7d493 3 = .ok (.ifCond .eq 10, 3) := by decide +kernel
theorem dJ0_coder_7d493_6 : decode cJ0_coder_7d493 6 = .ok (.aload_n 0, 1) := by decide +kernel
theorem dJ0_coder_7d493_7 : decode cJ0_coder_7d493 7 = .ok (.getfield 15, 3) := by decide +kernel
theorem dJ0_coder_7d493_10 : decode cJ0_coder_7d493 10 = .ok (.goto 4, 3) := by decide +kernel
theorem dJ0_coder_7d493_13 : decode cJ0_coder_7d493 13 = .ok (.iconst 1, 1) := by decide +kernel
theorem dJ0_coder_7d493_14 : decode cJ0_coder_7d493 14 = .ok (.ireturn, 1) := by decide +kernel
theorem dJ0_isLatin1_aae02_0 : decode cJ0_isLatin1_aae02 0 = .ok (.getstatic 38, 3) := by decide +kernel
theorem dJ0_isLatin1_aae02_3 : decode cJ0_isLatin1_aae02 3 = .ok (.ifCond .eq 14, 3) := by decide +kernel
theorem dJ0_isLatin1_aae02_6 : decode cJ0_isLatin1_aae02 6 = .ok (.aload_n 0, 1) := by decide +kernel
theorem dJ0_isLatin1_aae02_7 : decode cJ0_isLatin1_aae02 7 = .ok (.getfield 15, 3) := by decide +kernel
theorem dJ0_isLatin1_aae02_10 : decode cJ0_isLatin1_aae02 10 = .ok (.ifCond .ne 7, 3) := by decide +kernel
theorem dJ0_isLatin1_aae02_13 : decode cJ0_isLatin1_aae02 13 = .ok (.iconst 1, 1) := by decide +kernel
theorem dJ0_isLatin1_aae02_14 : decode cJ0_isLatin1_aae02 14 = .ok (.goto 4, 3) := by decide +kernel
theorem dJ0_isLatin1_aae02_17 : decode cJ0_isLatin1_aae02 17 = .ok (.iconst 0, 1) := by decide +kernel
theorem dJ0_isLatin1_aae02_18 : decode cJ0_isLatin1_aae02 18 = .ok (.ireturn, 1) := by decide +kernel
set_option maxRecDepth 20000 in
theorem ggJ0_checkIndex_df160_J3_checkIndex_8e157 : GoodIn wsJ0_checkIndex_df160 wsJ3_checkIndex_8e157 := goodIn_r _ [5] (by decide +kernel) (by decide +kernel)
set_option maxRecDepth 20000 in
theorem gJ0_checkIndex_df160_J3_checkIndex_8e157 : GoodIn wsJ0_checkIndex_df160 (va_wsS RJ0 1059 yJ3_checkIndex_8e157 wsJ3_checkIndex_8e157) := goodIn_app (goodIn_of _ (by decide +kernel)) ggJ0_checkIndex_df160_J3_checkIndex_8e157
theorem dJ0_checkIndex_df160_0 : decode cJ0_checkIndex_df160 0 = .ok (.iload_n 0, 1) := by decide +kernel
theorem dJ0_checkIndex_df160_1 : decode cJ0_checkIndex_df160 1 = .ok (.iload_n 1, 1) := by decide +kernel
theorem dJ0_checkIndex_df160_2 : decode cJ0_checkIndex_df160 2 = .ok (.getstatic 1053, 3) := by decide +kernel
theorem dJ0_checkIndex_df160_5 : decode cJ0_checkIndex_df160 5 = .ok (.invokestatic 1059, 3) := by decide +kernel
theorem dJ0_checkIndex_df160_8 : decode cJ0_checkIndex_df160 8 = .ok (.pop, 1) := by decide +kernel
theorem dJ0_checkIndex_df160_9 : decode cJ0_checkIndex_df160 9 = .ok (.return_, 1) := by decide +kernel
set_option maxRecDepth 20000 in
theorem ggJ1_charAt_3b067_J0_checkIndex_df160 : GoodIn wsJ1_charAt_3b067 wsJ0_checkIndex_df160 := goodIn_r _ [4, 5, 6, 7, 8, 9] (by decide +kernel) (by decide +kernel)
set_option maxRecDepth 20000 in
theorem gJ1_charAt_3b067_J0_checkIndex_df160 : GoodIn wsJ1_charAt_3b067 (va_wsS RJ1 9 yJ0_checkIndex_df160 wsJ0_checkIndex_df160) := goodIn_app (goodIn_of _ (by decide +kernel)) ggJ1_charAt_3b067_J0_checkIndex_df160
theorem dJ1_charAt_3b067_0 : decode cJ1_charAt_3b067 0 = .ok (.iload_n 1, 1) := by decide +kernel
theorem dJ1_charAt_3b067_1 : decode cJ1_charAt_3b067 1 = .ok (.aload_n 0, 1) := by decide +kernel
theorem dJ1_charAt_3b067_2 : decode cJ1_charAt_3b067 2 = .ok (.arraylength, 1) := by decide +kernel
theorem dJ1_charAt_3b067_3 : decode cJ1_charAt_3b067 3 = .ok (.invokestatic 9, 3) := by decide +kernel
theorem dJ1_charAt_3b067_6 : decode cJ1_charAt_3b067 6 = .ok (.aload_n 0, 1) := by decide +kernel
theorem dJ1_charAt_3b067_7 : decode cJ1_charAt_3b067 7 = .ok (.iload_n 1, 1) := by decide +kernel
theorem dJ1_charAt_3b067_8 : decode cJ1_charAt_3b067 8 = .ok (.baload, 1) := by decide +kernel
theorem dJ1_charAt_3b067_9 : decode cJ1_charAt_3b067 9 = .ok (.sipush 255, 3) := by decide +kernel
theorem dJ1_charAt_3b067_12 : decode cJ1_charAt_3b067 12 = .ok (.iand, 1) := by decide +kernel
theorem dJ1_charAt_3b067_13 : decode cJ1_charAt_3b067 13 = .ok (.i2c, 1) := by decide +kernel
theorem dJ1_charAt_3b067_14 : decode cJ1_charAt_3b067 14 = .ok (.ireturn, 1) := by decide +kernel
set_option maxRecDepth 20000 in
theorem ggJ2_getChar_3b067_J2_length_9d52b : GoodIn wsJ2_getChar_3b067 wsJ2_length_9d52b := goodIn_r _ [7] (by decide +kernel) (by decide +kernel)
set_option maxRecDepth 20000 in
theorem gJ2_getChar_3b067_J2_length_9d52b : GoodIn wsJ2_getChar_3b067 (va_wsS RJ2 48 yJ2_length_9d52b wsJ2_length_9d52b) := goodIn_app (goodIn_of _ (by decide +kernel)) ggJ2_getChar_3b067_J2_length_9d52b
theorem dJ2_getChar_3b067_0 : decode cJ2_getChar_3b067 0 = .ok (.getstatic 44, 3) := by decide +kernel
theorem dJ2_getChar_3b067_3 : decode cJ2_getChar_3b067 3 = .ok (.ifCond .ne 25, 3) := by decide +kernel
theorem dJ2_getChar_3b067_6 : decode cJ2_getChar_3b067 6 = .ok (.iload_n 1, 1) := by decide +kernel
theorem dJ2_getChar_3b067_7 : decode cJ2_getChar_3b067 7 = .ok (.ifCond .lt 11, 3) := by decide +kernel
theorem dJ2_getChar_3b067_10 : decode cJ2_getChar_3b067 10 = .ok (.iload_n 1, 1) := by decide +kernel
theorem dJ2_getChar_3b067_11 : decode cJ2_getChar_3b067 11 = .ok (.aload_n 0, 1) := by decide +kernel
theorem dJ2_getChar_3b067_12 : decode cJ2_getChar_3b067 12 = .ok (.invokestatic 48, 3) := by decide +kernel
theorem dJ2_getChar_3b067_15 : decode cJ2_getChar_3b067 15 = .ok (.if_icmp .lt 13, 3) := by decide +kernel
theorem dJ2_getChar_3b067_18 : decode cJ2_getChar_3b067 18 = .ok (.new 52, 3) := by decide +kernel
theorem dJ2_getChar_3b067_21 : decode cJ2_getChar_3b067 21 = .ok (.dup, 1) := by decide +kernel
theorem dJ2_getChar_3b067_22 : decode cJ2_getChar_3b067 22 = .ok (.ldc 54, 2) := by decide +kernel
theorem dJ2_getChar_3b067_24 : decode cJ2_getChar_3b067 24 = .ok (.invokespecial 56, 3) := by decide +kernel
theorem dJ2_getChar_3b067_27 : decode cJ2_getChar_3b067 27 = .ok (.athrow, 1) := by decide +kernel
theorem dJ2_getChar_3b067_28 : decode cJ2_getChar_3b067 28 = .ok (.iload_n 1, 1) := by decide +kernel
theorem dJ2_getChar_3b067_29 : decode cJ2_getChar_3b067 29 = .ok (.iconst 1, 1) := by decide +kernel
theorem dJ2_getChar_3b067_30 : decode cJ2_getChar_3b067 30 = .ok (.ishl, 1) := by decide +kernel
theorem dJ2_getChar_3b067_31 : decode cJ2_getChar_3b067 31 = .ok (.istore_n 1, 1) := by decide +kernel
theorem dJ2_getChar_3b067_32 : decode cJ2_getChar_3b067 32 = .ok (.aload_n 0, 1) := by decide +kernel
theorem dJ2_getChar_3b067_33 : decode cJ2_getChar_3b067 33 = .ok (.iload_n 1, 1) := by decide +kernel
theorem dJ2_getChar_3b067_34 : decode cJ2_getChar_3b067 34 = .ok (.iinc 1 1, 3) := by decide +kernel
theorem dJ2_getChar_3b067_37 : decode cJ2_getChar_3b067 37 = .ok (.baload, 1) := by decide +kernel
theorem dJ2_getChar_3b067_38 : decode cJ2_getChar_3b067 38 = .ok (.sipush 255, 3) := by decide +kernel
theorem dJ2_getChar_3b067_41 : decode cJ2_getChar_3b067 41 = .ok (.iand, 1) := by decide +kernel
theorem dJ2_getChar_3b067_42 : decode cJ2_getChar_3b067 42 = .ok (.getstatic 59, 3) := by decide +kernel
theorem dJ2_getChar_3b067_45 : decode cJ2_getChar_3b067 45 = .ok (.ishl, 1) := by decide +kernel
theorem dJ2_getChar_3b067_46 : decode cJ2_getChar_3b067 46 = .ok (.aload_n 0, 1) := by decide +kernel
theorem dJ2_getChar_3b067_47 : decode cJ2_getChar_3b067 47 = .ok (.iload_n 1, 1) := by decide +kernel
theorem dJ2_getChar_3b067_48 : decode cJ2_getChar_3b067 48 = .ok (.baload, 1) := by decide +kernel
theorem dJ2_getChar_3b067_49 : decode cJ2_getChar_3b067 49 = .ok (.sipush 255, 3) := by decide +kernel
theorem dJ2_getChar_3b067_52 : decode cJ2_getChar_3b067 52 = .ok (.iand, 1) := by decide +kernel
theorem dJ2_getChar_3b067_53 : decode cJ2_getChar_3b067 53 = .ok (.getstatic 63, 3) := by decide +kernel
theorem dJ2_getChar_3b067_56 : decode cJ2_getChar_3b067 56 = .ok (.ishl, 1) := by decide +kernel
theorem dJ2_getChar_3b067_57 : decode cJ2_getChar_3b067 57 = .ok (.ior, 1) := by decide +kernel
theorem dJ2_getChar_3b067_58 : decode cJ2_getChar_3b067 58 = .ok (.i2c, 1) := by decide +kernel
theorem dJ2_getChar_3b067_59 : decode cJ2_getChar_3b067 59 = .ok (.ireturn, 1) := by decide +kernel
theorem dJ2_length_9d52b_0 : decode cJ2_length_9d52b 0 = .ok (.aload_n 0, 1) := by decide +kernel
theorem dJ2_length_9d52b_1 : decode cJ2_length_9d52b 1 = .ok (.arraylength, 1) := by decide +kernel
theorem dJ2_length_9d52b_2 : decode cJ2_length_9d52b 2 = .ok (.iconst 1, 1) := by decide +kernel
theorem dJ2_length_9d52b_3 : decode cJ2_length_9d52b 3 = .ok (.ishr, 1) := by decide +kernel
theorem dJ2_length_9d52b_4 : decode cJ2_length_9d52b 4 = .ok (.ireturn, 1) := by decide +kernel
set_option maxRecDepth 20000 in
theorem ggJ2_charAt_3b067_J2_checkIndex_2214a : GoodIn wsJ2_charAt_3b067 wsJ2_checkIndex_2214a := goodIn_r _ [4, 5, 6, 3, 7, 8, 9, 10, 11, 12, 13, 14, 15, 16] (by decide +kernel) (by decide +kernel)
set_option maxRecDepth 20000 in
theorem gJ2_charAt_3b067_J2_checkIndex_2214a : GoodIn wsJ2_charAt_3b067 (va_wsS RJ2 67 yJ2_checkIndex_2214a wsJ2_checkIndex_2214a) := goodIn_app (goodIn_of _ (by decide +kernel)) ggJ2_charAt_3b067_J2_checkIndex_2214a
set_option maxRecDepth 20000 in
theorem ggJ2_charAt_3b067_J2_getChar_3b067 : GoodIn wsJ2_charAt_3b067 wsJ2_getChar_3b067 := goodIn_r _ [19, 20, 21, 22, 5, 6, 3, 7] (by decide +kernel) (by decide +kernel)
set_option maxRecDepth 20000 in
theorem gJ2_charAt_3b067_J2_getChar_3b067 : GoodIn wsJ2_charAt_3b067 (va_wsS RJ2 71 yJ2_getChar_3b067 wsJ2_getChar_3b067) := goodIn_app (goodIn_of _ (by decide +kernel)) ggJ2_charAt_3b067_J2_getChar_3b067
theorem dJ2_charAt_3b067_0 : decode cJ2_charAt_3b067 0 = .ok (.iload_n 1, 1) := by decide +kernel
theorem dJ2_charAt_3b067_1 : decode cJ2_charAt_3b067 1 = .ok (.aload_n 0, 1) := by decide +kernel
theorem dJ2_charAt_3b067_2 : decode cJ2_charAt_3b067 2 = .ok (.invokestatic 67, 3) := by decide +kernel
theorem dJ2_charAt_3b067_5 : decode cJ2_charAt_3b067 5 = .ok (.aload_n 0, 1) := by decide +kernel
theorem dJ2_charAt_3b067_6 : decode cJ2_charAt_3b067 6 = .ok (.iload_n 1, 1) := by decide +kernel
theorem dJ2_charAt_3b067_7 : decode cJ2_charAt_3b067 7 = .ok (.invokestatic 71, 3) := by decide +kernel
theorem dJ2_charAt_3b067_10 : decode cJ2_charAt_3b067 10 = .ok (.ireturn, 1) := by decide +kernel
set_option maxRecDepth 20000 in
theorem ggJ2_checkIndex_2214a_J2_length_9d52b : GoodIn wsJ2_checkIndex_2214a wsJ2_length_9d52b := goodIn_r _ [4] (by decide +kernel) (by decide +kernel)
set_option maxRecDepth 20000 in
theorem gJ2_checkIndex_2214a_J2_length_9d52b : GoodIn wsJ2_checkIndex_2214a (va_wsS RJ2 48 yJ2_length_9d52b wsJ2_length_9d52b) := goodIn_app (goodIn_of _ (by decide +kernel)) ggJ2_checkIndex_2214a_J2_length_9d52b
set_option maxRecDepth 20000 in
theorem ggJ2_checkIndex_2214a_J0_checkIndex_df160 : GoodIn wsJ2_checkIndex_2214a wsJ0_checkIndex_df160 := goodIn_r _ [8, 9, 10, 11, 12, 13] (by decide +kernel) (by decide +kernel)
set_option maxRecDepth 20000 in
theorem gJ2_checkIndex_2214a_J0_checkIndex_df160 : GoodIn wsJ2_checkIndex_2214a (va_wsS RJ2 414 yJ0_checkIndex_df160 wsJ0_checkIndex_df160) := goodIn_app (goodIn_of _ (by decide +kernel)) ggJ2_checkIndex_2214a_J0_checkIndex_df160
theorem dJ2_checkIndex_2214a_0 : decode cJ2_checkIndex_2214a 0 = .ok (.iload_n 0, 1) := by decide +kernel
theorem dJ2_checkIndex_2214a_1 : decode cJ2_checkIndex_2214a 1 = .ok (.aload_n 1, 1) := by decide +kernel
theorem dJ2_checkIndex_2214a_2 : decode cJ2_checkIndex_2214a 2 = .ok (.invokestatic 48, 3) := by decide +kernel
theorem dJ2_checkIndex_2214a_5 : decode cJ2_checkIndex_2214a 5 = .ok (.invokestatic 414, 3) := by decide +kernel
theorem dJ2_checkIndex_2214a_8 : decode cJ2_checkIndex_2214a 8 = .ok (.return_, 1) := by decide +kernel
theorem dJ3_checkIndex_8e157_0 : decode cJ3_checkIndex_8e157 0 = .ok (.iload_n 0, 1) := by decide +kernel
theorem dJ3_checkIndex_8e157_1 : decode cJ3_checkIndex_8e157 1 = .ok (.ifCond .lt 8, 3) := by decide +kernel
theorem dJ3_checkIndex_8e157_4 : decode cJ3_checkIndex_8e157 4 = .ok (.iload_n 0, 1) := by decide +kernel
theorem dJ3_checkIndex_8e157_5 : decode cJ3_checkIndex_8e157 5 = .ok (.iload_n 1, 1) := by decide +kernel
theorem dJ3_checkIndex_8e157_6 : decode cJ3_checkIndex_8e157 6 = .ok (.if_icmp .lt 10, 3) := by decide +kernel
theorem dJ3_checkIndex_8e157_9 : decode cJ3_checkIndex_8e157 9 = .ok (.aload_n 2, 1) := by decide +kernel
theorem dJ3_checkIndex_8e157_10 : decode cJ3_checkIndex_8e157 10 = .ok (.iload_n 0, 1) := by decide +kernel
theorem dJ3_checkIndex_8e157_11 : decode cJ3_checkIndex_8e157 11 = .ok (.iload_n 1, 1) := by decide +kernel
theorem dJ3_checkIndex_8e157_12 : decode cJ3_checkIndex_8e157 12 = .ok (.invokestatic 95, 3) := by decide +kernel
theorem dJ3_checkIndex_8e157_15 : decode cJ3_checkIndex_8e157 15 = .ok (.athrow, 1) := by decide +kernel
theorem dJ3_checkIndex_8e157_16 : decode cJ3_checkIndex_8e157 16 = .ok (.iload_n 0, 1) := by decide +kernel
theorem dJ3_checkIndex_8e157_17 : decode cJ3_checkIndex_8e157 17 = .ok (.ireturn, 1) := by decide +kernel
theorem dL_law_0 : decode cL_law 0 = .ok (.new 7, 3) := by decide +kernel
theorem dL_law_3 : decode cL_law 3 = .ok (.dup, 1) := by decide +kernel
theorem dL_law_4 : decode cL_law 4 = .ok (.invokespecial 9, 3) := by decide +kernel
theorem dL_law_7 : decode cL_law 7 = .ok (.astore_n 1, 1) := by decide +kernel
theorem dL_law_8 : decode cL_law 8 = .ok (.new 10, 3) := by decide +kernel
theorem dL_law_11 : decode cL_law 11 = .ok (.dup, 1) := by decide +kernel
theorem dL_law_12 : decode cL_law 12 = .ok (.invokespecial 12, 3) := by decide +kernel
theorem dL_law_15 : decode cL_law 15 = .ok (.astore_n 2, 1) := by decide +kernel
theorem dL_law_16 : decode cL_law 16 = .ok (.iconst 0, 1) := by decide +kernel
theorem dL_law_17 : decode cL_law 17 = .ok (.istore_n 3, 1) := by decide +kernel
theorem dL_law_18 : decode cL_law 18 = .ok (.iload_n 3, 1) := by decide +kernel
theorem dL_law_19 : decode cL_law 19 = .ok (.aload_n 0, 1) := by decide +kernel
theorem dL_law_20 : decode cL_law 20 = .ok (.arraylength, 1) := by decide +kernel
theorem dL_law_21 : decode cL_law 21 = .ok (.iconst 4, 1) := by decide +kernel
theorem dL_law_22 : decode cL_law 22 = .ok (.isub, 1) := by decide +kernel
theorem dL_law_23 : decode cL_law 23 = .ok (.if_icmp .gt 932, 3) := by decide +kernel
theorem dL_law_26 : decode cL_law 26 = .ok (.aload_n 0, 1) := by decide +kernel
theorem dL_law_27 : decode cL_law 27 = .ok (.iload_n 3, 1) := by decide +kernel
theorem dL_law_28 : decode cL_law 28 = .ok (.iaload, 1) := by decide +kernel
theorem dL_law_29 : decode cL_law 29 = .ok (.bipush 31, 2) := by decide +kernel
theorem dL_law_31 : decode cL_law 31 = .ok (.iand, 1) := by decide +kernel
theorem dL_law_32 : decode cL_law 32 = .ok (.tableswitch 917 0 29 #[136, 199, 212, 225, 248, 291, 314, 347, 380, 413, 436, 459, 472, 505, 518, 541, 584, 597, 610, 643, 686, 709, 732, 755, 778, 801, 834, 857, 880, 903], 136) := by decide +kernel
theorem dL_law_168 : decode cL_law 168 = .ok (.aload_n 1, 1) := by decide +kernel
theorem dL_law_169 : decode cL_law 169 = .ok (.aload_n 0, 1) := by decide +kernel
theorem dL_law_170 : decode cL_law 170 = .ok (.iload_n 3, 1) := by decide +kernel
theorem dL_law_171 : decode cL_law 171 = .ok (.iconst 1, 1) := by decide +kernel
theorem dL_law_172 : decode cL_law 172 = .ok (.iadd, 1) := by decide +kernel
theorem dL_law_173 : decode cL_law 173 = .ok (.iaload, 1) := by decide +kernel
theorem dL_law_174 : decode cL_law 174 = .ok (.i2l, 1) := by decide +kernel
theorem dL_law_175 : decode cL_law 175 = .ok (.bipush 32, 2) := by decide +kernel
theorem dL_law_177 : decode cL_law 177 = .ok (.lshl, 1) := by decide +kernel
theorem dL_law_178 : decode cL_law 178 = .ok (.aload_n 0, 1) := by decide +kernel
theorem dL_law_179 : decode cL_law 179 = .ok (.iload_n 3, 1) := by decide +kernel
theorem dL_law_180 : decode cL_law 180 = .ok (.iconst 2, 1) := by decide +kernel
theorem dL_law_181 : decode cL_law 181 = .ok (.iadd, 1) := by decide +kernel
theorem dL_law_182 : decode cL_law 182 = .ok (.iaload, 1) := by decide +kernel
theorem dL_law_183 : decode cL_law 183 = .ok (.i2l, 1) := by decide +kernel
theorem dL_law_184 : decode cL_law 184 = .ok (.ldc2_w 13, 3) := by decide +kernel
theorem dL_law_187 : decode cL_law 187 = .ok (.land, 1) := by decide +kernel
theorem dL_law_188 : decode cL_law 188 = .ok (.lor, 1) := by decide +kernel
theorem dL_law_189 : decode cL_law 189 = .ok (.aload_n 0, 1) := by decide +kernel
theorem dL_law_190 : decode cL_law 190 = .ok (.iload_n 3, 1) := by decide +kernel
theorem dL_law_191 : decode cL_law 191 = .ok (.iconst 3, 1) := by decide +kernel
theorem dL_law_192 : decode cL_law 192 = .ok (.iadd, 1) := by decide +kernel
theorem dL_law_193 : decode cL_law 193 = .ok (.iaload, 1) := by decide +kernel
theorem dL_law_194 : decode cL_law 194 = .ok (.invokevirtual 15, 3) := by decide +kernel
theorem dL_law_197 : decode cL_law 197 = .ok (.aload_n 2, 1) := by decide +kernel
theorem dL_law_198 : decode cL_law 198 = .ok (.aload_n 0, 1) := by decide +kernel
theorem dL_law_199 : decode cL_law 199 = .ok (.iload_n 3, 1) := by decide +kernel
theorem dL_law_200 : decode cL_law 200 = .ok (.iconst 1, 1) := by decide +kernel
theorem dL_law_201 : decode cL_law 201 = .ok (.iadd, 1) := by decide +kernel
theorem dL_law_202 : decode cL_law 202 = .ok (.iaload, 1) := by decide +kernel
theorem dL_law_203 : decode cL_law 203 = .ok (.i2l, 1) := by decide +kernel
theorem dL_law_204 : decode cL_law 204 = .ok (.bipush 32, 2) := by decide +kernel
theorem dL_law_206 : decode cL_law 206 = .ok (.lshl, 1) := by decide +kernel
theorem dL_law_207 : decode cL_law 207 = .ok (.aload_n 0, 1) := by decide +kernel
theorem dL_law_208 : decode cL_law 208 = .ok (.iload_n 3, 1) := by decide +kernel
theorem dL_law_209 : decode cL_law 209 = .ok (.iconst 2, 1) := by decide +kernel
theorem dL_law_210 : decode cL_law 210 = .ok (.iadd, 1) := by decide +kernel
theorem dL_law_211 : decode cL_law 211 = .ok (.iaload, 1) := by decide +kernel
theorem dL_law_212 : decode cL_law 212 = .ok (.i2l, 1) := by decide +kernel
theorem dL_law_213 : decode cL_law 213 = .ok (.ldc2_w 13, 3) := by decide +kernel
theorem dL_law_216 : decode cL_law 216 = .ok (.land, 1) := by decide +kernel
theorem dL_law_217 : decode cL_law 217 = .ok (.lor, 1) := by decide +kernel
theorem dL_law_218 : decode cL_law 218 = .ok (.aload_n 0, 1) := by decide +kernel
theorem dL_law_219 : decode cL_law 219 = .ok (.iload_n 3, 1) := by decide +kernel
theorem dL_law_220 : decode cL_law 220 = .ok (.iconst 3, 1) := by decide +kernel
theorem dL_law_221 : decode cL_law 221 = .ok (.iadd, 1) := by decide +kernel
theorem dL_law_222 : decode cL_law 222 = .ok (.iaload, 1) := by decide +kernel
theorem dL_law_223 : decode cL_law 223 = .ok (.invokevirtual 19, 3) := by decide +kernel
theorem dL_law_226 : decode cL_law 226 = .ok (.if_icmp .eq 723, 3) := by decide +kernel
theorem dL_law_229 : decode cL_law 229 = .ok (.iconst 0, 1) := by decide +kernel
theorem dL_law_230 : decode cL_law 230 = .ok (.ireturn, 1) := by decide +kernel
theorem dL_law_231 : decode cL_law 231 = .ok (.aload_n 1, 1) := by decide +kernel
theorem dL_law_232 : decode cL_law 232 = .ok (.invokevirtual 20, 3) := by decide +kernel
theorem dL_law_235 : decode cL_law 235 = .ok (.aload_n 2, 1) := by decide +kernel
theorem dL_law_236 : decode cL_law 236 = .ok (.invokevirtual 24, 3) := by decide +kernel
theorem dL_law_239 : decode cL_law 239 = .ok (.if_icmp .eq 710, 3) := by decide +kernel
theorem dL_law_242 : decode cL_law 242 = .ok (.iconst 0, 1) := by decide +kernel
theorem dL_law_243 : decode cL_law 243 = .ok (.ireturn, 1) := by decide +kernel
theorem dL_law_244 : decode cL_law 244 = .ok (.aload_n 1, 1) := by decide +kernel
theorem dL_law_245 : decode cL_law 245 = .ok (.invokevirtual 25, 3) := by decide +kernel
theorem dL_law_248 : decode cL_law 248 = .ok (.aload_n 2, 1) := by decide +kernel
theorem dL_law_249 : decode cL_law 249 = .ok (.invokevirtual 28, 3) := by decide +kernel
theorem dL_law_252 : decode cL_law 252 = .ok (.if_icmp .eq 697, 3) := by decide +kernel
theorem dL_law_255 : decode cL_law 255 = .ok (.iconst 0, 1) := by decide +kernel
theorem dL_law_256 : decode cL_law 256 = .ok (.ireturn, 1) := by decide +kernel
theorem dL_law_257 : decode cL_law 257 = .ok (.aload_n 1, 1) := by decide +kernel
theorem dL_law_258 : decode cL_law 258 = .ok (.aload_n 0, 1) := by decide +kernel
theorem dL_law_259 : decode cL_law 259 = .ok (.iload_n 3, 1) := by decide +kernel
theorem dL_law_260 : decode cL_law 260 = .ok (.iconst 1, 1) := by decide +kernel
theorem dL_law_261 : decode cL_law 261 = .ok (.iadd, 1) := by decide +kernel
theorem dL_law_262 : decode cL_law 262 = .ok (.iaload, 1) := by decide +kernel
theorem dL_law_263 : decode cL_law 263 = .ok (.invokevirtual 29, 3) := by decide +kernel
theorem dL_law_266 : decode cL_law 266 = .ok (.aload_n 2, 1) := by decide +kernel
theorem dL_law_267 : decode cL_law 267 = .ok (.aload_n 0, 1) := by decide +kernel
theorem dL_law_268 : decode cL_law 268 = .ok (.iload_n 3, 1) := by decide +kernel
theorem dL_law_269 : decode cL_law 269 = .ok (.iconst 1, 1) := by decide +kernel
theorem dL_law_270 : decode cL_law 270 = .ok (.iadd, 1) := by decide +kernel
