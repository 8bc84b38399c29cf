set_option maxRecDepth 20000 in
theorem ggX4_tell_X5_setWorth : GoodIn wsX4_tell wsX5_setWorth := goodIn_r _ [35, 36, 14, 15, 6, 16, 44, 45, 46, 47, 48, 49] (by decide +kernel) (by decide +kernel)
set_option maxRecDepth 20000 in
theorem gX4_tell_X5_setWorth : GoodIn wsX4_tell (wsV RX4 92 RX5 yX5_setWorth wsX5_setWorth) := goodIn_app (goodIn_of _ (by decide +kernel)) ggX4_tell_X5_setWorth
theorem dX4_tell_0 : decode cX4_tell 0 = .ok (.iload_n 1, 1) := by decide +kernel
theorem dX4_tell_1 : decode cX4_tell 1 = .ok (.tableswitch 273 0 10 #[59, 75, 97, 114, 131, 148, 160, 172, 194, 216, 244], 59) := by decide +kernel
theorem dX4_tell_60 : decode cX4_tell 60 = .ok (.aload_n 0, 1) := by decide +kernel
theorem dX4_tell_61 : decode cX4_tell 61 = .ok (.getfield 32, 3) := by decide +kernel
theorem dX4_tell_64 : decode cX4_tell 64 = .ok (.aload_n 0, 1) := by decide +kernel
theorem dX4_tell_65 : decode cX4_tell 65 = .ok (.getfield 11, 3) := by decide +kernel
theorem dX4_tell_68 : decode cX4_tell 68 = .ok (.iconst 0, 1) := by decide +kernel
theorem dX4_tell_69 : decode cX4_tell 69 = .ok (.iaload, 1) := by decide +kernel
theorem dX4_tell_70 : decode cX4_tell 70 = .ok (.invokevirtual 76, 3) := by decide +kernel
theorem dX4_tell_73 : decode cX4_tell 73 = .ok (.goto 201, 3) := by decide +kernel
theorem dX4_tell_76 : decode cX4_tell 76 = .ok (.aload_n 0, 1) := by decide +kernel
theorem dX4_tell_77 : decode cX4_tell 77 = .ok (.getfield 32, 3) := by decide +kernel
theorem dX4_tell_80 : decode cX4_tell 80 = .ok (.aload_n 0, 1) := by decide +kernel
theorem dX4_tell_81 : decode cX4_tell 81 = .ok (.getfield 11, 3) := by decide +kernel
theorem dX4_tell_84 : decode cX4_tell 84 = .ok (.iconst 0, 1) := by decide +kernel
theorem dX4_tell_85 : decode cX4_tell 85 = .ok (.iaload, 1) := by decide +kernel
theorem dX4_tell_86 : decode cX4_tell 86 = .ok (.aload_n 0, 1) := by decide +kernel
theorem dX4_tell_87 : decode cX4_tell 87 = .ok (.getfield 11, 3) := by decide +kernel
theorem dX4_tell_90 : decode cX4_tell 90 = .ok (.iconst 1, 1) := by decide +kernel
theorem dX4_tell_91 : decode cX4_tell 91 = .ok (.iaload, 1) := by decide +kernel
theorem dX4_tell_92 : decode cX4_tell 92 = .ok (.invokevirtual 79, 3) := by decide +kernel
theorem dX4_tell_95 : decode cX4_tell 95 = .ok (.goto 179, 3) := by decide +kernel
theorem dX4_tell_98 : decode cX4_tell 98 = .ok (.aload_n 0, 1) := by decide +kernel
theorem dX4_tell_99 : decode cX4_tell 99 = .ok (.getfield 32, 3) := by decide +kernel
theorem dX4_tell_102 : decode cX4_tell 102 = .ok (.iconst 0, 1) := by decide +kernel
theorem dX4_tell_103 : decode cX4_tell 103 = .ok (.aload_n 0, 1) := by decide +kernel
theorem dX4_tell_104 : decode cX4_tell 104 = .ok (.getfield 11, 3) := by decide +kernel
theorem dX4_tell_107 : decode cX4_tell 107 = .ok (.iconst 0, 1) := by decide +kernel
theorem dX4_tell_108 : decode cX4_tell 108 = .ok (.iaload, 1) := by decide +kernel
theorem dX4_tell_109 : decode cX4_tell 109 = .ok (.invokevirtual 83, 3) := by decide +kernel
theorem dX4_tell_112 : decode cX4_tell 112 = .ok (.goto 162, 3) := by decide +kernel
theorem dX4_tell_115 : decode cX4_tell 115 = .ok (.aload_n 0, 1) := by decide +kernel
theorem dX4_tell_116 : decode cX4_tell 116 = .ok (.getfield 32, 3) := by decide +kernel
theorem dX4_tell_119 : decode cX4_tell 119 = .ok (.iconst 1, 1) := by decide +kernel
theorem dX4_tell_120 : decode cX4_tell 120 = .ok (.aload_n 0, 1) := by decide +kernel
theorem dX4_tell_121 : decode cX4_tell 121 = .ok (.getfield 11, 3) := by decide +kernel
theorem dX4_tell_124 : decode cX4_tell 124 = .ok (.iconst 0, 1) := by decide +kernel
theorem dX4_tell_125 : decode cX4_tell 125 = .ok (.iaload, 1) := by decide +kernel
theorem dX4_tell_126 : decode cX4_tell 126 = .ok (.invokevirtual 83, 3) := by decide +kernel
theorem dX4_tell_129 : decode cX4_tell 129 = .ok (.goto 145, 3) := by decide +kernel
theorem dX4_tell_132 : decode cX4_tell 132 = .ok (.aload_n 0, 1) := by decide +kernel
theorem dX4_tell_133 : decode cX4_tell 133 = .ok (.getfield 32, 3) := by decide +kernel
theorem dX4_tell_136 : decode cX4_tell 136 = .ok (.iconst 2, 1) := by decide +kernel
theorem dX4_tell_137 : decode cX4_tell 137 = .ok (.aload_n 0, 1) := by decide +kernel
theorem dX4_tell_138 : decode cX4_tell 138 = .ok (.getfield 11, 3) := by decide +kernel
theorem dX4_tell_141 : decode cX4_tell 141 = .ok (.iconst 0, 1) := by decide +kernel
theorem dX4_tell_142 : decode cX4_tell 142 = .ok (.iaload, 1) := by decide +kernel
theorem dX4_tell_143 : decode cX4_tell 143 = .ok (.invokevirtual 83, 3) := by decide +kernel
theorem dX4_tell_146 : decode cX4_tell 146 = .ok (.goto 128, 3) := by decide +kernel
theorem dX4_tell_149 : decode cX4_tell 149 = .ok (.aload_n 0, 1) := by decide +kernel
theorem dX4_tell_150 : decode cX4_tell 150 = .ok (.getfield 32, 3) := by decide +kernel
theorem dX4_tell_153 : decode cX4_tell 153 = .ok (.iconst 3, 1) := by decide +kernel
theorem dX4_tell_154 : decode cX4_tell 154 = .ok (.iconst 1, 1) := by decide +kernel
theorem dX4_tell_155 : decode cX4_tell 155 = .ok (.invokevirtual 83, 3) := by decide +kernel
theorem dX4_tell_158 : decode cX4_tell 158 = .ok (.goto 116, 3) := by decide +kernel
theorem dX4_tell_161 : decode cX4_tell 161 = .ok (.aload_n 0, 1) := by decide +kernel
theorem dX4_tell_162 : decode cX4_tell 162 = .ok (.getfield 32, 3) := by decide +kernel
theorem dX4_tell_165 : decode cX4_tell 165 = .ok (.iconst 4, 1) := by decide +kernel
theorem dX4_tell_166 : decode cX4_tell 166 = .ok (.iconst 1, 1) := by decide +kernel
theorem dX4_tell_167 : decode cX4_tell 167 = .ok (.invokevirtual 83, 3) := by decide +kernel
theorem dX4_tell_170 : decode cX4_tell 170 = .ok (.goto 104, 3) := by decide +kernel
theorem dX4_tell_173 : decode cX4_tell 173 = .ok (.aload_n 0, 1) := by decide +kernel
theorem dX4_tell_174 : decode cX4_tell 174 = .ok (.getfield 32, 3) := by decide +kernel
theorem dX4_tell_177 : decode cX4_tell 177 = .ok (.aload_n 0, 1) := by decide +kernel
theorem dX4_tell_178 : decode cX4_tell 178 = .ok (.getfield 11, 3) := by decide +kernel
theorem dX4_tell_181 : decode cX4_tell 181 = .ok (.iconst 0, 1) := by decide +kernel
theorem dX4_tell_182 : decode cX4_tell 182 = .ok (.iaload, 1) := by decide +kernel
theorem dX4_tell_183 : decode cX4_tell 183 = .ok (.aload_n 0, 1) := by decide +kernel
theorem dX4_tell_184 : decode cX4_tell 184 = .ok (.getfield 11, 3) := by decide +kernel
theorem dX4_tell_187 : decode cX4_tell 187 = .ok (.iconst 1, 1) := by decide +kernel
theorem dX4_tell_188 : decode cX4_tell 188 = .ok (.iaload, 1) := by decide +kernel
theorem dX4_tell_189 : decode cX4_tell 189 = .ok (.invokevirtual 86, 3) := by decide +kernel
theorem dX4_tell_192 : decode cX4_tell 192 = .ok (.goto 82, 3) := by decide +kernel
theorem dX4_tell_195 : decode cX4_tell 195 = .ok (.aload_n 0, 1) := by decide +kernel
theorem dX4_tell_196 : decode cX4_tell 196 = .ok (.getfield 32, 3) := by decide +kernel
theorem dX4_tell_199 : decode cX4_tell 199 = .ok (.aload_n 0, 1) := by decide +kernel
theorem dX4_tell_200 : decode cX4_tell 200 = .ok (.getfield 11, 3) := by decide +kernel
theorem dX4_tell_203 : decode cX4_tell 203 = .ok (.iconst 0, 1) := by decide +kernel
theorem dX4_tell_204 : decode cX4_tell 204 = .ok (.iaload, 1) := by decide +kernel
theorem dX4_tell_205 : decode cX4_tell 205 = .ok (.aload_n 0, 1) := by decide +kernel
theorem dX4_tell_206 : decode cX4_tell 206 = .ok (.getfield 11, 3) := by decide +kernel
theorem dX4_tell_209 : decode cX4_tell 209 = .ok (.iconst 1, 1) := by decide +kernel
theorem dX4_tell_210 : decode cX4_tell 210 = .ok (.iaload, 1) := by decide +kernel
theorem dX4_tell_211 : decode cX4_tell 211 = .ok (.invokevirtual 89, 3) := by decide +kernel
theorem dX4_tell_214 : decode cX4_tell 214 = .ok (.goto 60, 3) := by decide +kernel
theorem dX4_tell_217 : decode cX4_tell 217 = .ok (.aload_n 0, 1) := by decide +kernel
theorem dX4_tell_218 : decode cX4_tell 218 = .ok (.getfield 32, 3) := by decide +kernel
theorem dX4_tell_221 : decode cX4_tell 221 = .ok (.aload_n 0, 1) := by decide +kernel
theorem dX4_tell_222 : decode cX4_tell 222 = .ok (.getfield 11, 3) := by decide +kernel
theorem dX4_tell_225 : decode cX4_tell 225 = .ok (.iconst 0, 1) := by decide +kernel
theorem dX4_tell_226 : decode cX4_tell 226 = .ok (.iaload, 1) := by decide +kernel
theorem dX4_tell_227 : decode cX4_tell 227 = .ok (.aload_n 0, 1) := by decide +kernel
theorem dX4_tell_228 : decode cX4_tell 228 = .ok (.getfield 11, 3) := by decide +kernel
theorem dX4_tell_231 : decode cX4_tell 231 = .ok (.iconst 1, 1) := by decide +kernel
theorem dX4_tell_232 : decode cX4_tell 232 = .ok (.iaload, 1) := by decide +kernel
theorem dX4_tell_233 : decode cX4_tell 233 = .ok (.aload_n 0, 1) := by decide +kernel
theorem dX4_tell_234 : decode cX4_tell 234 = .ok (.getfield 11, 3) := by decide +kernel
theorem dX4_tell_237 : decode cX4_tell 237 = .ok (.iconst 2, 1) := by decide +kernel
theorem dX4_tell_238 : decode cX4_tell 238 = .ok (.iaload, 1) := by decide +kernel
theorem dX4_tell_239 : decode cX4_tell 239 = .ok (.invokevirtual 92, 3) := by decide +kernel
theorem dX4_tell_242 : decode cX4_tell 242 = .ok (.goto 32, 3) := by decide +kernel
theorem dX4_tell_245 : decode cX4_tell 245 = .ok (.aload_n 0, 1) := by decide +kernel
theorem dX4_tell_246 : decode cX4_tell 246 = .ok (.getfield 32, 3) := by decide +kernel
theorem dX4_tell_249 : decode cX4_tell 249 = .ok (.aload_n 0, 1) := by decide +kernel
theorem dX4_tell_250 : decode cX4_tell 250 = .ok (.getfield 11, 3) := by decide +kernel
theorem dX4_tell_253 : decode cX4_tell 253 = .ok (.iconst 0, 1) := by decide +kernel
theorem dX4_tell_254 : decode cX4_tell 254 = .ok (.iaload, 1) := by decide +kernel
theorem dX4_tell_255 : decode cX4_tell 255 = .ok (.aload_n 0, 1) := by decide +kernel
theorem dX4_tell_256 : decode cX4_tell 256 = .ok (.getfield 11, 3) := by decide +kernel
theorem dX4_tell_259 : decode cX4_tell 259 = .ok (.iconst 1, 1) := by decide +kernel
theorem dX4_tell_260 : decode cX4_tell 260 = .ok (.iaload, 1) := by decide +kernel
theorem dX4_tell_261 : decode cX4_tell 261 = .ok (.aload_n 0, 1) := by decide +kernel
theorem dX4_tell_262 : decode cX4_tell 262 = .ok (.getfield 11, 3) := by decide +kernel
theorem dX4_tell_265 : decode cX4_tell 265 = .ok (.iconst 2, 1) := by decide +kernel
theorem dX4_tell_266 : decode cX4_tell 266 = .ok (.iaload, 1) := by decide +kernel
theorem dX4_tell_267 : decode cX4_tell 267 = .ok (.ineg, 1) := by decide +kernel
theorem dX4_tell_268 : decode cX4_tell 268 = .ok (.invokevirtual 92, 3) := by decide +kernel
theorem dX4_tell_271 : decode cX4_tell 271 = .ok (.goto 3, 3) := by decide +kernel
theorem dX4_tell_274 : decode cX4_tell 274 = .ok (.return_, 1) := by decide +kernel
theorem dX4_numbersOf_0 : decode cX4_numbersOf 0 = .ok (.iload_n 0, 1) := by decide +kernel
theorem dX4_numbersOf_1 : decode cX4_numbersOf 1 = .ok (.tableswitch 57 0 8 #[53, 55, 53, 53, 53, 51, 51, 55, 55], 51) := by decide +kernel
theorem dX4_numbersOf_52 : decode cX4_numbersOf 52 = .ok (.iconst 0, 1) := by decide +kernel
theorem dX4_numbersOf_53 : decode cX4_numbersOf 53 = .ok (.ireturn, 1) := by decide +kernel
theorem dX4_numbersOf_54 : decode cX4_numbersOf 54 = .ok (.iconst 1, 1) := by decide +kernel
theorem dX4_numbersOf_55 : decode cX4_numbersOf 55 = .ok (.ireturn, 1) := by decide +kernel
theorem dX4_numbersOf_56 : decode cX4_numbersOf 56 = .ok (.iconst 2, 1) := by decide +kernel
theorem dX4_numbersOf_57 : decode cX4_numbersOf 57 = .ok (.ireturn, 1) := by decide +kernel
theorem dX4_numbersOf_58 : decode cX4_numbersOf 58 = .ok (.iconst 3, 1) := by decide +kernel
theorem dX4_numbersOf_59 : decode cX4_numbersOf 59 = .ok (.ireturn, 1) := by decide +kernel
theorem dX4_lowest_0 : decode cX4_lowest 0 = .ok (.iload_n 0, 1) := by decide +kernel
theorem dX4_lowest_1 : decode cX4_lowest 1 = .ok (.tableswitch 37 0 4 #[35, 37, 35, 35, 35], 35) := by decide +kernel
theorem dX4_lowest_36 : decode cX4_lowest 36 = .ok (.iconst 1, 1) := by decide +kernel
theorem dX4_lowest_37 : decode cX4_lowest 37 = .ok (.ireturn, 1) := by decide +kernel
theorem dX4_lowest_38 : decode cX4_lowest 38 = .ok (.iconst 0, 1) := by decide +kernel
theorem dX4_lowest_39 : decode cX4_lowest 39 = .ok (.ireturn, 1) := by decide +kernel
set_option maxRecDepth 20000 in
theorem ggX4_highest_X5_guests : GoodIn wsX4_highest wsX5_guests := goodIn_r _ [6, 7, 15, 16, 17, 18, 19, 20] (by decide +kernel) (by decide +kernel)
set_option maxRecDepth 20000 in
theorem gX4_highest_X5_guests : GoodIn wsX4_highest (wsV RX4 96 RX5 yX5_guests wsX5_guests) := goodIn_app (goodIn_of _ (by decide +kernel)) ggX4_highest_X5_guests
theorem dX4_highest_0 : decode cX4_highest 0 = .ok (.aload_n 0, 1) := by decide +kernel
theorem dX4_highest_1 : decode cX4_highest 1 = .ok (.getfield 32, 3) := by decide +kernel
theorem dX4_highest_4 : decode cX4_highest 4 = .ok (.invokevirtual 96, 3) := by decide +kernel
theorem dX4_highest_7 : decode cX4_highest 7 = .ok (.iconst 1, 1) := by decide +kernel
theorem dX4_highest_8 : decode cX4_highest 8 = .ok (.isub, 1) := by decide +kernel
theorem dX4_highest_9 : decode cX4_highest 9 = .ok (.istore_n 3, 1) := by decide +kernel
theorem dX4_highest_10 : decode cX4_highest 10 = .ok (.iload_n 1, 1) := by decide +kernel
theorem dX4_highest_11 : decode cX4_highest 11 = .ok (.tableswitch 46 0 4 #[33, 36, 33, 33, 33], 33) := by decide +kernel
theorem dX4_highest_44 : decode cX4_highest 44 = .ok (.bipush 8, 2) := by decide +kernel
theorem dX4_highest_46 : decode cX4_highest 46 = .ok (.ireturn, 1) := by decide +kernel
theorem dX4_highest_47 : decode cX4_highest 47 = .ok (.iload_n 2, 1) := by decide +kernel
theorem dX4_highest_48 : decode cX4_highest 48 = .ok (.ifCond .ne 7, 3) := by decide +kernel
theorem dX4_highest_51 : decode cX4_highest 51 = .ok (.iload_n 3, 1) := by decide +kernel
theorem dX4_highest_52 : decode cX4_highest 52 = .ok (.goto 4, 3) := by decide +kernel
theorem dX4_highest_55 : decode cX4_highest 55 = .ok (.iconst 5, 1) := by decide +kernel
theorem dX4_highest_56 : decode cX4_highest 56 = .ok (.ireturn, 1) := by decide +kernel
theorem dX4_highest_57 : decode cX4_highest 57 = .ok (.iload_n 2, 1) := by decide +kernel
theorem dX4_highest_58 : decode cX4_highest 58 = .ok (.iconst 2, 1) := by decide +kernel
theorem dX4_highest_59 : decode cX4_highest 59 = .ok (.if_icmp .ge 7, 3) := by decide +kernel
theorem dX4_highest_62 : decode cX4_highest 62 = .ok (.iload_n 3, 1) := by decide +kernel
theorem dX4_highest_63 : decode cX4_highest 63 = .ok (.goto 5, 3) := by decide +kernel
theorem dX4_highest_66 : decode cX4_highest 66 = .ok (.bipush 9, 2) := by decide +kernel
theorem dX4_highest_68 : decode cX4_highest 68 = .ok (.ireturn, 1) := by decide +kernel
set_option maxRecDepth 20000 in
theorem ggX4_advance_X8_byteAt : GoodIn wsX4_advance wsX8_byteAt := goodIn_r _ [9, 10, 11, 91, 92] (by decide +kernel) (by decide +kernel)
set_option maxRecDepth 20000 in
theorem gX4_advance_X8_byteAt : GoodIn wsX4_advance (wsV RX4 100 RX8 yX8_byteAt wsX8_byteAt) := goodIn_app (goodIn_of _ (by decide +kernel)) ggX4_advance_X8_byteAt
set_option maxRecDepth 20000 in
theorem ggX4_advance_X4_isLetter : GoodIn wsX4_advance wsX4_isLetter := goodIn_r _ [15] (by decide +kernel) (by decide +kernel)
set_option maxRecDepth 20000 in
theorem gX4_advance_X4_isLetter : GoodIn wsX4_advance (va_wsS RX4 103 yX4_isLetter wsX4_isLetter) := goodIn_app (goodIn_of _ (by decide +kernel)) ggX4_advance_X4_isLetter
set_option maxRecDepth 20000 in
theorem ggX4_advance_X4_scanWord : GoodIn wsX4_advance wsX4_scanWord := goodIn_r _ [19, 1, 2, 5, 6, 7, 8, 9, 10, 11, 12, 13, 14, 15, 20, 21, 22, 23, 24, 25, 26, 3, 27, 28, 29, 30, 31, 32, 33, 34, 35, 36, 37, 38, 39, 40, 41, 42, 43, 44, 45, 46, 47, 48, 49, 50, 51, 52, 53, 54, 55, 56, 57, 58, 59, 60, 61, 62, 63, 64, 65, 66, 67, 68, 69, 70, 71, 72, 73, 74, 75, 84, 85, 86, 87, 88, 89, 90, 91, 92] (by decide +kernel) (by decide +kernel)
set_option maxRecDepth 20000 in
theorem gX4_advance_X4_scanWord : GoodIn wsX4_advance (wsV RX4 106 RX4 yX4_scanWord wsX4_scanWord) := goodIn_app (goodIn_of _ (by decide +kernel)) ggX4_advance_X4_scanWord
set_option maxRecDepth 20000 in
theorem ggX4_advance_X4_isDigit : GoodIn wsX4_advance wsX4_isDigit := goodIn_r _ [78] (by decide +kernel) (by decide +kernel)
set_option maxRecDepth 20000 in
theorem gX4_advance_X4_isDigit : GoodIn wsX4_advance (va_wsS RX4 109 yX4_isDigit wsX4_isDigit) := goodIn_app (goodIn_of _ (by decide +kernel)) ggX4_advance_X4_isDigit
set_option maxRecDepth 20000 in
theorem ggX4_advance_X4_scanNumber : GoodIn wsX4_advance wsX4_scanNumber := goodIn_r _ [82, 83, 1, 2, 3, 5, 6, 7, 8, 9, 10, 11, 76, 77, 14, 78, 84, 85, 86, 87, 88, 89, 90, 91, 92] (by decide +kernel) (by decide +kernel)
set_option maxRecDepth 20000 in
theorem gX4_advance_X4_scanNumber : GoodIn wsX4_advance (wsV RX4 112 RX4 yX4_scanNumber wsX4_scanNumber) := goodIn_app (goodIn_of _ (by decide +kernel)) ggX4_advance_X4_scanNumber
theorem dX4_advance_0 : decode cX4_advance 0 = .ok (.aload_n 0, 1) := by decide +kernel
theorem dX4_advance_1 : decode cX4_advance 1 = .ok (.getfield 15, 3) := by decide +kernel
theorem dX4_advance_4 : decode cX4_advance 4 = .ok (.sipush 300, 3) := by decide +kernel
theorem dX4_advance_7 : decode cX4_advance 7 = .ok (.if_icmp .ge 32, 3) := by decide +kernel
theorem dX4_advance_10 : decode cX4_advance 10 = .ok (.aload_n 0, 1) := by decide +kernel
theorem dX4_advance_11 : decode cX4_advance 11 = .ok (.getfield 28, 3) := by decide +kernel
theorem dX4_advance_14 : decode cX4_advance 14 = .ok (.aload_n 0, 1) := by decide +kernel
theorem dX4_advance_15 : decode cX4_advance 15 = .ok (.getfield 15, 3) := by decide +kernel
theorem dX4_advance_18 : decode cX4_advance 18 = .ok (.invokevirtual 100, 3) := by decide +kernel
theorem dX4_advance_21 : decode cX4_advance 21 = .ok (.bipush 32, 2) := by decide +kernel
theorem dX4_advance_23 : decode cX4_advance 23 = .ok (.if_icmp .ne 16, 3) := by decide +kernel
theorem dX4_advance_26 : decode cX4_advance 26 = .ok (.aload_n 0, 1) := by decide +kernel
theorem dX4_advance_27 : decode cX4_advance 27 = .ok (.dup, 1) := by decide +kernel
theorem dX4_advance_28 : decode cX4_advance 28 = .ok (.getfield 15, 3) := by decide +kernel
theorem dX4_advance_31 : decode cX4_advance 31 = .ok (.iconst 1, 1) := by decide +kernel
theorem dX4_advance_32 : decode cX4_advance 32 = .ok (.iadd, 1) := by decide +kernel
theorem dX4_advance_33 : decode cX4_advance 33 = .ok (.putfield 15, 3) := by decide +kernel
theorem dX4_advance_36 : decode cX4_advance 36 = .ok (.goto (-36), 3) := by decide +kernel
theorem dX4_advance_39 : decode cX4_advance 39 = .ok (.aload_n 0, 1) := by decide +kernel
theorem dX4_advance_40 : decode cX4_advance 40 = .ok (.aload_n 0, 1) := by decide +kernel
theorem dX4_advance_41 : decode cX4_advance 41 = .ok (.getfield 15, 3) := by decide +kernel
theorem dX4_advance_44 : decode cX4_advance 44 = .ok (.putfield 22, 3) := by decide +kernel
theorem dX4_advance_47 : decode cX4_advance 47 = .ok (.aload_n 0, 1) := by decide +kernel
theorem dX4_advance_48 : decode cX4_advance 48 = .ok (.getfield 28, 3) := by decide +kernel
theorem dX4_advance_51 : decode cX4_advance 51 = .ok (.aload_n 0, 1) := by decide +kernel
theorem dX4_advance_52 : decode cX4_advance 52 = .ok (.getfield 15, 3) := by decide +kernel
theorem dX4_advance_55 : decode cX4_advance 55 = .ok (.invokevirtual 100, 3) := by decide +kernel
theorem dX4_advance_58 : decode cX4_advance 58 = .ok (.istore_n 1, 1) := by decide +kernel
theorem dX4_advance_59 : decode cX4_advance 59 = .ok (.iload_n 1, 1) := by decide +kernel
theorem dX4_advance_60 : decode cX4_advance 60 = .ok (.iconst (-1), 1) := by decide +kernel
theorem dX4_advance_61 : decode cX4_advance 61 = .ok (.if_icmp .ne 12, 3) := by decide +kernel
theorem dX4_advance_64 : decode cX4_advance 64 = .ok (.aload_n 0, 1) := by decide +kernel
theorem dX4_advance_65 : decode cX4_advance 65 = .ok (.bipush 13, 2) := by decide +kernel
theorem dX4_advance_67 : decode cX4_advance 67 = .ok (.putfield 19, 3) := by decide +kernel
theorem dX4_advance_70 : decode cX4_advance 70 = .ok (.goto 70, 3) := by decide +kernel
theorem dX4_advance_73 : decode cX4_advance 73 = .ok (.iload_n 1, 1) := by decide +kernel
theorem dX4_advance_74 : decode cX4_advance 74 = .ok (.bipush 59, 2) := by decide +kernel
theorem dX4_advance_76 : decode cX4_advance 76 = .ok (.if_icmp .ne 22, 3) := by decide +kernel
theorem dX4_advance_79 : decode cX4_advance 79 = .ok (.aload_n 0, 1) := by decide +kernel
theorem dX4_advance_80 : decode cX4_advance 80 = .ok (.dup, 1) := by decide +kernel
theorem dX4_advance_81 : decode cX4_advance 81 = .ok (.getfield 15, 3) := by decide +kernel
theorem dX4_advance_84 : decode cX4_advance 84 = .ok (.iconst 1, 1) := by decide +kernel
theorem dX4_advance_85 : decode cX4_advance 85 = .ok (.iadd, 1) := by decide +kernel
theorem dX4_advance_86 : decode cX4_advance 86 = .ok (.putfield 15, 3) := by decide +kernel
theorem dX4_advance_89 : decode cX4_advance 89 = .ok (.aload_n 0, 1) := by decide +kernel
theorem dX4_advance_90 : decode cX4_advance 90 = .ok (.bipush 12, 2) := by decide +kernel
theorem dX4_advance_92 : decode cX4_advance 92 = .ok (.putfield 19, 3) := by decide +kernel
theorem dX4_advance_95 : decode cX4_advance 95 = .ok (.goto 45, 3) := by decide +kernel
theorem dX4_advance_98 : decode cX4_advance 98 = .ok (.iload_n 1, 1) := by decide +kernel
theorem dX4_advance_99 : decode cX4_advance 99 = .ok (.invokestatic 103, 3) := by decide +kernel
theorem dX4_advance_102 : decode cX4_advance 102 = .ok (.ifCond .eq 14, 3) := by decide +kernel
theorem dX4_advance_105 : decode cX4_advance 105 = .ok (.aload_n 0, 1) := by decide +kernel
theorem dX4_advance_106 : decode cX4_advance 106 = .ok (.aload_n 0, 1) := by decide +kernel
theorem dX4_advance_107 : decode cX4_advance 107 = .ok (.invokevirtual 106, 3) := by decide +kernel
theorem dX4_advance_110 : decode cX4_advance 110 = .ok (.putfield 19, 3) := by decide +kernel
theorem dX4_advance_113 : decode cX4_advance 113 = .ok (.goto 27, 3) := by decide +kernel
theorem dX4_advance_116 : decode cX4_advance 116 = .ok (.iload_n 1, 1) := by decide +kernel
theorem dX4_advance_117 : decode cX4_advance 117 = .ok (.invokestatic 109, 3) := by decide +kernel
theorem dX4_advance_120 : decode cX4_advance 120 = .ok (.ifCond .eq 14, 3) := by decide +kernel
theorem dX4_advance_123 : decode cX4_advance 123 = .ok (.aload_n 0, 1) := by decide +kernel
theorem dX4_advance_124 : decode cX4_advance 124 = .ok (.aload_n 0, 1) := by decide +kernel
theorem dX4_advance_125 : decode cX4_advance 125 = .ok (.invokevirtual 112, 3) := by decide +kernel
theorem dX4_advance_128 : decode cX4_advance 128 = .ok (.putfield 19, 3) := by decide +kernel
theorem dX4_advance_131 : decode cX4_advance 131 = .ok (.goto 9, 3) := by decide +kernel
theorem dX4_advance_134 : decode cX4_advance 134 = .ok (.aload_n 0, 1) := by decide +kernel
theorem dX4_advance_135 : decode cX4_advance 135 = .ok (.bipush 14, 2) := by decide +kernel
theorem dX4_advance_137 : decode cX4_advance 137 = .ok (.putfield 19, 3) := by decide +kernel
theorem dX4_advance_140 : decode cX4_advance 140 = .ok (.return_, 1) := by decide +kernel
set_option maxRecDepth 20000 in
theorem ggX4_scanWord_X8_byteAt : GoodIn wsX4_scanWord wsX8_byteAt := goodIn_r _ [7, 8, 9, 78, 79] (by decide +kernel) (by decide +kernel)
set_option maxRecDepth 20000 in
theorem gX4_scanWord_X8_byteAt : GoodIn wsX4_scanWord (wsV RX4 100 RX8 yX8_byteAt wsX8_byteAt) := goodIn_app (goodIn_of _ (by decide +kernel)) ggX4_scanWord_X8_byteAt
set_option maxRecDepth 20000 in
theorem ggX4_scanWord_X4_isLetter : GoodIn wsX4_scanWord wsX4_isLetter := goodIn_r _ [13] (by decide +kernel) (by decide +kernel)
set_option maxRecDepth 20000 in
theorem gX4_scanWord_X4_isLetter : GoodIn wsX4_scanWord (va_wsS RX4 103 yX4_isLetter wsX4_isLetter) := goodIn_app (goodIn_of _ (by decide +kernel)) ggX4_scanWord_X4_isLetter
set_option maxRecDepth 20000 in
theorem ggX4_scanWord_X4_spelling : GoodIn wsX4_scanWord wsX4_spelling := goodIn_r _ [16] (by decide +kernel) (by decide +kernel)
set_option maxRecDepth 20000 in
theorem gX4_scanWord_X4_spelling : GoodIn wsX4_scanWord (va_wsS RX4 115 yX4_spelling wsX4_spelling) := goodIn_app (goodIn_of _ (by decide +kernel)) ggX4_scanWord_X4_spelling
set_option maxRecDepth 20000 in
theorem ggX4_scanWord_X4_isSpelled : GoodIn wsX4_scanWord wsX4_isSpelled := goodIn_r _ [20, 1, 21, 2, 22, 23, 24, 25, 26, 27, 28, 29, 30, 31, 32, 33, 34, 35, 36, 37, 38, 39, 40, 41, 42, 43, 44, 45, 46, 47, 48, 49, 50, 51, 52, 53, 54, 55, 56, 57, 58, 59, 60, 61, 62, 63, 64, 65, 66, 67, 68, 69, 70, 3, 4, 5, 6, 7, 8, 9, 71, 72, 73, 74, 75, 76, 77, 78, 79] (by decide +kernel) (by decide +kernel)
set_option maxRecDepth 20000 in
theorem gX4_scanWord_X4_isSpelled : GoodIn wsX4_scanWord (wsV RX4 119 RX4 yX4_isSpelled wsX4_isSpelled) := goodIn_app (goodIn_of _ (by decide +kernel)) ggX4_scanWord_X4_isSpelled
theorem dX4_scanWord_0 : decode cX4_scanWord 0 = .ok (.aload_n 0, 1) := by decide +kernel
theorem dX4_scanWord_1 : decode cX4_scanWord 1 = .ok (.getfield 15, 3) := by decide +kernel
theorem dX4_scanWord_4 : decode cX4_scanWord 4 = .ok (.sipush 300, 3) := by decide +kernel
theorem dX4_scanWord_7 : decode cX4_scanWord 7 = .ok (.if_icmp .ge 33, 3) := by decide +kernel
theorem dX4_scanWord_10 : decode cX4_scanWord 10 = .ok (.aload_n 0, 1) := by decide +kernel
theorem dX4_scanWord_11 : decode cX4_scanWord 11 = .ok (.getfield 28, 3) := by decide +kernel
theorem dX4_scanWord_14 : decode cX4_scanWord 14 = .ok (.aload_n 0, 1) := by decide +kernel
theorem dX4_scanWord_15 : decode cX4_scanWord 15 = .ok (.getfield 15, 3) := by decide +kernel
theorem dX4_scanWord_18 : decode cX4_scanWord 18 = .ok (.invokevirtual 100, 3) := by decide +kernel
theorem dX4_scanWord_21 : decode cX4_scanWord 21 = .ok (.invokestatic 103, 3) := by decide +kernel
theorem dX4_scanWord_24 : decode cX4_scanWord 24 = .ok (.ifCond .eq 16, 3) := by decide +kernel
theorem dX4_scanWord_27 : decode cX4_scanWord 27 = .ok (.aload_n 0, 1) := by decide +kernel
theorem dX4_scanWord_28 : decode cX4_scanWord 28 = .ok (.dup, 1) := by decide +kernel
theorem dX4_scanWord_29 : decode cX4_scanWord 29 = .ok (.getfield 15, 3) := by decide +kernel
theorem dX4_scanWord_32 : decode cX4_scanWord 32 = .ok (.iconst 1, 1) := by decide +kernel
theorem dX4_scanWord_33 : decode cX4_scanWord 33 = .ok (.iadd, 1) := by decide +kernel
theorem dX4_scanWord_34 : decode cX4_scanWord 34 = .ok (.putfield 15, 3) := by decide +kernel
theorem dX4_scanWord_37 : decode cX4_scanWord 37 = .ok (.goto (-37), 3) := by decide +kernel
theorem dX4_scanWord_40 : decode cX4_scanWord 40 = .ok (.iconst 0, 1) := by decide +kernel
theorem dX4_scanWord_41 : decode cX4_scanWord 41 = .ok (.istore_n 1, 1) := by decide +kernel
theorem dX4_scanWord_42 : decode cX4_scanWord 42 = .ok (.iload_n 1, 1) := by decide +kernel
theorem dX4_scanWord_43 : decode cX4_scanWord 43 = .ok (.bipush 11, 2) := by decide +kernel
theorem dX4_scanWord_45 : decode cX4_scanWord 45 = .ok (.if_icmp .ge 22, 3) := by decide +kernel
theorem dX4_scanWord_48 : decode cX4_scanWord 48 = .ok (.aload_n 0, 1) := by decide +kernel
theorem dX4_scanWord_49 : decode cX4_scanWord 49 = .ok (.iload_n 1, 1) := by decide +kernel
theorem dX4_scanWord_50 : decode cX4_scanWord 50 = .ok (.invokestatic 115, 3) := by decide +kernel
theorem dX4_scanWord_53 : decode cX4_scanWord 53 = .ok (.invokevirtual 119, 3) := by decide +kernel
theorem dX4_scanWord_56 : decode cX4_scanWord 56 = .ok (.ifCond .eq 5, 3) := by decide +kernel
theorem dX4_scanWord_59 : decode cX4_scanWord 59 = .ok (.iload_n 1, 1) := by decide +kernel
theorem dX4_scanWord_60 : decode cX4_scanWord 60 = .ok (.ireturn, 1) := by decide +kernel
theorem dX4_scanWord_61 : decode cX4_scanWord 61 = .ok (.iinc 1 1, 3) := by decide +kernel
theorem dX4_scanWord_64 : decode cX4_scanWord 64 = .ok (.goto (-22), 3) := by decide +kernel
theorem dX4_scanWord_67 : decode cX4_scanWord 67 = .ok (.bipush 14, 2) := by decide +kernel
theorem dX4_scanWord_69 : decode cX4_scanWord 69 = .ok (.ireturn, 1) := by decide +kernel
set_option maxRecDepth 20000 in
theorem ggX4_isSpelled_J0_length_8abf5 : GoodIn wsX4_isSpelled wsJ0_length_8abf5 := goodIn_r _ [8, 9, 10, 11, 12, 7, 13, 14, 15] (by decide +kernel) (by decide +kernel)
set_option maxRecDepth 20000 in
theorem gX4_isSpelled_J0_length_8abf5 : GoodIn wsX4_isSpelled (wsV RX4 123 RJ0 yJ0_length_8abf5 wsJ0_length_8abf5) := goodIn_app (goodIn_of _ (by decide +kernel)) ggX4_isSpelled_J0_length_8abf5
set_option maxRecDepth 20000 in
theorem ggX4_isSpelled_J0_charAt_5068e : GoodIn wsX4_isSpelled wsJ0_charAt_5068e := goodIn_r _ [19, 9, 20, 21, 22, 7, 23, 14, 15, 24, 25, 26, 27, 28, 29, 30, 31, 32, 33, 34, 35, 36, 37, 38, 39, 40, 41, 42, 43, 44, 45, 46, 47, 48, 49, 50, 51, 52] (by decide +kernel) (by decide +kernel)
set_option maxRecDepth 20000 in
theorem gX4_isSpelled_J0_charAt_5068e : GoodIn wsX4_isSpelled (wsV RX4 128 RJ0 yJ0_charAt_5068e wsJ0_charAt_5068e) := goodIn_app (goodIn_of _ (by decide +kernel)) ggX4_isSpelled_J0_charAt_5068e
set_option maxRecDepth 20000 in
theorem ggX4_isSpelled_X8_byteAt : GoodIn wsX4_isSpelled wsX8_byteAt := goodIn_r _ [57, 58, 59, 67, 68] (by decide +kernel) (by decide +kernel)
set_option maxRecDepth 20000 in
theorem gX4_isSpelled_X8_byteAt : GoodIn wsX4_isSpelled (wsV RX4 100 RX8 yX8_byteAt wsX8_byteAt) := goodIn_app (goodIn_of _ (by decide +kernel)) ggX4_isSpelled_X8_byteAt
theorem dX4_isSpelled_0 : decode cX4_isSpelled 0 = .ok (.aload_n 1, 1) := by decide +kernel
theorem dX4_isSpelled_1 : decode cX4_isSpelled 1 = .ok (.invokevirtual 123, 3) := by decide +kernel
theorem dX4_isSpelled_4 : decode cX4_isSpelled 4 = .ok (.aload_n 0, 1) := by decide +kernel
theorem dX4_isSpelled_5 : decode cX4_isSpelled 5 = .ok (.getfield 15, 3) := by decide +kernel
theorem dX4_isSpelled_8 : decode cX4_isSpelled 8 = .ok (.aload_n 0, 1) := by decide +kernel
theorem dX4_isSpelled_9 : decode cX4_isSpelled 9 = .ok (.getfield 22, 3) := by decide +kernel
theorem dX4_isSpelled_12 : decode cX4_isSpelled 12 = .ok (.isub, 1) := by decide +kernel
theorem dX4_isSpelled_13 : decode cX4_isSpelled 13 = .ok (.if_icmp .eq 5, 3) := by decide +kernel
theorem dX4_isSpelled_16 : decode cX4_isSpelled 16 = .ok (.iconst 0, 1) := by decide +kernel
theorem dX4_isSpelled_17 : decode cX4_isSpelled 17 = .ok (.ireturn, 1) := by decide +kernel
theorem dX4_isSpelled_18 : decode cX4_isSpelled 18 = .ok (.iconst 0, 1) := by decide +kernel
theorem dX4_isSpelled_19 : decode cX4_isSpelled 19 = .ok (.istore_n 2, 1) := by decide +kernel
theorem dX4_isSpelled_20 : decode cX4_isSpelled 20 = .ok (.iload_n 2, 1) := by decide +kernel
theorem dX4_isSpelled_21 : decode cX4_isSpelled 21 = .ok (.aload_n 1, 1) := by decide +kernel
theorem dX4_isSpelled_22 : decode cX4_isSpelled 22 = .ok (.invokevirtual 123, 3) := by decide +kernel
theorem dX4_isSpelled_25 : decode cX4_isSpelled 25 = .ok (.if_icmp .ge 32, 3) := by decide +kernel
theorem dX4_isSpelled_28 : decode cX4_isSpelled 28 = .ok (.aload_n 1, 1) := by decide +kernel
theorem dX4_isSpelled_29 : decode cX4_isSpelled 29 = .ok (.iload_n 2, 1) := by decide +kernel
theorem dX4_isSpelled_30 : decode cX4_isSpelled 30 = .ok (.invokevirtual 128, 3) := by decide +kernel
theorem dX4_isSpelled_33 : decode cX4_isSpelled 33 = .ok (.aload_n 0, 1) := by decide +kernel
theorem dX4_isSpelled_34 : decode cX4_isSpelled 34 = .ok (.getfield 28, 3) := by decide +kernel
theorem dX4_isSpelled_37 : decode cX4_isSpelled 37 = .ok (.aload_n 0, 1) := by decide +kernel
theorem dX4_isSpelled_38 : decode cX4_isSpelled 38 = .ok (.getfield 22, 3) := by decide +kernel
theorem dX4_isSpelled_41 : decode cX4_isSpelled 41 = .ok (.iload_n 2, 1) := by decide +kernel
theorem dX4_isSpelled_42 : decode cX4_isSpelled 42 = .ok (.iadd, 1) := by decide +kernel
theorem dX4_isSpelled_43 : decode cX4_isSpelled 43 = .ok (.invokevirtual 100, 3) := by decide +kernel
theorem dX4_isSpelled_46 : decode cX4_isSpelled 46 = .ok (.if_icmp .eq 5, 3) := by decide +kernel
theorem dX4_isSpelled_49 : decode cX4_isSpelled 49 = .ok (.iconst 0, 1) := by decide +kernel
theorem dX4_isSpelled_50 : decode cX4_isSpelled 50 = .ok (.ireturn, 1) := by decide +kernel
theorem dX4_isSpelled_51 : decode cX4_isSpelled 51 = .ok (.iinc 2 1, 3) := by decide +kernel
theorem dX4_isSpelled_54 : decode cX4_isSpelled 54 = .ok (.goto (-34), 3) := by decide +kernel
theorem dX4_isSpelled_57 : decode cX4_isSpelled 57 = .ok (.iconst 1, 1) := by decide +kernel
theorem dX4_isSpelled_58 : decode cX4_isSpelled 58 = .ok (.ireturn, 1) := by decide +kernel
set_option maxRecDepth 20000 in
theorem ggX4_scanNumber_X8_byteAt : GoodIn wsX4_scanNumber wsX8_byteAt := goodIn_r _ [9, 10, 11, 23, 24] (by decide +kernel) (by decide +kernel)
set_option maxRecDepth 20000 in
theorem gX4_scanNumber_X8_byteAt : GoodIn wsX4_scanNumber (wsV RX4 100 RX8 yX8_byteAt wsX8_byteAt) := goodIn_app (goodIn_of _ (by decide +kernel)) ggX4_scanNumber_X8_byteAt
set_option maxRecDepth 20000 in
theorem ggX4_scanNumber_X4_isDigit : GoodIn wsX4_scanNumber wsX4_isDigit := goodIn_r _ [15] (by decide +kernel) (by decide +kernel)
set_option maxRecDepth 20000 in
theorem gX4_scanNumber_X4_isDigit : GoodIn wsX4_scanNumber (va_wsS RX4 109 yX4_isDigit wsX4_isDigit) := goodIn_app (goodIn_of _ (by decide +kernel)) ggX4_scanNumber_X4_isDigit
theorem dX4_scanNumber_0 : decode cX4_scanNumber 0 = .ok (.aload_n 0, 1) := by decide +kernel
theorem dX4_scanNumber_1 : decode cX4_scanNumber 1 = .ok (.iconst 0, 1) := by decide +kernel
theorem dX4_scanNumber_2 : decode cX4_scanNumber 2 = .ok (.putfield 25, 3) := by decide +kernel
theorem dX4_scanNumber_5 : decode cX4_scanNumber 5 = .ok (.aload_n 0, 1) := by decide +kernel
theorem dX4_scanNumber_6 : decode cX4_scanNumber 6 = .ok (.getfield 15, 3) := by decide +kernel
theorem dX4_scanNumber_9 : decode cX4_scanNumber 9 = .ok (.sipush 300, 3) := by decide +kernel
theorem dX4_scanNumber_12 : decode cX4_scanNumber 12 = .ok (.if_icmp .ge 68, 3) := by decide +kernel
theorem dX4_scanNumber_15 : decode cX4_scanNumber 15 = .ok (.aload_n 0, 1) := by decide +kernel
theorem dX4_scanNumber_16 : decode cX4_scanNumber 16 = .ok (.getfield 28, 3) := by decide +kernel
theorem dX4_scanNumber_19 : decode cX4_scanNumber 19 = .ok (.aload_n 0, 1) := by decide +kernel
theorem dX4_scanNumber_20 : decode cX4_scanNumber 20 = .ok (.getfield 15, 3) := by decide +kernel
theorem dX4_scanNumber_23 : decode cX4_scanNumber 23 = .ok (.invokevirtual 100, 3) := by decide +kernel
theorem dX4_scanNumber_26 : decode cX4_scanNumber 26 = .ok (.invokestatic 109, 3) := by decide +kernel
theorem dX4_scanNumber_29 : decode cX4_scanNumber 29 = .ok (.ifCond .eq 51, 3) := by decide +kernel
theorem dX4_scanNumber_32 : decode cX4_scanNumber 32 = .ok (.aload_n 0, 1) := by decide +kernel
theorem dX4_scanNumber_33 : decode cX4_scanNumber 33 = .ok (.getfield 25, 3) := by decide +kernel
theorem dX4_scanNumber_36 : decode cX4_scanNumber 36 = .ok (.bipush 99, 2) := by decide +kernel
theorem dX4_scanNumber_38 : decode cX4_scanNumber 38 = .ok (.if_icmp .gt 29, 3) := by decide +kernel
theorem dX4_scanNumber_41 : decode cX4_scanNumber 41 = .ok (.aload_n 0, 1) := by decide +kernel
theorem dX4_scanNumber_42 : decode cX4_scanNumber 42 = .ok (.aload_n 0, 1) := by decide +kernel
theorem dX4_scanNumber_43 : decode cX4_scanNumber 43 = .ok (.getfield 25, 3) := by decide +kernel
theorem dX4_scanNumber_46 : decode cX4_scanNumber 46 = .ok (.bipush 10, 2) := by decide +kernel
theorem dX4_scanNumber_48 : decode cX4_scanNumber 48 = .ok (.imul, 1) := by decide +kernel
theorem dX4_scanNumber_49 : decode cX4_scanNumber 49 = .ok (.aload_n 0, 1) := by decide +kernel
theorem dX4_scanNumber_50 : decode cX4_scanNumber 50 = .ok (.getfield 28, 3) := by decide +kernel
theorem dX4_scanNumber_53 : decode cX4_scanNumber 53 = .ok (.aload_n 0, 1) := by decide +kernel
theorem dX4_scanNumber_54 : decode cX4_scanNumber 54 = .ok (.getfield 15, 3) := by decide +kernel
theorem dX4_scanNumber_57 : decode cX4_scanNumber 57 = .ok (.invokevirtual 100, 3) := by decide +kernel
theorem dX4_scanNumber_60 : decode cX4_scanNumber 60 = .ok (.iadd, 1) := by decide +kernel
theorem dX4_scanNumber_61 : decode cX4_scanNumber 61 = .ok (.bipush 48, 2) := by decide +kernel
theorem dX4_scanNumber_63 : decode cX4_scanNumber 63 = .ok (.isub, 1) := by decide +kernel
theorem dX4_scanNumber_64 : decode cX4_scanNumber 64 = .ok (.putfield 25, 3) := by decide +kernel
theorem dX4_scanNumber_67 : decode cX4_scanNumber 67 = .ok (.aload_n 0, 1) := by decide +kernel
theorem dX4_scanNumber_68 : decode cX4_scanNumber 68 = .ok (.dup, 1) := by decide +kernel
theorem dX4_scanNumber_69 : decode cX4_scanNumber 69 = .ok (.getfield 15, 3) := by decide +kernel
theorem dX4_scanNumber_72 : decode cX4_scanNumber 72 = .ok (.iconst 1, 1) := by decide +kernel
theorem dX4_scanNumber_73 : decode cX4_scanNumber 73 = .ok (.iadd, 1) := by decide +kernel
theorem dX4_scanNumber_74 : decode cX4_scanNumber 74 = .ok (.putfield 15, 3) := by decide +kernel
theorem dX4_scanNumber_77 : decode cX4_scanNumber 77 = .ok (.goto (-72), 3) := by decide +kernel
theorem dX4_scanNumber_80 : decode cX4_scanNumber 80 = .ok (.aload_n 0, 1) := by decide +kernel
theorem dX4_scanNumber_81 : decode cX4_scanNumber 81 = .ok (.getfield 28, 3) := by decide +kernel
theorem dX4_scanNumber_84 : decode cX4_scanNumber 84 = .ok (.aload_n 0, 1) := by decide +kernel
theorem dX4_scanNumber_85 : decode cX4_scanNumber 85 = .ok (.getfield 22, 3) := by decide +kernel
theorem dX4_scanNumber_88 : decode cX4_scanNumber 88 = .ok (.invokevirtual 100, 3) := by decide +kernel
theorem dX4_scanNumber_91 : decode cX4_scanNumber 91 = .ok (.bipush 48, 2) := by decide +kernel
theorem dX4_scanNumber_93 : decode cX4_scanNumber 93 = .ok (.if_icmp .ne 20, 3) := by decide +kernel
theorem dX4_scanNumber_96 : decode cX4_scanNumber 96 = .ok (.aload_n 0, 1) := by decide +kernel
theorem dX4_scanNumber_97 : decode cX4_scanNumber 97 = .ok (.getfield 15, 3) := by decide +kernel
theorem dX4_scanNumber_100 : decode cX4_scanNumber 100 = .ok (.aload_n 0, 1) := by decide +kernel
theorem dX4_scanNumber_101 : decode cX4_scanNumber 101 = .ok (.getfield 22, 3) := by decide +kernel
theorem dX4_scanNumber_104 : decode cX4_scanNumber 104 = .ok (.isub, 1) := by decide +kernel
theorem dX4_scanNumber_105 : decode cX4_scanNumber 105 = .ok (.iconst 1, 1) := by decide +kernel
theorem dX4_scanNumber_106 : decode cX4_scanNumber 106 = .ok (.if_icmp .le 7, 3) := by decide +kernel
theorem dX4_scanNumber_109 : decode cX4_scanNumber 109 = .ok (.iconst 1, 1) := by decide +kernel
theorem dX4_scanNumber_110 : decode cX4_scanNumber 110 = .ok (.goto 4, 3) := by decide +kernel
theorem dX4_scanNumber_113 : decode cX4_scanNumber 113 = .ok (.iconst 0, 1) := by decide +kernel
theorem dX4_scanNumber_114 : decode cX4_scanNumber 114 = .ok (.istore_n 1, 1) := by decide +kernel
theorem dX4_scanNumber_115 : decode cX4_scanNumber 115 = .ok (.aload_n 0, 1) := by decide +kernel
theorem dX4_scanNumber_116 : decode cX4_scanNumber 116 = .ok (.getfield 25, 3) := by decide +kernel
theorem dX4_scanNumber_119 : decode cX4_scanNumber 119 = .ok (.bipush 99, 2) := by decide +kernel
theorem dX4_scanNumber_121 : decode cX4_scanNumber 121 = .ok (.if_icmp .gt 7, 3) := by decide +kernel
theorem dX4_scanNumber_124 : decode cX4_scanNumber 124 = .ok (.iload_n 1, 1) := by decide +kernel
theorem dX4_scanNumber_125 : decode cX4_scanNumber 125 = .ok (.ifCond .eq 8, 3) := by decide +kernel
theorem dX4_scanNumber_128 : decode cX4_scanNumber 128 = .ok (.bipush 14, 2) := by decide +kernel
theorem dX4_scanNumber_130 : decode cX4_scanNumber 130 = .ok (.goto 5, 3) := by decide +kernel
theorem dX4_scanNumber_133 : decode cX4_scanNumber 133 = .ok (.bipush 11, 2) := by decide +kernel
theorem dX4_scanNumber_135 : decode cX4_scanNumber 135 = .ok (.ireturn, 1) := by decide +kernel
theorem dX4_isLetter_0 : decode cX4_isLetter 0 = .ok (.iload_n 0, 1) := by decide +kernel
theorem dX4_isLetter_1 : decode cX4_isLetter 1 = .ok (.bipush 97, 2) := by decide +kernel
theorem dX4_isLetter_3 : decode cX4_isLetter 3 = .ok (.if_icmp .lt 13, 3) := by decide +kernel
theorem dX4_isLetter_6 : decode cX4_isLetter 6 = .ok (.iload_n 0, 1) := by decide +kernel
theorem dX4_isLetter_7 : decode cX4_isLetter 7 = .ok (.bipush 122, 2) := by decide +kernel
theorem dX4_isLetter_9 : decode cX4_isLetter 9 = .ok (.if_icmp .gt 7, 3) := by decide +kernel
theorem dX4_isLetter_12 : decode cX4_isLetter 12 = .ok (.iconst 1, 1) := by decide +kernel
theorem dX4_isLetter_13 : decode cX4_isLetter 13 = .ok (.goto 4, 3) := by decide +kernel
theorem dX4_isLetter_16 : decode cX4_isLetter 16 = .ok (.iconst 0, 1) := by decide +kernel
theorem dX4_isLetter_17 : decode cX4_isLetter 17 = .ok (.ireturn, 1) := by decide +kernel
theorem dX4_isDigit_0 : decode cX4_isDigit 0 = .ok (.iload_n 0, 1) := by decide +kernel
theorem dX4_isDigit_1 : decode cX4_isDigit 1 = .ok (.bipush 48, 2) := by decide +kernel
theorem dX4_isDigit_3 : decode cX4_isDigit 3 = .ok (.if_icmp .lt 13, 3) := by decide +kernel
theorem dX4_isDigit_6 : decode cX4_isDigit 6 = .ok (.iload_n 0, 1) := by decide +kernel
theorem dX4_isDigit_7 : decode cX4_isDigit 7 = .ok (.bipush 57, 2) := by decide +kernel
theorem dX4_isDigit_9 : decode cX4_isDigit 9 = .ok (.if_icmp .gt 7, 3) := by decide +kernel
theorem dX4_isDigit_12 : decode cX4_isDigit 12 = .ok (.iconst 1, 1) := by decide +kernel
theorem dX4_isDigit_13 : decode cX4_isDigit 13 = .ok (.goto 4, 3) := by decide +kernel
theorem dX4_isDigit_16 : decode cX4_isDigit 16 = .ok (.iconst 0, 1) := by decide +kernel
theorem dX4_isDigit_17 : decode cX4_isDigit 17 = .ok (.ireturn, 1) := by decide +kernel
theorem dX4_spelling_0 : decode cX4_spelling 0 = .ok (.iload_n 0, 1) := by decide +kernel
theorem dX4_spelling_1 : decode cX4_spelling 1 = .ok (.tableswitch 92 0 10 #[59, 62, 65, 68, 71, 74, 77, 80, 83, 86, 89], 59) := by decide +kernel
theorem dX4_spelling_60 : decode cX4_spelling 60 = .ok (.ldc 132, 2) := by decide +kernel
theorem dX4_spelling_62 : decode cX4_spelling 62 = .ok (.areturn, 1) := by decide +kernel
theorem dX4_spelling_63 : decode cX4_spelling 63 = .ok (.ldc 133, 2) := by decide +kernel
theorem dX4_spelling_65 : decode cX4_spelling 65 = .ok (.areturn, 1) := by decide +kernel
theorem dX4_spelling_66 : decode cX4_spelling 66 = .ok (.ldc 135, 2) := by decide +kernel
theorem dX4_spelling_68 : decode cX4_spelling 68 = .ok (.areturn, 1) := by decide +kernel
theorem dX4_spelling_69 : decode cX4_spelling 69 = .ok (.ldc 137, 2) := by decide +kernel
theorem dX4_spelling_71 : decode cX4_spelling 71 = .ok (.areturn, 1) := by decide +kernel
theorem dX4_spelling_72 : decode cX4_spelling 72 = .ok (.ldc 139, 2) := by decide +kernel
theorem dX4_spelling_74 : decode cX4_spelling 74 = .ok (.areturn, 1) := by decide +kernel
theorem dX4_spelling_75 : decode cX4_spelling 75 = .ok (.ldc 141, 2) := by decide +kernel
theorem dX4_spelling_77 : decode cX4_spelling 77 = .ok (.areturn, 1) := by decide +kernel
theorem dX4_spelling_78 : decode cX4_spelling 78 = .ok (.ldc 143, 2) := by decide +kernel
theorem dX4_spelling_80 : decode cX4_spelling 80 = .ok (.areturn, 1) := by decide +kernel
theorem dX4_spelling_81 : decode cX4_spelling 81 = .ok (.ldc 145, 2) := by decide +kernel
theorem dX4_spelling_83 : decode cX4_spelling 83 = .ok (.areturn, 1) := by decide +kernel
theorem dX4_spelling_84 : decode cX4_spelling 84 = .ok (.ldc 147, 2) := by decide +kernel
theorem dX4_spelling_86 : decode cX4_spelling 86 = .ok (.areturn, 1) := by decide +kernel
theorem dX4_spelling_87 : decode cX4_spelling 87 = .ok (.ldc 149, 2) := by decide +kernel
theorem dX4_spelling_89 : decode cX4_spelling 89 = .ok (.areturn, 1) := by decide +kernel
theorem dX4_spelling_90 : decode cX4_spelling 90 = .ok (.ldc 151, 2) := by decide +kernel
theorem dX4_spelling_92 : decode cX4_spelling 92 = .ok (.areturn, 1) := by decide +kernel
theorem dX4_spelling_93 : decode cX4_spelling 93 = .ok (.ldc 153, 2) := by decide +kernel
theorem dX4_spelling_95 : decode cX4_spelling 95 = .ok (.areturn, 1) := by decide +kernel
theorem dX5_init_0 : decode cX5_init 0 = .ok (.aload_n 0, 1) := by decide +kernel
theorem dX5_init_1 : decode cX5_init 1 = .ok (.invokespecial 3, 3) := by decide +kernel
theorem dX5_init_4 : decode cX5_init 4 = .ok (.aload_n 0, 1) := by decide +kernel
theorem dX5_init_5 : decode cX5_init 5 = .ok (.bipush 8, 2) := by decide +kernel
theorem dX5_init_7 : decode cX5_init 7 = .ok (.newarray .int, 2) := by decide +kernel
theorem dX5_init_9 : decode cX5_init 9 = .ok (.putfield 9, 3) := by decide +kernel
theorem dX5_init_12 : decode cX5_init 12 = .ok (.aload_n 0, 1) := by decide +kernel
theorem dX5_init_13 : decode cX5_init 13 = .ok (.iconst 5, 1) := by decide +kernel
theorem dX5_init_14 : decode cX5_init 14 = .ok (.newarray .int, 2) := by decide +kernel
theorem dX5_init_16 : decode cX5_init 16 = .ok (.putfield 15, 3) := by decide +kernel
theorem dX5_init_19 : decode cX5_init 19 = .ok (.aload_n 0, 1) := by decide +kernel
theorem dX5_init_20 : decode cX5_init 20 = .ok (.bipush 8, 2) := by decide +kernel
theorem dX5_init_22 : decode cX5_init 22 = .ok (.newarray .int, 2) := by decide +kernel
theorem dX5_init_24 : decode cX5_init 24 = .ok (.putfield 18, 3) := by decide +kernel
theorem dX5_init_27 : decode cX5_init 27 = .ok (.aload_n 0, 1) := by decide +kernel
theorem dX5_init_28 : decode cX5_init 28 = .ok (.bipush 8, 2) := by decide +kernel
theorem dX5_init_30 : decode cX5_init 30 = .ok (.newarray .int, 2) := by decide +kernel
theorem dX5_init_32 : decode cX5_init 32 = .ok (.putfield 21, 3) := by decide +kernel
theorem dX5_init_35 : decode cX5_init 35 = .ok (.aload_n 0, 1) := by decide +kernel
theorem dX5_init_36 : decode cX5_init 36 = .ok (.bipush 8, 2) := by decide +kernel
theorem dX5_init_38 : decode cX5_init 38 = .ok (.bipush 8, 2) := by decide +kernel
theorem dX5_init_40 : decode cX5_init 40 = .ok (.multianewarray 24 2, 4) := by decide +kernel
theorem dX5_init_44 : decode cX5_init 44 = .ok (.putfield 26, 3) := by decide +kernel
theorem dX5_init_47 : decode cX5_init 47 = .ok (.aload_n 0, 1) := by decide +kernel
theorem dX5_init_48 : decode cX5_init 48 = .ok (.iconst 4, 1) := by decide +kernel
theorem dX5_init_49 : decode cX5_init 49 = .ok (.putfield 29, 3) := by decide +kernel
theorem dX5_init_52 : decode cX5_init 52 = .ok (.return_, 1) := by decide +kernel
theorem dX5_reset_0 : decode cX5_reset 0 = .ok (.aload_n 0, 1) := by decide +kernel
theorem dX5_reset_1 : decode cX5_reset 1 = .ok (.iconst 4, 1) := by decide +kernel
theorem dX5_reset_2 : decode cX5_reset 2 = .ok (.putfield 29, 3) := by decide +kernel
theorem dX5_reset_5 : decode cX5_reset 5 = .ok (.iconst 0, 1) := by decide +kernel
theorem dX5_reset_6 : decode cX5_reset 6 = .ok (.istore_n 1, 1) := by decide +kernel
theorem dX5_reset_7 : decode cX5_reset 7 = .ok (.iload_n 1, 1) := by decide +kernel
theorem dX5_reset_8 : decode cX5_reset 8 = .ok (.iconst 5, 1) := by decide +kernel
theorem dX5_reset_9 : decode cX5_reset 9 = .ok (.if_icmp .ge 16, 3) := by decide +kernel
theorem dX5_reset_12 : decode cX5_reset 12 = .ok (.aload_n 0, 1) := by decide +kernel
theorem dX5_reset_13 : decode cX5_reset 13 = .ok (.getfield 15, 3) := by decide +kernel
theorem dX5_reset_16 : decode cX5_reset 16 = .ok (.iload_n 1, 1) := by decide +kernel
theorem dX5_reset_17 : decode cX5_reset 17 = .ok (.iconst 0, 1) := by decide +kernel
theorem dX5_reset_18 : decode cX5_reset 18 = .ok (.iastore, 1) := by decide +kernel
theorem dX5_reset_19 : decode cX5_reset 19 = .ok (.iinc 1 1, 3) := by decide +kernel
theorem dX5_reset_22 : decode cX5_reset 22 = .ok (.goto (-15), 3) := by decide +kernel
theorem dX5_reset_25 : decode cX5_reset 25 = .ok (.iconst 0, 1) := by decide +kernel
theorem dX5_reset_26 : decode cX5_reset 26 = .ok (.istore_n 1, 1) := by decide +kernel
theorem dX5_reset_27 : decode cX5_reset 27 = .ok (.iload_n 1, 1) := by decide +kernel
theorem dX5_reset_28 : decode cX5_reset 28 = .ok (.bipush 8, 2) := by decide +kernel
theorem dX5_reset_30 : decode cX5_reset 30 = .ok (.if_icmp .ge 53, 3) := by decide +kernel
theorem dX5_reset_33 : decode cX5_reset 33 = .ok (.aload_n 0, 1) := by decide +kernel
theorem dX5_reset_34 : decode cX5_reset 34 = .ok (.getfield 9, 3) := by decide +kernel
theorem dX5_reset_37 : decode cX5_reset 37 = .ok (.iload_n 1, 1) := by decide +kernel
theorem dX5_reset_38 : decode cX5_reset 38 = .ok (.iconst 0, 1) := by decide +kernel
theorem dX5_reset_39 : decode cX5_reset 39 = .ok (.iastore, 1) := by decide +kernel
theorem dX5_reset_40 : decode cX5_reset 40 = .ok (.aload_n 0, 1) := by decide +kernel
theorem dX5_reset_41 : decode cX5_reset 41 = .ok (.getfield 18, 3) := by decide +kernel
theorem dX5_reset_44 : decode cX5_reset 44 = .ok (.iload_n 1, 1) := by decide +kernel
theorem dX5_reset_45 : decode cX5_reset 45 = .ok (.iconst 0, 1) := by decide +kernel
theorem dX5_reset_46 : decode cX5_reset 46 = .ok (.iastore, 1) := by decide +kernel
theorem dX5_reset_47 : decode cX5_reset 47 = .ok (.aload_n 0, 1) := by decide +kernel
theorem dX5_reset_48 : decode cX5_reset 48 = .ok (.getfield 21, 3) := by decide +kernel
theorem dX5_reset_51 : decode cX5_reset 51 = .ok (.iload_n 1, 1) := by decide +kernel
theorem dX5_reset_52 : decode cX5_reset 52 = .ok (.iconst 0, 1) := by decide +kernel
theorem dX5_reset_53 : decode cX5_reset 53 = .ok (.iastore, 1) := by decide +kernel
theorem dX5_reset_54 : decode cX5_reset 54 = .ok (.iconst 0, 1) := by decide +kernel
theorem dX5_reset_55 : decode cX5_reset 55 = .ok (.istore_n 2, 1) := by decide +kernel
theorem dX5_reset_56 : decode cX5_reset 56 = .ok (.iload_n 2, 1) := by decide +kernel
theorem dX5_reset_57 : decode cX5_reset 57 = .ok (.bipush 8, 2) := by decide +kernel
theorem dX5_reset_59 : decode cX5_reset 59 = .ok (.if_icmp .ge 18, 3) := by decide +kernel
theorem dX5_reset_62 : decode cX5_reset 62 = .ok (.aload_n 0, 1) := by decide +kernel
theorem dX5_reset_63 : decode cX5_reset 63 = .ok (.getfield 26, 3) := by decide +kernel
theorem dX5_reset_66 : decode cX5_reset 66 = .ok (.iload_n 1, 1) := by decide +kernel
theorem dX5_reset_67 : decode cX5_reset 67 = .ok (.aaload, 1) := by decide +kernel
theorem dX5_reset_68 : decode cX5_reset 68 = .ok (.iload_n 2, 1) := by decide +kernel
theorem dX5_reset_69 : decode cX5_reset 69 = .ok (.iconst 0, 1) := by decide +kernel
theorem dX5_reset_70 : decode cX5_reset 70 = .ok (.iastore, 1) := by decide +kernel
theorem dX5_reset_71 : decode cX5_reset 71 = .ok (.iinc 2 1, 3) := by decide +kernel
theorem dX5_reset_74 : decode cX5_reset 74 = .ok (.goto (-18), 3) := by decide +kernel
theorem dX5_reset_77 : decode cX5_reset 77 = .ok (.iinc 1 1, 3) := by decide +kernel
theorem dX5_reset_80 : decode cX5_reset 80 = .ok (.goto (-53), 3) := by decide +kernel
theorem dX5_reset_83 : decode cX5_reset 83 = .ok (.return_, 1) := by decide +kernel
theorem dX5_guests_0 : decode cX5_guests 0 = .ok (.aload_n 0, 1) := by decide +kernel
theorem dX5_guests_1 : decode cX5_guests 1 = .ok (.getfield 29, 3) := by decide +kernel
theorem dX5_guests_4 : decode cX5_guests 4 = .ok (.ireturn, 1) := by decide +kernel
theorem dX5_setGuests_0 : decode cX5_setGuests 0 = .ok (.iload_n 1, 1) := by decide +kernel
theorem dX5_setGuests_1 : decode cX5_setGuests 1 = .ok (.iconst 1, 1) := by decide +kernel
theorem dX5_setGuests_2 : decode cX5_setGuests 2 = .ok (.if_icmp .lt 14, 3) := by decide +kernel
theorem dX5_setGuests_5 : decode cX5_setGuests 5 = .ok (.iload_n 1, 1) := by decide +kernel
theorem dX5_setGuests_6 : decode cX5_setGuests 6 = .ok (.bipush 8, 2) := by decide +kernel
theorem dX5_setGuests_8 : decode cX5_setGuests 8 = .ok (.if_icmp .gt 8, 3) := by decide +kernel
theorem dX5_setGuests_11 : decode cX5_setGuests 11 = .ok (.aload_n 0, 1) := by decide +kernel
theorem dX5_setGuests_12 : decode cX5_setGuests 12 = .ok (.iload_n 1, 1) := by decide +kernel
theorem dX5_setGuests_13 : decode cX5_setGuests 13 = .ok (.putfield 29, 3) := by decide +kernel
theorem dX5_setGuests_16 : decode cX5_setGuests 16 = .ok (.return_, 1) := by decide +kernel
set_option maxRecDepth 20000 in
theorem ggX5_hatOf_X5_isOne : GoodIn wsX5_hatOf wsX5_isOne := goodIn_r _ [5] (by decide +kernel) (by decide +kernel)
set_option maxRecDepth 20000 in
theorem gX5_hatOf_X5_isOne : GoodIn wsX5_hatOf (va_wsS RX5 33 yX5_isOne wsX5_isOne) := goodIn_app (goodIn_of _ (by decide +kernel)) ggX5_hatOf_X5_isOne
theorem dX5_hatOf_0 : decode cX5_hatOf 0 = .ok (.iload_n 1, 1) := by decide +kernel
theorem dX5_hatOf_1 : decode cX5_hatOf 1 = .ok (.invokestatic 33, 3) := by decide +kernel
theorem dX5_hatOf_4 : decode cX5_hatOf 4 = .ok (.ifCond .eq 12, 3) := by decide +kernel
theorem dX5_hatOf_7 : decode cX5_hatOf 7 = .ok (.aload_n 0, 1) := by decide +kernel
theorem dX5_hatOf_8 : decode cX5_hatOf 8 = .ok (.getfield 9, 3) := by decide +kernel
theorem dX5_hatOf_11 : decode cX5_hatOf 11 = .ok (.iload_n 1, 1) := by decide +kernel
theorem dX5_hatOf_12 : decode cX5_hatOf 12 = .ok (.iaload, 1) := by decide +kernel
theorem dX5_hatOf_13 : decode cX5_hatOf 13 = .ok (.goto 4, 3) := by decide +kernel
theorem dX5_hatOf_16 : decode cX5_hatOf 16 = .ok (.iconst 0, 1) := by decide +kernel
theorem dX5_hatOf_17 : decode cX5_hatOf 17 = .ok (.ireturn, 1) := by decide +kernel
set_option maxRecDepth 20000 in
theorem ggX5_setHat_X5_isOne : GoodIn wsX5_setHat wsX5_isOne := goodIn_r _ [5] (by decide +kernel) (by decide +kernel)
set_option maxRecDepth 20000 in
theorem gX5_setHat_X5_isOne : GoodIn wsX5_setHat (va_wsS RX5 33 yX5_isOne wsX5_isOne) := goodIn_app (goodIn_of _ (by decide +kernel)) ggX5_setHat_X5_isOne
theorem dX5_setHat_0 : decode cX5_setHat 0 = .ok (.iload_n 1, 1) := by decide +kernel
theorem dX5_setHat_1 : decode cX5_setHat 1 = .ok (.invokestatic 33, 3) := by decide +kernel
theorem dX5_setHat_4 : decode cX5_setHat 4 = .ok (.ifCond .eq 10, 3) := by decide +kernel
theorem dX5_setHat_7 : decode cX5_setHat 7 = .ok (.aload_n 0, 1) := by decide +kernel
theorem dX5_setHat_8 : decode cX5_setHat 8 = .ok (.getfield 9, 3) := by decide +kernel
theorem dX5_setHat_11 : decode cX5_setHat 11 = .ok (.iload_n 1, 1) := by decide +kernel
theorem dX5_setHat_12 : decode cX5_setHat 12 = .ok (.iload_n 2, 1) := by decide +kernel
theorem dX5_setHat_13 : decode cX5_setHat 13 = .ok (.iastore, 1) := by decide +kernel
theorem dX5_setHat_14 : decode cX5_setHat 14 = .ok (.return_, 1) := by decide +kernel
theorem dX5_lawOf_0 : decode cX5_lawOf 0 = .ok (.iload_n 1, 1) := by decide +kernel
theorem dX5_lawOf_1 : decode cX5_lawOf 1 = .ok (.ifCond .lt 17, 3) := by decide +kernel
theorem dX5_lawOf_4 : decode cX5_lawOf 4 = .ok (.iload_n 1, 1) := by decide +kernel
theorem dX5_lawOf_5 : decode cX5_lawOf 5 = .ok (.iconst 5, 1) := by decide +kernel
theorem dX5_lawOf_6 : decode cX5_lawOf 6 = .ok (.if_icmp .ge 12, 3) := by decide +kernel
theorem dX5_lawOf_9 : decode cX5_lawOf 9 = .ok (.aload_n 0, 1) := by decide +kernel
theorem dX5_lawOf_10 : decode cX5_lawOf 10 = .ok (.getfield 15, 3) := by decide +kernel
theorem dX5_lawOf_13 : decode cX5_lawOf 13 = .ok (.iload_n 1, 1) := by decide +kernel
theorem dX5_lawOf_14 : decode cX5_lawOf 14 = .ok (.iaload, 1) := by decide +kernel
theorem dX5_lawOf_15 : decode cX5_lawOf 15 = .ok (.goto 4, 3) := by decide +kernel
theorem dX5_lawOf_18 : decode cX5_lawOf 18 = .ok (.iconst 0, 1) := by decide +kernel
theorem dX5_lawOf_19 : decode cX5_lawOf 19 = .ok (.ireturn, 1) := by decide +kernel
theorem dX5_setLaw_0 : decode cX5_setLaw 0 = .ok (.iload_n 1, 1) := by decide +kernel
theorem dX5_setLaw_1 : decode cX5_setLaw 1 = .ok (.ifCond .lt 15, 3) := by decide +kernel
theorem dX5_setLaw_4 : decode cX5_setLaw 4 = .ok (.iload_n 1, 1) := by decide +kernel
theorem dX5_setLaw_5 : decode cX5_setLaw 5 = .ok (.iconst 5, 1) := by decide +kernel
theorem dX5_setLaw_6 : decode cX5_setLaw 6 = .ok (.if_icmp .ge 10, 3) := by decide +kernel
theorem dX5_setLaw_9 : decode cX5_setLaw 9 = .ok (.aload_n 0, 1) := by decide +kernel
theorem dX5_setLaw_10 : decode cX5_setLaw 10 = .ok (.getfield 15, 3) := by decide +kernel
theorem dX5_setLaw_13 : decode cX5_setLaw 13 = .ok (.iload_n 1, 1) := by decide +kernel
theorem dX5_setLaw_14 : decode cX5_setLaw 14 = .ok (.iload_n 2, 1) := by decide +kernel
theorem dX5_setLaw_15 : decode cX5_setLaw 15 = .ok (.iastore, 1) := by decide +kernel
theorem dX5_setLaw_16 : decode cX5_setLaw 16 = .ok (.return_, 1) := by decide +kernel
set_option maxRecDepth 20000 in
theorem ggX5_areTogether_X5_isOne : GoodIn wsX5_areTogether wsX5_isOne := goodIn_r _ [5] (by decide +kernel) (by decide +kernel)
set_option maxRecDepth 20000 in
theorem gX5_areTogether_X5_isOne : GoodIn wsX5_areTogether (va_wsS RX5 33 yX5_isOne wsX5_isOne) := goodIn_app (goodIn_of _ (by decide +kernel)) ggX5_areTogether_X5_isOne
theorem dX5_areTogether_0 : decode cX5_areTogether 0 = .ok (.iload_n 1, 1) := by decide +kernel
theorem dX5_areTogether_1 : decode cX5_areTogether 1 = .ok (.invokestatic 33, 3) := by decide +kernel
theorem dX5_areTogether_4 : decode cX5_areTogether 4 = .ok (.ifCond .eq 20, 3) := by decide +kernel
theorem dX5_areTogether_7 : decode cX5_areTogether 7 = .ok (.aload_n 0, 1) := by decide +kernel
theorem dX5_areTogether_8 : decode cX5_areTogether 8 = .ok (.getfield 18, 3) := by decide +kernel
theorem dX5_areTogether_11 : decode cX5_areTogether 11 = .ok (.iload_n 1, 1) := by decide +kernel
theorem dX5_areTogether_12 : decode cX5_areTogether 12 = .ok (.iaload, 1) := by decide +kernel
theorem dX5_areTogether_13 : decode cX5_areTogether 13 = .ok (.iconst 1, 1) := by decide +kernel
theorem dX5_areTogether_14 : decode cX5_areTogether 14 = .ok (.iload_n 2, 1) := by decide +kernel
theorem dX5_areTogether_15 : decode cX5_areTogether 15 = .ok (.ishl, 1) := by decide +kernel
theorem dX5_areTogether_16 : decode cX5_areTogether 16 = .ok (.iand, 1) := by decide +kernel
theorem dX5_areTogether_17 : decode cX5_areTogether 17 = .ok (.ifCond .eq 7, 3) := by decide +kernel
theorem dX5_areTogether_20 : decode cX5_areTogether 20 = .ok (.iconst 1, 1) := by decide +kernel
theorem dX5_areTogether_21 : decode cX5_areTogether 21 = .ok (.goto 4, 3) := by decide +kernel
theorem dX5_areTogether_24 : decode cX5_areTogether 24 = .ok (.iconst 0, 1) := by decide +kernel
theorem dX5_areTogether_25 : decode cX5_areTogether 25 = .ok (.ireturn, 1) := by decide +kernel
set_option maxRecDepth 20000 in
theorem ggX5_putTogether_X5_isOne : GoodIn wsX5_putTogether wsX5_isOne := goodIn_r _ [5] (by decide +kernel) (by decide +kernel)
set_option maxRecDepth 20000 in
theorem gX5_putTogether_X5_isOne : GoodIn wsX5_putTogether (va_wsS RX5 33 yX5_isOne wsX5_isOne) := goodIn_app (goodIn_of _ (by decide +kernel)) ggX5_putTogether_X5_isOne
theorem dX5_putTogether_0 : decode cX5_putTogether 0 = .ok (.iload_n 1, 1) := by decide +kernel
theorem dX5_putTogether_1 : decode cX5_putTogether 1 = .ok (.invokestatic 33, 3) := by decide +kernel
theorem dX5_putTogether_4 : decode cX5_putTogether 4 = .ok (.ifCond .eq 34, 3) := by decide +kernel
theorem dX5_putTogether_7 : decode cX5_putTogether 7 = .ok (.iload_n 2, 1) := by decide +kernel
theorem dX5_putTogether_8 : decode cX5_putTogether 8 = .ok (.invokestatic 33, 3) := by decide +kernel
theorem dX5_putTogether_11 : decode cX5_putTogether 11 = .ok (.ifCond .eq 27, 3) := by decide +kernel
theorem dX5_putTogether_14 : decode cX5_putTogether 14 = .ok (.aload_n 0, 1) := by decide +kernel
theorem dX5_putTogether_15 : decode cX5_putTogether 15 = .ok (.getfield 18, 3) := by decide +kernel
theorem dX5_putTogether_18 : decode cX5_putTogether 18 = .ok (.iload_n 1, 1) := by decide +kernel
theorem dX5_putTogether_19 : decode cX5_putTogether 19 = .ok (.dup2, 1) := by decide +kernel
theorem dX5_putTogether_20 : decode cX5_putTogether 20 = .ok (.iaload, 1) := by decide +kernel
theorem dX5_putTogether_21 : decode cX5_putTogether 21 = .ok (.iconst 1, 1) := by decide +kernel
theorem dX5_putTogether_22 : decode cX5_putTogether 22 = .ok (.iload_n 2, 1) := by decide +kernel
theorem dX5_putTogether_23 : decode cX5_putTogether 23 = .ok (.ishl, 1) := by decide +kernel
theorem dX5_putTogether_24 : decode cX5_putTogether 24 = .ok (.ior, 1) := by decide +kernel
theorem dX5_putTogether_25 : decode cX5_putTogether 25 = .ok (.iastore, 1) := by decide +kernel
theorem dX5_putTogether_26 : decode cX5_putTogether 26 = .ok (.aload_n 0, 1) := by decide +kernel
theorem dX5_putTogether_27 : decode cX5_putTogether 27 = .ok (.getfield 18, 3) := by decide +kernel
theorem dX5_putTogether_30 : decode cX5_putTogether 30 = .ok (.iload_n 2, 1) := by decide +kernel
theorem dX5_putTogether_31 : decode cX5_putTogether 31 = .ok (.dup2, 1) := by decide +kernel
theorem dX5_putTogether_32 : decode cX5_putTogether 32 = .ok (.iaload, 1) := by decide +kernel
theorem dX5_putTogether_33 : decode cX5_putTogether 33 = .ok (.iconst 1, 1) := by decide +kernel
theorem dX5_putTogether_34 : decode cX5_putTogether 34 = .ok (.iload_n 1, 1) := by decide +kernel
theorem dX5_putTogether_35 : decode cX5_putTogether 35 = .ok (.ishl, 1) := by decide +kernel
theorem dX5_putTogether_36 : decode cX5_putTogether 36 = .ok (.ior, 1) := by decide +kernel
theorem dX5_putTogether_37 : decode cX5_putTogether 37 = .ok (.iastore, 1) := by decide +kernel
theorem dX5_putTogether_38 : decode cX5_putTogether 38 = .ok (.return_, 1) := by decide +kernel
set_option maxRecDepth 20000 in
theorem ggX5_areApart_X5_isOne : GoodIn wsX5_areApart wsX5_isOne := goodIn_r _ [5] (by decide +kernel) (by decide +kernel)
set_option maxRecDepth 20000 in
theorem gX5_areApart_X5_isOne : GoodIn wsX5_areApart (va_wsS RX5 33 yX5_isOne wsX5_isOne) := goodIn_app (goodIn_of _ (by decide +kernel)) ggX5_areApart_X5_isOne
theorem dX5_areApart_0 : decode cX5_areApart 0 = .ok (.iload_n 1, 1) := by decide +kernel
theorem dX5_areApart_1 : decode cX5_areApart 1 = .ok (.invokestatic 33, 3) := by decide +kernel
theorem dX5_areApart_4 : decode cX5_areApart 4 = .ok (.ifCond .eq 20, 3) := by decide +kernel
theorem dX5_areApart_7 : decode cX5_areApart 7 = .ok (.aload_n 0, 1) := by decide +kernel
theorem dX5_areApart_8 : decode cX5_areApart 8 = .ok (.getfield 21, 3) := by decide +kernel
theorem dX5_areApart_11 : decode cX5_areApart 11 = .ok (.iload_n 1, 1) := by decide +kernel
theorem dX5_areApart_12 : decode cX5_areApart 12 = .ok (.iaload, 1) := by decide +kernel
theorem dX5_areApart_13 : decode cX5_areApart 13 = .ok (.iconst 1, 1) := by decide +kernel
theorem dX5_areApart_14 : decode cX5_areApart 14 = .ok (.iload_n 2, 1) := by decide +kernel
theorem dX5_areApart_15 : decode cX5_areApart 15 = .ok (.ishl, 1) := by decide +kernel
theorem dX5_areApart_16 : decode cX5_areApart 16 = .ok (.iand, 1) := by decide +kernel
theorem dX5_areApart_17 : decode cX5_areApart 17 = .ok (.ifCond .eq 7, 3) := by decide +kernel
theorem dX5_areApart_20 : decode cX5_areApart 20 = .ok (.iconst 1, 1) := by decide +kernel
theorem dX5_areApart_21 : decode cX5_areApart 21 = .ok (.goto 4, 3) := by decide +kernel
theorem dX5_areApart_24 : decode cX5_areApart 24 = .ok (.iconst 0, 1) := by decide +kernel
theorem dX5_areApart_25 : decode cX5_areApart 25 = .ok (.ireturn, 1) := by decide +kernel
set_option maxRecDepth 20000 in
theorem ggX5_putApart_X5_isOne : GoodIn wsX5_putApart wsX5_isOne := goodIn_r _ [5] (by decide +kernel) (by decide +kernel)
set_option maxRecDepth 20000 in
theorem gX5_putApart_X5_isOne : GoodIn wsX5_putApart (va_wsS RX5 33 yX5_isOne wsX5_isOne) := goodIn_app (goodIn_of _ (by decide +kernel)) ggX5_putApart_X5_isOne
theorem dX5_putApart_0 : decode cX5_putApart 0 = .ok (.iload_n 1, 1) := by decide +kernel
theorem dX5_putApart_1 : decode cX5_putApart 1 = .ok (.invokestatic 33, 3) := by decide +kernel
theorem dX5_putApart_4 : decode cX5_putApart 4 = .ok (.ifCond .eq 34, 3) := by decide +kernel
theorem dX5_putApart_7 : decode cX5_putApart 7 = .ok (.iload_n 2, 1) := by decide +kernel
theorem dX5_putApart_8 : decode cX5_putApart 8 = .ok (.invokestatic 33, 3) := by decide +kernel
theorem dX5_putApart_11 : decode cX5_putApart 11 = .ok (.ifCond .eq 27, 3) := by decide +kernel
theorem dX5_putApart_14 : decode cX5_putApart 14 = .ok (.aload_n 0, 1) := by decide +kernel
theorem dX5_putApart_15 : decode cX5_putApart 15 = .ok (.getfield 21, 3) := by decide +kernel
theorem dX5_putApart_18 : decode cX5_putApart 18 = .ok (.iload_n 1, 1) := by decide +kernel
theorem dX5_putApart_19 : decode cX5_putApart 19 = .ok (.dup2, 1) := by decide +kernel
theorem dX5_putApart_20 : decode cX5_putApart 20 = .ok (.iaload, 1) := by decide +kernel
theorem dX5_putApart_21 : decode cX5_putApart 21 = .ok (.iconst 1, 1) := by decide +kernel
theorem dX5_putApart_22 : decode cX5_putApart 22 = .ok (.iload_n 2, 1) := by decide +kernel
theorem dX5_putApart_23 : decode cX5_putApart 23 = .ok (.ishl, 1) := by decide +kernel
theorem dX5_putApart_24 : decode cX5_putApart 24 = .ok (.ior, 1) := by decide +kernel
theorem dX5_putApart_25 : decode cX5_putApart 25 = .ok (.iastore, 1) := by decide +kernel
theorem dX5_putApart_26 : decode cX5_putApart 26 = .ok (.aload_n 0, 1) := by decide +kernel
theorem dX5_putApart_27 : decode cX5_putApart 27 = .ok (.getfield 21, 3) := by decide +kernel
theorem dX5_putApart_30 : decode cX5_putApart 30 = .ok (.iload_n 2, 1) := by decide +kernel
theorem dX5_putApart_31 : decode cX5_putApart 31 = .ok (.dup2, 1) := by decide +kernel
theorem dX5_putApart_32 : decode cX5_putApart 32 = .ok (.iaload, 1) := by decide +kernel
theorem dX5_putApart_33 : decode cX5_putApart 33 = .ok (.iconst 1, 1) := by decide +kernel
theorem dX5_putApart_34 : decode cX5_putApart 34 = .ok (.iload_n 1, 1) := by decide +kernel
theorem dX5_putApart_35 : decode cX5_putApart 35 = .ok (.ishl, 1) := by decide +kernel
theorem dX5_putApart_36 : decode cX5_putApart 36 = .ok (.ior, 1) := by decide +kernel
theorem dX5_putApart_37 : decode cX5_putApart 37 = .ok (.iastore, 1) := by decide +kernel
theorem dX5_putApart_38 : decode cX5_putApart 38 = .ok (.return_, 1) := by decide +kernel
set_option maxRecDepth 20000 in
theorem ggX5_worthOf_X5_isOne : GoodIn wsX5_worthOf wsX5_isOne := goodIn_r _ [5] (by decide +kernel) (by decide +kernel)
set_option maxRecDepth 20000 in
theorem gX5_worthOf_X5_isOne : GoodIn wsX5_worthOf (va_wsS RX5 33 yX5_isOne wsX5_isOne) := goodIn_app (goodIn_of _ (by decide +kernel)) ggX5_worthOf_X5_isOne
theorem dX5_worthOf_0 : decode cX5_worthOf 0 = .ok (.iload_n 1, 1) := by decide +kernel
theorem dX5_worthOf_1 : decode cX5_worthOf 1 = .ok (.invokestatic 33, 3) := by decide +kernel
theorem dX5_worthOf_4 : decode cX5_worthOf 4 = .ok (.ifCond .eq 21, 3) := by decide +kernel
theorem dX5_worthOf_7 : decode cX5_worthOf 7 = .ok (.iload_n 2, 1) := by decide +kernel
theorem dX5_worthOf_8 : decode cX5_worthOf 8 = .ok (.invokestatic 33, 3) := by decide +kernel
theorem dX5_worthOf_11 : decode cX5_worthOf 11 = .ok (.ifCond .eq 14, 3) := by decide +kernel
theorem dX5_worthOf_14 : decode cX5_worthOf 14 = .ok (.aload_n 0, 1) := by decide +kernel
theorem dX5_worthOf_15 : decode cX5_worthOf 15 = .ok (.getfield 26, 3) := by decide +kernel
theorem dX5_worthOf_18 : decode cX5_worthOf 18 = .ok (.iload_n 1, 1) := by decide +kernel
theorem dX5_worthOf_19 : decode cX5_worthOf 19 = .ok (.aaload, 1) := by decide +kernel
theorem dX5_worthOf_20 : decode cX5_worthOf 20 = .ok (.iload_n 2, 1) := by decide +kernel
theorem dX5_worthOf_21 : decode cX5_worthOf 21 = .ok (.iaload, 1) := by decide +kernel
theorem dX5_worthOf_22 : decode cX5_worthOf 22 = .ok (.goto 4, 3) := by decide +kernel
theorem dX5_worthOf_25 : decode cX5_worthOf 25 = .ok (.iconst 0, 1) := by decide +kernel
theorem dX5_worthOf_26 : decode cX5_worthOf 26 = .ok (.ireturn, 1) := by decide +kernel
set_option maxRecDepth 20000 in
theorem ggX5_setWorth_X5_isOne : GoodIn wsX5_setWorth wsX5_isOne := goodIn_r _ [5] (by decide +kernel) (by decide +kernel)
set_option maxRecDepth 20000 in
theorem gX5_setWorth_X5_isOne : GoodIn wsX5_setWorth (va_wsS RX5 33 yX5_isOne wsX5_isOne) := goodIn_app (goodIn_of _ (by decide +kernel)) ggX5_setWorth_X5_isOne
theorem dX5_setWorth_0 : decode cX5_setWorth 0 = .ok (.iload_n 1, 1) := by decide +kernel
theorem dX5_setWorth_1 : decode cX5_setWorth 1 = .ok (.invokestatic 33, 3) := by decide +kernel
theorem dX5_setWorth_4 : decode cX5_setWorth 4 = .ok (.ifCond .eq 28, 3) := by decide +kernel
theorem dX5_setWorth_7 : decode cX5_setWorth 7 = .ok (.iload_n 2, 1) := by decide +kernel
theorem dX5_setWorth_8 : decode cX5_setWorth 8 = .ok (.invokestatic 33, 3) := by decide +kernel
theorem dX5_setWorth_11 : decode cX5_setWorth 11 = .ok (.ifCond .eq 21, 3) := by decide +kernel
theorem dX5_setWorth_14 : decode cX5_setWorth 14 = .ok (.aload_n 0, 1) := by decide +kernel
theorem dX5_setWorth_15 : decode cX5_setWorth 15 = .ok (.getfield 26, 3) := by decide +kernel
theorem dX5_setWorth_18 : decode cX5_setWorth 18 = .ok (.iload_n 1, 1) := by decide +kernel
theorem dX5_setWorth_19 : decode cX5_setWorth 19 = .ok (.aaload, 1) := by decide +kernel
theorem dX5_setWorth_20 : decode cX5_setWorth 20 = .ok (.iload_n 2, 1) := by decide +kernel
theorem dX5_setWorth_21 : decode cX5_setWorth 21 = .ok (.iload_n 3, 1) := by decide +kernel
theorem dX5_setWorth_22 : decode cX5_setWorth 22 = .ok (.iastore, 1) := by decide +kernel
theorem dX5_setWorth_23 : decode cX5_setWorth 23 = .ok (.aload_n 0, 1) := by decide +kernel
theorem dX5_setWorth_24 : decode cX5_setWorth 24 = .ok (.getfield 26, 3) := by decide +kernel
theorem dX5_setWorth_27 : decode cX5_setWorth 27 = .ok (.iload_n 2, 1) := by decide +kernel
theorem dX5_setWorth_28 : decode cX5_setWorth 28 = .ok (.aaload, 1) := by decide +kernel
theorem dX5_setWorth_29 : decode cX5_setWorth 29 = .ok (.iload_n 1, 1) := by decide +kernel
theorem dX5_setWorth_30 : decode cX5_setWorth 30 = .ok (.iload_n 3, 1) := by decide +kernel
theorem dX5_setWorth_31 : decode cX5_setWorth 31 = .ok (.iastore, 1) := by decide +kernel
theorem dX5_setWorth_32 : decode cX5_setWorth 32 = .ok (.return_, 1) := by decide +kernel
set_option maxRecDepth 20000 in
theorem ggX5_worthWith_X5_isOne : GoodIn wsX5_worthWith wsX5_isOne := goodIn_r _ [6] (by decide +kernel) (by decide +kernel)
set_option maxRecDepth 20000 in
theorem gX5_worthWith_X5_isOne : GoodIn wsX5_worthWith (va_wsS RX5 33 yX5_isOne wsX5_isOne) := goodIn_app (goodIn_of _ (by decide +kernel)) ggX5_worthWith_X5_isOne
theorem dX5_worthWith_0 : decode cX5_worthWith 0 = .ok (.iload_n 1, 1) := by decide +kernel
theorem dX5_worthWith_1 : decode cX5_worthWith 1 = .ok (.invokestatic 33, 3) := by decide +kernel
theorem dX5_worthWith_4 : decode cX5_worthWith 4 = .ok (.ifCond .ne 5, 3) := by decide +kernel
theorem dX5_worthWith_7 : decode cX5_worthWith 7 = .ok (.iconst 0, 1) := by decide +kernel
theorem dX5_worthWith_8 : decode cX5_worthWith 8 = .ok (.ireturn, 1) := by decide +kernel
theorem dX5_worthWith_9 : decode cX5_worthWith 9 = .ok (.iconst 0, 1) := by decide +kernel
theorem dX5_worthWith_10 : decode cX5_worthWith 10 = .ok (.istore_n 3, 1) := by decide +kernel
theorem dX5_worthWith_11 : decode cX5_worthWith 11 = .ok (.iconst 0, 1) := by decide +kernel
theorem dX5_worthWith_12 : decode cX5_worthWith 12 = .ok (.istore 4, 2) := by decide +kernel
theorem dX5_worthWith_14 : decode cX5_worthWith 14 = .ok (.iload 4, 2) := by decide +kernel
theorem dX5_worthWith_16 : decode cX5_worthWith 16 = .ok (.aload_n 0, 1) := by decide +kernel
theorem dX5_worthWith_17 : decode cX5_worthWith 17 = .ok (.getfield 29, 3) := by decide +kernel
theorem dX5_worthWith_20 : decode cX5_worthWith 20 = .ok (.if_icmp .ge 43, 3) := by decide +kernel
theorem dX5_worthWith_23 : decode cX5_worthWith 23 = .ok (.iload 4, 2) := by decide +kernel
theorem dX5_worthWith_25 : decode cX5_worthWith 25 = .ok (.bipush 8, 2) := by decide +kernel
theorem dX5_worthWith_27 : decode cX5_worthWith 27 = .ok (.if_icmp .ge 36, 3) := by decide +kernel
theorem dX5_worthWith_30 : decode cX5_worthWith 30 = .ok (.iload 4, 2) := by decide +kernel
theorem dX5_worthWith_32 : decode cX5_worthWith 32 = .ok (.iload_n 1, 1) := by decide +kernel
theorem dX5_worthWith_33 : decode cX5_worthWith 33 = .ok (.if_icmp .eq 24, 3) := by decide +kernel
theorem dX5_worthWith_36 : decode cX5_worthWith 36 = .ok (.iload_n 2, 1) := by decide +kernel
theorem dX5_worthWith_37 : decode cX5_worthWith 37 = .ok (.iconst 1, 1) := by decide +kernel
theorem dX5_worthWith_38 : decode cX5_worthWith 38 = .ok (.iload 4, 2) := by decide +kernel
theorem dX5_worthWith_40 : decode cX5_worthWith 40 = .ok (.ishl, 1) := by decide +kernel
theorem dX5_worthWith_41 : decode cX5_worthWith 41 = .ok (.iand, 1) := by decide +kernel
theorem dX5_worthWith_42 : decode cX5_worthWith 42 = .ok (.ifCond .eq 15, 3) := by decide +kernel
theorem dX5_worthWith_45 : decode cX5_worthWith 45 = .ok (.iload_n 3, 1) := by decide +kernel
theorem dX5_worthWith_46 : decode cX5_worthWith 46 = .ok (.aload_n 0, 1) := by decide +kernel
theorem dX5_worthWith_47 : decode cX5_worthWith 47 = .ok (.getfield 26, 3) := by decide +kernel
theorem dX5_worthWith_50 : decode cX5_worthWith 50 = .ok (.iload_n 1, 1) := by decide +kernel
theorem dX5_worthWith_51 : decode cX5_worthWith 51 = .ok (.aaload, 1) := by decide +kernel
theorem dX5_worthWith_52 : decode cX5_worthWith 52 = .ok (.iload 4, 2) := by decide +kernel
theorem dX5_worthWith_54 : decode cX5_worthWith 54 = .ok (.iaload, 1) := by decide +kernel
theorem dX5_worthWith_55 : decode cX5_worthWith 55 = .ok (.iadd, 1) := by decide +kernel
theorem dX5_worthWith_56 : decode cX5_worthWith 56 = .ok (.istore_n 3, 1) := by decide +kernel
theorem dX5_worthWith_57 : decode cX5_worthWith 57 = .ok (.iinc 4 1, 3) := by decide +kernel
theorem dX5_worthWith_60 : decode cX5_worthWith 60 = .ok (.goto (-46), 3) := by decide +kernel
theorem dX5_worthWith_63 : decode cX5_worthWith 63 = .ok (.iload_n 3, 1) := by decide +kernel
theorem dX5_worthWith_64 : decode cX5_worthWith 64 = .ok (.ireturn, 1) := by decide +kernel
set_option maxRecDepth 20000 in
theorem ggX5_worthOfAll_X7_partyOf : GoodIn wsX5_worthOfAll wsX7_partyOf := goodIn_r _ [6, 7, 8, 30, 31, 32, 33, 34] (by decide +kernel) (by decide +kernel)
set_option maxRecDepth 20000 in
theorem gX5_worthOfAll_X7_partyOf : GoodIn wsX5_worthOfAll (wsV RX5 37 RX7 yX7_partyOf wsX7_partyOf) := goodIn_app (goodIn_of _ (by decide +kernel)) ggX5_worthOfAll_X7_partyOf
set_option maxRecDepth 20000 in
theorem ggX5_worthOfAll_X7_setOf : GoodIn wsX5_worthOfAll wsX7_setOf := goodIn_r _ [12, 13, 14, 30, 31, 32, 33, 34] (by decide +kernel) (by decide +kernel)
set_option maxRecDepth 20000 in
theorem gX5_worthOfAll_X7_setOf : GoodIn wsX5_worthOfAll (wsV RX5 43 RX7 yX7_setOf wsX7_setOf) := goodIn_app (goodIn_of _ (by decide +kernel)) ggX5_worthOfAll_X7_setOf
set_option maxRecDepth 20000 in
theorem ggX5_worthOfAll_X5_worthWith : GoodIn wsX5_worthOfAll wsX5_worthWith := goodIn_r _ [19, 1, 20, 21, 22, 18, 23, 24, 25, 26, 27, 28, 29] (by decide +kernel) (by decide +kernel)
set_option maxRecDepth 20000 in
theorem gX5_worthOfAll_X5_worthWith : GoodIn wsX5_worthOfAll (wsV RX5 46 RX5 yX5_worthWith wsX5_worthWith) := goodIn_app (goodIn_of _ (by decide +kernel)) ggX5_worthOfAll_X5_worthWith
theorem dX5_worthOfAll_0 : decode cX5_worthOfAll 0 = .ok (.iconst 0, 1) := by decide +kernel
theorem dX5_worthOfAll_1 : decode cX5_worthOfAll 1 = .ok (.istore_n 2, 1) := by decide +kernel
theorem dX5_worthOfAll_2 : decode cX5_worthOfAll 2 = .ok (.iconst 0, 1) := by decide +kernel
theorem dX5_worthOfAll_3 : decode cX5_worthOfAll 3 = .ok (.istore_n 3, 1) := by decide +kernel
theorem dX5_worthOfAll_4 : decode cX5_worthOfAll 4 = .ok (.iload_n 3, 1) := by decide +kernel
theorem dX5_worthOfAll_5 : decode cX5_worthOfAll 5 = .ok (.aload_n 0, 1) := by decide +kernel
theorem dX5_worthOfAll_6 : decode cX5_worthOfAll 6 = .ok (.getfield 29, 3) := by decide +kernel
theorem dX5_worthOfAll_9 : decode cX5_worthOfAll 9 = .ok (.if_icmp .ge 26, 3) := by decide +kernel
theorem dX5_worthOfAll_12 : decode cX5_worthOfAll 12 = .ok (.iload_n 2, 1) := by decide +kernel
theorem dX5_worthOfAll_13 : decode cX5_worthOfAll 13 = .ok (.aload_n 0, 1) := by decide +kernel
theorem dX5_worthOfAll_14 : decode cX5_worthOfAll 14 = .ok (.iload_n 3, 1) := by decide +kernel
theorem dX5_worthOfAll_15 : decode cX5_worthOfAll 15 = .ok (.aload_n 1, 1) := by decide +kernel
theorem dX5_worthOfAll_16 : decode cX5_worthOfAll 16 = .ok (.aload_n 1, 1) := by decide +kernel
theorem dX5_worthOfAll_17 : decode cX5_worthOfAll 17 = .ok (.iload_n 3, 1) := by decide +kernel
theorem dX5_worthOfAll_18 : decode cX5_worthOfAll 18 = .ok (.invokevirtual 37, 3) := by decide +kernel
theorem dX5_worthOfAll_21 : decode cX5_worthOfAll 21 = .ok (.invokevirtual 43, 3) := by decide +kernel
theorem dX5_worthOfAll_24 : decode cX5_worthOfAll 24 = .ok (.invokevirtual 46, 3) := by decide +kernel
theorem dX5_worthOfAll_27 : decode cX5_worthOfAll 27 = .ok (.iadd, 1) := by decide +kernel
theorem dX5_worthOfAll_28 : decode cX5_worthOfAll 28 = .ok (.istore_n 2, 1) := by decide +kernel
theorem dX5_worthOfAll_29 : decode cX5_worthOfAll 29 = .ok (.iinc 3 1, 3) := by decide +kernel
theorem dX5_worthOfAll_32 : decode cX5_worthOfAll 32 = .ok (.goto (-28), 3) := by decide +kernel
theorem dX5_worthOfAll_35 : decode cX5_worthOfAll 35 = .ok (.iload_n 2, 1) := by decide +kernel
theorem dX5_worthOfAll_36 : decode cX5_worthOfAll 36 = .ok (.iconst 2, 1) := by decide +kernel
theorem dX5_worthOfAll_37 : decode cX5_worthOfAll 37 = .ok (.idiv, 1) := by decide +kernel
theorem dX5_worthOfAll_38 : decode cX5_worthOfAll 38 = .ok (.ireturn, 1) := by decide +kernel
set_option maxRecDepth 20000 in
theorem ggX5_pairsTogether_X5_pairsIn : GoodIn wsX5_pairsTogether wsX5_pairsIn := goodIn_r _ [5, 6, 7, 8, 9, 10, 11, 12] (by decide +kernel) (by decide +kernel)
set_option maxRecDepth 20000 in
theorem gX5_pairsTogether_X5_pairsIn : GoodIn wsX5_pairsTogether (va_wsS RX5 50 yX5_pairsIn wsX5_pairsIn) := goodIn_app (goodIn_of _ (by decide +kernel)) ggX5_pairsTogether_X5_pairsIn
theorem dX5_pairsTogether_0 : decode cX5_pairsTogether 0 = .ok (.aload_n 0, 1) := by decide +kernel
theorem dX5_pairsTogether_1 : decode cX5_pairsTogether 1 = .ok (.getfield 18, 3) := by decide +kernel
theorem dX5_pairsTogether_4 : decode cX5_pairsTogether 4 = .ok (.invokestatic 50, 3) := by decide +kernel
theorem dX5_pairsTogether_7 : decode cX5_pairsTogether 7 = .ok (.ireturn, 1) := by decide +kernel
set_option maxRecDepth 20000 in
theorem ggX5_pairsApart_X5_pairsIn : GoodIn wsX5_pairsApart wsX5_pairsIn := goodIn_r _ [5, 6, 7, 8, 9, 10, 11, 12] (by decide +kernel) (by decide +kernel)
set_option maxRecDepth 20000 in
theorem gX5_pairsApart_X5_pairsIn : GoodIn wsX5_pairsApart (va_wsS RX5 50 yX5_pairsIn wsX5_pairsIn) := goodIn_app (goodIn_of _ (by decide +kernel)) ggX5_pairsApart_X5_pairsIn
theorem dX5_pairsApart_0 : decode cX5_pairsApart 0 = .ok (.aload_n 0, 1) := by decide +kernel
theorem dX5_pairsApart_1 : decode cX5_pairsApart 1 = .ok (.getfield 21, 3) := by decide +kernel
theorem dX5_pairsApart_4 : decode cX5_pairsApart 4 = .ok (.invokestatic 50, 3) := by decide +kernel
theorem dX5_pairsApart_7 : decode cX5_pairsApart 7 = .ok (.ireturn, 1) := by decide +kernel
set_option maxRecDepth 20000 in
theorem ggX5_mayCome_X5_isOne : GoodIn wsX5_mayCome wsX5_isOne := goodIn_r _ [6] (by decide +kernel) (by decide +kernel)
set_option maxRecDepth 20000 in
theorem gX5_mayCome_X5_isOne : GoodIn wsX5_mayCome (va_wsS RX5 33 yX5_isOne wsX5_isOne) := goodIn_app (goodIn_of _ (by decide +kernel)) ggX5_mayCome_X5_isOne
set_option maxRecDepth 20000 in
theorem ggX5_mayCome_X5_meetsItsHat : GoodIn wsX5_mayCome wsX5_meetsItsHat := goodIn_r _ [10, 11, 12, 13, 14, 15, 16, 17, 18] (by decide +kernel) (by decide +kernel)
set_option maxRecDepth 20000 in
theorem gX5_mayCome_X5_meetsItsHat : GoodIn wsX5_mayCome (wsV RX5 54 RX5 yX5_meetsItsHat wsX5_meetsItsHat) := goodIn_app (goodIn_of _ (by decide +kernel)) ggX5_mayCome_X5_meetsItsHat
theorem dX5_mayCome_0 : decode cX5_mayCome 0 = .ok (.iload_n 1, 1) := by decide +kernel
theorem dX5_mayCome_1 : decode cX5_mayCome 1 = .ok (.invokestatic 33, 3) := by decide +kernel
theorem dX5_mayCome_4 : decode cX5_mayCome 4 = .ok (.ifCond .ne 5, 3) := by decide +kernel
theorem dX5_mayCome_7 : decode cX5_mayCome 7 = .ok (.iconst 0, 1) := by decide +kernel
theorem dX5_mayCome_8 : decode cX5_mayCome 8 = .ok (.ireturn, 1) := by decide +kernel
theorem dX5_mayCome_9 : decode cX5_mayCome 9 = .ok (.iconst 1, 1) := by decide +kernel
theorem dX5_mayCome_10 : decode cX5_mayCome 10 = .ok (.iload_n 1, 1) := by decide +kernel
theorem dX5_mayCome_11 : decode cX5_mayCome 11 = .ok (.ishl, 1) := by decide +kernel
theorem dX5_mayCome_12 : decode cX5_mayCome 12 = .ok (.iconst 1, 1) := by decide +kernel
theorem dX5_mayCome_13 : decode cX5_mayCome 13 = .ok (.isub, 1) := by decide +kernel
theorem dX5_mayCome_14 : decode cX5_mayCome 14 = .ok (.istore_n 3, 1) := by decide +kernel
theorem dX5_mayCome_15 : decode cX5_mayCome 15 = .ok (.aload_n 0, 1) := by decide +kernel
theorem dX5_mayCome_16 : decode cX5_mayCome 16 = .ok (.getfield 18, 3) := by decide +kernel
theorem dX5_mayCome_19 : decode cX5_mayCome 19 = .ok (.iload_n 1, 1) := by decide +kernel
theorem dX5_mayCome_20 : decode cX5_mayCome 20 = .ok (.iaload, 1) := by decide +kernel
theorem dX5_mayCome_21 : decode cX5_mayCome 21 = .ok (.iload_n 3, 1) := by decide +kernel
theorem dX5_mayCome_22 : decode cX5_mayCome 22 = .ok (.iand, 1) := by decide +kernel
theorem dX5_mayCome_23 : decode cX5_mayCome 23 = .ok (.iload_n 2, 1) := by decide +kernel
theorem dX5_mayCome_24 : decode cX5_mayCome 24 = .ok (.iconst (-1), 1) := by decide +kernel
theorem dX5_mayCome_25 : decode cX5_mayCome 25 = .ok (.ixor, 1) := by decide +kernel
theorem dX5_mayCome_26 : decode cX5_mayCome 26 = .ok (.iand, 1) := by decide +kernel
theorem dX5_mayCome_27 : decode cX5_mayCome 27 = .ok (.ifCond .eq 7, 3) := by decide +kernel
theorem dX5_mayCome_30 : decode cX5_mayCome 30 = .ok (.iconst 1, 1) := by decide +kernel
theorem dX5_mayCome_31 : decode cX5_mayCome 31 = .ok (.goto 4, 3) := by decide +kernel
theorem dX5_mayCome_34 : decode cX5_mayCome 34 = .ok (.iconst 0, 1) := by decide +kernel
theorem dX5_mayCome_35 : decode cX5_mayCome 35 = .ok (.istore 4, 2) := by decide +kernel
theorem dX5_mayCome_37 : decode cX5_mayCome 37 = .ok (.iload 4, 2) := by decide +kernel
theorem dX5_mayCome_39 : decode cX5_mayCome 39 = .ok (.ifCond .ne 27, 3) := by decide +kernel
theorem dX5_mayCome_42 : decode cX5_mayCome 42 = .ok (.aload_n 0, 1) := by decide +kernel
theorem dX5_mayCome_43 : decode cX5_mayCome 43 = .ok (.getfield 21, 3) := by decide +kernel
theorem dX5_mayCome_46 : decode cX5_mayCome 46 = .ok (.iload_n 1, 1) := by decide +kernel
theorem dX5_mayCome_47 : decode cX5_mayCome 47 = .ok (.iaload, 1) := by decide +kernel
theorem dX5_mayCome_48 : decode cX5_mayCome 48 = .ok (.iload_n 2, 1) := by decide +kernel
theorem dX5_mayCome_49 : decode cX5_mayCome 49 = .ok (.iand, 1) := by decide +kernel
theorem dX5_mayCome_50 : decode cX5_mayCome 50 = .ok (.ifCond .ne 16, 3) := by decide +kernel
theorem dX5_mayCome_53 : decode cX5_mayCome 53 = .ok (.aload_n 0, 1) := by decide +kernel
theorem dX5_mayCome_54 : decode cX5_mayCome 54 = .ok (.iload_n 1, 1) := by decide +kernel
theorem dX5_mayCome_55 : decode cX5_mayCome 55 = .ok (.iload_n 2, 1) := by decide +kernel
theorem dX5_mayCome_56 : decode cX5_mayCome 56 = .ok (.invokevirtual 54, 3) := by decide +kernel
theorem dX5_mayCome_59 : decode cX5_mayCome 59 = .ok (.ifCond .ne 7, 3) := by decide +kernel
theorem dX5_mayCome_62 : decode cX5_mayCome 62 = .ok (.iconst 1, 1) := by decide +kernel
theorem dX5_mayCome_63 : decode cX5_mayCome 63 = .ok (.goto 4, 3) := by decide +kernel
theorem dX5_mayCome_66 : decode cX5_mayCome 66 = .ok (.iconst 0, 1) := by decide +kernel
theorem dX5_mayCome_67 : decode cX5_mayCome 67 = .ok (.ireturn, 1) := by decide +kernel
theorem dX5_meetsItsHat_0 : decode cX5_meetsItsHat 0 = .ok (.aload_n 0, 1) := by decide +kernel
theorem dX5_meetsItsHat_1 : decode cX5_meetsItsHat 1 = .ok (.getfield 15, 3) := by decide +kernel
theorem dX5_meetsItsHat_4 : decode cX5_meetsItsHat 4 = .ok (.iconst 3, 1) := by decide +kernel
theorem dX5_meetsItsHat_5 : decode cX5_meetsItsHat 5 = .ok (.iaload, 1) := by decide +kernel
theorem dX5_meetsItsHat_6 : decode cX5_meetsItsHat 6 = .ok (.ifCond .ne 5, 3) := by decide +kernel
theorem dX5_meetsItsHat_9 : decode cX5_meetsItsHat 9 = .ok (.iconst 0, 1) := by decide +kernel
theorem dX5_meetsItsHat_10 : decode cX5_meetsItsHat 10 = .ok (.ireturn, 1) := by decide +kernel
theorem dX5_meetsItsHat_11 : decode cX5_meetsItsHat 11 = .ok (.iconst 0, 1) := by decide +kernel
theorem dX5_meetsItsHat_12 : decode cX5_meetsItsHat 12 = .ok (.istore_n 3, 1) := by decide +kernel
theorem dX5_meetsItsHat_13 : decode cX5_meetsItsHat 13 = .ok (.iload_n 3, 1) := by decide +kernel
theorem dX5_meetsItsHat_14 : decode cX5_meetsItsHat 14 = .ok (.iload_n 1, 1) := by decide +kernel
theorem dX5_meetsItsHat_15 : decode cX5_meetsItsHat 15 = .ok (.if_icmp .ge 40, 3) := by decide +kernel
theorem dX5_meetsItsHat_18 : decode cX5_meetsItsHat 18 = .ok (.iload_n 1, 1) := by decide +kernel
theorem dX5_meetsItsHat_19 : decode cX5_meetsItsHat 19 = .ok (.bipush 8, 2) := by decide +kernel
theorem dX5_meetsItsHat_21 : decode cX5_meetsItsHat 21 = .ok (.if_icmp .ge 34, 3) := by decide +kernel
theorem dX5_meetsItsHat_24 : decode cX5_meetsItsHat 24 = .ok (.iload_n 2, 1) := by decide +kernel
theorem dX5_meetsItsHat_25 : decode cX5_meetsItsHat 25 = .ok (.iconst 1, 1) := by decide +kernel
theorem dX5_meetsItsHat_26 : decode cX5_meetsItsHat 26 = .ok (.iload_n 3, 1) := by decide +kernel
theorem dX5_meetsItsHat_27 : decode cX5_meetsItsHat 27 = .ok (.ishl, 1) := by decide +kernel
theorem dX5_meetsItsHat_28 : decode cX5_meetsItsHat 28 = .ok (.iand, 1) := by decide +kernel
theorem dX5_meetsItsHat_29 : decode cX5_meetsItsHat 29 = .ok (.ifCond .eq 20, 3) := by decide +kernel
theorem dX5_meetsItsHat_32 : decode cX5_meetsItsHat 32 = .ok (.aload_n 0, 1) := by decide +kernel
theorem dX5_meetsItsHat_33 : decode cX5_meetsItsHat 33 = .ok (.getfield 9, 3) := by decide +kernel
theorem dX5_meetsItsHat_36 : decode cX5_meetsItsHat 36 = .ok (.iload_n 3, 1) := by decide +kernel
theorem dX5_meetsItsHat_37 : decode cX5_meetsItsHat 37 = .ok (.iaload, 1) := by decide +kernel
theorem dX5_meetsItsHat_38 : decode cX5_meetsItsHat 38 = .ok (.aload_n 0, 1) := by decide +kernel
theorem dX5_meetsItsHat_39 : decode cX5_meetsItsHat 39 = .ok (.getfield 9, 3) := by decide +kernel
theorem dX5_meetsItsHat_42 : decode cX5_meetsItsHat 42 = .ok (.iload_n 1, 1) := by decide +kernel
theorem dX5_meetsItsHat_43 : decode cX5_meetsItsHat 43 = .ok (.iaload, 1) := by decide +kernel
theorem dX5_meetsItsHat_44 : decode cX5_meetsItsHat 44 = .ok (.if_icmp .ne 5, 3) := by decide +kernel
theorem dX5_meetsItsHat_47 : decode cX5_meetsItsHat 47 = .ok (.iconst 1, 1) := by decide +kernel
theorem dX5_meetsItsHat_48 : decode cX5_meetsItsHat 48 = .ok (.ireturn, 1) := by decide +kernel
theorem dX5_meetsItsHat_49 : decode cX5_meetsItsHat 49 = .ok (.iinc 3 1, 3) := by decide +kernel
theorem dX5_meetsItsHat_52 : decode cX5_meetsItsHat 52 = .ok (.goto (-39), 3) := by decide +kernel
theorem dX5_meetsItsHat_55 : decode cX5_meetsItsHat 55 = .ok (.iconst 0, 1) := by decide +kernel
theorem dX5_meetsItsHat_56 : decode cX5_meetsItsHat 56 = .ok (.ireturn, 1) := by decide +kernel
set_option maxRecDepth 20000 in
theorem ggX5_pairsIn_J6_bitCount_0f7a4 : GoodIn wsX5_pairsIn wsJ6_bitCount_0f7a4 := goodIn_r _ [4, 5, 6, 7] (by decide +kernel) (by decide +kernel)
set_option maxRecDepth 20000 in
theorem gX5_pairsIn_J6_bitCount_0f7a4 : GoodIn wsX5_pairsIn (va_wsS RX5 58 yJ6_bitCount_0f7a4 wsJ6_bitCount_0f7a4) := goodIn_app (goodIn_of _ (by decide +kernel)) ggX5_pairsIn_J6_bitCount_0f7a4
theorem dX5_pairsIn_0 : decode cX5_pairsIn 0 = .ok (.iconst 0, 1) := by decide +kernel
theorem dX5_pairsIn_1 : decode cX5_pairsIn 1 = .ok (.istore_n 1, 1) := by decide +kernel
theorem dX5_pairsIn_2 : decode cX5_pairsIn 2 = .ok (.aload_n 0, 1) := by decide +kernel
theorem dX5_pairsIn_3 : decode cX5_pairsIn 3 = .ok (.astore_n 2, 1) := by decide +kernel
theorem dX5_pairsIn_4 : decode cX5_pairsIn 4 = .ok (.aload_n 2, 1) := by decide +kernel
theorem dX5_pairsIn_5 : decode cX5_pairsIn 5 = .ok (.arraylength, 1) := by decide +kernel
theorem dX5_pairsIn_6 : decode cX5_pairsIn 6 = .ok (.istore_n 3, 1) := by decide +kernel
theorem dX5_pairsIn_7 : decode cX5_pairsIn 7 = .ok (.iconst 0, 1) := by decide +kernel
theorem dX5_pairsIn_8 : decode cX5_pairsIn 8 = .ok (.istore 4, 2) := by decide +kernel
theorem dX5_pairsIn_10 : decode cX5_pairsIn 10 = .ok (.iload 4, 2) := by decide +kernel
theorem dX5_pairsIn_12 : decode cX5_pairsIn 12 = .ok (.iload_n 3, 1) := by decide +kernel
theorem dX5_pairsIn_13 : decode cX5_pairsIn 13 = .ok (.if_icmp .ge 23, 3) := by decide +kernel
theorem dX5_pairsIn_16 : decode cX5_pairsIn 16 = .ok (.aload_n 2, 1) := by decide +kernel
theorem dX5_pairsIn_17 : decode cX5_pairsIn 17 = .ok (.iload 4, 2) := by decide +kernel
theorem dX5_pairsIn_19 : decode cX5_pairsIn 19 = .ok (.iaload, 1) := by decide +kernel
theorem dX5_pairsIn_20 : decode cX5_pairsIn 20 = .ok (.istore 5, 2) := by decide +kernel
theorem dX5_pairsIn_22 : decode cX5_pairsIn 22 = .ok (.iload_n 1, 1) := by decide +kernel
theorem dX5_pairsIn_23 : decode cX5_pairsIn 23 = .ok (.iload 5, 2) := by decide +kernel
theorem dX5_pairsIn_25 : decode cX5_pairsIn 25 = .ok (.invokestatic 58, 3) := by decide +kernel
theorem dX5_pairsIn_28 : decode cX5_pairsIn 28 = .ok (.iadd, 1) := by decide +kernel
theorem dX5_pairsIn_29 : decode cX5_pairsIn 29 = .ok (.istore_n 1, 1) := by decide +kernel
theorem dX5_pairsIn_30 : decode cX5_pairsIn 30 = .ok (.iinc 4 1, 3) := by decide +kernel
theorem dX5_pairsIn_33 : decode cX5_pairsIn 33 = .ok (.goto (-23), 3) := by decide +kernel
theorem dX5_pairsIn_36 : decode cX5_pairsIn 36 = .ok (.iload_n 1, 1) := by decide +kernel
theorem dX5_pairsIn_37 : decode cX5_pairsIn 37 = .ok (.iconst 2, 1) := by decide +kernel
theorem dX5_pairsIn_38 : decode cX5_pairsIn 38 = .ok (.idiv, 1) := by decide +kernel
theorem dX5_pairsIn_39 : decode cX5_pairsIn 39 = .ok (.ireturn, 1) := by decide +kernel
theorem dX5_isOne_0 : decode cX5_isOne 0 = .ok (.iload_n 0, 1) := by decide +kernel
theorem dX5_isOne_1 : decode cX5_isOne 1 = .ok (.ifCond .lt 13, 3) := by decide +kernel
theorem dX5_isOne_4 : decode cX5_isOne 4 = .ok (.iload_n 0, 1) := by decide +kernel
theorem dX5_isOne_5 : decode cX5_isOne 5 = .ok (.bipush 8, 2) := by decide +kernel
theorem dX5_isOne_7 : decode cX5_isOne 7 = .ok (.if_icmp .ge 7, 3) := by decide +kernel
theorem dX5_isOne_10 : decode cX5_isOne 10 = .ok (.iconst 1, 1) := by decide +kernel
theorem dX5_isOne_11 : decode cX5_isOne 11 = .ok (.goto 4, 3) := by decide +kernel
theorem dX5_isOne_14 : decode cX5_isOne 14 = .ok (.iconst 0, 1) := by decide +kernel
theorem dX5_isOne_15 : decode cX5_isOne 15 = .ok (.ireturn, 1) := by decide +kernel
theorem dX6_init_0 : decode cX6_init 0 = .ok (.aload_n 0, 1) := by decide +kernel
theorem dX6_init_1 : decode cX6_init 1 = .ok (.invokespecial 1, 3) := by decide +kernel
theorem dX6_init_4 : decode cX6_init 4 = .ok (.aload_n 0, 1) := by decide +kernel
theorem dX6_init_5 : decode cX6_init 5 = .ok (.bipush 10, 2) := by decide +kernel
theorem dX6_init_7 : decode cX6_init 7 = .ok (.newarray .int, 2) := by decide +kernel
theorem dX6_init_9 : decode cX6_init 9 = .ok (.putfield 9, 3) := by decide +kernel
theorem dX6_init_12 : decode cX6_init 12 = .ok (.aload_n 0, 1) := by decide +kernel
theorem dX6_init_13 : decode cX6_init 13 = .ok (.bipush 10, 2) := by decide +kernel
theorem dX6_init_15 : decode cX6_init 15 = .ok (.newarray .int, 2) := by decide +kernel
theorem dX6_init_17 : decode cX6_init 17 = .ok (.putfield 13, 3) := by decide +kernel
theorem dX6_init_20 : decode cX6_init 20 = .ok (.aload_n 0, 1) := by decide +kernel
theorem dX6_init_21 : decode cX6_init 21 = .ok (.bipush 10, 2) := by decide +kernel
theorem dX6_init_23 : decode cX6_init 23 = .ok (.newarray .boolean, 2) := by decide +kernel
theorem dX6_init_25 : decode cX6_init 25 = .ok (.putfield 16, 3) := by decide +kernel
theorem dX6_init_28 : decode cX6_init 28 = .ok (.aload_n 0, 1) := by decide +kernel
theorem dX6_init_29 : decode cX6_init 29 = .ok (.iconst 0, 1) := by decide +kernel
theorem dX6_init_30 : decode cX6_init 30 = .ok (.putfield 20, 3) := by decide +kernel
theorem dX6_init_33 : decode cX6_init 33 = .ok (.return_, 1) := by decide +kernel
theorem dX6_size_0 : decode cX6_size 0 = .ok (.aload_n 0, 1) := by decide +kernel
theorem dX6_size_1 : decode cX6_size 1 = .ok (.getfield 20, 3) := by decide +kernel
theorem dX6_size_4 : decode cX6_size 4 = .ok (.ireturn, 1) := by decide +kernel
theorem dX6_areFull_0 : decode cX6_areFull 0 = .ok (.aload_n 0, 1) := by decide +kernel
theorem dX6_areFull_1 : decode cX6_areFull 1 = .ok (.getfield 20, 3) := by decide +kernel
theorem dX6_areFull_4 : decode cX6_areFull 4 = .ok (.bipush 10, 2) := by decide +kernel
theorem dX6_areFull_6 : decode cX6_areFull 6 = .ok (.if_icmp .lt 7, 3) := by decide +kernel
theorem dX6_areFull_9 : decode cX6_areFull 9 = .ok (.iconst 1, 1) := by decide +kernel
theorem dX6_areFull_10 : decode cX6_areFull 10 = .ok (.goto 4, 3) := by decide +kernel
theorem dX6_areFull_13 : decode cX6_areFull 13 = .ok (.iconst 0, 1) := by decide +kernel
theorem dX6_areFull_14 : decode cX6_areFull 14 = .ok (.ireturn, 1) := by decide +kernel
theorem dX6_empty_0 : decode cX6_empty 0 = .ok (.aload_n 0, 1) := by decide +kernel
theorem dX6_empty_1 : decode cX6_empty 1 = .ok (.iconst 0, 1) := by decide +kernel
theorem dX6_empty_2 : decode cX6_empty 2 = .ok (.putfield 20, 3) := by decide +kernel
theorem dX6_empty_5 : decode cX6_empty 5 = .ok (.return_, 1) := by decide +kernel
theorem dX6_add_0 : decode cX6_add 0 = .ok (.aload_n 0, 1) := by decide +kernel
theorem dX6_add_1 : decode cX6_add 1 = .ok (.getfield 20, 3) := by decide +kernel
theorem dX6_add_4 : decode cX6_add 4 = .ok (.bipush 10, 2) := by decide +kernel
theorem dX6_add_6 : decode cX6_add 6 = .ok (.if_icmp .ge 43, 3) := by decide +kernel
theorem dX6_add_9 : decode cX6_add 9 = .ok (.aload_n 0, 1) := by decide +kernel
theorem dX6_add_10 : decode cX6_add 10 = .ok (.getfield 9, 3) := by decide +kernel
theorem dX6_add_13 : decode cX6_add 13 = .ok (.aload_n 0, 1) := by decide +kernel
theorem dX6_add_14 : decode cX6_add 14 = .ok (.getfield 20, 3) := by decide +kernel
theorem dX6_add_17 : decode cX6_add 17 = .ok (.iload_n 1, 1) := by decide +kernel
theorem dX6_add_18 : decode cX6_add 18 = .ok (.iastore, 1) := by decide +kernel
theorem dX6_add_19 : decode cX6_add 19 = .ok (.aload_n 0, 1) := by decide +kernel
theorem dX6_add_20 : decode cX6_add 20 = .ok (.getfield 13, 3) := by decide +kernel
theorem dX6_add_23 : decode cX6_add 23 = .ok (.aload_n 0, 1) := by decide +kernel
theorem dX6_add_24 : decode cX6_add 24 = .ok (.getfield 20, 3) := by decide +kernel
theorem dX6_add_27 : decode cX6_add 27 = .ok (.iload_n 2, 1) := by decide +kernel
theorem dX6_add_28 : decode cX6_add 28 = .ok (.iastore, 1) := by decide +kernel
theorem dX6_add_29 : decode cX6_add 29 = .ok (.aload_n 0, 1) := by decide +kernel
theorem dX6_add_30 : decode cX6_add 30 = .ok (.getfield 16, 3) := by decide +kernel
theorem dX6_add_33 : decode cX6_add 33 = .ok (.aload_n 0, 1) := by decide +kernel
theorem dX6_add_34 : decode cX6_add 34 = .ok (.getfield 20, 3) := by decide +kernel
theorem dX6_add_37 : decode cX6_add 37 = .ok (.iload_n 3, 1) := by decide +kernel
theorem dX6_add_38 : decode cX6_add 38 = .ok (.bastore, 1) := by decide +kernel
theorem dX6_add_39 : decode cX6_add 39 = .ok (.aload_n 0, 1) := by decide +kernel
theorem dX6_add_40 : decode cX6_add 40 = .ok (.dup, 1) := by decide +kernel
theorem dX6_add_41 : decode cX6_add 41 = .ok (.getfield 20, 3) := by decide +kernel
theorem dX6_add_44 : decode cX6_add 44 = .ok (.iconst 1, 1) := by decide +kernel
theorem dX6_add_45 : decode cX6_add 45 = .ok (.iadd, 1) := by decide +kernel
theorem dX6_add_46 : decode cX6_add 46 = .ok (.putfield 20, 3) := by decide +kernel
theorem dX6_add_49 : decode cX6_add 49 = .ok (.return_, 1) := by decide +kernel
set_option maxRecDepth 20000 in
theorem ggX6_copy_X6_empty : GoodIn wsX6_copy wsX6_empty := goodIn_r _ [9, 1, 14, 15, 16, 17] (by decide +kernel) (by decide +kernel)
set_option maxRecDepth 20000 in
theorem gX6_copy_X6_empty : GoodIn wsX6_copy (wsV RX6 24 RX6 yX6_empty wsX6_empty) := goodIn_app (goodIn_of _ (by decide +kernel)) ggX6_copy_X6_empty
set_option maxRecDepth 20000 in
theorem ggX6_copy_X6_add : GoodIn wsX6_copy wsX6_add := goodIn_r _ [13, 1, 2, 3, 4, 14, 15, 16, 17] (by decide +kernel) (by decide +kernel)
set_option maxRecDepth 20000 in
theorem gX6_copy_X6_add : GoodIn wsX6_copy (wsV RX6 27 RX6 yX6_add wsX6_add) := goodIn_app (goodIn_of _ (by decide +kernel)) ggX6_copy_X6_add
theorem dX6_copy_0 : decode cX6_copy 0 = .ok (.aload_n 0, 1) := by decide +kernel
theorem dX6_copy_1 : decode cX6_copy 1 = .ok (.invokevirtual 24, 3) := by decide +kernel
theorem dX6_copy_4 : decode cX6_copy 4 = .ok (.iconst 0, 1) := by decide +kernel
theorem dX6_copy_5 : decode cX6_copy 5 = .ok (.istore_n 2, 1) := by decide +kernel
theorem dX6_copy_6 : decode cX6_copy 6 = .ok (.iload_n 2, 1) := by decide +kernel
theorem dX6_copy_7 : decode cX6_copy 7 = .ok (.aload_n 1, 1) := by decide +kernel
theorem dX6_copy_8 : decode cX6_copy 8 = .ok (.getfield 20, 3) := by decide +kernel
theorem dX6_copy_11 : decode cX6_copy 11 = .ok (.if_icmp .ge 31, 3) := by decide +kernel
theorem dX6_copy_14 : decode cX6_copy 14 = .ok (.aload_n 0, 1) := by decide +kernel
theorem dX6_copy_15 : decode cX6_copy 15 = .ok (.aload_n 1, 1) := by decide +kernel
theorem dX6_copy_16 : decode cX6_copy 16 = .ok (.getfield 9, 3) := by decide +kernel
theorem dX6_copy_19 : decode cX6_copy 19 = .ok (.iload_n 2, 1) := by decide +kernel
theorem dX6_copy_20 : decode cX6_copy 20 = .ok (.iaload, 1) := by decide +kernel
theorem dX6_copy_21 : decode cX6_copy 21 = .ok (.aload_n 1, 1) := by decide +kernel
theorem dX6_copy_22 : decode cX6_copy 22 = .ok (.getfield 13, 3) := by decide +kernel
theorem dX6_copy_25 : decode cX6_copy 25 = .ok (.iload_n 2, 1) := by decide +kernel
theorem dX6_copy_26 : decode cX6_copy 26 = .ok (.iaload, 1) := by decide +kernel
theorem dX6_copy_27 : decode cX6_copy 27 = .ok (.aload_n 1, 1) := by decide +kernel
theorem dX6_copy_28 : decode cX6_copy 28 = .ok (.getfield 16, 3) := by decide +kernel
theorem dX6_copy_31 : decode cX6_copy 31 = .ok (.iload_n 2, 1) := by decide +kernel
theorem dX6_copy_32 : decode cX6_copy 32 = .ok (.baload, 1) := by decide +kernel
theorem dX6_copy_33 : decode cX6_copy 33 = .ok (.invokevirtual 27, 3) := by decide +kernel
theorem dX6_copy_36 : decode cX6_copy 36 = .ok (.iinc 2 1, 3) := by decide +kernel
theorem dX6_copy_39 : decode cX6_copy 39 = .ok (.goto (-33), 3) := by decide +kernel
theorem dX6_copy_42 : decode cX6_copy 42 = .ok (.return_, 1) := by decide +kernel
set_option maxRecDepth 20000 in
theorem ggX6_fit_X7_partyIn : GoodIn wsX6_fit wsX7_partyIn := goodIn_r _ [8, 9, 10, 7, 11] (by decide +kernel) (by decide +kernel)
set_option maxRecDepth 20000 in
theorem gX6_fit_X7_partyIn : GoodIn wsX6_fit (va_wsS RX6 31 yX7_partyIn wsX7_partyIn) := goodIn_app (goodIn_of _ (by decide +kernel)) ggX6_fit_X7_partyIn
theorem dX6_fit_0 : decode cX6_fit 0 = .ok (.iconst 0, 1) := by decide +kernel
theorem dX6_fit_1 : decode cX6_fit 1 = .ok (.istore_n 2, 1) := by decide +kernel
theorem dX6_fit_2 : decode cX6_fit 2 = .ok (.iload_n 2, 1) := by decide +kernel
theorem dX6_fit_3 : decode cX6_fit 3 = .ok (.aload_n 0, 1) := by decide +kernel
theorem dX6_fit_4 : decode cX6_fit 4 = .ok (.getfield 20, 3) := by decide +kernel
theorem dX6_fit_7 : decode cX6_fit 7 = .ok (.if_icmp .ge 50, 3) := by decide +kernel
theorem dX6_fit_10 : decode cX6_fit 10 = .ok (.iload_n 1, 1) := by decide +kernel
theorem dX6_fit_11 : decode cX6_fit 11 = .ok (.aload_n 0, 1) := by decide +kernel
theorem dX6_fit_12 : decode cX6_fit 12 = .ok (.getfield 9, 3) := by decide +kernel
theorem dX6_fit_15 : decode cX6_fit 15 = .ok (.iload_n 2, 1) := by decide +kernel
theorem dX6_fit_16 : decode cX6_fit 16 = .ok (.iaload, 1) := by decide +kernel
theorem dX6_fit_17 : decode cX6_fit 17 = .ok (.invokestatic 31, 3) := by decide +kernel
theorem dX6_fit_20 : decode cX6_fit 20 = .ok (.iload_n 1, 1) := by decide +kernel
theorem dX6_fit_21 : decode cX6_fit 21 = .ok (.aload_n 0, 1) := by decide +kernel
theorem dX6_fit_22 : decode cX6_fit 22 = .ok (.getfield 13, 3) := by decide +kernel
theorem dX6_fit_25 : decode cX6_fit 25 = .ok (.iload_n 2, 1) := by decide +kernel
theorem dX6_fit_26 : decode cX6_fit 26 = .ok (.iaload, 1) := by decide +kernel
theorem dX6_fit_27 : decode cX6_fit 27 = .ok (.invokestatic 31, 3) := by decide +kernel
theorem dX6_fit_30 : decode cX6_fit 30 = .ok (.if_icmp .ne 7, 3) := by decide +kernel
theorem dX6_fit_33 : decode cX6_fit 33 = .ok (.iconst 1, 1) := by decide +kernel
theorem dX6_fit_34 : decode cX6_fit 34 = .ok (.goto 4, 3) := by decide +kernel
theorem dX6_fit_37 : decode cX6_fit 37 = .ok (.iconst 0, 1) := by decide +kernel
theorem dX6_fit_38 : decode cX6_fit 38 = .ok (.istore_n 3, 1) := by decide +kernel
theorem dX6_fit_39 : decode cX6_fit 39 = .ok (.iload_n 3, 1) := by decide +kernel
theorem dX6_fit_40 : decode cX6_fit 40 = .ok (.aload_n 0, 1) := by decide +kernel
theorem dX6_fit_41 : decode cX6_fit 41 = .ok (.getfield 16, 3) := by decide +kernel
theorem dX6_fit_44 : decode cX6_fit 44 = .ok (.iload_n 2, 1) := by decide +kernel
theorem dX6_fit_45 : decode cX6_fit 45 = .ok (.baload, 1) := by decide +kernel
theorem dX6_fit_46 : decode cX6_fit 46 = .ok (.if_icmp .eq 5, 3) := by decide +kernel
theorem dX6_fit_49 : decode cX6_fit 49 = .ok (.iconst 0, 1) := by decide +kernel
theorem dX6_fit_50 : decode cX6_fit 50 = .ok (.ireturn, 1) := by decide +kernel
theorem dX6_fit_51 : decode cX6_fit 51 = .ok (.iinc 2 1, 3) := by decide +kernel
theorem dX6_fit_54 : decode cX6_fit 54 = .ok (.goto (-52), 3) := by decide +kernel
theorem dX6_fit_57 : decode cX6_fit 57 = .ok (.iconst 1, 1) := by decide +kernel
theorem dX6_fit_58 : decode cX6_fit 58 = .ok (.ireturn, 1) := by decide +kernel
theorem dX7_init_0 : decode cX7_init 0 = .ok (.aload_n 0, 1) := by decide +kernel
theorem dX7_init_1 : decode cX7_init 1 = .ok (.invokespecial 3, 3) := by decide +kernel
theorem dX7_init_4 : decode cX7_init 4 = .ok (.aload_n 0, 1) := by decide +kernel
theorem dX7_init_5 : decode cX7_init 5 = .ok (.bipush 8, 2) := by decide +kernel
theorem dX7_init_7 : decode cX7_init 7 = .ok (.newarray .int, 2) := by decide +kernel
theorem dX7_init_9 : decode cX7_init 9 = .ok (.putfield 9, 3) := by decide +kernel
theorem dX7_init_12 : decode cX7_init 12 = .ok (.aload_n 0, 1) := by decide +kernel
theorem dX7_init_13 : decode cX7_init 13 = .ok (.bipush 8, 2) := by decide +kernel
theorem dX7_init_15 : decode cX7_init 15 = .ok (.newarray .int, 2) := by decide +kernel
theorem dX7_init_17 : decode cX7_init 17 = .ok (.putfield 15, 3) := by decide +kernel
theorem dX7_init_20 : decode cX7_init 20 = .ok (.aload_n 0, 1) := by decide +kernel
theorem dX7_init_21 : decode cX7_init 21 = .ok (.bipush 8, 2) := by decide +kernel
theorem dX7_init_23 : decode cX7_init 23 = .ok (.newarray .int, 2) := by decide +kernel
theorem dX7_init_25 : decode cX7_init 25 = .ok (.putfield 18, 3) := by decide +kernel
theorem dX7_init_28 : decode cX7_init 28 = .ok (.aload_n 0, 1) := by decide +kernel
theorem dX7_init_29 : decode cX7_init 29 = .ok (.iconst 1, 1) := by decide +kernel
theorem dX7_init_30 : decode cX7_init 30 = .ok (.putfield 21, 3) := by decide +kernel
theorem dX7_init_33 : decode cX7_init 33 = .ok (.aload_n 0, 1) := by decide +kernel
theorem dX7_init_34 : decode cX7_init 34 = .ok (.iconst 1, 1) := by decide +kernel
theorem dX7_init_35 : decode cX7_init 35 = .ok (.putfield 25, 3) := by decide +kernel
theorem dX7_init_38 : decode cX7_init 38 = .ok (.return_, 1) := by decide +kernel
set_option maxRecDepth 20000 in
theorem ggX7_partyIn_X7_shiftOf : GoodIn wsX7_partyIn wsX7_shiftOf := goodIn_r _ [4] (by decide +kernel) (by decide +kernel)
set_option maxRecDepth 20000 in
theorem gX7_partyIn_X7_shiftOf : GoodIn wsX7_partyIn (va_wsS RX7 28 yX7_shiftOf wsX7_shiftOf) := goodIn_app (goodIn_of _ (by decide +kernel)) ggX7_partyIn_X7_shiftOf
theorem dX7_partyIn_0 : decode cX7_partyIn 0 = .ok (.iload_n 0, 1) := by decide +kernel
theorem dX7_partyIn_1 : decode cX7_partyIn 1 = .ok (.iload_n 1, 1) := by decide +kernel
theorem dX7_partyIn_2 : decode cX7_partyIn 2 = .ok (.invokestatic 28, 3) := by decide +kernel
theorem dX7_partyIn_5 : decode cX7_partyIn 5 = .ok (.ishr, 1) := by decide +kernel
theorem dX7_partyIn_6 : decode cX7_partyIn 6 = .ok (.bipush 7, 2) := by decide +kernel
theorem dX7_partyIn_8 : decode cX7_partyIn 8 = .ok (.iand, 1) := by decide +kernel
theorem dX7_partyIn_9 : decode cX7_partyIn 9 = .ok (.ireturn, 1) := by decide +kernel
theorem dX7_shiftOf_0 : decode cX7_shiftOf 0 = .ok (.iconst 3, 1) := by decide +kernel
theorem dX7_shiftOf_1 : decode cX7_shiftOf 1 = .ok (.bipush 7, 2) := by decide +kernel
theorem dX7_shiftOf_3 : decode cX7_shiftOf 3 = .ok (.iload_n 0, 1) := by decide +kernel
