theorem dX4_readHat_0 : decode cX4_readHat 0 = .ok (.aload_n 0, 1) := by decide +kernel
theorem dX4_readHat_1 : decode cX4_readHat 1 = .ok (.iconst 0, 1) := by decide +kernel
theorem dX4_readHat_2 : decode cX4_readHat 2 = .ok (.aload_n 0, 1) := by decide +kernel
theorem dX4_readHat_3 : decode cX4_readHat 3 = .ok (.getfield 34, 3) := by decide +kernel
theorem dX4_readHat_6 : decode cX4_readHat 6 = .ok (.invokevirtual 86, 3) := by decide +kernel
theorem dX4_readHat_9 : decode cX4_readHat 9 = .ok (.iconst 1, 1) := by decide +kernel
theorem dX4_readHat_10 : decode cX4_readHat 10 = .ok (.isub, 1) := by decide +kernel
theorem dX4_readHat_11 : decode cX4_readHat 11 = .ok (.invokevirtual 75, 3) := by decide +kernel
theorem dX4_readHat_14 : decode cX4_readHat 14 = .ok (.ifCond .ne 5, 3) := by decide +kernel
theorem dX4_readHat_17 : decode cX4_readHat 17 = .ok (.iconst 0, 1) := by decide +kernel
theorem dX4_readHat_18 : decode cX4_readHat 18 = .ok (.ireturn, 1) := by decide +kernel
theorem dX4_readHat_19 : decode cX4_readHat 19 = .ok (.aload_n 0, 1) := by decide +kernel
theorem dX4_readHat_20 : decode cX4_readHat 20 = .ok (.aload_n 0, 1) := by decide +kernel
theorem dX4_readHat_21 : decode cX4_readHat 21 = .ok (.getfield 21, 3) := by decide +kernel
theorem dX4_readHat_24 : decode cX4_readHat 24 = .ok (.putfield 24, 3) := by decide +kernel
theorem dX4_readHat_27 : decode cX4_readHat 27 = .ok (.aload_n 0, 1) := by decide +kernel
theorem dX4_readHat_28 : decode cX4_readHat 28 = .ok (.iconst 0, 1) := by decide +kernel
theorem dX4_readHat_29 : decode cX4_readHat 29 = .ok (.iconst 5, 1) := by decide +kernel
theorem dX4_readHat_30 : decode cX4_readHat 30 = .ok (.invokevirtual 75, 3) := by decide +kernel
theorem dX4_readHat_33 : decode cX4_readHat 33 = .ok (.ifCond .ne 5, 3) := by decide +kernel
theorem dX4_readHat_36 : decode cX4_readHat 36 = .ok (.iconst 0, 1) := by decide +kernel
theorem dX4_readHat_37 : decode cX4_readHat 37 = .ok (.ireturn, 1) := by decide +kernel
theorem dX4_readHat_38 : decode cX4_readHat 38 = .ok (.aload_n 0, 1) := by decide +kernel
theorem dX4_readHat_39 : decode cX4_readHat 39 = .ok (.getfield 34, 3) := by decide +kernel
theorem dX4_readHat_42 : decode cX4_readHat 42 = .ok (.aload_n 0, 1) := by decide +kernel
theorem dX4_readHat_43 : decode cX4_readHat 43 = .ok (.getfield 24, 3) := by decide +kernel
theorem dX4_readHat_46 : decode cX4_readHat 46 = .ok (.aload_n 0, 1) := by decide +kernel
theorem dX4_readHat_47 : decode cX4_readHat 47 = .ok (.getfield 21, 3) := by decide +kernel
theorem dX4_readHat_50 : decode cX4_readHat 50 = .ok (.invokevirtual 90, 3) := by decide +kernel
theorem dX4_readHat_53 : decode cX4_readHat 53 = .ok (.aload_n 0, 1) := by decide +kernel
theorem dX4_readHat_54 : decode cX4_readHat 54 = .ok (.invokevirtual 83, 3) := by decide +kernel
theorem dX4_readHat_57 : decode cX4_readHat 57 = .ok (.ireturn, 1) := by decide +kernel
set_option maxRecDepth 20000 in
theorem ggX4_readNumberLaw_X5_lawOf : GoodIn wsX4_readNumberLaw wsX5_lawOf := goodIn_r _ [7, 8, 115, 116, 117, 118, 119, 120] (by decide +kernel) (by decide +kernel)
set_option maxRecDepth 20000 in
theorem gX4_readNumberLaw_X5_lawOf : GoodIn wsX4_readNumberLaw (wsV RX4 94 RX5 yX5_lawOf wsX5_lawOf) := goodIn_app (goodIn_of _ (by decide +kernel)) ggX4_readNumberLaw_X5_lawOf
set_option maxRecDepth 20000 in
theorem ggX4_readNumberLaw_X4_readNumber : GoodIn wsX4_readNumberLaw wsX4_readNumber := goodIn_r _ [13, 14, 2, 15, 16, 17, 12, 18, 19, 20, 21, 22, 23, 24, 25, 26, 27, 28, 29, 30, 31, 32, 33, 34, 35, 36, 37, 38, 39, 40, 41, 42, 43, 44, 45, 46, 47, 48, 49, 50, 51, 52, 53, 54, 55, 56, 57, 58, 59, 60, 61, 62, 63, 64, 65, 66, 67, 68, 69, 70, 71, 72, 73, 74, 75, 76, 77, 78, 79, 80, 81, 82, 83, 84, 85, 86, 87, 88, 89, 90, 91, 92, 93, 94, 95, 96, 97, 98, 107, 108, 109, 110, 111, 112, 113, 114, 121, 122] (by decide +kernel) (by decide +kernel)
set_option maxRecDepth 20000 in
theorem gX4_readNumberLaw_X4_readNumber : GoodIn wsX4_readNumberLaw (wsV RX4 75 RX4 yX4_readNumber wsX4_readNumber) := goodIn_app (goodIn_of _ (by decide +kernel)) ggX4_readNumberLaw_X4_readNumber
set_option maxRecDepth 20000 in
theorem ggX4_readNumberLaw_X5_setLaw : GoodIn wsX4_readNumberLaw wsX5_setLaw := goodIn_r _ [102, 8, 115, 116, 117, 118, 119, 120] (by decide +kernel) (by decide +kernel)
set_option maxRecDepth 20000 in
theorem gX4_readNumberLaw_X5_setLaw : GoodIn wsX4_readNumberLaw (wsV RX4 98 RX5 yX5_setLaw wsX5_setLaw) := goodIn_app (goodIn_of _ (by decide +kernel)) ggX4_readNumberLaw_X5_setLaw
set_option maxRecDepth 20000 in
theorem ggX4_readNumberLaw_X4_readSemicolon : GoodIn wsX4_readNumberLaw wsX4_readSemicolon := goodIn_r _ [106, 14, 15, 16, 17, 12, 18, 19, 20, 21, 22, 23, 24, 25, 26, 27, 28, 29, 30, 31, 32, 33, 34, 35, 36, 37, 38, 39, 40, 41, 42, 43, 44, 45, 46, 47, 48, 49, 50, 51, 52, 53, 54, 55, 56, 57, 58, 59, 60, 61, 62, 63, 64, 65, 66, 67, 68, 69, 70, 71, 72, 73, 74, 75, 76, 77, 78, 79, 80, 81, 82, 83, 84, 85, 86, 87, 88, 89, 90, 91, 92, 93, 94, 95, 96, 97, 98, 2, 107, 108, 109, 110, 111, 112, 113, 114, 121, 122] (by decide +kernel) (by decide +kernel)
set_option maxRecDepth 20000 in
theorem gX4_readNumberLaw_X4_readSemicolon : GoodIn wsX4_readNumberLaw (wsV RX4 83 RX4 yX4_readSemicolon wsX4_readSemicolon) := goodIn_app (goodIn_of _ (by decide +kernel)) ggX4_readNumberLaw_X4_readSemicolon
theorem dX4_readNumberLaw_0 : decode cX4_readNumberLaw 0 = .ok (.aload_n 0, 1) := by decide +kernel
theorem dX4_readNumberLaw_1 : decode cX4_readNumberLaw 1 = .ok (.getfield 34, 3) := by decide +kernel
theorem dX4_readNumberLaw_4 : decode cX4_readNumberLaw 4 = .ok (.iload_n 1, 1) := by decide +kernel
theorem dX4_readNumberLaw_5 : decode cX4_readNumberLaw 5 = .ok (.invokevirtual 94, 3) := by decide +kernel
theorem dX4_readNumberLaw_8 : decode cX4_readNumberLaw 8 = .ok (.ifCond .ne 13, 3) := by decide +kernel
theorem dX4_readNumberLaw_11 : decode cX4_readNumberLaw 11 = .ok (.aload_n 0, 1) := by decide +kernel
theorem dX4_readNumberLaw_12 : decode cX4_readNumberLaw 12 = .ok (.iconst 1, 1) := by decide +kernel
theorem dX4_readNumberLaw_13 : decode cX4_readNumberLaw 13 = .ok (.bipush 8, 2) := by decide +kernel
theorem dX4_readNumberLaw_15 : decode cX4_readNumberLaw 15 = .ok (.invokevirtual 75, 3) := by decide +kernel
theorem dX4_readNumberLaw_18 : decode cX4_readNumberLaw 18 = .ok (.ifCond .ne 5, 3) := by decide +kernel
theorem dX4_readNumberLaw_21 : decode cX4_readNumberLaw 21 = .ok (.iconst 0, 1) := by decide +kernel
theorem dX4_readNumberLaw_22 : decode cX4_readNumberLaw 22 = .ok (.ireturn, 1) := by decide +kernel
theorem dX4_readNumberLaw_23 : decode cX4_readNumberLaw 23 = .ok (.aload_n 0, 1) := by decide +kernel
theorem dX4_readNumberLaw_24 : decode cX4_readNumberLaw 24 = .ok (.getfield 34, 3) := by decide +kernel
theorem dX4_readNumberLaw_27 : decode cX4_readNumberLaw 27 = .ok (.iload_n 1, 1) := by decide +kernel
theorem dX4_readNumberLaw_28 : decode cX4_readNumberLaw 28 = .ok (.aload_n 0, 1) := by decide +kernel
theorem dX4_readNumberLaw_29 : decode cX4_readNumberLaw 29 = .ok (.getfield 21, 3) := by decide +kernel
theorem dX4_readNumberLaw_32 : decode cX4_readNumberLaw 32 = .ok (.invokevirtual 98, 3) := by decide +kernel
theorem dX4_readNumberLaw_35 : decode cX4_readNumberLaw 35 = .ok (.aload_n 0, 1) := by decide +kernel
theorem dX4_readNumberLaw_36 : decode cX4_readNumberLaw 36 = .ok (.invokevirtual 83, 3) := by decide +kernel
theorem dX4_readNumberLaw_39 : decode cX4_readNumberLaw 39 = .ok (.ireturn, 1) := by decide +kernel
set_option maxRecDepth 20000 in
theorem ggX4_readPlainLaw_X5_lawOf : GoodIn wsX4_readPlainLaw wsX5_lawOf := goodIn_r _ [6, 7, 111, 112, 113, 114, 115, 116] (by decide +kernel) (by decide +kernel)
set_option maxRecDepth 20000 in
theorem gX4_readPlainLaw_X5_lawOf : GoodIn wsX4_readPlainLaw (wsV RX4 94 RX5 yX5_lawOf wsX5_lawOf) := goodIn_app (goodIn_of _ (by decide +kernel)) ggX4_readPlainLaw_X5_lawOf
set_option maxRecDepth 20000 in
theorem ggX4_readPlainLaw_X5_setLaw : GoodIn wsX4_readPlainLaw wsX5_setLaw := goodIn_r _ [11, 7, 111, 112, 113, 114, 115, 116] (by decide +kernel) (by decide +kernel)
set_option maxRecDepth 20000 in
theorem gX4_readPlainLaw_X5_setLaw : GoodIn wsX4_readPlainLaw (wsV RX4 98 RX5 yX5_setLaw wsX5_setLaw) := goodIn_app (goodIn_of _ (by decide +kernel)) ggX4_readPlainLaw_X5_setLaw
set_option maxRecDepth 20000 in
theorem ggX4_readPlainLaw_X4_readSemicolon : GoodIn wsX4_readPlainLaw wsX4_readSemicolon := goodIn_r _ [16, 17, 18, 19, 20, 15, 21, 22, 23, 24, 25, 26, 27, 28, 29, 30, 31, 32, 33, 34, 35, 36, 37, 38, 39, 40, 41, 42, 43, 44, 45, 46, 47, 48, 49, 50, 51, 52, 53, 54, 55, 56, 57, 58, 59, 60, 61, 62, 63, 64, 65, 66, 67, 68, 69, 70, 71, 72, 73, 74, 75, 76, 77, 78, 79, 80, 81, 82, 83, 84, 85, 86, 87, 88, 89, 90, 91, 92, 93, 94, 95, 96, 97, 98, 99, 100, 101, 102, 103, 104, 105, 106, 107, 108, 109, 110, 117, 118] (by decide +kernel) (by decide +kernel)
set_option maxRecDepth 20000 in
theorem gX4_readPlainLaw_X4_readSemicolon : GoodIn wsX4_readPlainLaw (wsV RX4 83 RX4 yX4_readSemicolon wsX4_readSemicolon) := goodIn_app (goodIn_of _ (by decide +kernel)) ggX4_readPlainLaw_X4_readSemicolon
theorem dX4_readPlainLaw_0 : decode cX4_readPlainLaw 0 = .ok (.aload_n 0, 1) := by decide +kernel
theorem dX4_readPlainLaw_1 : decode cX4_readPlainLaw 1 = .ok (.getfield 34, 3) := by decide +kernel
theorem dX4_readPlainLaw_4 : decode cX4_readPlainLaw 4 = .ok (.iload_n 1, 1) := by decide +kernel
theorem dX4_readPlainLaw_5 : decode cX4_readPlainLaw 5 = .ok (.invokevirtual 94, 3) := by decide +kernel
theorem dX4_readPlainLaw_8 : decode cX4_readPlainLaw 8 = .ok (.ifCond .eq 5, 3) := by decide +kernel
theorem dX4_readPlainLaw_11 : decode cX4_readPlainLaw 11 = .ok (.iconst 0, 1) := by decide +kernel
theorem dX4_readPlainLaw_12 : decode cX4_readPlainLaw 12 = .ok (.ireturn, 1) := by decide +kernel
theorem dX4_readPlainLaw_13 : decode cX4_readPlainLaw 13 = .ok (.aload_n 0, 1) := by decide +kernel
theorem dX4_readPlainLaw_14 : decode cX4_readPlainLaw 14 = .ok (.getfield 34, 3) := by decide +kernel
theorem dX4_readPlainLaw_17 : decode cX4_readPlainLaw 17 = .ok (.iload_n 1, 1) := by decide +kernel
theorem dX4_readPlainLaw_18 : decode cX4_readPlainLaw 18 = .ok (.iconst 1, 1) := by decide +kernel
theorem dX4_readPlainLaw_19 : decode cX4_readPlainLaw 19 = .ok (.invokevirtual 98, 3) := by decide +kernel
theorem dX4_readPlainLaw_22 : decode cX4_readPlainLaw 22 = .ok (.aload_n 0, 1) := by decide +kernel
theorem dX4_readPlainLaw_23 : decode cX4_readPlainLaw 23 = .ok (.invokevirtual 83, 3) := by decide +kernel
theorem dX4_readPlainLaw_26 : decode cX4_readPlainLaw 26 = .ok (.ireturn, 1) := by decide +kernel
set_option maxRecDepth 20000 in
theorem ggX4_readTogether_X4_readTwoGuests : GoodIn wsX4_readTogether wsX4_readTwoGuests := goodIn_r _ [8, 1, 9, 2, 3, 10, 11, 12, 13, 14, 15, 16, 17, 18, 7, 19, 20, 21, 22, 23, 24, 25, 26, 27, 28, 29, 30, 31, 32, 33, 34, 35, 36, 37, 38, 39, 40, 41, 42, 43, 44, 45, 46, 47, 48, 49, 50, 51, 52, 53, 54, 55, 56, 57, 58, 59, 60, 61, 62, 63, 64, 65, 66, 67, 68, 69, 70, 71, 72, 73, 74, 75, 76, 77, 78, 79, 80, 81, 82, 83, 84, 85, 86, 87, 88, 89, 90, 91, 92, 93, 94, 95, 96, 97, 98, 99, 100, 101, 102, 103, 104, 117, 118, 119, 120, 121, 122, 123, 124, 125, 126, 127, 128, 129, 130, 131, 132] (by decide +kernel) (by decide +kernel)
set_option maxRecDepth 20000 in
theorem gX4_readTogether_X4_readTwoGuests : GoodIn wsX4_readTogether (wsV RX4 101 RX4 yX4_readTwoGuests wsX4_readTwoGuests) := goodIn_app (goodIn_of _ (by decide +kernel)) ggX4_readTogether_X4_readTwoGuests
set_option maxRecDepth 20000 in
theorem ggX4_readTogether_X5_putTogether : GoodIn wsX4_readTogether wsX5_putTogether := goodIn_r _ [108, 109, 110, 111, 13, 112, 125, 126, 127, 128, 129, 130] (by decide +kernel) (by decide +kernel)
set_option maxRecDepth 20000 in
theorem gX4_readTogether_X5_putTogether : GoodIn wsX4_readTogether (wsV RX4 104 RX5 yX5_putTogether wsX5_putTogether) := goodIn_app (goodIn_of _ (by decide +kernel)) ggX4_readTogether_X5_putTogether
set_option maxRecDepth 20000 in
theorem ggX4_readTogether_X4_readSemicolon : GoodIn wsX4_readTogether wsX4_readSemicolon := goodIn_r _ [116, 20, 21, 22, 23, 7, 24, 25, 26, 27, 28, 29, 30, 31, 32, 33, 34, 35, 36, 37, 38, 39, 40, 41, 42, 43, 44, 45, 46, 47, 48, 49, 50, 51, 52, 53, 54, 55, 56, 57, 58, 59, 60, 61, 62, 63, 64, 65, 66, 67, 68, 69, 70, 71, 72, 73, 74, 75, 76, 77, 78, 79, 80, 81, 82, 83, 84, 85, 86, 87, 88, 89, 90, 91, 92, 93, 94, 95, 96, 97, 98, 99, 100, 101, 102, 103, 104, 9, 117, 118, 119, 120, 121, 122, 123, 124, 131, 132] (by decide +kernel) (by decide +kernel)
set_option maxRecDepth 20000 in
theorem gX4_readTogether_X4_readSemicolon : GoodIn wsX4_readTogether (wsV RX4 83 RX4 yX4_readSemicolon wsX4_readSemicolon) := goodIn_app (goodIn_of _ (by decide +kernel)) ggX4_readTogether_X4_readSemicolon
theorem dX4_readTogether_0 : decode cX4_readTogether 0 = .ok (.aload_n 0, 1) := by decide +kernel
theorem dX4_readTogether_1 : decode cX4_readTogether 1 = .ok (.invokevirtual 101, 3) := by decide +kernel
theorem dX4_readTogether_4 : decode cX4_readTogether 4 = .ok (.ifCond .ne 5, 3) := by decide +kernel
theorem dX4_readTogether_7 : decode cX4_readTogether 7 = .ok (.iconst 0, 1) := by decide +kernel
theorem dX4_readTogether_8 : decode cX4_readTogether 8 = .ok (.ireturn, 1) := by decide +kernel
theorem dX4_readTogether_9 : decode cX4_readTogether 9 = .ok (.aload_n 0, 1) := by decide +kernel
theorem dX4_readTogether_10 : decode cX4_readTogether 10 = .ok (.getfield 34, 3) := by decide +kernel
theorem dX4_readTogether_13 : decode cX4_readTogether 13 = .ok (.aload_n 0, 1) := by decide +kernel
theorem dX4_readTogether_14 : decode cX4_readTogether 14 = .ok (.getfield 24, 3) := by decide +kernel
theorem dX4_readTogether_17 : decode cX4_readTogether 17 = .ok (.aload_n 0, 1) := by decide +kernel
theorem dX4_readTogether_18 : decode cX4_readTogether 18 = .ok (.getfield 27, 3) := by decide +kernel
theorem dX4_readTogether_21 : decode cX4_readTogether 21 = .ok (.invokevirtual 104, 3) := by decide +kernel
theorem dX4_readTogether_24 : decode cX4_readTogether 24 = .ok (.aload_n 0, 1) := by decide +kernel
theorem dX4_readTogether_25 : decode cX4_readTogether 25 = .ok (.invokevirtual 83, 3) := by decide +kernel
theorem dX4_readTogether_28 : decode cX4_readTogether 28 = .ok (.ireturn, 1) := by decide +kernel
set_option maxRecDepth 20000 in
theorem ggX4_readApart_X4_readTwoGuests : GoodIn wsX4_readApart wsX4_readTwoGuests := goodIn_r _ [8, 1, 9, 2, 3, 10, 11, 12, 13, 14, 15, 16, 17, 18, 7, 19, 20, 21, 22, 23, 24, 25, 26, 27, 28, 29, 30, 31, 32, 33, 34, 35, 36, 37, 38, 39, 40, 41, 42, 43, 44, 45, 46, 47, 48, 49, 50, 51, 52, 53, 54, 55, 56, 57, 58, 59, 60, 61, 62, 63, 64, 65, 66, 67, 68, 69, 70, 71, 72, 73, 74, 75, 76, 77, 78, 79, 80, 81, 82, 83, 84, 85, 86, 87, 88, 89, 90, 91, 92, 93, 94, 95, 96, 97, 98, 99, 100, 101, 102, 103, 104, 117, 118, 119, 120, 121, 122, 123, 124, 125, 126, 127, 128, 129, 130, 131, 132] (by decide +kernel) (by decide +kernel)
set_option maxRecDepth 20000 in
theorem gX4_readApart_X4_readTwoGuests : GoodIn wsX4_readApart (wsV RX4 101 RX4 yX4_readTwoGuests wsX4_readTwoGuests) := goodIn_app (goodIn_of _ (by decide +kernel)) ggX4_readApart_X4_readTwoGuests
set_option maxRecDepth 20000 in
theorem ggX4_readApart_X5_putApart : GoodIn wsX4_readApart wsX5_putApart := goodIn_r _ [108, 109, 110, 111, 13, 112, 125, 126, 127, 128, 129, 130] (by decide +kernel) (by decide +kernel)
set_option maxRecDepth 20000 in
theorem gX4_readApart_X5_putApart : GoodIn wsX4_readApart (wsV RX4 107 RX5 yX5_putApart wsX5_putApart) := goodIn_app (goodIn_of _ (by decide +kernel)) ggX4_readApart_X5_putApart
set_option maxRecDepth 20000 in
theorem ggX4_readApart_X4_readSemicolon : GoodIn wsX4_readApart wsX4_readSemicolon := goodIn_r _ [116, 20, 21, 22, 23, 7, 24, 25, 26, 27, 28, 29, 30, 31, 32, 33, 34, 35, 36, 37, 38, 39, 40, 41, 42, 43, 44, 45, 46, 47, 48, 49, 50, 51, 52, 53, 54, 55, 56, 57, 58, 59, 60, 61, 62, 63, 64, 65, 66, 67, 68, 69, 70, 71, 72, 73, 74, 75, 76, 77, 78, 79, 80, 81, 82, 83, 84, 85, 86, 87, 88, 89, 90, 91, 92, 93, 94, 95, 96, 97, 98, 99, 100, 101, 102, 103, 104, 9, 117, 118, 119, 120, 121, 122, 123, 124, 131, 132] (by decide +kernel) (by decide +kernel)
set_option maxRecDepth 20000 in
theorem gX4_readApart_X4_readSemicolon : GoodIn wsX4_readApart (wsV RX4 83 RX4 yX4_readSemicolon wsX4_readSemicolon) := goodIn_app (goodIn_of _ (by decide +kernel)) ggX4_readApart_X4_readSemicolon
theorem dX4_readApart_0 : decode cX4_readApart 0 = .ok (.aload_n 0, 1) := by decide +kernel
theorem dX4_readApart_1 : decode cX4_readApart 1 = .ok (.invokevirtual 101, 3) := by decide +kernel
theorem dX4_readApart_4 : decode cX4_readApart 4 = .ok (.ifCond .ne 5, 3) := by decide +kernel
theorem dX4_readApart_7 : decode cX4_readApart 7 = .ok (.iconst 0, 1) := by decide +kernel
theorem dX4_readApart_8 : decode cX4_readApart 8 = .ok (.ireturn, 1) := by decide +kernel
theorem dX4_readApart_9 : decode cX4_readApart 9 = .ok (.aload_n 0, 1) := by decide +kernel
theorem dX4_readApart_10 : decode cX4_readApart 10 = .ok (.getfield 34, 3) := by decide +kernel
theorem dX4_readApart_13 : decode cX4_readApart 13 = .ok (.aload_n 0, 1) := by decide +kernel
theorem dX4_readApart_14 : decode cX4_readApart 14 = .ok (.getfield 24, 3) := by decide +kernel
theorem dX4_readApart_17 : decode cX4_readApart 17 = .ok (.aload_n 0, 1) := by decide +kernel
theorem dX4_readApart_18 : decode cX4_readApart 18 = .ok (.getfield 27, 3) := by decide +kernel
theorem dX4_readApart_21 : decode cX4_readApart 21 = .ok (.invokevirtual 107, 3) := by decide +kernel
theorem dX4_readApart_24 : decode cX4_readApart 24 = .ok (.aload_n 0, 1) := by decide +kernel
theorem dX4_readApart_25 : decode cX4_readApart 25 = .ok (.invokevirtual 83, 3) := by decide +kernel
theorem dX4_readApart_28 : decode cX4_readApart 28 = .ok (.ireturn, 1) := by decide +kernel
set_option maxRecDepth 20000 in
theorem ggX4_readWorth_X4_readTwoGuests : GoodIn wsX4_readWorth wsX4_readTwoGuests := goodIn_r _ [9, 1, 4, 2, 3, 10, 11, 12, 13, 14, 15, 16, 17, 18, 8, 19, 20, 21, 22, 23, 24, 25, 26, 27, 28, 29, 30, 31, 32, 33, 34, 35, 36, 37, 38, 39, 40, 41, 42, 43, 44, 45, 46, 47, 48, 49, 50, 51, 52, 53, 54, 55, 56, 57, 58, 59, 60, 61, 62, 63, 64, 65, 66, 67, 68, 69, 70, 71, 72, 73, 74, 75, 76, 77, 78, 79, 80, 81, 82, 83, 84, 85, 86, 87, 88, 89, 90, 91, 92, 93, 94, 95, 96, 97, 98, 99, 100, 101, 102, 103, 104, 117, 118, 119, 120, 121, 122, 123, 124, 125, 126, 127, 128, 129, 130, 131, 132] (by decide +kernel) (by decide +kernel)
set_option maxRecDepth 20000 in
theorem gX4_readWorth_X4_readTwoGuests : GoodIn wsX4_readWorth (wsV RX4 101 RX4 yX4_readTwoGuests wsX4_readTwoGuests) := goodIn_app (goodIn_of _ (by decide +kernel)) ggX4_readWorth_X4_readTwoGuests
set_option maxRecDepth 20000 in
theorem ggX4_readWorth_X4_readNumber : GoodIn wsX4_readWorth wsX4_readNumber := goodIn_r _ [19, 20, 4, 21, 22, 23, 8, 24, 25, 26, 27, 28, 29, 30, 31, 32, 33, 34, 35, 36, 37, 38, 39, 40, 41, 42, 43, 44, 45, 46, 47, 48, 49, 50, 51, 52, 53, 54, 55, 56, 57, 58, 59, 60, 61, 62, 63, 64, 65, 66, 67, 68, 69, 70, 71, 72, 73, 74, 75, 76, 77, 78, 79, 80, 81, 82, 83, 84, 85, 86, 87, 88, 89, 90, 91, 92, 93, 94, 95, 96, 97, 98, 99, 100, 101, 102, 103, 104, 117, 118, 119, 120, 121, 122, 123, 124, 131, 132] (by decide +kernel) (by decide +kernel)
set_option maxRecDepth 20000 in
theorem gX4_readWorth_X4_readNumber : GoodIn wsX4_readWorth (wsV RX4 75 RX4 yX4_readNumber wsX4_readNumber) := goodIn_app (goodIn_of _ (by decide +kernel)) ggX4_readWorth_X4_readNumber
set_option maxRecDepth 20000 in
theorem ggX4_readWorth_X5_setWorth : GoodIn wsX4_readWorth wsX5_setWorth := goodIn_r _ [108, 109, 110, 111, 13, 112, 125, 126, 127, 128, 129, 130] (by decide +kernel) (by decide +kernel)
set_option maxRecDepth 20000 in
theorem gX4_readWorth_X5_setWorth : GoodIn wsX4_readWorth (wsV RX4 110 RX5 yX5_setWorth wsX5_setWorth) := goodIn_app (goodIn_of _ (by decide +kernel)) ggX4_readWorth_X5_setWorth
set_option maxRecDepth 20000 in
theorem ggX4_readWorth_X4_readSemicolon : GoodIn wsX4_readWorth wsX4_readSemicolon := goodIn_r _ [116, 20, 21, 22, 23, 8, 24, 25, 26, 27, 28, 29, 30, 31, 32, 33, 34, 35, 36, 37, 38, 39, 40, 41, 42, 43, 44, 45, 46, 47, 48, 49, 50, 51, 52, 53, 54, 55, 56, 57, 58, 59, 60, 61, 62, 63, 64, 65, 66, 67, 68, 69, 70, 71, 72, 73, 74, 75, 76, 77, 78, 79, 80, 81, 82, 83, 84, 85, 86, 87, 88, 89, 90, 91, 92, 93, 94, 95, 96, 97, 98, 99, 100, 101, 102, 103, 104, 4, 117, 118, 119, 120, 121, 122, 123, 124, 131, 132] (by decide +kernel) (by decide +kernel)
set_option maxRecDepth 20000 in
theorem gX4_readWorth_X4_readSemicolon : GoodIn wsX4_readWorth (wsV RX4 83 RX4 yX4_readSemicolon wsX4_readSemicolon) := goodIn_app (goodIn_of _ (by decide +kernel)) ggX4_readWorth_X4_readSemicolon
theorem dX4_readWorth_0 : decode cX4_readWorth 0 = .ok (.aload_n 0, 1) := by decide +kernel
theorem dX4_readWorth_1 : decode cX4_readWorth 1 = .ok (.invokevirtual 101, 3) := by decide +kernel
theorem dX4_readWorth_4 : decode cX4_readWorth 4 = .ok (.ifCond .eq 13, 3) := by decide +kernel
theorem dX4_readWorth_7 : decode cX4_readWorth 7 = .ok (.aload_n 0, 1) := by decide +kernel
theorem dX4_readWorth_8 : decode cX4_readWorth 8 = .ok (.iconst 0, 1) := by decide +kernel
theorem dX4_readWorth_9 : decode cX4_readWorth 9 = .ok (.bipush 9, 2) := by decide +kernel
theorem dX4_readWorth_11 : decode cX4_readWorth 11 = .ok (.invokevirtual 75, 3) := by decide +kernel
theorem dX4_readWorth_14 : decode cX4_readWorth 14 = .ok (.ifCond .ne 5, 3) := by decide +kernel
theorem dX4_readWorth_17 : decode cX4_readWorth 17 = .ok (.iconst 0, 1) := by decide +kernel
theorem dX4_readWorth_18 : decode cX4_readWorth 18 = .ok (.ireturn, 1) := by decide +kernel
theorem dX4_readWorth_19 : decode cX4_readWorth 19 = .ok (.aload_n 0, 1) := by decide +kernel
theorem dX4_readWorth_20 : decode cX4_readWorth 20 = .ok (.getfield 34, 3) := by decide +kernel
theorem dX4_readWorth_23 : decode cX4_readWorth 23 = .ok (.aload_n 0, 1) := by decide +kernel
theorem dX4_readWorth_24 : decode cX4_readWorth 24 = .ok (.getfield 24, 3) := by decide +kernel
theorem dX4_readWorth_27 : decode cX4_readWorth 27 = .ok (.aload_n 0, 1) := by decide +kernel
theorem dX4_readWorth_28 : decode cX4_readWorth 28 = .ok (.getfield 27, 3) := by decide +kernel
theorem dX4_readWorth_31 : decode cX4_readWorth 31 = .ok (.iload_n 1, 1) := by decide +kernel
theorem dX4_readWorth_32 : decode cX4_readWorth 32 = .ok (.aload_n 0, 1) := by decide +kernel
theorem dX4_readWorth_33 : decode cX4_readWorth 33 = .ok (.getfield 21, 3) := by decide +kernel
theorem dX4_readWorth_36 : decode cX4_readWorth 36 = .ok (.imul, 1) := by decide +kernel
theorem dX4_readWorth_37 : decode cX4_readWorth 37 = .ok (.invokevirtual 110, 3) := by decide +kernel
theorem dX4_readWorth_40 : decode cX4_readWorth 40 = .ok (.aload_n 0, 1) := by decide +kernel
theorem dX4_readWorth_41 : decode cX4_readWorth 41 = .ok (.invokevirtual 83, 3) := by decide +kernel
theorem dX4_readWorth_44 : decode cX4_readWorth 44 = .ok (.ireturn, 1) := by decide +kernel
set_option maxRecDepth 20000 in
theorem ggX4_readTwoGuests_X5_guests : GoodIn wsX4_readTwoGuests wsX5_guests := goodIn_r _ [9, 10, 109, 110, 111, 112, 113, 114] (by decide +kernel) (by decide +kernel)
set_option maxRecDepth 20000 in
theorem gX4_readTwoGuests_X5_guests : GoodIn wsX4_readTwoGuests (wsV RX4 86 RX5 yX5_guests wsX5_guests) := goodIn_app (goodIn_of _ (by decide +kernel)) ggX4_readTwoGuests_X5_guests
set_option maxRecDepth 20000 in
theorem ggX4_readTwoGuests_X4_readNumber : GoodIn wsX4_readTwoGuests wsX4_readNumber := goodIn_r _ [15, 16, 2, 17, 18, 19, 14, 20, 21, 22, 23, 24, 25, 26, 27, 28, 29, 30, 31, 32, 33, 34, 35, 36, 37, 38, 39, 40, 41, 42, 43, 44, 45, 46, 47, 48, 49, 50, 51, 52, 53, 54, 55, 56, 57, 58, 59, 60, 61, 62, 63, 64, 65, 66, 67, 68, 69, 70, 71, 72, 73, 74, 75, 76, 77, 78, 79, 80, 81, 82, 83, 84, 85, 86, 87, 88, 89, 90, 91, 92, 93, 94, 95, 96, 97, 98, 99, 100, 101, 102, 103, 104, 105, 106, 107, 108, 115, 116] (by decide +kernel) (by decide +kernel)
set_option maxRecDepth 20000 in
theorem gX4_readTwoGuests_X4_readNumber : GoodIn wsX4_readTwoGuests (wsV RX4 75 RX4 yX4_readNumber wsX4_readNumber) := goodIn_app (goodIn_of _ (by decide +kernel)) ggX4_readTwoGuests_X4_readNumber
theorem dX4_readTwoGuests_0 : decode cX4_readTwoGuests 0 = .ok (.aload_n 0, 1) := by decide +kernel
theorem dX4_readTwoGuests_1 : decode cX4_readTwoGuests 1 = .ok (.iconst 0, 1) := by decide +kernel
theorem dX4_readTwoGuests_2 : decode cX4_readTwoGuests 2 = .ok (.aload_n 0, 1) := by decide +kernel
theorem dX4_readTwoGuests_3 : decode cX4_readTwoGuests 3 = .ok (.getfield 34, 3) := by decide +kernel
theorem dX4_readTwoGuests_6 : decode cX4_readTwoGuests 6 = .ok (.invokevirtual 86, 3) := by decide +kernel
theorem dX4_readTwoGuests_9 : decode cX4_readTwoGuests 9 = .ok (.iconst 1, 1) := by decide +kernel
theorem dX4_readTwoGuests_10 : decode cX4_readTwoGuests 10 = .ok (.isub, 1) := by decide +kernel
theorem dX4_readTwoGuests_11 : decode cX4_readTwoGuests 11 = .ok (.invokevirtual 75, 3) := by decide +kernel
theorem dX4_readTwoGuests_14 : decode cX4_readTwoGuests 14 = .ok (.ifCond .ne 5, 3) := by decide +kernel
theorem dX4_readTwoGuests_17 : decode cX4_readTwoGuests 17 = .ok (.iconst 0, 1) := by decide +kernel
theorem dX4_readTwoGuests_18 : decode cX4_readTwoGuests 18 = .ok (.ireturn, 1) := by decide +kernel
theorem dX4_readTwoGuests_19 : decode cX4_readTwoGuests 19 = .ok (.aload_n 0, 1) := by decide +kernel
theorem dX4_readTwoGuests_20 : decode cX4_readTwoGuests 20 = .ok (.aload_n 0, 1) := by decide +kernel
theorem dX4_readTwoGuests_21 : decode cX4_readTwoGuests 21 = .ok (.getfield 21, 3) := by decide +kernel
theorem dX4_readTwoGuests_24 : decode cX4_readTwoGuests 24 = .ok (.putfield 24, 3) := by decide +kernel
theorem dX4_readTwoGuests_27 : decode cX4_readTwoGuests 27 = .ok (.aload_n 0, 1) := by decide +kernel
theorem dX4_readTwoGuests_28 : decode cX4_readTwoGuests 28 = .ok (.iconst 0, 1) := by decide +kernel
theorem dX4_readTwoGuests_29 : decode cX4_readTwoGuests 29 = .ok (.aload_n 0, 1) := by decide +kernel
theorem dX4_readTwoGuests_30 : decode cX4_readTwoGuests 30 = .ok (.getfield 34, 3) := by decide +kernel
theorem dX4_readTwoGuests_33 : decode cX4_readTwoGuests 33 = .ok (.invokevirtual 86, 3) := by decide +kernel
theorem dX4_readTwoGuests_36 : decode cX4_readTwoGuests 36 = .ok (.iconst 1, 1) := by decide +kernel
theorem dX4_readTwoGuests_37 : decode cX4_readTwoGuests 37 = .ok (.isub, 1) := by decide +kernel
theorem dX4_readTwoGuests_38 : decode cX4_readTwoGuests 38 = .ok (.invokevirtual 75, 3) := by decide +kernel
theorem dX4_readTwoGuests_41 : decode cX4_readTwoGuests 41 = .ok (.ifCond .ne 5, 3) := by decide +kernel
theorem dX4_readTwoGuests_44 : decode cX4_readTwoGuests 44 = .ok (.iconst 0, 1) := by decide +kernel
theorem dX4_readTwoGuests_45 : decode cX4_readTwoGuests 45 = .ok (.ireturn, 1) := by decide +kernel
theorem dX4_readTwoGuests_46 : decode cX4_readTwoGuests 46 = .ok (.aload_n 0, 1) := by decide +kernel
theorem dX4_readTwoGuests_47 : decode cX4_readTwoGuests 47 = .ok (.aload_n 0, 1) := by decide +kernel
theorem dX4_readTwoGuests_48 : decode cX4_readTwoGuests 48 = .ok (.getfield 21, 3) := by decide +kernel
theorem dX4_readTwoGuests_51 : decode cX4_readTwoGuests 51 = .ok (.putfield 27, 3) := by decide +kernel
theorem dX4_readTwoGuests_54 : decode cX4_readTwoGuests 54 = .ok (.aload_n 0, 1) := by decide +kernel
theorem dX4_readTwoGuests_55 : decode cX4_readTwoGuests 55 = .ok (.getfield 24, 3) := by decide +kernel
theorem dX4_readTwoGuests_58 : decode cX4_readTwoGuests 58 = .ok (.aload_n 0, 1) := by decide +kernel
theorem dX4_readTwoGuests_59 : decode cX4_readTwoGuests 59 = .ok (.getfield 27, 3) := by decide +kernel
theorem dX4_readTwoGuests_62 : decode cX4_readTwoGuests 62 = .ok (.if_icmp .eq 7, 3) := by decide +kernel
theorem dX4_readTwoGuests_65 : decode cX4_readTwoGuests 65 = .ok (.iconst 1, 1) := by decide +kernel
theorem dX4_readTwoGuests_66 : decode cX4_readTwoGuests 66 = .ok (.goto 4, 3) := by decide +kernel
theorem dX4_readTwoGuests_69 : decode cX4_readTwoGuests 69 = .ok (.iconst 0, 1) := by decide +kernel
theorem dX4_readTwoGuests_70 : decode cX4_readTwoGuests 70 = .ok (.ireturn, 1) := by decide +kernel
set_option maxRecDepth 20000 in
theorem ggX4_readNumber_X4_advance : GoodIn wsX4_readNumber wsX4_advance := goodIn_r _ [7, 8, 9, 10, 1, 11, 12, 13, 14, 15, 16, 17, 18, 19, 6, 20, 21, 22, 23, 24, 25, 26, 27, 28, 29, 30, 31, 32, 33, 34, 35, 36, 37, 38, 39, 40, 41, 42, 43, 44, 45, 46, 47, 48, 49, 50, 51, 52, 53, 54, 55, 56, 57, 58, 59, 60, 61, 62, 63, 64, 65, 66, 67, 68, 69, 70, 71, 72, 73, 74, 75, 76, 77, 78, 79, 80, 81, 82, 83, 84, 85, 86, 87, 2, 88, 89, 90, 91, 92, 93, 94, 95, 96, 97] (by decide +kernel) (by decide +kernel)
set_option maxRecDepth 20000 in
theorem gX4_readNumber_X4_advance : GoodIn wsX4_readNumber (wsV RX4 43 RX4 yX4_advance wsX4_advance) := goodIn_app (goodIn_of _ (by decide +kernel)) ggX4_readNumber_X4_advance
theorem dX4_readNumber_0 : decode cX4_readNumber 0 = .ok (.aload_n 0, 1) := by decide +kernel
theorem dX4_readNumber_1 : decode cX4_readNumber 1 = .ok (.invokevirtual 43, 3) := by decide +kernel
theorem dX4_readNumber_4 : decode cX4_readNumber 4 = .ok (.aload_n 0, 1) := by decide +kernel
theorem dX4_readNumber_5 : decode cX4_readNumber 5 = .ok (.getfield 15, 3) := by decide +kernel
theorem dX4_readNumber_8 : decode cX4_readNumber 8 = .ok (.bipush 11, 2) := by decide +kernel
theorem dX4_readNumber_10 : decode cX4_readNumber 10 = .ok (.if_icmp .ne 23, 3) := by decide +kernel
theorem dX4_readNumber_13 : decode cX4_readNumber 13 = .ok (.aload_n 0, 1) := by decide +kernel
theorem dX4_readNumber_14 : decode cX4_readNumber 14 = .ok (.getfield 21, 3) := by decide +kernel
theorem dX4_readNumber_17 : decode cX4_readNumber 17 = .ok (.iload_n 1, 1) := by decide +kernel
theorem dX4_readNumber_18 : decode cX4_readNumber 18 = .ok (.if_icmp .lt 15, 3) := by decide +kernel
theorem dX4_readNumber_21 : decode cX4_readNumber 21 = .ok (.aload_n 0, 1) := by decide +kernel
theorem dX4_readNumber_22 : decode cX4_readNumber 22 = .ok (.getfield 21, 3) := by decide +kernel
theorem dX4_readNumber_25 : decode cX4_readNumber 25 = .ok (.iload_n 2, 1) := by decide +kernel
theorem dX4_readNumber_26 : decode cX4_readNumber 26 = .ok (.if_icmp .gt 7, 3) := by decide +kernel
theorem dX4_readNumber_29 : decode cX4_readNumber 29 = .ok (.iconst 1, 1) := by decide +kernel
theorem dX4_readNumber_30 : decode cX4_readNumber 30 = .ok (.goto 4, 3) := by decide +kernel
theorem dX4_readNumber_33 : decode cX4_readNumber 33 = .ok (.iconst 0, 1) := by decide +kernel
theorem dX4_readNumber_34 : decode cX4_readNumber 34 = .ok (.ireturn, 1) := by decide +kernel
set_option maxRecDepth 20000 in
theorem ggX4_readSemicolon_X4_advance : GoodIn wsX4_readSemicolon wsX4_advance := goodIn_r _ [6, 7, 8, 9, 1, 10, 11, 12, 13, 14, 15, 16, 17, 18, 5, 19, 20, 21, 22, 23, 24, 25, 26, 27, 28, 29, 30, 31, 32, 33, 34, 35, 36, 37, 38, 39, 40, 41, 42, 43, 44, 45, 46, 47, 48, 49, 50, 51, 52, 53, 54, 55, 56, 57, 58, 59, 60, 61, 62, 63, 64, 65, 66, 67, 68, 69, 70, 71, 72, 73, 74, 75, 76, 77, 78, 79, 80, 81, 82, 83, 84, 85, 86, 87, 88, 89, 90, 91, 92, 93, 94, 95, 96, 97] (by decide +kernel) (by decide +kernel)
set_option maxRecDepth 20000 in
theorem gX4_readSemicolon_X4_advance : GoodIn wsX4_readSemicolon (wsV RX4 43 RX4 yX4_advance wsX4_advance) := goodIn_app (goodIn_of _ (by decide +kernel)) ggX4_readSemicolon_X4_advance
theorem dX4_readSemicolon_0 : decode cX4_readSemicolon 0 = .ok (.aload_n 0, 1) := by decide +kernel
theorem dX4_readSemicolon_1 : decode cX4_readSemicolon 1 = .ok (.invokevirtual 43, 3) := by decide +kernel
theorem dX4_readSemicolon_4 : decode cX4_readSemicolon 4 = .ok (.aload_n 0, 1) := by decide +kernel
theorem dX4_readSemicolon_5 : decode cX4_readSemicolon 5 = .ok (.getfield 15, 3) := by decide +kernel
theorem dX4_readSemicolon_8 : decode cX4_readSemicolon 8 = .ok (.bipush 12, 2) := by decide +kernel
theorem dX4_readSemicolon_10 : decode cX4_readSemicolon 10 = .ok (.if_icmp .ne 7, 3) := by decide +kernel
theorem dX4_readSemicolon_13 : decode cX4_readSemicolon 13 = .ok (.iconst 1, 1) := by decide +kernel
theorem dX4_readSemicolon_14 : decode cX4_readSemicolon 14 = .ok (.goto 4, 3) := by decide +kernel
theorem dX4_readSemicolon_17 : decode cX4_readSemicolon 17 = .ok (.iconst 0, 1) := by decide +kernel
theorem dX4_readSemicolon_18 : decode cX4_readSemicolon 18 = .ok (.ireturn, 1) := by decide +kernel
set_option maxRecDepth 20000 in
theorem ggX4_advance_X8_byteAt : GoodIn wsX4_advance wsX8_byteAt := goodIn_r _ [9, 10, 11, 92, 93] (by decide +kernel) (by decide +kernel)
set_option maxRecDepth 20000 in
theorem gX4_advance_X8_byteAt : GoodIn wsX4_advance (wsV RX4 114 RX8 yX8_byteAt wsX8_byteAt) := goodIn_app (goodIn_of _ (by decide +kernel)) ggX4_advance_X8_byteAt
set_option maxRecDepth 20000 in
theorem ggX4_advance_X4_isLetter : GoodIn wsX4_advance wsX4_isLetter := goodIn_r _ [15] (by decide +kernel) (by decide +kernel)
set_option maxRecDepth 20000 in
theorem gX4_advance_X4_isLetter : GoodIn wsX4_advance (va_wsS RX4 117 yX4_isLetter wsX4_isLetter) := goodIn_app (goodIn_of _ (by decide +kernel)) ggX4_advance_X4_isLetter
set_option maxRecDepth 20000 in
theorem ggX4_advance_X4_scanWord : GoodIn wsX4_advance wsX4_scanWord := goodIn_r _ [19, 1, 2, 5, 6, 7, 8, 9, 10, 11, 12, 13, 14, 15, 20, 21, 22, 23, 24, 25, 26, 3, 27, 28, 29, 30, 31, 32, 33, 34, 35, 36, 37, 38, 39, 40, 41, 42, 43, 44, 45, 46, 47, 48, 49, 50, 51, 52, 53, 54, 55, 56, 57, 58, 59, 60, 61, 62, 63, 64, 65, 66, 67, 68, 69, 70, 71, 72, 73, 74, 75, 84, 85, 86, 87, 88, 89, 90, 91, 92, 93] (by decide +kernel) (by decide +kernel)
set_option maxRecDepth 20000 in
theorem gX4_advance_X4_scanWord : GoodIn wsX4_advance (wsV RX4 120 RX4 yX4_scanWord wsX4_scanWord) := goodIn_app (goodIn_of _ (by decide +kernel)) ggX4_advance_X4_scanWord
set_option maxRecDepth 20000 in
theorem ggX4_advance_X4_isDigit : GoodIn wsX4_advance wsX4_isDigit := goodIn_r _ [78] (by decide +kernel) (by decide +kernel)
set_option maxRecDepth 20000 in
theorem gX4_advance_X4_isDigit : GoodIn wsX4_advance (va_wsS RX4 123 yX4_isDigit wsX4_isDigit) := goodIn_app (goodIn_of _ (by decide +kernel)) ggX4_advance_X4_isDigit
set_option maxRecDepth 20000 in
theorem ggX4_advance_X4_scanNumber : GoodIn wsX4_advance wsX4_scanNumber := goodIn_r _ [82, 83, 1, 2, 3, 5, 6, 7, 8, 9, 10, 11, 76, 77, 14, 78, 84, 85, 86, 87, 88, 89, 90, 91, 92, 93] (by decide +kernel) (by decide +kernel)
set_option maxRecDepth 20000 in
theorem gX4_advance_X4_scanNumber : GoodIn wsX4_advance (wsV RX4 126 RX4 yX4_scanNumber wsX4_scanNumber) := goodIn_app (goodIn_of _ (by decide +kernel)) ggX4_advance_X4_scanNumber
theorem dX4_advance_0 : decode cX4_advance 0 = .ok (.aload_n 0, 1) := by decide +kernel
theorem dX4_advance_1 : decode cX4_advance 1 = .ok (.getfield 9, 3) := by decide +kernel
theorem dX4_advance_4 : decode cX4_advance 4 = .ok (.sipush 300, 3) := by decide +kernel
theorem dX4_advance_7 : decode cX4_advance 7 = .ok (.if_icmp .ge 32, 3) := by decide +kernel
theorem dX4_advance_10 : decode cX4_advance 10 = .ok (.aload_n 0, 1) := by decide +kernel
theorem dX4_advance_11 : decode cX4_advance 11 = .ok (.getfield 30, 3) := by decide +kernel
theorem dX4_advance_14 : decode cX4_advance 14 = .ok (.aload_n 0, 1) := by decide +kernel
theorem dX4_advance_15 : decode cX4_advance 15 = .ok (.getfield 9, 3) := by decide +kernel
theorem dX4_advance_18 : decode cX4_advance 18 = .ok (.invokevirtual 114, 3) := by decide +kernel
theorem dX4_advance_21 : decode cX4_advance 21 = .ok (.bipush 32, 2) := by decide +kernel
theorem dX4_advance_23 : decode cX4_advance 23 = .ok (.if_icmp .ne 16, 3) := by decide +kernel
theorem dX4_advance_26 : decode cX4_advance 26 = .ok (.aload_n 0, 1) := by decide +kernel
theorem dX4_advance_27 : decode cX4_advance 27 = .ok (.dup, 1) := by decide +kernel
theorem dX4_advance_28 : decode cX4_advance 28 = .ok (.getfield 9, 3) := by decide +kernel
theorem dX4_advance_31 : decode cX4_advance 31 = .ok (.iconst 1, 1) := by decide +kernel
theorem dX4_advance_32 : decode cX4_advance 32 = .ok (.iadd, 1) := by decide +kernel
theorem dX4_advance_33 : decode cX4_advance 33 = .ok (.putfield 9, 3) := by decide +kernel
theorem dX4_advance_36 : decode cX4_advance 36 = .ok (.goto (-36), 3) := by decide +kernel
theorem dX4_advance_39 : decode cX4_advance 39 = .ok (.aload_n 0, 1) := by decide +kernel
theorem dX4_advance_40 : decode cX4_advance 40 = .ok (.aload_n 0, 1) := by decide +kernel
theorem dX4_advance_41 : decode cX4_advance 41 = .ok (.getfield 9, 3) := by decide +kernel
theorem dX4_advance_44 : decode cX4_advance 44 = .ok (.putfield 18, 3) := by decide +kernel
theorem dX4_advance_47 : decode cX4_advance 47 = .ok (.aload_n 0, 1) := by decide +kernel
theorem dX4_advance_48 : decode cX4_advance 48 = .ok (.getfield 30, 3) := by decide +kernel
theorem dX4_advance_51 : decode cX4_advance 51 = .ok (.aload_n 0, 1) := by decide +kernel
theorem dX4_advance_52 : decode cX4_advance 52 = .ok (.getfield 9, 3) := by decide +kernel
theorem dX4_advance_55 : decode cX4_advance 55 = .ok (.invokevirtual 114, 3) := by decide +kernel
theorem dX4_advance_58 : decode cX4_advance 58 = .ok (.istore_n 1, 1) := by decide +kernel
theorem dX4_advance_59 : decode cX4_advance 59 = .ok (.iload_n 1, 1) := by decide +kernel
theorem dX4_advance_60 : decode cX4_advance 60 = .ok (.iconst (-1), 1) := by decide +kernel
theorem dX4_advance_61 : decode cX4_advance 61 = .ok (.if_icmp .ne 12, 3) := by decide +kernel
theorem dX4_advance_64 : decode cX4_advance 64 = .ok (.aload_n 0, 1) := by decide +kernel
theorem dX4_advance_65 : decode cX4_advance 65 = .ok (.bipush 13, 2) := by decide +kernel
theorem dX4_advance_67 : decode cX4_advance 67 = .ok (.putfield 15, 3) := by decide +kernel
theorem dX4_advance_70 : decode cX4_advance 70 = .ok (.goto 70, 3) := by decide +kernel
theorem dX4_advance_73 : decode cX4_advance 73 = .ok (.iload_n 1, 1) := by decide +kernel
theorem dX4_advance_74 : decode cX4_advance 74 = .ok (.bipush 59, 2) := by decide +kernel
theorem dX4_advance_76 : decode cX4_advance 76 = .ok (.if_icmp .ne 22, 3) := by decide +kernel
theorem dX4_advance_79 : decode cX4_advance 79 = .ok (.aload_n 0, 1) := by decide +kernel
theorem dX4_advance_80 : decode cX4_advance 80 = .ok (.dup, 1) := by decide +kernel
theorem dX4_advance_81 : decode cX4_advance 81 = .ok (.getfield 9, 3) := by decide +kernel
theorem dX4_advance_84 : decode cX4_advance 84 = .ok (.iconst 1, 1) := by decide +kernel
theorem dX4_advance_85 : decode cX4_advance 85 = .ok (.iadd, 1) := by decide +kernel
theorem dX4_advance_86 : decode cX4_advance 86 = .ok (.putfield 9, 3) := by decide +kernel
theorem dX4_advance_89 : decode cX4_advance 89 = .ok (.aload_n 0, 1) := by decide +kernel
theorem dX4_advance_90 : decode cX4_advance 90 = .ok (.bipush 12, 2) := by decide +kernel
theorem dX4_advance_92 : decode cX4_advance 92 = .ok (.putfield 15, 3) := by decide +kernel
theorem dX4_advance_95 : decode cX4_advance 95 = .ok (.goto 45, 3) := by decide +kernel
theorem dX4_advance_98 : decode cX4_advance 98 = .ok (.iload_n 1, 1) := by decide +kernel
theorem dX4_advance_99 : decode cX4_advance 99 = .ok (.invokestatic 117, 3) := by decide +kernel
theorem dX4_advance_102 : decode cX4_advance 102 = .ok (.ifCond .eq 14, 3) := by decide +kernel
theorem dX4_advance_105 : decode cX4_advance 105 = .ok (.aload_n 0, 1) := by decide +kernel
theorem dX4_advance_106 : decode cX4_advance 106 = .ok (.aload_n 0, 1) := by decide +kernel
theorem dX4_advance_107 : decode cX4_advance 107 = .ok (.invokevirtual 120, 3) := by decide +kernel
theorem dX4_advance_110 : decode cX4_advance 110 = .ok (.putfield 15, 3) := by decide +kernel
theorem dX4_advance_113 : decode cX4_advance 113 = .ok (.goto 27, 3) := by decide +kernel
theorem dX4_advance_116 : decode cX4_advance 116 = .ok (.iload_n 1, 1) := by decide +kernel
theorem dX4_advance_117 : decode cX4_advance 117 = .ok (.invokestatic 123, 3) := by decide +kernel
theorem dX4_advance_120 : decode cX4_advance 120 = .ok (.ifCond .eq 14, 3) := by decide +kernel
theorem dX4_advance_123 : decode cX4_advance 123 = .ok (.aload_n 0, 1) := by decide +kernel
theorem dX4_advance_124 : decode cX4_advance 124 = .ok (.aload_n 0, 1) := by decide +kernel
theorem dX4_advance_125 : decode cX4_advance 125 = .ok (.invokevirtual 126, 3) := by decide +kernel
theorem dX4_advance_128 : decode cX4_advance 128 = .ok (.putfield 15, 3) := by decide +kernel
theorem dX4_advance_131 : decode cX4_advance 131 = .ok (.goto 9, 3) := by decide +kernel
theorem dX4_advance_134 : decode cX4_advance 134 = .ok (.aload_n 0, 1) := by decide +kernel
theorem dX4_advance_135 : decode cX4_advance 135 = .ok (.bipush 14, 2) := by decide +kernel
theorem dX4_advance_137 : decode cX4_advance 137 = .ok (.putfield 15, 3) := by decide +kernel
theorem dX4_advance_140 : decode cX4_advance 140 = .ok (.return_, 1) := by decide +kernel
set_option maxRecDepth 20000 in
theorem ggX4_scanWord_X8_byteAt : GoodIn wsX4_scanWord wsX8_byteAt := goodIn_r _ [7, 8, 9, 79, 80] (by decide +kernel) (by decide +kernel)
set_option maxRecDepth 20000 in
theorem gX4_scanWord_X8_byteAt : GoodIn wsX4_scanWord (wsV RX4 114 RX8 yX8_byteAt wsX8_byteAt) := goodIn_app (goodIn_of _ (by decide +kernel)) ggX4_scanWord_X8_byteAt
set_option maxRecDepth 20000 in
theorem ggX4_scanWord_X4_isLetter : GoodIn wsX4_scanWord wsX4_isLetter := goodIn_r _ [13] (by decide +kernel) (by decide +kernel)
set_option maxRecDepth 20000 in
theorem gX4_scanWord_X4_isLetter : GoodIn wsX4_scanWord (va_wsS RX4 117 yX4_isLetter wsX4_isLetter) := goodIn_app (goodIn_of _ (by decide +kernel)) ggX4_scanWord_X4_isLetter
set_option maxRecDepth 20000 in
theorem ggX4_scanWord_X4_spelling : GoodIn wsX4_scanWord wsX4_spelling := goodIn_r _ [16] (by decide +kernel) (by decide +kernel)
set_option maxRecDepth 20000 in
theorem gX4_scanWord_X4_spelling : GoodIn wsX4_scanWord (va_wsS RX4 129 yX4_spelling wsX4_spelling) := goodIn_app (goodIn_of _ (by decide +kernel)) ggX4_scanWord_X4_spelling
set_option maxRecDepth 20000 in
theorem ggX4_scanWord_X4_isSpelled : GoodIn wsX4_scanWord wsX4_isSpelled := goodIn_r _ [20, 1, 21, 2, 22, 23, 24, 25, 26, 27, 28, 29, 30, 31, 32, 33, 34, 35, 36, 37, 38, 39, 40, 41, 42, 43, 44, 45, 46, 47, 48, 49, 50, 51, 52, 53, 54, 55, 56, 57, 58, 59, 60, 61, 62, 63, 64, 65, 66, 67, 68, 69, 70, 3, 4, 5, 6, 7, 8, 9, 71, 72, 73, 74, 75, 76, 77, 78, 79, 80] (by decide +kernel) (by decide +kernel)
set_option maxRecDepth 20000 in
theorem gX4_scanWord_X4_isSpelled : GoodIn wsX4_scanWord (wsV RX4 133 RX4 yX4_isSpelled wsX4_isSpelled) := goodIn_app (goodIn_of _ (by decide +kernel)) ggX4_scanWord_X4_isSpelled
theorem dX4_scanWord_0 : decode cX4_scanWord 0 = .ok (.aload_n 0, 1) := by decide +kernel
theorem dX4_scanWord_1 : decode cX4_scanWord 1 = .ok (.getfield 9, 3) := by decide +kernel
theorem dX4_scanWord_4 : decode cX4_scanWord 4 = .ok (.sipush 300, 3) := by decide +kernel
theorem dX4_scanWord_7 : decode cX4_scanWord 7 = .ok (.if_icmp .ge 33, 3) := by decide +kernel
theorem dX4_scanWord_10 : decode cX4_scanWord 10 = .ok (.aload_n 0, 1) := by decide +kernel
theorem dX4_scanWord_11 : decode cX4_scanWord 11 = .ok (.getfield 30, 3) := by decide +kernel
theorem dX4_scanWord_14 : decode cX4_scanWord 14 = .ok (.aload_n 0, 1) := by decide +kernel
theorem dX4_scanWord_15 : decode cX4_scanWord 15 = .ok (.getfield 9, 3) := by decide +kernel
theorem dX4_scanWord_18 : decode cX4_scanWord 18 = .ok (.invokevirtual 114, 3) := by decide +kernel
theorem dX4_scanWord_21 : decode cX4_scanWord 21 = .ok (.invokestatic 117, 3) := by decide +kernel
theorem dX4_scanWord_24 : decode cX4_scanWord 24 = .ok (.ifCond .eq 16, 3) := by decide +kernel
theorem dX4_scanWord_27 : decode cX4_scanWord 27 = .ok (.aload_n 0, 1) := by decide +kernel
theorem dX4_scanWord_28 : decode cX4_scanWord 28 = .ok (.dup, 1) := by decide +kernel
theorem dX4_scanWord_29 : decode cX4_scanWord 29 = .ok (.getfield 9, 3) := by decide +kernel
theorem dX4_scanWord_32 : decode cX4_scanWord 32 = .ok (.iconst 1, 1) := by decide +kernel
theorem dX4_scanWord_33 : decode cX4_scanWord 33 = .ok (.iadd, 1) := by decide +kernel
theorem dX4_scanWord_34 : decode cX4_scanWord 34 = .ok (.putfield 9, 3) := by decide +kernel
theorem dX4_scanWord_37 : decode cX4_scanWord 37 = .ok (.goto (-37), 3) := by decide +kernel
theorem dX4_scanWord_40 : decode cX4_scanWord 40 = .ok (.iconst 0, 1) := by decide +kernel
theorem dX4_scanWord_41 : decode cX4_scanWord 41 = .ok (.istore_n 1, 1) := by decide +kernel
theorem dX4_scanWord_42 : decode cX4_scanWord 42 = .ok (.iload_n 1, 1) := by decide +kernel
theorem dX4_scanWord_43 : decode cX4_scanWord 43 = .ok (.bipush 11, 2) := by decide +kernel
theorem dX4_scanWord_45 : decode cX4_scanWord 45 = .ok (.if_icmp .ge 22, 3) := by decide +kernel
theorem dX4_scanWord_48 : decode cX4_scanWord 48 = .ok (.aload_n 0, 1) := by decide +kernel
theorem dX4_scanWord_49 : decode cX4_scanWord 49 = .ok (.iload_n 1, 1) := by decide +kernel
theorem dX4_scanWord_50 : decode cX4_scanWord 50 = .ok (.invokestatic 129, 3) := by decide +kernel
theorem dX4_scanWord_53 : decode cX4_scanWord 53 = .ok (.invokevirtual 133, 3) := by decide +kernel
theorem dX4_scanWord_56 : decode cX4_scanWord 56 = .ok (.ifCond .eq 5, 3) := by decide +kernel
theorem dX4_scanWord_59 : decode cX4_scanWord 59 = .ok (.iload_n 1, 1) := by decide +kernel
theorem dX4_scanWord_60 : decode cX4_scanWord 60 = .ok (.ireturn, 1) := by decide +kernel
theorem dX4_scanWord_61 : decode cX4_scanWord 61 = .ok (.iinc 1 1, 3) := by decide +kernel
theorem dX4_scanWord_64 : decode cX4_scanWord 64 = .ok (.goto (-22), 3) := by decide +kernel
theorem dX4_scanWord_67 : decode cX4_scanWord 67 = .ok (.bipush 14, 2) := by decide +kernel
theorem dX4_scanWord_69 : decode cX4_scanWord 69 = .ok (.ireturn, 1) := by decide +kernel
set_option maxRecDepth 20000 in
theorem ggX4_isSpelled_J0_length_8abf5 : GoodIn wsX4_isSpelled wsJ0_length_8abf5 := goodIn_r _ [8, 9, 10, 11, 12, 7, 13, 14, 15] (by decide +kernel) (by decide +kernel)
set_option maxRecDepth 20000 in
theorem gX4_isSpelled_J0_length_8abf5 : GoodIn wsX4_isSpelled (wsV RX4 137 RJ0 yJ0_length_8abf5 wsJ0_length_8abf5) := goodIn_app (goodIn_of _ (by decide +kernel)) ggX4_isSpelled_J0_length_8abf5
set_option maxRecDepth 20000 in
theorem ggX4_isSpelled_J0_charAt_5068e : GoodIn wsX4_isSpelled wsJ0_charAt_5068e := goodIn_r _ [19, 9, 20, 21, 22, 7, 23, 14, 15, 24, 25, 26, 27, 28, 29, 30, 31, 32, 33, 34, 35, 36, 37, 38, 39, 40, 41, 42, 43, 44, 45, 46, 47, 48, 49, 50, 51, 52] (by decide +kernel) (by decide +kernel)
set_option maxRecDepth 20000 in
theorem gX4_isSpelled_J0_charAt_5068e : GoodIn wsX4_isSpelled (wsV RX4 142 RJ0 yJ0_charAt_5068e wsJ0_charAt_5068e) := goodIn_app (goodIn_of _ (by decide +kernel)) ggX4_isSpelled_J0_charAt_5068e
set_option maxRecDepth 20000 in
theorem ggX4_isSpelled_X8_byteAt : GoodIn wsX4_isSpelled wsX8_byteAt := goodIn_r _ [57, 58, 59, 68, 69] (by decide +kernel) (by decide +kernel)
set_option maxRecDepth 20000 in
theorem gX4_isSpelled_X8_byteAt : GoodIn wsX4_isSpelled (wsV RX4 114 RX8 yX8_byteAt wsX8_byteAt) := goodIn_app (goodIn_of _ (by decide +kernel)) ggX4_isSpelled_X8_byteAt
theorem dX4_isSpelled_0 : decode cX4_isSpelled 0 = .ok (.aload_n 1, 1) := by decide +kernel
theorem dX4_isSpelled_1 : decode cX4_isSpelled 1 = .ok (.invokevirtual 137, 3) := by decide +kernel
theorem dX4_isSpelled_4 : decode cX4_isSpelled 4 = .ok (.aload_n 0, 1) := by decide +kernel
theorem dX4_isSpelled_5 : decode cX4_isSpelled 5 = .ok (.getfield 9, 3) := by decide +kernel
theorem dX4_isSpelled_8 : decode cX4_isSpelled 8 = .ok (.aload_n 0, 1) := by decide +kernel
theorem dX4_isSpelled_9 : decode cX4_isSpelled 9 = .ok (.getfield 18, 3) := by decide +kernel
theorem dX4_isSpelled_12 : decode cX4_isSpelled 12 = .ok (.isub, 1) := by decide +kernel
theorem dX4_isSpelled_13 : decode cX4_isSpelled 13 = .ok (.if_icmp .eq 5, 3) := by decide +kernel
theorem dX4_isSpelled_16 : decode cX4_isSpelled 16 = .ok (.iconst 0, 1) := by decide +kernel
theorem dX4_isSpelled_17 : decode cX4_isSpelled 17 = .ok (.ireturn, 1) := by decide +kernel
theorem dX4_isSpelled_18 : decode cX4_isSpelled 18 = .ok (.iconst 0, 1) := by decide +kernel
theorem dX4_isSpelled_19 : decode cX4_isSpelled 19 = .ok (.istore_n 2, 1) := by decide +kernel
theorem dX4_isSpelled_20 : decode cX4_isSpelled 20 = .ok (.iload_n 2, 1) := by decide +kernel
theorem dX4_isSpelled_21 : decode cX4_isSpelled 21 = .ok (.aload_n 1, 1) := by decide +kernel
theorem dX4_isSpelled_22 : decode cX4_isSpelled 22 = .ok (.invokevirtual 137, 3) := by decide +kernel
theorem dX4_isSpelled_25 : decode cX4_isSpelled 25 = .ok (.if_icmp .ge 32, 3) := by decide +kernel
theorem dX4_isSpelled_28 : decode cX4_isSpelled 28 = .ok (.aload_n 1, 1) := by decide +kernel
theorem dX4_isSpelled_29 : decode cX4_isSpelled 29 = .ok (.iload_n 2, 1) := by decide +kernel
theorem dX4_isSpelled_30 : decode cX4_isSpelled 30 = .ok (.invokevirtual 142, 3) := by decide +kernel
theorem dX4_isSpelled_33 : decode cX4_isSpelled 33 = .ok (.aload_n 0, 1) := by decide +kernel
theorem dX4_isSpelled_34 : decode cX4_isSpelled 34 = .ok (.getfield 30, 3) := by decide +kernel
theorem dX4_isSpelled_37 : decode cX4_isSpelled 37 = .ok (.aload_n 0, 1) := by decide +kernel
theorem dX4_isSpelled_38 : decode cX4_isSpelled 38 = .ok (.getfield 18, 3) := by decide +kernel
theorem dX4_isSpelled_41 : decode cX4_isSpelled 41 = .ok (.iload_n 2, 1) := by decide +kernel
theorem dX4_isSpelled_42 : decode cX4_isSpelled 42 = .ok (.iadd, 1) := by decide +kernel
theorem dX4_isSpelled_43 : decode cX4_isSpelled 43 = .ok (.invokevirtual 114, 3) := by decide +kernel
theorem dX4_isSpelled_46 : decode cX4_isSpelled 46 = .ok (.if_icmp .eq 5, 3) := by decide +kernel
theorem dX4_isSpelled_49 : decode cX4_isSpelled 49 = .ok (.iconst 0, 1) := by decide +kernel
theorem dX4_isSpelled_50 : decode cX4_isSpelled 50 = .ok (.ireturn, 1) := by decide +kernel
theorem dX4_isSpelled_51 : decode cX4_isSpelled 51 = .ok (.iinc 2 1, 3) := by decide +kernel
theorem dX4_isSpelled_54 : decode cX4_isSpelled 54 = .ok (.goto (-34), 3) := by decide +kernel
theorem dX4_isSpelled_57 : decode cX4_isSpelled 57 = .ok (.iconst 1, 1) := by decide +kernel
theorem dX4_isSpelled_58 : decode cX4_isSpelled 58 = .ok (.ireturn, 1) := by decide +kernel
set_option maxRecDepth 20000 in
theorem ggX4_scanNumber_X8_byteAt : GoodIn wsX4_scanNumber wsX8_byteAt := goodIn_r _ [9, 10, 11, 24, 25] (by decide +kernel) (by decide +kernel)
set_option maxRecDepth 20000 in
theorem gX4_scanNumber_X8_byteAt : GoodIn wsX4_scanNumber (wsV RX4 114 RX8 yX8_byteAt wsX8_byteAt) := goodIn_app (goodIn_of _ (by decide +kernel)) ggX4_scanNumber_X8_byteAt
set_option maxRecDepth 20000 in
theorem ggX4_scanNumber_X4_isDigit : GoodIn wsX4_scanNumber wsX4_isDigit := goodIn_r _ [15] (by decide +kernel) (by decide +kernel)
set_option maxRecDepth 20000 in
theorem gX4_scanNumber_X4_isDigit : GoodIn wsX4_scanNumber (va_wsS RX4 123 yX4_isDigit wsX4_isDigit) := goodIn_app (goodIn_of _ (by decide +kernel)) ggX4_scanNumber_X4_isDigit
theorem dX4_scanNumber_0 : decode cX4_scanNumber 0 = .ok (.aload_n 0, 1) := by decide +kernel
theorem dX4_scanNumber_1 : decode cX4_scanNumber 1 = .ok (.iconst 0, 1) := by decide +kernel
theorem dX4_scanNumber_2 : decode cX4_scanNumber 2 = .ok (.putfield 21, 3) := by decide +kernel
theorem dX4_scanNumber_5 : decode cX4_scanNumber 5 = .ok (.aload_n 0, 1) := by decide +kernel
theorem dX4_scanNumber_6 : decode cX4_scanNumber 6 = .ok (.getfield 9, 3) := by decide +kernel
theorem dX4_scanNumber_9 : decode cX4_scanNumber 9 = .ok (.sipush 300, 3) := by decide +kernel
theorem dX4_scanNumber_12 : decode cX4_scanNumber 12 = .ok (.if_icmp .ge 68, 3) := by decide +kernel
theorem dX4_scanNumber_15 : decode cX4_scanNumber 15 = .ok (.aload_n 0, 1) := by decide +kernel
theorem dX4_scanNumber_16 : decode cX4_scanNumber 16 = .ok (.getfield 30, 3) := by decide +kernel
theorem dX4_scanNumber_19 : decode cX4_scanNumber 19 = .ok (.aload_n 0, 1) := by decide +kernel
theorem dX4_scanNumber_20 : decode cX4_scanNumber 20 = .ok (.getfield 9, 3) := by decide +kernel
theorem dX4_scanNumber_23 : decode cX4_scanNumber 23 = .ok (.invokevirtual 114, 3) := by decide +kernel
theorem dX4_scanNumber_26 : decode cX4_scanNumber 26 = .ok (.invokestatic 123, 3) := by decide +kernel
theorem dX4_scanNumber_29 : decode cX4_scanNumber 29 = .ok (.ifCond .eq 51, 3) := by decide +kernel
theorem dX4_scanNumber_32 : decode cX4_scanNumber 32 = .ok (.aload_n 0, 1) := by decide +kernel
theorem dX4_scanNumber_33 : decode cX4_scanNumber 33 = .ok (.getfield 21, 3) := by decide +kernel
theorem dX4_scanNumber_36 : decode cX4_scanNumber 36 = .ok (.bipush 99, 2) := by decide +kernel
theorem dX4_scanNumber_38 : decode cX4_scanNumber 38 = .ok (.if_icmp .gt 29, 3) := by decide +kernel
theorem dX4_scanNumber_41 : decode cX4_scanNumber 41 = .ok (.aload_n 0, 1) := by decide +kernel
theorem dX4_scanNumber_42 : decode cX4_scanNumber 42 = .ok (.aload_n 0, 1) := by decide +kernel
theorem dX4_scanNumber_43 : decode cX4_scanNumber 43 = .ok (.getfield 21, 3) := by decide +kernel
theorem dX4_scanNumber_46 : decode cX4_scanNumber 46 = .ok (.bipush 10, 2) := by decide +kernel
theorem dX4_scanNumber_48 : decode cX4_scanNumber 48 = .ok (.imul, 1) := by decide +kernel
theorem dX4_scanNumber_49 : decode cX4_scanNumber 49 = .ok (.aload_n 0, 1) := by decide +kernel
theorem dX4_scanNumber_50 : decode cX4_scanNumber 50 = .ok (.getfield 30, 3) := by decide +kernel
theorem dX4_scanNumber_53 : decode cX4_scanNumber 53 = .ok (.aload_n 0, 1) := by decide +kernel
theorem dX4_scanNumber_54 : decode cX4_scanNumber 54 = .ok (.getfield 9, 3) := by decide +kernel
theorem dX4_scanNumber_57 : decode cX4_scanNumber 57 = .ok (.invokevirtual 114, 3) := by decide +kernel
theorem dX4_scanNumber_60 : decode cX4_scanNumber 60 = .ok (.iadd, 1) := by decide +kernel
theorem dX4_scanNumber_61 : decode cX4_scanNumber 61 = .ok (.bipush 48, 2) := by decide +kernel
theorem dX4_scanNumber_63 : decode cX4_scanNumber 63 = .ok (.isub, 1) := by decide +kernel
theorem dX4_scanNumber_64 : decode cX4_scanNumber 64 = .ok (.putfield 21, 3) := by decide +kernel
theorem dX4_scanNumber_67 : decode cX4_scanNumber 67 = .ok (.aload_n 0, 1) := by decide +kernel
theorem dX4_scanNumber_68 : decode cX4_scanNumber 68 = .ok (.dup, 1) := by decide +kernel
theorem dX4_scanNumber_69 : decode cX4_scanNumber 69 = .ok (.getfield 9, 3) := by decide +kernel
theorem dX4_scanNumber_72 : decode cX4_scanNumber 72 = .ok (.iconst 1, 1) := by decide +kernel
theorem dX4_scanNumber_73 : decode cX4_scanNumber 73 = .ok (.iadd, 1) := by decide +kernel
theorem dX4_scanNumber_74 : decode cX4_scanNumber 74 = .ok (.putfield 9, 3) := by decide +kernel
theorem dX4_scanNumber_77 : decode cX4_scanNumber 77 = .ok (.goto (-72), 3) := by decide +kernel
theorem dX4_scanNumber_80 : decode cX4_scanNumber 80 = .ok (.aload_n 0, 1) := by decide +kernel
theorem dX4_scanNumber_81 : decode cX4_scanNumber 81 = .ok (.getfield 30, 3) := by decide +kernel
theorem dX4_scanNumber_84 : decode cX4_scanNumber 84 = .ok (.aload_n 0, 1) := by decide +kernel
theorem dX4_scanNumber_85 : decode cX4_scanNumber 85 = .ok (.getfield 18, 3) := by decide +kernel
theorem dX4_scanNumber_88 : decode cX4_scanNumber 88 = .ok (.invokevirtual 114, 3) := by decide +kernel
theorem dX4_scanNumber_91 : decode cX4_scanNumber 91 = .ok (.bipush 48, 2) := by decide +kernel
theorem dX4_scanNumber_93 : decode cX4_scanNumber 93 = .ok (.if_icmp .ne 20, 3) := by decide +kernel
theorem dX4_scanNumber_96 : decode cX4_scanNumber 96 = .ok (.aload_n 0, 1) := by decide +kernel
theorem dX4_scanNumber_97 : decode cX4_scanNumber 97 = .ok (.getfield 9, 3) := by decide +kernel
theorem dX4_scanNumber_100 : decode cX4_scanNumber 100 = .ok (.aload_n 0, 1) := by decide +kernel
theorem dX4_scanNumber_101 : decode cX4_scanNumber 101 = .ok (.getfield 18, 3) := by decide +kernel
theorem dX4_scanNumber_104 : decode cX4_scanNumber 104 = .ok (.isub, 1) := by decide +kernel
theorem dX4_scanNumber_105 : decode cX4_scanNumber 105 = .ok (.iconst 1, 1) := by decide +kernel
theorem dX4_scanNumber_106 : decode cX4_scanNumber 106 = .ok (.if_icmp .le 7, 3) := by decide +kernel
theorem dX4_scanNumber_109 : decode cX4_scanNumber 109 = .ok (.iconst 1, 1) := by decide +kernel
theorem dX4_scanNumber_110 : decode cX4_scanNumber 110 = .ok (.goto 4, 3) := by decide +kernel
theorem dX4_scanNumber_113 : decode cX4_scanNumber 113 = .ok (.iconst 0, 1) := by decide +kernel
theorem dX4_scanNumber_114 : decode cX4_scanNumber 114 = .ok (.istore_n 1, 1) := by decide +kernel
theorem dX4_scanNumber_115 : decode cX4_scanNumber 115 = .ok (.aload_n 0, 1) := by decide +kernel
theorem dX4_scanNumber_116 : decode cX4_scanNumber 116 = .ok (.getfield 21, 3) := by decide +kernel
theorem dX4_scanNumber_119 : decode cX4_scanNumber 119 = .ok (.bipush 99, 2) := by decide +kernel
theorem dX4_scanNumber_121 : decode cX4_scanNumber 121 = .ok (.if_icmp .gt 7, 3) := by decide +kernel
theorem dX4_scanNumber_124 : decode cX4_scanNumber 124 = .ok (.iload_n 1, 1) := by decide +kernel
theorem dX4_scanNumber_125 : decode cX4_scanNumber 125 = .ok (.ifCond .eq 8, 3) := by decide +kernel
theorem dX4_scanNumber_128 : decode cX4_scanNumber 128 = .ok (.bipush 14, 2) := by decide +kernel
theorem dX4_scanNumber_130 : decode cX4_scanNumber 130 = .ok (.goto 5, 3) := by decide +kernel
theorem dX4_scanNumber_133 : decode cX4_scanNumber 133 = .ok (.bipush 11, 2) := by decide +kernel
theorem dX4_scanNumber_135 : decode cX4_scanNumber 135 = .ok (.ireturn, 1) := by decide +kernel
theorem dX4_isLetter_0 : decode cX4_isLetter 0 = .ok (.iload_n 0, 1) := by decide +kernel
theorem dX4_isLetter_1 : decode cX4_isLetter 1 = .ok (.bipush 97, 2) := by decide +kernel
theorem dX4_isLetter_3 : decode cX4_isLetter 3 = .ok (.if_icmp .lt 13, 3) := by decide +kernel
theorem dX4_isLetter_6 : decode cX4_isLetter 6 = .ok (.iload_n 0, 1) := by decide +kernel
theorem dX4_isLetter_7 : decode cX4_isLetter 7 = .ok (.bipush 122, 2) := by decide +kernel
theorem dX4_isLetter_9 : decode cX4_isLetter 9 = .ok (.if_icmp .gt 7, 3) := by decide +kernel
theorem dX4_isLetter_12 : decode cX4_isLetter 12 = .ok (.iconst 1, 1) := by decide +kernel
theorem dX4_isLetter_13 : decode cX4_isLetter 13 = .ok (.goto 4, 3) := by decide +kernel
theorem dX4_isLetter_16 : decode cX4_isLetter 16 = .ok (.iconst 0, 1) := by decide +kernel
theorem dX4_isLetter_17 : decode cX4_isLetter 17 = .ok (.ireturn, 1) := by decide +kernel
theorem dX4_isDigit_0 : decode cX4_isDigit 0 = .ok (.iload_n 0, 1) := by decide +kernel
theorem dX4_isDigit_1 : decode cX4_isDigit 1 = .ok (.bipush 48, 2) := by decide +kernel
theorem dX4_isDigit_3 : decode cX4_isDigit 3 = .ok (.if_icmp .lt 13, 3) := by decide +kernel
theorem dX4_isDigit_6 : decode cX4_isDigit 6 = .ok (.iload_n 0, 1) := by decide +kernel
theorem dX4_isDigit_7 : decode cX4_isDigit 7 = .ok (.bipush 57, 2) := by decide +kernel
theorem dX4_isDigit_9 : decode cX4_isDigit 9 = .ok (.if_icmp .gt 7, 3) := by decide +kernel
theorem dX4_isDigit_12 : decode cX4_isDigit 12 = .ok (.iconst 1, 1) := by decide +kernel
theorem dX4_isDigit_13 : decode cX4_isDigit 13 = .ok (.goto 4, 3) := by decide +kernel
theorem dX4_isDigit_16 : decode cX4_isDigit 16 = .ok (.iconst 0, 1) := by decide +kernel
theorem dX4_isDigit_17 : decode cX4_isDigit 17 = .ok (.ireturn, 1) := by decide +kernel
theorem dX4_spelling_0 : decode cX4_spelling 0 = .ok (.iload_n 0, 1) := by decide +kernel
theorem dX4_spelling_1 : decode cX4_spelling 1 = .ok (.tableswitch 85 0 9 #[55, 58, 61, 64, 67, 70, 73, 76, 79, 82], 55) := by decide +kernel
theorem dX4_spelling_56 : decode cX4_spelling 56 = .ok (.ldc 146, 2) := by decide +kernel
theorem dX4_spelling_58 : decode cX4_spelling 58 = .ok (.areturn, 1) := by decide +kernel
theorem dX4_spelling_59 : decode cX4_spelling 59 = .ok (.ldc 147, 2) := by decide +kernel
theorem dX4_spelling_61 : decode cX4_spelling 61 = .ok (.areturn, 1) := by decide +kernel
theorem dX4_spelling_62 : decode cX4_spelling 62 = .ok (.ldc 149, 2) := by decide +kernel
theorem dX4_spelling_64 : decode cX4_spelling 64 = .ok (.areturn, 1) := by decide +kernel
theorem dX4_spelling_65 : decode cX4_spelling 65 = .ok (.ldc 151, 2) := by decide +kernel
theorem dX4_spelling_67 : decode cX4_spelling 67 = .ok (.areturn, 1) := by decide +kernel
theorem dX4_spelling_68 : decode cX4_spelling 68 = .ok (.ldc 153, 2) := by decide +kernel
theorem dX4_spelling_70 : decode cX4_spelling 70 = .ok (.areturn, 1) := by decide +kernel
theorem dX4_spelling_71 : decode cX4_spelling 71 = .ok (.ldc 155, 2) := by decide +kernel
theorem dX4_spelling_73 : decode cX4_spelling 73 = .ok (.areturn, 1) := by decide +kernel
theorem dX4_spelling_74 : decode cX4_spelling 74 = .ok (.ldc 157, 2) := by decide +kernel
theorem dX4_spelling_76 : decode cX4_spelling 76 = .ok (.areturn, 1) := by decide +kernel
theorem dX4_spelling_77 : decode cX4_spelling 77 = .ok (.ldc 159, 2) := by decide +kernel
theorem dX4_spelling_79 : decode cX4_spelling 79 = .ok (.areturn, 1) := by decide +kernel
theorem dX4_spelling_80 : decode cX4_spelling 80 = .ok (.ldc 161, 2) := by decide +kernel
theorem dX4_spelling_82 : decode cX4_spelling 82 = .ok (.areturn, 1) := by decide +kernel
theorem dX4_spelling_83 : decode cX4_spelling 83 = .ok (.ldc 163, 2) := by decide +kernel
theorem dX4_spelling_85 : decode cX4_spelling 85 = .ok (.areturn, 1) := by decide +kernel
theorem dX4_spelling_86 : decode cX4_spelling 86 = .ok (.ldc 165, 2) := by decide +kernel
theorem dX4_spelling_88 : decode cX4_spelling 88 = .ok (.areturn, 1) := by decide +kernel
theorem dX5_init_0 : decode cX5_init 0 = .ok (.aload_n 0, 1) := by decide +kernel
theorem dX5_init_1 : decode cX5_init 1 = .ok (.invokespecial 3, 3) := by decide +kernel
theorem dX5_init_4 : decode cX5_init 4 = .ok (.aload_n 0, 1) := by decide +kernel
theorem dX5_init_5 : decode cX5_init 5 = .ok (.bipush 8, 2) := by decide +kernel
theorem dX5_init_7 : decode cX5_init 7 = .ok (.newarray .int, 2) := by decide +kernel
theorem dX5_init_9 : decode cX5_init 9 = .ok (.putfield 9, 3) := by decide +kernel
theorem dX5_init_12 : decode cX5_init 12 = .ok (.aload_n 0, 1) := by decide +kernel
theorem dX5_init_13 : decode cX5_init 13 = .ok (.iconst 5, 1) := by decide +kernel
theorem dX5_init_14 : decode cX5_init 14 = .ok (.newarray .int, 2) := by decide +kernel
theorem dX5_init_16 : decode cX5_init 16 = .ok (.putfield 15, 3) := by decide +kernel
theorem dX5_init_19 : decode cX5_init 19 = .ok (.aload_n 0, 1) := by decide +kernel
theorem dX5_init_20 : decode cX5_init 20 = .ok (.bipush 8, 2) := by decide +kernel
theorem dX5_init_22 : decode cX5_init 22 = .ok (.newarray .int, 2) := by decide +kernel
theorem dX5_init_24 : decode cX5_init 24 = .ok (.putfield 18, 3) := by decide +kernel
theorem dX5_init_27 : decode cX5_init 27 = .ok (.aload_n 0, 1) := by decide +kernel
theorem dX5_init_28 : decode cX5_init 28 = .ok (.bipush 8, 2) := by decide +kernel
theorem dX5_init_30 : decode cX5_init 30 = .ok (.newarray .int, 2) := by decide +kernel
theorem dX5_init_32 : decode cX5_init 32 = .ok (.putfield 21, 3) := by decide +kernel
theorem dX5_init_35 : decode cX5_init 35 = .ok (.aload_n 0, 1) := by decide +kernel
theorem dX5_init_36 : decode cX5_init 36 = .ok (.bipush 8, 2) := by decide +kernel
theorem dX5_init_38 : decode cX5_init 38 = .ok (.bipush 8, 2) := by decide +kernel
theorem dX5_init_40 : decode cX5_init 40 = .ok (.multianewarray 24 2, 4) := by decide +kernel
theorem dX5_init_44 : decode cX5_init 44 = .ok (.putfield 26, 3) := by decide +kernel
theorem dX5_init_47 : decode cX5_init 47 = .ok (.aload_n 0, 1) := by decide +kernel
theorem dX5_init_48 : decode cX5_init 48 = .ok (.iconst 4, 1) := by decide +kernel
theorem dX5_init_49 : decode cX5_init 49 = .ok (.putfield 29, 3) := by decide +kernel
theorem dX5_init_52 : decode cX5_init 52 = .ok (.return_, 1) := by decide +kernel
theorem dX5_reset_0 : decode cX5_reset 0 = .ok (.aload_n 0, 1) := by decide +kernel
theorem dX5_reset_1 : decode cX5_reset 1 = .ok (.iconst 4, 1) := by decide +kernel
theorem dX5_reset_2 : decode cX5_reset 2 = .ok (.putfield 29, 3) := by decide +kernel
theorem dX5_reset_5 : decode cX5_reset 5 = .ok (.iconst 0, 1) := by decide +kernel
theorem dX5_reset_6 : decode cX5_reset 6 = .ok (.istore_n 1, 1) := by decide +kernel
theorem dX5_reset_7 : decode cX5_reset 7 = .ok (.iload_n 1, 1) := by decide +kernel
theorem dX5_reset_8 : decode cX5_reset 8 = .ok (.iconst 5, 1) := by decide +kernel
theorem dX5_reset_9 : decode cX5_reset 9 = .ok (.if_icmp .ge 16, 3) := by decide +kernel
theorem dX5_reset_12 : decode cX5_reset 12 = .ok (.aload_n 0, 1) := by decide +kernel
theorem dX5_reset_13 : decode cX5_reset 13 = .ok (.getfield 15, 3) := by decide +kernel
theorem dX5_reset_16 : decode cX5_reset 16 = .ok (.iload_n 1, 1) := by decide +kernel
theorem dX5_reset_17 : decode cX5_reset 17 = .ok (.iconst 0, 1) := by decide +kernel
theorem dX5_reset_18 : decode cX5_reset 18 = .ok (.iastore, 1) := by decide +kernel
theorem dX5_reset_19 : decode cX5_reset 19 = .ok (.iinc 1 1, 3) := by decide +kernel
theorem dX5_reset_22 : decode cX5_reset 22 = .ok (.goto (-15), 3) := by decide +kernel
theorem dX5_reset_25 : decode cX5_reset 25 = .ok (.iconst 0, 1) := by decide +kernel
theorem dX5_reset_26 : decode cX5_reset 26 = .ok (.istore_n 1, 1) := by decide +kernel
theorem dX5_reset_27 : decode cX5_reset 27 = .ok (.iload_n 1, 1) := by decide +kernel
theorem dX5_reset_28 : decode cX5_reset 28 = .ok (.bipush 8, 2) := by decide +kernel
theorem dX5_reset_30 : decode cX5_reset 30 = .ok (.if_icmp .ge 53, 3) := by decide +kernel
theorem dX5_reset_33 : decode cX5_reset 33 = .ok (.aload_n 0, 1) := by decide +kernel
theorem dX5_reset_34 : decode cX5_reset 34 = .ok (.getfield 9, 3) := by decide +kernel
theorem dX5_reset_37 : decode cX5_reset 37 = .ok (.iload_n 1, 1) := by decide +kernel
theorem dX5_reset_38 : decode cX5_reset 38 = .ok (.iconst 0, 1) := by decide +kernel
theorem dX5_reset_39 : decode cX5_reset 39 = .ok (.iastore, 1) := by decide +kernel
theorem dX5_reset_40 : decode cX5_reset 40 = .ok (.aload_n 0, 1) := by decide +kernel
theorem dX5_reset_41 : decode cX5_reset 41 = .ok (.getfield 18, 3) := by decide +kernel
theorem dX5_reset_44 : decode cX5_reset 44 = .ok (.iload_n 1, 1) := by decide +kernel
theorem dX5_reset_45 : decode cX5_reset 45 = .ok (.iconst 0, 1) := by decide +kernel
theorem dX5_reset_46 : decode cX5_reset 46 = .ok (.iastore, 1) := by decide +kernel
theorem dX5_reset_47 : decode cX5_reset 47 = .ok (.aload_n 0, 1) := by decide +kernel
theorem dX5_reset_48 : decode cX5_reset 48 = .ok (.getfield 21, 3) := by decide +kernel
theorem dX5_reset_51 : decode cX5_reset 51 = .ok (.iload_n 1, 1) := by decide +kernel
theorem dX5_reset_52 : decode cX5_reset 52 = .ok (.iconst 0, 1) := by decide +kernel
theorem dX5_reset_53 : decode cX5_reset 53 = .ok (.iastore, 1) := by decide +kernel
theorem dX5_reset_54 : decode cX5_reset 54 = .ok (.iconst 0, 1) := by decide +kernel
theorem dX5_reset_55 : decode cX5_reset 55 = .ok (.istore_n 2, 1) := by decide +kernel
theorem dX5_reset_56 : decode cX5_reset 56 = .ok (.iload_n 2, 1) := by decide +kernel
theorem dX5_reset_57 : decode cX5_reset 57 = .ok (.bipush 8, 2) := by decide +kernel
theorem dX5_reset_59 : decode cX5_reset 59 = .ok (.if_icmp .ge 18, 3) := by decide +kernel
theorem dX5_reset_62 : decode cX5_reset 62 = .ok (.aload_n 0, 1) := by decide +kernel
theorem dX5_reset_63 : decode cX5_reset 63 = .ok (.getfield 26, 3) := by decide +kernel
theorem dX5_reset_66 : decode cX5_reset 66 = .ok (.iload_n 1, 1) := by decide +kernel
theorem dX5_reset_67 : decode cX5_reset 67 = .ok (.aaload, 1) := by decide +kernel
theorem dX5_reset_68 : decode cX5_reset 68 = .ok (.iload_n 2, 1) := by decide +kernel
theorem dX5_reset_69 : decode cX5_reset 69 = .ok (.iconst 0, 1) := by decide +kernel
theorem dX5_reset_70 : decode cX5_reset 70 = .ok (.iastore, 1) := by decide +kernel
theorem dX5_reset_71 : decode cX5_reset 71 = .ok (.iinc 2 1, 3) := by decide +kernel
theorem dX5_reset_74 : decode cX5_reset 74 = .ok (.goto (-18), 3) := by decide +kernel
theorem dX5_reset_77 : decode cX5_reset 77 = .ok (.iinc 1 1, 3) := by decide +kernel
theorem dX5_reset_80 : decode cX5_reset 80 = .ok (.goto (-53), 3) := by decide +kernel
theorem dX5_reset_83 : decode cX5_reset 83 = .ok (.return_, 1) := by decide +kernel
theorem dX5_guests_0 : decode cX5_guests 0 = .ok (.aload_n 0, 1) := by decide +kernel
theorem dX5_guests_1 : decode cX5_guests 1 = .ok (.getfield 29, 3) := by decide +kernel
theorem dX5_guests_4 : decode cX5_guests 4 = .ok (.ireturn, 1) := by decide +kernel
theorem dX5_setGuests_0 : decode cX5_setGuests 0 = .ok (.iload_n 1, 1) := by decide +kernel
theorem dX5_setGuests_1 : decode cX5_setGuests 1 = .ok (.iconst 1, 1) := by decide +kernel
theorem dX5_setGuests_2 : decode cX5_setGuests 2 = .ok (.if_icmp .lt 14, 3) := by decide +kernel
theorem dX5_setGuests_5 : decode cX5_setGuests 5 = .ok (.iload_n 1, 1) := by decide +kernel
theorem dX5_setGuests_6 : decode cX5_setGuests 6 = .ok (.bipush 8, 2) := by decide +kernel
theorem dX5_setGuests_8 : decode cX5_setGuests 8 = .ok (.if_icmp .gt 8, 3) := by decide +kernel
theorem dX5_setGuests_11 : decode cX5_setGuests 11 = .ok (.aload_n 0, 1) := by decide +kernel
theorem dX5_setGuests_12 : decode cX5_setGuests 12 = .ok (.iload_n 1, 1) := by decide +kernel
theorem dX5_setGuests_13 : decode cX5_setGuests 13 = .ok (.putfield 29, 3) := by decide +kernel
theorem dX5_setGuests_16 : decode cX5_setGuests 16 = .ok (.return_, 1) := by decide +kernel
set_option maxRecDepth 20000 in
theorem ggX5_hatOf_X5_isOne : GoodIn wsX5_hatOf wsX5_isOne := goodIn_r _ [5] (by decide +kernel) (by decide +kernel)
set_option maxRecDepth 20000 in
theorem gX5_hatOf_X5_isOne : GoodIn wsX5_hatOf (va_wsS RX5 33 yX5_isOne wsX5_isOne) := goodIn_app (goodIn_of _ (by decide +kernel)) ggX5_hatOf_X5_isOne
theorem dX5_hatOf_0 : decode cX5_hatOf 0 = .ok (.iload_n 1, 1) := by decide +kernel
theorem dX5_hatOf_1 : decode cX5_hatOf 1 = .ok (.invokestatic 33, 3) := by decide +kernel
theorem dX5_hatOf_4 : decode cX5_hatOf 4 = .ok (.ifCond .eq 12, 3) := by decide +kernel
theorem dX5_hatOf_7 : decode cX5_hatOf 7 = .ok (.aload_n 0, 1) := by decide +kernel
theorem dX5_hatOf_8 : decode cX5_hatOf 8 = .ok (.getfield 9, 3) := by decide +kernel
theorem dX5_hatOf_11 : decode cX5_hatOf 11 = .ok (.iload_n 1, 1) := by decide +kernel
theorem dX5_hatOf_12 : decode cX5_hatOf 12 = .ok (.iaload, 1) := by decide +kernel
theorem dX5_hatOf_13 : decode cX5_hatOf 13 = .ok (.goto 4, 3) := by decide +kernel
theorem dX5_hatOf_16 : decode cX5_hatOf 16 = .ok (.iconst 0, 1) := by decide +kernel
theorem dX5_hatOf_17 : decode cX5_hatOf 17 = .ok (.ireturn, 1) := by decide +kernel
set_option maxRecDepth 20000 in
theorem ggX5_setHat_X5_isOne : GoodIn wsX5_setHat wsX5_isOne := goodIn_r _ [5] (by decide +kernel) (by decide +kernel)
set_option maxRecDepth 20000 in
theorem gX5_setHat_X5_isOne : GoodIn wsX5_setHat (va_wsS RX5 33 yX5_isOne wsX5_isOne) := goodIn_app (goodIn_of _ (by decide +kernel)) ggX5_setHat_X5_isOne
theorem dX5_setHat_0 : decode cX5_setHat 0 = .ok (.iload_n 1, 1) := by decide +kernel
theorem dX5_setHat_1 : decode cX5_setHat 1 = .ok (.invokestatic 33, 3) := by decide +kernel
theorem dX5_setHat_4 : decode cX5_setHat 4 = .ok (.ifCond .eq 10, 3) := by decide +kernel
theorem dX5_setHat_7 : decode cX5_setHat 7 = .ok (.aload_n 0, 1) := by decide +kernel
theorem dX5_setHat_8 : decode cX5_setHat 8 = .ok (.getfield 9, 3) := by decide +kernel
theorem dX5_setHat_11 : decode cX5_setHat 11 = .ok (.iload_n 1, 1) := by decide +kernel
theorem dX5_setHat_12 : decode cX5_setHat 12 = .ok (.iload_n 2, 1) := by decide +kernel
theorem dX5_setHat_13 : decode cX5_setHat 13 = .ok (.iastore, 1) := by decide +kernel
theorem dX5_setHat_14 : decode cX5_setHat 14 = .ok (.return_, 1) := by decide +kernel
theorem dX5_lawOf_0 : decode cX5_lawOf 0 = .ok (.iload_n 1, 1) := by decide +kernel
theorem dX5_lawOf_1 : decode cX5_lawOf 1 = .ok (.ifCond .lt 17, 3) := by decide +kernel
theorem dX5_lawOf_4 : decode cX5_lawOf 4 = .ok (.iload_n 1, 1) := by decide +kernel
theorem dX5_lawOf_5 : decode cX5_lawOf 5 = .ok (.iconst 5, 1) := by decide +kernel
theorem dX5_lawOf_6 : decode cX5_lawOf 6 = .ok (.if_icmp .ge 12, 3) := by decide +kernel
theorem dX5_lawOf_9 : decode cX5_lawOf 9 = .ok (.aload_n 0, 1) := by decide +kernel
theorem dX5_lawOf_10 : decode cX5_lawOf 10 = .ok (.getfield 15, 3) := by decide +kernel
theorem dX5_lawOf_13 : decode cX5_lawOf 13 = .ok (.iload_n 1, 1) := by decide +kernel
theorem dX5_lawOf_14 : decode cX5_lawOf 14 = .ok (.iaload, 1) := by decide +kernel
theorem dX5_lawOf_15 : decode cX5_lawOf 15 = .ok (.goto 4, 3) := by decide +kernel
theorem dX5_lawOf_18 : decode cX5_lawOf 18 = .ok (.iconst 0, 1) := by decide +kernel
theorem dX5_lawOf_19 : decode cX5_lawOf 19 = .ok (.ireturn, 1) := by decide +kernel
theorem dX5_setLaw_0 : decode cX5_setLaw 0 = .ok (.iload_n 1, 1) := by decide +kernel
theorem dX5_setLaw_1 : decode cX5_setLaw 1 = .ok (.ifCond .lt 15, 3) := by decide +kernel
theorem dX5_setLaw_4 : decode cX5_setLaw 4 = .ok (.iload_n 1, 1) := by decide +kernel
theorem dX5_setLaw_5 : decode cX5_setLaw 5 = .ok (.iconst 5, 1) := by decide +kernel
theorem dX5_setLaw_6 : decode cX5_setLaw 6 = .ok (.if_icmp .ge 10, 3) := by decide +kernel
theorem dX5_setLaw_9 : decode cX5_setLaw 9 = .ok (.aload_n 0, 1) := by decide +kernel
theorem dX5_setLaw_10 : decode cX5_setLaw 10 = .ok (.getfield 15, 3) := by decide +kernel
theorem dX5_setLaw_13 : decode cX5_setLaw 13 = .ok (.iload_n 1, 1) := by decide +kernel
theorem dX5_setLaw_14 : decode cX5_setLaw 14 = .ok (.iload_n 2, 1) := by decide +kernel
theorem dX5_setLaw_15 : decode cX5_setLaw 15 = .ok (.iastore, 1) := by decide +kernel
theorem dX5_setLaw_16 : decode cX5_setLaw 16 = .ok (.return_, 1) := by decide +kernel
set_option maxRecDepth 20000 in
theorem ggX5_areTogether_X5_isOne : GoodIn wsX5_areTogether wsX5_isOne := goodIn_r _ [5] (by decide +kernel) (by decide +kernel)
set_option maxRecDepth 20000 in
theorem gX5_areTogether_X5_isOne : GoodIn wsX5_areTogether (va_wsS RX5 33 yX5_isOne wsX5_isOne) := goodIn_app (goodIn_of _ (by decide +kernel)) ggX5_areTogether_X5_isOne
theorem dX5_areTogether_0 : decode cX5_areTogether 0 = .ok (.iload_n 1, 1) := by decide +kernel
theorem dX5_areTogether_1 : decode cX5_areTogether 1 = .ok (.invokestatic 33, 3) := by decide +kernel
theorem dX5_areTogether_4 : decode cX5_areTogether 4 = .ok (.ifCond .eq 20, 3) := by decide +kernel
theorem dX5_areTogether_7 : decode cX5_areTogether 7 = .ok (.aload_n 0, 1) := by decide +kernel
theorem dX5_areTogether_8 : decode cX5_areTogether 8 = .ok (.getfield 18, 3) := by decide +kernel
theorem dX5_areTogether_11 : decode cX5_areTogether 11 = .ok (.iload_n 1, 1) := by decide +kernel
theorem dX5_areTogether_12 : decode cX5_areTogether 12 = .ok (.iaload, 1) := by decide +kernel
theorem dX5_areTogether_13 : decode cX5_areTogether 13 = .ok (.iconst 1, 1) := by decide +kernel
theorem dX5_areTogether_14 : decode cX5_areTogether 14 = .ok (.iload_n 2, 1) := by decide +kernel
theorem dX5_areTogether_15 : decode cX5_areTogether 15 = .ok (.ishl, 1) := by decide +kernel
theorem dX5_areTogether_16 : decode cX5_areTogether 16 = .ok (.iand, 1) := by decide +kernel
theorem dX5_areTogether_17 : decode cX5_areTogether 17 = .ok (.ifCond .eq 7, 3) := by decide +kernel
theorem dX5_areTogether_20 : decode cX5_areTogether 20 = .ok (.iconst 1, 1) := by decide +kernel
theorem dX5_areTogether_21 : decode cX5_areTogether 21 = .ok (.goto 4, 3) := by decide +kernel
theorem dX5_areTogether_24 : decode cX5_areTogether 24 = .ok (.iconst 0, 1) := by decide +kernel
theorem dX5_areTogether_25 : decode cX5_areTogether 25 = .ok (.ireturn, 1) := by decide +kernel
set_option maxRecDepth 20000 in
theorem ggX5_putTogether_X5_isOne : GoodIn wsX5_putTogether wsX5_isOne := goodIn_r _ [5] (by decide +kernel) (by decide +kernel)
set_option maxRecDepth 20000 in
theorem gX5_putTogether_X5_isOne : GoodIn wsX5_putTogether (va_wsS RX5 33 yX5_isOne wsX5_isOne) := goodIn_app (goodIn_of _ (by decide +kernel)) ggX5_putTogether_X5_isOne
theorem dX5_putTogether_0 : decode cX5_putTogether 0 = .ok (.iload_n 1, 1) := by decide +kernel
theorem dX5_putTogether_1 : decode cX5_putTogether 1 = .ok (.invokestatic 33, 3) := by decide +kernel
theorem dX5_putTogether_4 : decode cX5_putTogether 4 = .ok (.ifCond .eq 34, 3) := by decide +kernel
theorem dX5_putTogether_7 : decode cX5_putTogether 7 = .ok (.iload_n 2, 1) := by decide +kernel
theorem dX5_putTogether_8 : decode cX5_putTogether 8 = .ok (.invokestatic 33, 3) := by decide +kernel
theorem dX5_putTogether_11 : decode cX5_putTogether 11 = .ok (.ifCond .eq 27, 3) := by decide +kernel
theorem dX5_putTogether_14 : decode cX5_putTogether 14 = .ok (.aload_n 0, 1) := by decide +kernel
theorem dX5_putTogether_15 : decode cX5_putTogether 15 = .ok (.getfield 18, 3) := by decide +kernel
theorem dX5_putTogether_18 : decode cX5_putTogether 18 = .ok (.iload_n 1, 1) := by decide +kernel
theorem dX5_putTogether_19 : decode cX5_putTogether 19 = .ok (.dup2, 1) := by decide +kernel
theorem dX5_putTogether_20 : decode cX5_putTogether 20 = .ok (.iaload, 1) := by decide +kernel
theorem dX5_putTogether_21 : decode cX5_putTogether 21 = .ok (.iconst 1, 1) := by decide +kernel
theorem dX5_putTogether_22 : decode cX5_putTogether 22 = .ok (.iload_n 2, 1) := by decide +kernel
theorem dX5_putTogether_23 : decode cX5_putTogether 23 = .ok (.ishl, 1) := by decide +kernel
theorem dX5_putTogether_24 : decode cX5_putTogether 24 = .ok (.ior, 1) := by decide +kernel
theorem dX5_putTogether_25 : decode cX5_putTogether 25 = .ok (.iastore, 1) := by decide +kernel
theorem dX5_putTogether_26 : decode cX5_putTogether 26 = .ok (.aload_n 0, 1) := by decide +kernel
theorem dX5_putTogether_27 : decode cX5_putTogether 27 = .ok (.getfield 18, 3) := by decide +kernel
theorem dX5_putTogether_30 : decode cX5_putTogether 30 = .ok (.iload_n 2, 1) := by decide +kernel
theorem dX5_putTogether_31 : decode cX5_putTogether 31 = .ok (.dup2, 1) := by decide +kernel
theorem dX5_putTogether_32 : decode cX5_putTogether 32 = .ok (.iaload, 1) := by decide +kernel
theorem dX5_putTogether_33 : decode cX5_putTogether 33 = .ok (.iconst 1, 1) := by decide +kernel
theorem dX5_putTogether_34 : decode cX5_putTogether 34 = .ok (.iload_n 1, 1) := by decide +kernel
theorem dX5_putTogether_35 : decode cX5_putTogether 35 = .ok (.ishl, 1) := by decide +kernel
theorem dX5_putTogether_36 : decode cX5_putTogether 36 = .ok (.ior, 1) := by decide +kernel
theorem dX5_putTogether_37 : decode cX5_putTogether 37 = .ok (.iastore, 1) := by decide +kernel
theorem dX5_putTogether_38 : decode cX5_putTogether 38 = .ok (.return_, 1) := by decide +kernel
set_option maxRecDepth 20000 in
theorem ggX5_areApart_X5_isOne : GoodIn wsX5_areApart wsX5_isOne := goodIn_r _ [5] (by decide +kernel) (by decide +kernel)
set_option maxRecDepth 20000 in
theorem gX5_areApart_X5_isOne : GoodIn wsX5_areApart (va_wsS RX5 33 yX5_isOne wsX5_isOne) := goodIn_app (goodIn_of _ (by decide +kernel)) ggX5_areApart_X5_isOne
theorem dX5_areApart_0 : decode cX5_areApart 0 = .ok (.iload_n 1, 1) := by decide +kernel
theorem dX5_areApart_1 : decode cX5_areApart 1 = .ok (.invokestatic 33, 3) := by decide +kernel
theorem dX5_areApart_4 : decode cX5_areApart 4 = .ok (.ifCond .eq 20, 3) := by decide +kernel
theorem dX5_areApart_7 : decode cX5_areApart 7 = .ok (.aload_n 0, 1) := by decide +kernel
theorem dX5_areApart_8 : decode cX5_areApart 8 = .ok (.getfield 21, 3) := by decide +kernel
theorem dX5_areApart_11 : decode cX5_areApart 11 = .ok (.iload_n 1, 1) := by decide +kernel
theorem dX5_areApart_12 : decode cX5_areApart 12 = .ok (.iaload, 1) := by decide +kernel
theorem dX5_areApart_13 : decode cX5_areApart 13 = .ok (.iconst 1, 1) := by decide +kernel
theorem dX5_areApart_14 : decode cX5_areApart 14 = .ok (.iload_n 2, 1) := by decide +kernel
theorem dX5_areApart_15 : decode cX5_areApart 15 = .ok (.ishl, 1) := by decide +kernel
theorem dX5_areApart_16 : decode cX5_areApart 16 = .ok (.iand, 1) := by decide +kernel
theorem dX5_areApart_17 : decode cX5_areApart 17 = .ok (.ifCond .eq 7, 3) := by decide +kernel
theorem dX5_areApart_20 : decode cX5_areApart 20 = .ok (.iconst 1, 1) := by decide +kernel
theorem dX5_areApart_21 : decode cX5_areApart 21 = .ok (.goto 4, 3) := by decide +kernel
theorem dX5_areApart_24 : decode cX5_areApart 24 = .ok (.iconst 0, 1) := by decide +kernel
theorem dX5_areApart_25 : decode cX5_areApart 25 = .ok (.ireturn, 1) := by decide +kernel
set_option maxRecDepth 20000 in
theorem ggX5_putApart_X5_isOne : GoodIn wsX5_putApart wsX5_isOne := goodIn_r _ [5] (by decide +kernel) (by decide +kernel)
set_option maxRecDepth 20000 in
theorem gX5_putApart_X5_isOne : GoodIn wsX5_putApart (va_wsS RX5 33 yX5_isOne wsX5_isOne) := goodIn_app (goodIn_of _ (by decide +kernel)) ggX5_putApart_X5_isOne
theorem dX5_putApart_0 : decode cX5_putApart 0 = .ok (.iload_n 1, 1) := by decide +kernel
theorem dX5_putApart_1 : decode cX5_putApart 1 = .ok (.invokestatic 33, 3) := by decide +kernel
theorem dX5_putApart_4 : decode cX5_putApart 4 = .ok (.ifCond .eq 34, 3) := by decide +kernel
theorem dX5_putApart_7 : decode cX5_putApart 7 = .ok (.iload_n 2, 1) := by decide +kernel
theorem dX5_putApart_8 : decode cX5_putApart 8 = .ok (.invokestatic 33, 3) := by decide +kernel
theorem dX5_putApart_11 : decode cX5_putApart 11 = .ok (.ifCond .eq 27, 3) := by decide +kernel
theorem dX5_putApart_14 : decode cX5_putApart 14 = .ok (.aload_n 0, 1) := by decide +kernel
theorem dX5_putApart_15 : decode cX5_putApart 15 = .ok (.getfield 21, 3) := by decide +kernel
theorem dX5_putApart_18 : decode cX5_putApart 18 = .ok (.iload_n 1, 1) := by decide +kernel
theorem dX5_putApart_19 : decode cX5_putApart 19 = .ok (.dup2, 1) := by decide +kernel
theorem dX5_putApart_20 : decode cX5_putApart 20 = .ok (.iaload, 1) := by decide +kernel
theorem dX5_putApart_21 : decode cX5_putApart 21 = .ok (.iconst 1, 1) := by decide +kernel
theorem dX5_putApart_22 : decode cX5_putApart 22 = .ok (.iload_n 2, 1) := by decide +kernel
theorem dX5_putApart_23 : decode cX5_putApart 23 = .ok (.ishl, 1) := by decide +kernel
theorem dX5_putApart_24 : decode cX5_putApart 24 = .ok (.ior, 1) := by decide +kernel
theorem dX5_putApart_25 : decode cX5_putApart 25 = .ok (.iastore, 1) := by decide +kernel
theorem dX5_putApart_26 : decode cX5_putApart 26 = .ok (.aload_n 0, 1) := by decide +kernel
theorem dX5_putApart_27 : decode cX5_putApart 27 = .ok (.getfield 21, 3) := by decide +kernel
theorem dX5_putApart_30 : decode cX5_putApart 30 = .ok (.iload_n 2, 1) := by decide +kernel
theorem dX5_putApart_31 : decode cX5_putApart 31 = .ok (.dup2, 1) := by decide +kernel
theorem dX5_putApart_32 : decode cX5_putApart 32 = .ok (.iaload, 1) := by decide +kernel
theorem dX5_putApart_33 : decode cX5_putApart 33 = .ok (.iconst 1, 1) := by decide +kernel
theorem dX5_putApart_34 : decode cX5_putApart 34 = .ok (.iload_n 1, 1) := by decide +kernel
theorem dX5_putApart_35 : decode cX5_putApart 35 = .ok (.ishl, 1) := by decide +kernel
theorem dX5_putApart_36 : decode cX5_putApart 36 = .ok (.ior, 1) := by decide +kernel
theorem dX5_putApart_37 : decode cX5_putApart 37 = .ok (.iastore, 1) := by decide +kernel
theorem dX5_putApart_38 : decode cX5_putApart 38 = .ok (.return_, 1) := by decide +kernel
set_option maxRecDepth 20000 in
theorem ggX5_worthOf_X5_isOne : GoodIn wsX5_worthOf wsX5_isOne := goodIn_r _ [5] (by decide +kernel) (by decide +kernel)
set_option maxRecDepth 20000 in
theorem gX5_worthOf_X5_isOne : GoodIn wsX5_worthOf (va_wsS RX5 33 yX5_isOne wsX5_isOne) := goodIn_app (goodIn_of _ (by decide +kernel)) ggX5_worthOf_X5_isOne
theorem dX5_worthOf_0 : decode cX5_worthOf 0 = .ok (.iload_n 1, 1) := by decide +kernel
theorem dX5_worthOf_1 : decode cX5_worthOf 1 = .ok (.invokestatic 33, 3) := by decide +kernel
theorem dX5_worthOf_4 : decode cX5_worthOf 4 = .ok (.ifCond .eq 21, 3) := by decide +kernel
theorem dX5_worthOf_7 : decode cX5_worthOf 7 = .ok (.iload_n 2, 1) := by decide +kernel
theorem dX5_worthOf_8 : decode cX5_worthOf 8 = .ok (.invokestatic 33, 3) := by decide +kernel
theorem dX5_worthOf_11 : decode cX5_worthOf 11 = .ok (.ifCond .eq 14, 3) := by decide +kernel
theorem dX5_worthOf_14 : decode cX5_worthOf 14 = .ok (.aload_n 0, 1) := by decide +kernel
theorem dX5_worthOf_15 : decode cX5_worthOf 15 = .ok (.getfield 26, 3) := by decide +kernel
theorem dX5_worthOf_18 : decode cX5_worthOf 18 = .ok (.iload_n 1, 1) := by decide +kernel
theorem dX5_worthOf_19 : decode cX5_worthOf 19 = .ok (.aaload, 1) := by decide +kernel
theorem dX5_worthOf_20 : decode cX5_worthOf 20 = .ok (.iload_n 2, 1) := by decide +kernel
theorem dX5_worthOf_21 : decode cX5_worthOf 21 = .ok (.iaload, 1) := by decide +kernel
theorem dX5_worthOf_22 : decode cX5_worthOf 22 = .ok (.goto 4, 3) := by decide +kernel
theorem dX5_worthOf_25 : decode cX5_worthOf 25 = .ok (.iconst 0, 1) := by decide +kernel
theorem dX5_worthOf_26 : decode cX5_worthOf 26 = .ok (.ireturn, 1) := by decide +kernel
set_option maxRecDepth 20000 in
theorem ggX5_setWorth_X5_isOne : GoodIn wsX5_setWorth wsX5_isOne := goodIn_r _ [5] (by decide +kernel) (by decide +kernel)
set_option maxRecDepth 20000 in
theorem gX5_setWorth_X5_isOne : GoodIn wsX5_setWorth (va_wsS RX5 33 yX5_isOne wsX5_isOne) := goodIn_app (goodIn_of _ (by decide +kernel)) ggX5_setWorth_X5_isOne
theorem dX5_setWorth_0 : decode cX5_setWorth 0 = .ok (.iload_n 1, 1) := by decide +kernel
theorem dX5_setWorth_1 : decode cX5_setWorth 1 = .ok (.invokestatic 33, 3) := by decide +kernel
theorem dX5_setWorth_4 : decode cX5_setWorth 4 = .ok (.ifCond .eq 28, 3) := by decide +kernel
theorem dX5_setWorth_7 : decode cX5_setWorth 7 = .ok (.iload_n 2, 1) := by decide +kernel
theorem dX5_setWorth_8 : decode cX5_setWorth 8 = .ok (.invokestatic 33, 3) := by decide +kernel
theorem dX5_setWorth_11 : decode cX5_setWorth 11 = .ok (.ifCond .eq 21, 3) := by decide +kernel
theorem dX5_setWorth_14 : decode cX5_setWorth 14 = .ok (.aload_n 0, 1) := by decide +kernel
theorem dX5_setWorth_15 : decode cX5_setWorth 15 = .ok (.getfield 26, 3) := by decide +kernel
theorem dX5_setWorth_18 : decode cX5_setWorth 18 = .ok (.iload_n 1, 1) := by decide +kernel
theorem dX5_setWorth_19 : decode cX5_setWorth 19 = .ok (.aaload, 1) := by decide +kernel
theorem dX5_setWorth_20 : decode cX5_setWorth 20 = .ok (.iload_n 2, 1) := by decide +kernel
theorem dX5_setWorth_21 : decode cX5_setWorth 21 = .ok (.iload_n 3, 1) := by decide +kernel
theorem dX5_setWorth_22 : decode cX5_setWorth 22 = .ok (.iastore, 1) := by decide +kernel
theorem dX5_setWorth_23 : decode cX5_setWorth 23 = .ok (.aload_n 0, 1) := by decide +kernel
theorem dX5_setWorth_24 : decode cX5_setWorth 24 = .ok (.getfield 26, 3) := by decide +kernel
theorem dX5_setWorth_27 : decode cX5_setWorth 27 = .ok (.iload_n 2, 1) := by decide +kernel
theorem dX5_setWorth_28 : decode cX5_setWorth 28 = .ok (.aaload, 1) := by decide +kernel
theorem dX5_setWorth_29 : decode cX5_setWorth 29 = .ok (.iload_n 1, 1) := by decide +kernel
theorem dX5_setWorth_30 : decode cX5_setWorth 30 = .ok (.iload_n 3, 1) := by decide +kernel
theorem dX5_setWorth_31 : decode cX5_setWorth 31 = .ok (.iastore, 1) := by decide +kernel
theorem dX5_setWorth_32 : decode cX5_setWorth 32 = .ok (.return_, 1) := by decide +kernel
set_option maxRecDepth 20000 in
theorem ggX5_worthWith_X5_worthOf : GoodIn wsX5_worthWith wsX5_worthOf := goodIn_r _ [6, 7, 8, 9, 5, 10, 11, 12, 13, 14, 15, 16] (by decide +kernel) (by decide +kernel)
set_option maxRecDepth 20000 in
theorem gX5_worthWith_X5_worthOf : GoodIn wsX5_worthWith (wsV RX5 37 RX5 yX5_worthOf wsX5_worthOf) := goodIn_app (goodIn_of _ (by decide +kernel)) ggX5_worthWith_X5_worthOf
theorem dX5_worthWith_0 : decode cX5_worthWith 0 = .ok (.iconst 0, 1) := by decide +kernel
theorem dX5_worthWith_1 : decode cX5_worthWith 1 = .ok (.istore_n 3, 1) := by decide +kernel
theorem dX5_worthWith_2 : decode cX5_worthWith 2 = .ok (.iconst 0, 1) := by decide +kernel
theorem dX5_worthWith_3 : decode cX5_worthWith 3 = .ok (.istore 4, 2) := by decide +kernel
theorem dX5_worthWith_5 : decode cX5_worthWith 5 = .ok (.iload 4, 2) := by decide +kernel
theorem dX5_worthWith_7 : decode cX5_worthWith 7 = .ok (.aload_n 0, 1) := by decide +kernel
theorem dX5_worthWith_8 : decode cX5_worthWith 8 = .ok (.getfield 29, 3) := by decide +kernel
theorem dX5_worthWith_11 : decode cX5_worthWith 11 = .ok (.if_icmp .ge 34, 3) := by decide +kernel
theorem dX5_worthWith_14 : decode cX5_worthWith 14 = .ok (.iload 4, 2) := by decide +kernel
theorem dX5_worthWith_16 : decode cX5_worthWith 16 = .ok (.iload_n 1, 1) := by decide +kernel
theorem dX5_worthWith_17 : decode cX5_worthWith 17 = .ok (.if_icmp .eq 22, 3) := by decide +kernel
theorem dX5_worthWith_20 : decode cX5_worthWith 20 = .ok (.iload_n 2, 1) := by decide +kernel
theorem dX5_worthWith_21 : decode cX5_worthWith 21 = .ok (.iconst 1, 1) := by decide +kernel
theorem dX5_worthWith_22 : decode cX5_worthWith 22 = .ok (.iload 4, 2) := by decide +kernel
theorem dX5_worthWith_24 : decode cX5_worthWith 24 = .ok (.ishl, 1) := by decide +kernel
theorem dX5_worthWith_25 : decode cX5_worthWith 25 = .ok (.iand, 1) := by decide +kernel
theorem dX5_worthWith_26 : decode cX5_worthWith 26 = .ok (.ifCond .eq 13, 3) := by decide +kernel
theorem dX5_worthWith_29 : decode cX5_worthWith 29 = .ok (.iload_n 3, 1) := by decide +kernel
theorem dX5_worthWith_30 : decode cX5_worthWith 30 = .ok (.aload_n 0, 1) := by decide +kernel
theorem dX5_worthWith_31 : decode cX5_worthWith 31 = .ok (.iload_n 1, 1) := by decide +kernel
theorem dX5_worthWith_32 : decode cX5_worthWith 32 = .ok (.iload 4, 2) := by decide +kernel
theorem dX5_worthWith_34 : decode cX5_worthWith 34 = .ok (.invokevirtual 37, 3) := by decide +kernel
theorem dX5_worthWith_37 : decode cX5_worthWith 37 = .ok (.iadd, 1) := by decide +kernel
theorem dX5_worthWith_38 : decode cX5_worthWith 38 = .ok (.istore_n 3, 1) := by decide +kernel
theorem dX5_worthWith_39 : decode cX5_worthWith 39 = .ok (.iinc 4 1, 3) := by decide +kernel
theorem dX5_worthWith_42 : decode cX5_worthWith 42 = .ok (.goto (-37), 3) := by decide +kernel
theorem dX5_worthWith_45 : decode cX5_worthWith 45 = .ok (.iload_n 3, 1) := by decide +kernel
theorem dX5_worthWith_46 : decode cX5_worthWith 46 = .ok (.ireturn, 1) := by decide +kernel
set_option maxRecDepth 20000 in
theorem ggX5_worthOfAll_X7_partyOf : GoodIn wsX5_worthOfAll wsX7_partyOf := goodIn_r _ [6, 7, 8, 34, 35, 36, 37, 38] (by decide +kernel) (by decide +kernel)
set_option maxRecDepth 20000 in
theorem gX5_worthOfAll_X7_partyOf : GoodIn wsX5_worthOfAll (wsV RX5 41 RX7 yX7_partyOf wsX7_partyOf) := goodIn_app (goodIn_of _ (by decide +kernel)) ggX5_worthOfAll_X7_partyOf
set_option maxRecDepth 20000 in
theorem ggX5_worthOfAll_X7_setOf : GoodIn wsX5_worthOfAll wsX7_setOf := goodIn_r _ [12, 13, 14, 34, 35, 36, 37, 38] (by decide +kernel) (by decide +kernel)
set_option maxRecDepth 20000 in
theorem gX5_worthOfAll_X7_setOf : GoodIn wsX5_worthOfAll (wsV RX5 47 RX7 yX7_setOf wsX7_setOf) := goodIn_app (goodIn_of _ (by decide +kernel)) ggX5_worthOfAll_X7_setOf
set_option maxRecDepth 20000 in
theorem ggX5_worthOfAll_X5_worthWith : GoodIn wsX5_worthOfAll wsX5_worthWith := goodIn_r _ [19, 1, 20, 21, 22, 18, 23, 24, 25, 26, 27, 28, 29, 30, 31, 32, 33] (by decide +kernel) (by decide +kernel)
set_option maxRecDepth 20000 in
theorem gX5_worthOfAll_X5_worthWith : GoodIn wsX5_worthOfAll (wsV RX5 50 RX5 yX5_worthWith wsX5_worthWith) := goodIn_app (goodIn_of _ (by decide +kernel)) ggX5_worthOfAll_X5_worthWith
theorem dX5_worthOfAll_0 : decode cX5_worthOfAll 0 = .ok (.iconst 0, 1) := by decide +kernel
theorem dX5_worthOfAll_1 : decode cX5_worthOfAll 1 = .ok (.istore_n 2, 1) := by decide +kernel
theorem dX5_worthOfAll_2 : decode cX5_worthOfAll 2 = .ok (.iconst 0, 1) := by decide +kernel
theorem dX5_worthOfAll_3 : decode cX5_worthOfAll 3 = .ok (.istore_n 3, 1) := by decide +kernel
theorem dX5_worthOfAll_4 : decode cX5_worthOfAll 4 = .ok (.iload_n 3, 1) := by decide +kernel
theorem dX5_worthOfAll_5 : decode cX5_worthOfAll 5 = .ok (.aload_n 0, 1) := by decide +kernel
theorem dX5_worthOfAll_6 : decode cX5_worthOfAll 6 = .ok (.getfield 29, 3) := by decide +kernel
theorem dX5_worthOfAll_9 : decode cX5_worthOfAll 9 = .ok (.if_icmp .ge 26, 3) := by decide +kernel
theorem dX5_worthOfAll_12 : decode cX5_worthOfAll 12 = .ok (.iload_n 2, 1) := by decide +kernel
theorem dX5_worthOfAll_13 : decode cX5_worthOfAll 13 = .ok (.aload_n 0, 1) := by decide +kernel
theorem dX5_worthOfAll_14 : decode cX5_worthOfAll 14 = .ok (.iload_n 3, 1) := by decide +kernel
theorem dX5_worthOfAll_15 : decode cX5_worthOfAll 15 = .ok (.aload_n 1, 1) := by decide +kernel
theorem dX5_worthOfAll_16 : decode cX5_worthOfAll 16 = .ok (.aload_n 1, 1) := by decide +kernel
theorem dX5_worthOfAll_17 : decode cX5_worthOfAll 17 = .ok (.iload_n 3, 1) := by decide +kernel
theorem dX5_worthOfAll_18 : decode cX5_worthOfAll 18 = .ok (.invokevirtual 41, 3) := by decide +kernel
theorem dX5_worthOfAll_21 : decode cX5_worthOfAll 21 = .ok (.invokevirtual 47, 3) := by decide +kernel
theorem dX5_worthOfAll_24 : decode cX5_worthOfAll 24 = .ok (.invokevirtual 50, 3) := by decide +kernel
theorem dX5_worthOfAll_27 : decode cX5_worthOfAll 27 = .ok (.iadd, 1) := by decide +kernel
theorem dX5_worthOfAll_28 : decode cX5_worthOfAll 28 = .ok (.istore_n 2, 1) := by decide +kernel
theorem dX5_worthOfAll_29 : decode cX5_worthOfAll 29 = .ok (.iinc 3 1, 3) := by decide +kernel
theorem dX5_worthOfAll_32 : decode cX5_worthOfAll 32 = .ok (.goto (-28), 3) := by decide +kernel
theorem dX5_worthOfAll_35 : decode cX5_worthOfAll 35 = .ok (.iload_n 2, 1) := by decide +kernel
theorem dX5_worthOfAll_36 : decode cX5_worthOfAll 36 = .ok (.iconst 2, 1) := by decide +kernel
theorem dX5_worthOfAll_37 : decode cX5_worthOfAll 37 = .ok (.idiv, 1) := by decide +kernel
theorem dX5_worthOfAll_38 : decode cX5_worthOfAll 38 = .ok (.ireturn, 1) := by decide +kernel
set_option maxRecDepth 20000 in
theorem ggX5_pairsTogether_X5_pairsIn : GoodIn wsX5_pairsTogether wsX5_pairsIn := goodIn_r _ [5, 6, 7, 8, 9, 10, 11, 12] (by decide +kernel) (by decide +kernel)
set_option maxRecDepth 20000 in
theorem gX5_pairsTogether_X5_pairsIn : GoodIn wsX5_pairsTogether (va_wsS RX5 53 yX5_pairsIn wsX5_pairsIn) := goodIn_app (goodIn_of _ (by decide +kernel)) ggX5_pairsTogether_X5_pairsIn
theorem dX5_pairsTogether_0 : decode cX5_pairsTogether 0 = .ok (.aload_n 0, 1) := by decide +kernel
theorem dX5_pairsTogether_1 : decode cX5_pairsTogether 1 = .ok (.getfield 18, 3) := by decide +kernel
theorem dX5_pairsTogether_4 : decode cX5_pairsTogether 4 = .ok (.invokestatic 53, 3) := by decide +kernel
theorem dX5_pairsTogether_7 : decode cX5_pairsTogether 7 = .ok (.ireturn, 1) := by decide +kernel
set_option maxRecDepth 20000 in
theorem ggX5_pairsApart_X5_pairsIn : GoodIn wsX5_pairsApart wsX5_pairsIn := goodIn_r _ [5, 6, 7, 8, 9, 10, 11, 12] (by decide +kernel) (by decide +kernel)
set_option maxRecDepth 20000 in
theorem gX5_pairsApart_X5_pairsIn : GoodIn wsX5_pairsApart (va_wsS RX5 53 yX5_pairsIn wsX5_pairsIn) := goodIn_app (goodIn_of _ (by decide +kernel)) ggX5_pairsApart_X5_pairsIn
theorem dX5_pairsApart_0 : decode cX5_pairsApart 0 = .ok (.aload_n 0, 1) := by decide +kernel
theorem dX5_pairsApart_1 : decode cX5_pairsApart 1 = .ok (.getfield 21, 3) := by decide +kernel
theorem dX5_pairsApart_4 : decode cX5_pairsApart 4 = .ok (.invokestatic 53, 3) := by decide +kernel
theorem dX5_pairsApart_7 : decode cX5_pairsApart 7 = .ok (.ireturn, 1) := by decide +kernel
set_option maxRecDepth 20000 in
theorem ggX5_mayCome_X5_isOne : GoodIn wsX5_mayCome wsX5_isOne := goodIn_r _ [6] (by decide +kernel) (by decide +kernel)
set_option maxRecDepth 20000 in
theorem gX5_mayCome_X5_isOne : GoodIn wsX5_mayCome (va_wsS RX5 33 yX5_isOne wsX5_isOne) := goodIn_app (goodIn_of _ (by decide +kernel)) ggX5_mayCome_X5_isOne
set_option maxRecDepth 20000 in
theorem ggX5_mayCome_X5_meetsItsHat : GoodIn wsX5_mayCome wsX5_meetsItsHat := goodIn_r _ [10, 11, 12, 13, 14, 5, 15, 16, 3, 4, 6, 17, 18, 19, 20, 21, 22] (by decide +kernel) (by decide +kernel)
set_option maxRecDepth 20000 in
theorem gX5_mayCome_X5_meetsItsHat : GoodIn wsX5_mayCome (wsV RX5 57 RX5 yX5_meetsItsHat wsX5_meetsItsHat) := goodIn_app (goodIn_of _ (by decide +kernel)) ggX5_mayCome_X5_meetsItsHat
theorem dX5_mayCome_0 : decode cX5_mayCome 0 = .ok (.iload_n 1, 1) := by decide +kernel
theorem dX5_mayCome_1 : decode cX5_mayCome 1 = .ok (.invokestatic 33, 3) := by decide +kernel
theorem dX5_mayCome_4 : decode cX5_mayCome 4 = .ok (.ifCond .ne 5, 3) := by decide +kernel
theorem dX5_mayCome_7 : decode cX5_mayCome 7 = .ok (.iconst 0, 1) := by decide +kernel
theorem dX5_mayCome_8 : decode cX5_mayCome 8 = .ok (.ireturn, 1) := by decide +kernel
theorem dX5_mayCome_9 : decode cX5_mayCome 9 = .ok (.iconst 1, 1) := by decide +kernel
theorem dX5_mayCome_10 : decode cX5_mayCome 10 = .ok (.iload_n 1, 1) := by decide +kernel
theorem dX5_mayCome_11 : decode cX5_mayCome 11 = .ok (.ishl, 1) := by decide +kernel
theorem dX5_mayCome_12 : decode cX5_mayCome 12 = .ok (.iconst 1, 1) := by decide +kernel
theorem dX5_mayCome_13 : decode cX5_mayCome 13 = .ok (.isub, 1) := by decide +kernel
theorem dX5_mayCome_14 : decode cX5_mayCome 14 = .ok (.istore_n 3, 1) := by decide +kernel
theorem dX5_mayCome_15 : decode cX5_mayCome 15 = .ok (.aload_n 0, 1) := by decide +kernel
theorem dX5_mayCome_16 : decode cX5_mayCome 16 = .ok (.getfield 18, 3) := by decide +kernel
theorem dX5_mayCome_19 : decode cX5_mayCome 19 = .ok (.iload_n 1, 1) := by decide +kernel
theorem dX5_mayCome_20 : decode cX5_mayCome 20 = .ok (.iaload, 1) := by decide +kernel
theorem dX5_mayCome_21 : decode cX5_mayCome 21 = .ok (.iload_n 3, 1) := by decide +kernel
theorem dX5_mayCome_22 : decode cX5_mayCome 22 = .ok (.iand, 1) := by decide +kernel
theorem dX5_mayCome_23 : decode cX5_mayCome 23 = .ok (.iload_n 2, 1) := by decide +kernel
theorem dX5_mayCome_24 : decode cX5_mayCome 24 = .ok (.iconst (-1), 1) := by decide +kernel
theorem dX5_mayCome_25 : decode cX5_mayCome 25 = .ok (.ixor, 1) := by decide +kernel
theorem dX5_mayCome_26 : decode cX5_mayCome 26 = .ok (.iand, 1) := by decide +kernel
theorem dX5_mayCome_27 : decode cX5_mayCome 27 = .ok (.ifCond .eq 7, 3) := by decide +kernel
theorem dX5_mayCome_30 : decode cX5_mayCome 30 = .ok (.iconst 1, 1) := by decide +kernel
theorem dX5_mayCome_31 : decode cX5_mayCome 31 = .ok (.goto 4, 3) := by decide +kernel
theorem dX5_mayCome_34 : decode cX5_mayCome 34 = .ok (.iconst 0, 1) := by decide +kernel
theorem dX5_mayCome_35 : decode cX5_mayCome 35 = .ok (.istore 4, 2) := by decide +kernel
theorem dX5_mayCome_37 : decode cX5_mayCome 37 = .ok (.iload 4, 2) := by decide +kernel
theorem dX5_mayCome_39 : decode cX5_mayCome 39 = .ok (.ifCond .ne 27, 3) := by decide +kernel
theorem dX5_mayCome_42 : decode cX5_mayCome 42 = .ok (.aload_n 0, 1) := by decide +kernel
theorem dX5_mayCome_43 : decode cX5_mayCome 43 = .ok (.getfield 21, 3) := by decide +kernel
theorem dX5_mayCome_46 : decode cX5_mayCome 46 = .ok (.iload_n 1, 1) := by decide +kernel
theorem dX5_mayCome_47 : decode cX5_mayCome 47 = .ok (.iaload, 1) := by decide +kernel
theorem dX5_mayCome_48 : decode cX5_mayCome 48 = .ok (.iload_n 2, 1) := by decide +kernel
theorem dX5_mayCome_49 : decode cX5_mayCome 49 = .ok (.iand, 1) := by decide +kernel
theorem dX5_mayCome_50 : decode cX5_mayCome 50 = .ok (.ifCond .ne 16, 3) := by decide +kernel
theorem dX5_mayCome_53 : decode cX5_mayCome 53 = .ok (.aload_n 0, 1) := by decide +kernel
theorem dX5_mayCome_54 : decode cX5_mayCome 54 = .ok (.iload_n 1, 1) := by decide +kernel
theorem dX5_mayCome_55 : decode cX5_mayCome 55 = .ok (.iload_n 2, 1) := by decide +kernel
theorem dX5_mayCome_56 : decode cX5_mayCome 56 = .ok (.invokevirtual 57, 3) := by decide +kernel
theorem dX5_mayCome_59 : decode cX5_mayCome 59 = .ok (.ifCond .ne 7, 3) := by decide +kernel
theorem dX5_mayCome_62 : decode cX5_mayCome 62 = .ok (.iconst 1, 1) := by decide +kernel
theorem dX5_mayCome_63 : decode cX5_mayCome 63 = .ok (.goto 4, 3) := by decide +kernel
theorem dX5_mayCome_66 : decode cX5_mayCome 66 = .ok (.iconst 0, 1) := by decide +kernel
theorem dX5_mayCome_67 : decode cX5_mayCome 67 = .ok (.ireturn, 1) := by decide +kernel
set_option maxRecDepth 20000 in
theorem ggX5_meetsItsHat_X5_hatOf : GoodIn wsX5_meetsItsHat wsX5_hatOf := goodIn_r _ [6, 7, 8, 9, 5, 10, 11, 12, 13, 14, 15, 16] (by decide +kernel) (by decide +kernel)
set_option maxRecDepth 20000 in
theorem gX5_meetsItsHat_X5_hatOf : GoodIn wsX5_meetsItsHat (wsV RX5 61 RX5 yX5_hatOf wsX5_hatOf) := goodIn_app (goodIn_of _ (by decide +kernel)) ggX5_meetsItsHat_X5_hatOf
theorem dX5_meetsItsHat_0 : decode cX5_meetsItsHat 0 = .ok (.aload_n 0, 1) := by decide +kernel
theorem dX5_meetsItsHat_1 : decode cX5_meetsItsHat 1 = .ok (.getfield 15, 3) := by decide +kernel
theorem dX5_meetsItsHat_4 : decode cX5_meetsItsHat 4 = .ok (.iconst 3, 1) := by decide +kernel
theorem dX5_meetsItsHat_5 : decode cX5_meetsItsHat 5 = .ok (.iaload, 1) := by decide +kernel
theorem dX5_meetsItsHat_6 : decode cX5_meetsItsHat 6 = .ok (.ifCond .ne 5, 3) := by decide +kernel
theorem dX5_meetsItsHat_9 : decode cX5_meetsItsHat 9 = .ok (.iconst 0, 1) := by decide +kernel
theorem dX5_meetsItsHat_10 : decode cX5_meetsItsHat 10 = .ok (.ireturn, 1) := by decide +kernel
theorem dX5_meetsItsHat_11 : decode cX5_meetsItsHat 11 = .ok (.iconst 0, 1) := by decide +kernel
theorem dX5_meetsItsHat_12 : decode cX5_meetsItsHat 12 = .ok (.istore_n 3, 1) := by decide +kernel
theorem dX5_meetsItsHat_13 : decode cX5_meetsItsHat 13 = .ok (.iload_n 3, 1) := by decide +kernel
theorem dX5_meetsItsHat_14 : decode cX5_meetsItsHat 14 = .ok (.iload_n 1, 1) := by decide +kernel
theorem dX5_meetsItsHat_15 : decode cX5_meetsItsHat 15 = .ok (.if_icmp .ge 32, 3) := by decide +kernel
theorem dX5_meetsItsHat_18 : decode cX5_meetsItsHat 18 = .ok (.iload_n 2, 1) := by decide +kernel
theorem dX5_meetsItsHat_19 : decode cX5_meetsItsHat 19 = .ok (.iconst 1, 1) := by decide +kernel
theorem dX5_meetsItsHat_20 : decode cX5_meetsItsHat 20 = .ok (.iload_n 3, 1) := by decide +kernel
theorem dX5_meetsItsHat_21 : decode cX5_meetsItsHat 21 = .ok (.ishl, 1) := by decide +kernel
theorem dX5_meetsItsHat_22 : decode cX5_meetsItsHat 22 = .ok (.iand, 1) := by decide +kernel
theorem dX5_meetsItsHat_23 : decode cX5_meetsItsHat 23 = .ok (.ifCond .eq 18, 3) := by decide +kernel
theorem dX5_meetsItsHat_26 : decode cX5_meetsItsHat 26 = .ok (.aload_n 0, 1) := by decide +kernel
theorem dX5_meetsItsHat_27 : decode cX5_meetsItsHat 27 = .ok (.iload_n 3, 1) := by decide +kernel
theorem dX5_meetsItsHat_28 : decode cX5_meetsItsHat 28 = .ok (.invokevirtual 61, 3) := by decide +kernel
theorem dX5_meetsItsHat_31 : decode cX5_meetsItsHat 31 = .ok (.aload_n 0, 1) := by decide +kernel
theorem dX5_meetsItsHat_32 : decode cX5_meetsItsHat 32 = .ok (.iload_n 1, 1) := by decide +kernel
theorem dX5_meetsItsHat_33 : decode cX5_meetsItsHat 33 = .ok (.invokevirtual 61, 3) := by decide +kernel
theorem dX5_meetsItsHat_36 : decode cX5_meetsItsHat 36 = .ok (.if_icmp .ne 5, 3) := by decide +kernel
theorem dX5_meetsItsHat_39 : decode cX5_meetsItsHat 39 = .ok (.iconst 1, 1) := by decide +kernel
theorem dX5_meetsItsHat_40 : decode cX5_meetsItsHat 40 = .ok (.ireturn, 1) := by decide +kernel
theorem dX5_meetsItsHat_41 : decode cX5_meetsItsHat 41 = .ok (.iinc 3 1, 3) := by decide +kernel
theorem dX5_meetsItsHat_44 : decode cX5_meetsItsHat 44 = .ok (.goto (-31), 3) := by decide +kernel
theorem dX5_meetsItsHat_47 : decode cX5_meetsItsHat 47 = .ok (.iconst 0, 1) := by decide +kernel
theorem dX5_meetsItsHat_48 : decode cX5_meetsItsHat 48 = .ok (.ireturn, 1) := by decide +kernel
set_option maxRecDepth 20000 in
theorem ggX5_pairsIn_J6_bitCount_0f7a4 : GoodIn wsX5_pairsIn wsJ6_bitCount_0f7a4 := goodIn_r _ [4, 5, 6, 7] (by decide +kernel) (by decide +kernel)
set_option maxRecDepth 20000 in
theorem gX5_pairsIn_J6_bitCount_0f7a4 : GoodIn wsX5_pairsIn (va_wsS RX5 64 yJ6_bitCount_0f7a4 wsJ6_bitCount_0f7a4) := goodIn_app (goodIn_of _ (by decide +kernel)) ggX5_pairsIn_J6_bitCount_0f7a4
theorem dX5_pairsIn_0 : decode cX5_pairsIn 0 = .ok (.iconst 0, 1) := by decide +kernel
theorem dX5_pairsIn_1 : decode cX5_pairsIn 1 = .ok (.istore_n 1, 1) := by decide +kernel
theorem dX5_pairsIn_2 : decode cX5_pairsIn 2 = .ok (.aload_n 0, 1) := by decide +kernel
theorem dX5_pairsIn_3 : decode cX5_pairsIn 3 = .ok (.astore_n 2, 1) := by decide +kernel
theorem dX5_pairsIn_4 : decode cX5_pairsIn 4 = .ok (.aload_n 2, 1) := by decide +kernel
theorem dX5_pairsIn_5 : decode cX5_pairsIn 5 = .ok (.arraylength, 1) := by decide +kernel
theorem dX5_pairsIn_6 : decode cX5_pairsIn 6 = .ok (.istore_n 3, 1) := by decide +kernel
theorem dX5_pairsIn_7 : decode cX5_pairsIn 7 = .ok (.iconst 0, 1) := by decide +kernel
theorem dX5_pairsIn_8 : decode cX5_pairsIn 8 = .ok (.istore 4, 2) := by decide +kernel
theorem dX5_pairsIn_10 : decode cX5_pairsIn 10 = .ok (.iload 4, 2) := by decide +kernel
theorem dX5_pairsIn_12 : decode cX5_pairsIn 12 = .ok (.iload_n 3, 1) := by decide +kernel
theorem dX5_pairsIn_13 : decode cX5_pairsIn 13 = .ok (.if_icmp .ge 23, 3) := by decide +kernel
theorem dX5_pairsIn_16 : decode cX5_pairsIn 16 = .ok (.aload_n 2, 1) := by decide +kernel
theorem dX5_pairsIn_17 : decode cX5_pairsIn 17 = .ok (.iload 4, 2) := by decide +kernel
theorem dX5_pairsIn_19 : decode cX5_pairsIn 19 = .ok (.iaload, 1) := by decide +kernel
theorem dX5_pairsIn_20 : decode cX5_pairsIn 20 = .ok (.istore 5, 2) := by decide +kernel
theorem dX5_pairsIn_22 : decode cX5_pairsIn 22 = .ok (.iload_n 1, 1) := by decide +kernel
theorem dX5_pairsIn_23 : decode cX5_pairsIn 23 = .ok (.iload 5, 2) := by decide +kernel
theorem dX5_pairsIn_25 : decode cX5_pairsIn 25 = .ok (.invokestatic 64, 3) := by decide +kernel
theorem dX5_pairsIn_28 : decode cX5_pairsIn 28 = .ok (.iadd, 1) := by decide +kernel
theorem dX5_pairsIn_29 : decode cX5_pairsIn 29 = .ok (.istore_n 1, 1) := by decide +kernel
theorem dX5_pairsIn_30 : decode cX5_pairsIn 30 = .ok (.iinc 4 1, 3) := by decide +kernel
theorem dX5_pairsIn_33 : decode cX5_pairsIn 33 = .ok (.goto (-23), 3) := by decide +kernel
theorem dX5_pairsIn_36 : decode cX5_pairsIn 36 = .ok (.iload_n 1, 1) := by decide +kernel
theorem dX5_pairsIn_37 : decode cX5_pairsIn 37 = .ok (.iconst 2, 1) := by decide +kernel
theorem dX5_pairsIn_38 : decode cX5_pairsIn 38 = .ok (.idiv, 1) := by decide +kernel
theorem dX5_pairsIn_39 : decode cX5_pairsIn 39 = .ok (.ireturn, 1) := by decide +kernel
theorem dX5_isOne_0 : decode cX5_isOne 0 = .ok (.iload_n 0, 1) := by decide +kernel
theorem dX5_isOne_1 : decode cX5_isOne 1 = .ok (.ifCond .lt 13, 3) := by decide +kernel
theorem dX5_isOne_4 : decode cX5_isOne 4 = .ok (.iload_n 0, 1) := by decide +kernel
theorem dX5_isOne_5 : decode cX5_isOne 5 = .ok (.bipush 8, 2) := by decide +kernel
theorem dX5_isOne_7 : decode cX5_isOne 7 = .ok (.if_icmp .ge 7, 3) := by decide +kernel
theorem dX5_isOne_10 : decode cX5_isOne 10 = .ok (.iconst 1, 1) := by decide +kernel
theorem dX5_isOne_11 : decode cX5_isOne 11 = .ok (.goto 4, 3) := by decide +kernel
theorem dX5_isOne_14 : decode cX5_isOne 14 = .ok (.iconst 0, 1) := by decide +kernel
theorem dX5_isOne_15 : decode cX5_isOne 15 = .ok (.ireturn, 1) := by decide +kernel
theorem dX6_init_0 : decode cX6_init 0 = .ok (.aload_n 0, 1) := by decide +kernel
theorem dX6_init_1 : decode cX6_init 1 = .ok (.invokespecial 1, 3) := by decide +kernel
theorem dX6_init_4 : decode cX6_init 4 = .ok (.aload_n 0, 1) := by decide +kernel
theorem dX6_init_5 : decode cX6_init 5 = .ok (.bipush 10, 2) := by decide +kernel
theorem dX6_init_7 : decode cX6_init 7 = .ok (.newarray .int, 2) := by decide +kernel
theorem dX6_init_9 : decode cX6_init 9 = .ok (.putfield 9, 3) := by decide +kernel
theorem dX6_init_12 : decode cX6_init 12 = .ok (.aload_n 0, 1) := by decide +kernel
theorem dX6_init_13 : decode cX6_init 13 = .ok (.bipush 10, 2) := by decide +kernel
theorem dX6_init_15 : decode cX6_init 15 = .ok (.newarray .int, 2) := by decide +kernel
theorem dX6_init_17 : decode cX6_init 17 = .ok (.putfield 13, 3) := by decide +kernel
theorem dX6_init_20 : decode cX6_init 20 = .ok (.aload_n 0, 1) := by decide +kernel
theorem dX6_init_21 : decode cX6_init 21 = .ok (.bipush 10, 2) := by decide +kernel
theorem dX6_init_23 : decode cX6_init 23 = .ok (.newarray .boolean, 2) := by decide +kernel
theorem dX6_init_25 : decode cX6_init 25 = .ok (.putfield 16, 3) := by decide +kernel
theorem dX6_init_28 : decode cX6_init 28 = .ok (.aload_n 0, 1) := by decide +kernel
theorem dX6_init_29 : decode cX6_init 29 = .ok (.iconst 0, 1) := by decide +kernel
theorem dX6_init_30 : decode cX6_init 30 = .ok (.putfield 20, 3) := by decide +kernel
theorem dX6_init_33 : decode cX6_init 33 = .ok (.return_, 1) := by decide +kernel
theorem dX6_size_0 : decode cX6_size 0 = .ok (.aload_n 0, 1) := by decide +kernel
theorem dX6_size_1 : decode cX6_size 1 = .ok (.getfield 20, 3) := by decide +kernel
theorem dX6_size_4 : decode cX6_size 4 = .ok (.ireturn, 1) := by decide +kernel
theorem dX6_areFull_0 : decode cX6_areFull 0 = .ok (.aload_n 0, 1) := by decide +kernel
theorem dX6_areFull_1 : decode cX6_areFull 1 = .ok (.getfield 20, 3) := by decide +kernel
theorem dX6_areFull_4 : decode cX6_areFull 4 = .ok (.bipush 10, 2) := by decide +kernel
theorem dX6_areFull_6 : decode cX6_areFull 6 = .ok (.if_icmp .lt 7, 3) := by decide +kernel
theorem dX6_areFull_9 : decode cX6_areFull 9 = .ok (.iconst 1, 1) := by decide +kernel
theorem dX6_areFull_10 : decode cX6_areFull 10 = .ok (.goto 4, 3) := by decide +kernel
theorem dX6_areFull_13 : decode cX6_areFull 13 = .ok (.iconst 0, 1) := by decide +kernel
theorem dX6_areFull_14 : decode cX6_areFull 14 = .ok (.ireturn, 1) := by decide +kernel
theorem dX6_empty_0 : decode cX6_empty 0 = .ok (.aload_n 0, 1) := by decide +kernel
theorem dX6_empty_1 : decode cX6_empty 1 = .ok (.iconst 0, 1) := by decide +kernel
theorem dX6_empty_2 : decode cX6_empty 2 = .ok (.putfield 20, 3) := by decide +kernel
theorem dX6_empty_5 : decode cX6_empty 5 = .ok (.return_, 1) := by decide +kernel
theorem dX6_add_0 : decode cX6_add 0 = .ok (.aload_n 0, 1) := by decide +kernel
theorem dX6_add_1 : decode cX6_add 1 = .ok (.getfield 20, 3) := by decide +kernel
theorem dX6_add_4 : decode cX6_add 4 = .ok (.bipush 10, 2) := by decide +kernel
theorem dX6_add_6 : decode cX6_add 6 = .ok (.if_icmp .ge 43, 3) := by decide +kernel
theorem dX6_add_9 : decode cX6_add 9 = .ok (.aload_n 0, 1) := by decide +kernel
theorem dX6_add_10 : decode cX6_add 10 = .ok (.getfield 9, 3) := by decide +kernel
theorem dX6_add_13 : decode cX6_add 13 = .ok (.aload_n 0, 1) := by decide +kernel
theorem dX6_add_14 : decode cX6_add 14 = .ok (.getfield 20, 3) := by decide +kernel
theorem dX6_add_17 : decode cX6_add 17 = .ok (.iload_n 1, 1) := by decide +kernel
theorem dX6_add_18 : decode cX6_add 18 = .ok (.iastore, 1) := by decide +kernel
theorem dX6_add_19 : decode cX6_add 19 = .ok (.aload_n 0, 1) := by decide +kernel
theorem dX6_add_20 : decode cX6_add 20 = .ok (.getfield 13, 3) := by decide +kernel
theorem dX6_add_23 : decode cX6_add 23 = .ok (.aload_n 0, 1) := by decide +kernel
theorem dX6_add_24 : decode cX6_add 24 = .ok (.getfield 20, 3) := by decide +kernel
theorem dX6_add_27 : decode cX6_add 27 = .ok (.iload_n 2, 1) := by decide +kernel
theorem dX6_add_28 : decode cX6_add 28 = .ok (.iastore, 1) := by decide +kernel
theorem dX6_add_29 : decode cX6_add 29 = .ok (.aload_n 0, 1) := by decide +kernel
theorem dX6_add_30 : decode cX6_add 30 = .ok (.getfield 16, 3) := by decide +kernel
theorem dX6_add_33 : decode cX6_add 33 = .ok (.aload_n 0, 1) := by decide +kernel
theorem dX6_add_34 : decode cX6_add 34 = .ok (.getfield 20, 3) := by decide +kernel
theorem dX6_add_37 : decode cX6_add 37 = .ok (.iload_n 3, 1) := by decide +kernel
theorem dX6_add_38 : decode cX6_add 38 = .ok (.bastore, 1) := by decide +kernel
theorem dX6_add_39 : decode cX6_add 39 = .ok (.aload_n 0, 1) := by decide +kernel
theorem dX6_add_40 : decode cX6_add 40 = .ok (.dup, 1) := by decide +kernel
theorem dX6_add_41 : decode cX6_add 41 = .ok (.getfield 20, 3) := by decide +kernel
theorem dX6_add_44 : decode cX6_add 44 = .ok (.iconst 1, 1) := by decide +kernel
theorem dX6_add_45 : decode cX6_add 45 = .ok (.iadd, 1) := by decide +kernel
theorem dX6_add_46 : decode cX6_add 46 = .ok (.putfield 20, 3) := by decide +kernel
theorem dX6_add_49 : decode cX6_add 49 = .ok (.return_, 1) := by decide +kernel
set_option maxRecDepth 20000 in
theorem ggX6_copy_X6_empty : GoodIn wsX6_copy wsX6_empty := goodIn_r _ [9, 1, 14, 15, 16, 17] (by decide +kernel) (by decide +kernel)
set_option maxRecDepth 20000 in
theorem gX6_copy_X6_empty : GoodIn wsX6_copy (wsV RX6 24 RX6 yX6_empty wsX6_empty) := goodIn_app (goodIn_of _ (by decide +kernel)) ggX6_copy_X6_empty
set_option maxRecDepth 20000 in
theorem ggX6_copy_X6_add : GoodIn wsX6_copy wsX6_add := goodIn_r _ [13, 1, 2, 3, 4, 14, 15, 16, 17] (by decide +kernel) (by decide +kernel)
set_option maxRecDepth 20000 in
theorem gX6_copy_X6_add : GoodIn wsX6_copy (wsV RX6 27 RX6 yX6_add wsX6_add) := goodIn_app (goodIn_of _ (by decide +kernel)) ggX6_copy_X6_add
theorem dX6_copy_0 : decode cX6_copy 0 = .ok (.aload_n 0, 1) := by decide +kernel
theorem dX6_copy_1 : decode cX6_copy 1 = .ok (.invokevirtual 24, 3) := by decide +kernel
theorem dX6_copy_4 : decode cX6_copy 4 = .ok (.iconst 0, 1) := by decide +kernel
theorem dX6_copy_5 : decode cX6_copy 5 = .ok (.istore_n 2, 1) := by decide +kernel
theorem dX6_copy_6 : decode cX6_copy 6 = .ok (.iload_n 2, 1) := by decide +kernel
