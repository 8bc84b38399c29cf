theorem dX10_rate_0 : decode cX10_rate 0 = .ok (.aload_n 0, 1) := by decide +kernel
theorem dX10_rate_1 : decode cX10_rate 1 = .ok (.iload_n 2, 1) := by decide +kernel
theorem dX10_rate_2 : decode cX10_rate 2 = .ok (.invokevirtual 144, 3) := by decide +kernel
theorem dX10_rate_5 : decode cX10_rate 5 = .ok (.ifCond .ne 6, 3) := by decide +kernel
theorem dX10_rate_8 : decode cX10_rate 8 = .ok (.ldc 133, 2) := by decide +kernel
theorem dX10_rate_10 : decode cX10_rate 10 = .ok (.ireturn, 1) := by decide +kernel
theorem dX10_rate_11 : decode cX10_rate 11 = .ok (.iload_n 1, 1) := by decide +kernel
theorem dX10_rate_12 : decode cX10_rate 12 = .ok (.tableswitch 76 0 5 #[40, 46, 52, 58, 64, 70], 40) := by decide +kernel
theorem dX10_rate_52 : decode cX10_rate 52 = .ok (.aload_n 0, 1) := by decide +kernel
theorem dX10_rate_53 : decode cX10_rate 53 = .ok (.iload_n 2, 1) := by decide +kernel
theorem dX10_rate_54 : decode cX10_rate 54 = .ok (.invokevirtual 275, 3) := by decide +kernel
theorem dX10_rate_57 : decode cX10_rate 57 = .ok (.ireturn, 1) := by decide +kernel
theorem dX10_rate_58 : decode cX10_rate 58 = .ok (.aload_n 0, 1) := by decide +kernel
theorem dX10_rate_59 : decode cX10_rate 59 = .ok (.iload_n 2, 1) := by decide +kernel
theorem dX10_rate_60 : decode cX10_rate 60 = .ok (.invokevirtual 278, 3) := by decide +kernel
theorem dX10_rate_63 : decode cX10_rate 63 = .ok (.ireturn, 1) := by decide +kernel
theorem dX10_rate_64 : decode cX10_rate 64 = .ok (.aload_n 0, 1) := by decide +kernel
theorem dX10_rate_65 : decode cX10_rate 65 = .ok (.iload_n 2, 1) := by decide +kernel
theorem dX10_rate_66 : decode cX10_rate 66 = .ok (.invokevirtual 281, 3) := by decide +kernel
theorem dX10_rate_69 : decode cX10_rate 69 = .ok (.ireturn, 1) := by decide +kernel
theorem dX10_rate_70 : decode cX10_rate 70 = .ok (.aload_n 0, 1) := by decide +kernel
theorem dX10_rate_71 : decode cX10_rate 71 = .ok (.iload_n 2, 1) := by decide +kernel
theorem dX10_rate_72 : decode cX10_rate 72 = .ok (.invokevirtual 284, 3) := by decide +kernel
theorem dX10_rate_75 : decode cX10_rate 75 = .ok (.ireturn, 1) := by decide +kernel
theorem dX10_rate_76 : decode cX10_rate 76 = .ok (.aload_n 0, 1) := by decide +kernel
theorem dX10_rate_77 : decode cX10_rate 77 = .ok (.iload_n 2, 1) := by decide +kernel
theorem dX10_rate_78 : decode cX10_rate 78 = .ok (.invokevirtual 287, 3) := by decide +kernel
theorem dX10_rate_81 : decode cX10_rate 81 = .ok (.ireturn, 1) := by decide +kernel
theorem dX10_rate_82 : decode cX10_rate 82 = .ok (.aload_n 0, 1) := by decide +kernel
theorem dX10_rate_83 : decode cX10_rate 83 = .ok (.iload_n 2, 1) := by decide +kernel
theorem dX10_rate_84 : decode cX10_rate 84 = .ok (.invokevirtual 290, 3) := by decide +kernel
theorem dX10_rate_87 : decode cX10_rate 87 = .ok (.ireturn, 1) := by decide +kernel
theorem dX10_rate_88 : decode cX10_rate 88 = .ok (.ldc 133, 2) := by decide +kernel
theorem dX10_rate_90 : decode cX10_rate 90 = .ok (.ireturn, 1) := by decide +kernel
set_option maxRecDepth 20000 in
theorem ggX10_keep_X10_isImage : GoodIn wsX10_keep wsX10_isImage := goodIn_r _ [7] (by decide +kernel) (by decide +kernel)
set_option maxRecDepth 20000 in
theorem gX10_keep_X10_isImage : GoodIn wsX10_keep (va_wsS RX10 228 yX10_isImage wsX10_isImage) := goodIn_app (goodIn_of _ (by decide +kernel)) ggX10_keep_X10_isImage
set_option maxRecDepth 20000 in
theorem ggX10_keep_X10_imageOf : GoodIn wsX10_keep wsX10_imageOf := goodIn_r _ [11, 12, 13, 90, 91, 92, 93, 94, 95, 96, 97, 98, 99, 100, 101, 102] (by decide +kernel) (by decide +kernel)
set_option maxRecDepth 20000 in
theorem gX10_keep_X10_imageOf : GoodIn wsX10_keep (wsV RX10 231 RX10 yX10_imageOf wsX10_imageOf) := goodIn_app (goodIn_of _ (by decide +kernel)) ggX10_keep_X10_imageOf
set_option maxRecDepth 20000 in
theorem ggX10_keep_X1_take : GoodIn wsX10_keep wsX1_take := goodIn_r _ [18, 19, 20, 21, 22, 23, 24, 25, 26, 27, 28, 29, 30, 31, 32, 33, 34, 35, 36, 37, 38, 39, 40, 41, 42, 43, 44, 45, 46, 47, 48, 49, 50, 51, 52, 53, 54, 55, 56, 57, 58, 59, 60, 61, 62, 63, 64, 65, 66, 67, 68, 69, 70, 71, 72, 73, 74, 75, 76, 77, 78, 79, 80, 81, 82, 83, 84, 85, 103, 104, 105, 106, 107, 108, 109, 110, 111, 112, 113, 114, 115, 116] (by decide +kernel) (by decide +kernel)
set_option maxRecDepth 20000 in
theorem gX10_keep_X1_take : GoodIn wsX10_keep (wsV RX10 293 RX1 yX1_take wsX1_take) := goodIn_app (goodIn_of _ (by decide +kernel)) ggX10_keep_X1_take
set_option maxRecDepth 20000 in
theorem ggX10_keep_X7_parties : GoodIn wsX10_keep wsX7_parties := goodIn_r _ [89, 57, 107, 108, 109, 110, 111] (by decide +kernel) (by decide +kernel)
set_option maxRecDepth 20000 in
theorem gX10_keep_X7_parties : GoodIn wsX10_keep (wsV RX10 163 RX7 yX7_parties wsX7_parties) := goodIn_app (goodIn_of _ (by decide +kernel)) ggX10_keep_X7_parties
theorem dX10_keep_0 : decode cX10_keep 0 = .ok (.iload_n 1, 1) := by decide +kernel
theorem dX10_keep_1 : decode cX10_keep 1 = .ok (.invokestatic 228, 3) := by decide +kernel
theorem dX10_keep_4 : decode cX10_keep 4 = .ok (.ifCond .ne 5, 3) := by decide +kernel
theorem dX10_keep_7 : decode cX10_keep 7 = .ok (.iconst (-1), 1) := by decide +kernel
theorem dX10_keep_8 : decode cX10_keep 8 = .ok (.ireturn, 1) := by decide +kernel
theorem dX10_keep_9 : decode cX10_keep 9 = .ok (.aload_n 0, 1) := by decide +kernel
theorem dX10_keep_10 : decode cX10_keep 10 = .ok (.iload_n 1, 1) := by decide +kernel
theorem dX10_keep_11 : decode cX10_keep 11 = .ok (.invokevirtual 231, 3) := by decide +kernel
theorem dX10_keep_14 : decode cX10_keep 14 = .ok (.aload_n 0, 1) := by decide +kernel
theorem dX10_keep_15 : decode cX10_keep 15 = .ok (.getfield 47, 3) := by decide +kernel
theorem dX10_keep_18 : decode cX10_keep 18 = .ok (.aload_n 0, 1) := by decide +kernel
theorem dX10_keep_19 : decode cX10_keep 19 = .ok (.getfield 54, 3) := by decide +kernel
theorem dX10_keep_22 : decode cX10_keep 22 = .ok (.aload_n 0, 1) := by decide +kernel
theorem dX10_keep_23 : decode cX10_keep 23 = .ok (.getfield 61, 3) := by decide +kernel
theorem dX10_keep_26 : decode cX10_keep 26 = .ok (.invokevirtual 293, 3) := by decide +kernel
theorem dX10_keep_29 : decode cX10_keep 29 = .ok (.aload_n 0, 1) := by decide +kernel
theorem dX10_keep_30 : decode cX10_keep 30 = .ok (.getfield 47, 3) := by decide +kernel
theorem dX10_keep_33 : decode cX10_keep 33 = .ok (.invokevirtual 163, 3) := by decide +kernel
theorem dX10_keep_36 : decode cX10_keep 36 = .ok (.ireturn, 1) := by decide +kernel
set_option maxRecDepth 20000 in
theorem ggX10_back_X10_isImage : GoodIn wsX10_back wsX10_isImage := goodIn_r _ [7] (by decide +kernel) (by decide +kernel)
set_option maxRecDepth 20000 in
theorem gX10_back_X10_isImage : GoodIn wsX10_back (va_wsS RX10 228 yX10_isImage wsX10_isImage) := goodIn_app (goodIn_of _ (by decide +kernel)) ggX10_back_X10_isImage
set_option maxRecDepth 20000 in
theorem ggX10_back_X10_imageOf : GoodIn wsX10_back wsX10_imageOf := goodIn_r _ [11, 12, 13, 94, 95, 96, 97, 98, 99, 100, 101, 102, 103, 104, 105, 106] (by decide +kernel) (by decide +kernel)
set_option maxRecDepth 20000 in
theorem gX10_back_X10_imageOf : GoodIn wsX10_back (wsV RX10 231 RX10 yX10_imageOf wsX10_imageOf) := goodIn_app (goodIn_of _ (by decide +kernel)) ggX10_back_X10_imageOf
set_option maxRecDepth 20000 in
theorem ggX10_back_X1_isKept : GoodIn wsX10_back wsX1_isKept := goodIn_r _ [18, 19, 107, 108, 109, 110] (by decide +kernel) (by decide +kernel)
set_option maxRecDepth 20000 in
theorem gX10_back_X1_isKept : GoodIn wsX10_back (wsV RX10 235 RX1 yX1_isKept wsX1_isKept) := goodIn_app (goodIn_of _ (by decide +kernel)) ggX10_back_X1_isKept
set_option maxRecDepth 20000 in
theorem ggX10_back_X1_giveBack : GoodIn wsX10_back wsX1_giveBack := goodIn_r _ [23, 24, 25, 26, 27, 28, 29, 30, 31, 32, 33, 34, 35, 36, 37, 38, 39, 40, 41, 42, 43, 44, 45, 46, 47, 48, 49, 50, 51, 52, 53, 54, 55, 56, 57, 58, 59, 60, 61, 62, 63, 64, 65, 66, 67, 68, 69, 70, 71, 72, 73, 74, 75, 76, 77, 78, 79, 80, 81, 82, 83, 84, 85, 86, 87, 88, 89, 107, 108, 109, 110, 111, 112, 113, 114, 115, 116, 117, 118, 119, 120] (by decide +kernel) (by decide +kernel)
set_option maxRecDepth 20000 in
theorem gX10_back_X1_giveBack : GoodIn wsX10_back (wsV RX10 297 RX1 yX1_giveBack wsX1_giveBack) := goodIn_app (goodIn_of _ (by decide +kernel)) ggX10_back_X1_giveBack
set_option maxRecDepth 20000 in
theorem ggX10_back_X7_parties : GoodIn wsX10_back wsX7_parties := goodIn_r _ [93, 61, 111, 112, 113, 114, 115] (by decide +kernel) (by decide +kernel)
set_option maxRecDepth 20000 in
theorem gX10_back_X7_parties : GoodIn wsX10_back (wsV RX10 163 RX7 yX7_parties wsX7_parties) := goodIn_app (goodIn_of _ (by decide +kernel)) ggX10_back_X7_parties
theorem dX10_back_0 : decode cX10_back 0 = .ok (.iload_n 1, 1) := by decide +kernel
theorem dX10_back_1 : decode cX10_back 1 = .ok (.invokestatic 228, 3) := by decide +kernel
theorem dX10_back_4 : decode cX10_back 4 = .ok (.ifCond .ne 5, 3) := by decide +kernel
theorem dX10_back_7 : decode cX10_back 7 = .ok (.iconst (-1), 1) := by decide +kernel
theorem dX10_back_8 : decode cX10_back 8 = .ok (.ireturn, 1) := by decide +kernel
theorem dX10_back_9 : decode cX10_back 9 = .ok (.aload_n 0, 1) := by decide +kernel
theorem dX10_back_10 : decode cX10_back 10 = .ok (.iload_n 1, 1) := by decide +kernel
theorem dX10_back_11 : decode cX10_back 11 = .ok (.invokevirtual 231, 3) := by decide +kernel
theorem dX10_back_14 : decode cX10_back 14 = .ok (.astore_n 2, 1) := by decide +kernel
theorem dX10_back_15 : decode cX10_back 15 = .ok (.aload_n 2, 1) := by decide +kernel
theorem dX10_back_16 : decode cX10_back 16 = .ok (.invokevirtual 235, 3) := by decide +kernel
theorem dX10_back_19 : decode cX10_back 19 = .ok (.ifCond .ne 6, 3) := by decide +kernel
theorem dX10_back_22 : decode cX10_back 22 = .ok (.bipush (-2), 2) := by decide +kernel
theorem dX10_back_24 : decode cX10_back 24 = .ok (.ireturn, 1) := by decide +kernel
theorem dX10_back_25 : decode cX10_back 25 = .ok (.aload_n 2, 1) := by decide +kernel
theorem dX10_back_26 : decode cX10_back 26 = .ok (.aload_n 0, 1) := by decide +kernel
theorem dX10_back_27 : decode cX10_back 27 = .ok (.getfield 47, 3) := by decide +kernel
theorem dX10_back_30 : decode cX10_back 30 = .ok (.aload_n 0, 1) := by decide +kernel
theorem dX10_back_31 : decode cX10_back 31 = .ok (.getfield 54, 3) := by decide +kernel
theorem dX10_back_34 : decode cX10_back 34 = .ok (.aload_n 0, 1) := by decide +kernel
theorem dX10_back_35 : decode cX10_back 35 = .ok (.getfield 61, 3) := by decide +kernel
theorem dX10_back_38 : decode cX10_back 38 = .ok (.invokevirtual 297, 3) := by decide +kernel
theorem dX10_back_41 : decode cX10_back 41 = .ok (.aload_n 0, 1) := by decide +kernel
theorem dX10_back_42 : decode cX10_back 42 = .ok (.getfield 47, 3) := by decide +kernel
theorem dX10_back_45 : decode cX10_back 45 = .ok (.invokevirtual 163, 3) := by decide +kernel
theorem dX10_back_48 : decode cX10_back 48 = .ok (.ireturn, 1) := by decide +kernel
set_option maxRecDepth 20000 in
theorem ggX10_count_X5_guests : GoodIn wsX10_count wsX5_guests := goodIn_r _ [8, 9, 55, 56, 57, 58, 59, 60] (by decide +kernel) (by decide +kernel)
set_option maxRecDepth 20000 in
theorem gX10_count_X5_guests : GoodIn wsX10_count (wsV RX10 93 RX5 yX5_guests wsX5_guests) := goodIn_app (goodIn_of _ (by decide +kernel)) ggX10_count_X5_guests
set_option maxRecDepth 20000 in
theorem ggX10_count_X6_size : GoodIn wsX10_count wsX6_size := goodIn_r _ [14, 15, 61, 62, 63, 64] (by decide +kernel) (by decide +kernel)
set_option maxRecDepth 20000 in
theorem gX10_count_X6_size : GoodIn wsX10_count (wsV RX10 217 RX6 yX6_size wsX6_size) := goodIn_app (goodIn_of _ (by decide +kernel)) ggX10_count_X6_size
set_option maxRecDepth 20000 in
theorem ggX10_count_X5_pairsTogether : GoodIn wsX10_count wsX5_pairsTogether := goodIn_r _ [19, 20, 21, 22, 7, 23, 24, 25, 26, 27, 28, 29, 30, 55, 56, 57, 58, 59, 60] (by decide +kernel) (by decide +kernel)
set_option maxRecDepth 20000 in
theorem gX10_count_X5_pairsTogether : GoodIn wsX10_count (wsV RX10 300 RX5 yX5_pairsTogether wsX5_pairsTogether) := goodIn_app (goodIn_of _ (by decide +kernel)) ggX10_count_X5_pairsTogether
set_option maxRecDepth 20000 in
theorem ggX10_count_X5_pairsApart : GoodIn wsX10_count wsX5_pairsApart := goodIn_r _ [34, 35, 21, 22, 7, 23, 24, 25, 26, 27, 28, 29, 30, 55, 56, 57, 58, 59, 60] (by decide +kernel) (by decide +kernel)
set_option maxRecDepth 20000 in
theorem gX10_count_X5_pairsApart : GoodIn wsX10_count (wsV RX10 303 RX5 yX5_pairsApart wsX5_pairsApart) := goodIn_app (goodIn_of _ (by decide +kernel)) ggX10_count_X5_pairsApart
set_option maxRecDepth 20000 in
theorem ggX10_count_X8_length : GoodIn wsX10_count wsX8_length := goodIn_r _ [40, 41, 65, 66] (by decide +kernel) (by decide +kernel)
set_option maxRecDepth 20000 in
theorem gX10_count_X8_length : GoodIn wsX10_count (wsV RX10 108 RX8 yX8_length wsX8_length) := goodIn_app (goodIn_of _ (by decide +kernel)) ggX10_count_X8_length
theorem dX10_count_0 : decode cX10_count 0 = .ok (.iload_n 1, 1) := by decide +kernel
theorem dX10_count_1 : decode cX10_count 1 = .ok (.tableswitch 75 0 4 #[35, 43, 51, 59, 67], 35) := by decide +kernel
theorem dX10_count_36 : decode cX10_count 36 = .ok (.aload_n 0, 1) := by decide +kernel
theorem dX10_count_37 : decode cX10_count 37 = .ok (.getfield 10, 3) := by decide +kernel
theorem dX10_count_40 : decode cX10_count 40 = .ok (.invokevirtual 93, 3) := by decide +kernel
theorem dX10_count_43 : decode cX10_count 43 = .ok (.ireturn, 1) := by decide +kernel
theorem dX10_count_44 : decode cX10_count 44 = .ok (.aload_n 0, 1) := by decide +kernel
theorem dX10_count_45 : decode cX10_count 45 = .ok (.getfield 54, 3) := by decide +kernel
theorem dX10_count_48 : decode cX10_count 48 = .ok (.invokevirtual 217, 3) := by decide +kernel
theorem dX10_count_51 : decode cX10_count 51 = .ok (.ireturn, 1) := by decide +kernel
theorem dX10_count_52 : decode cX10_count 52 = .ok (.aload_n 0, 1) := by decide +kernel
theorem dX10_count_53 : decode cX10_count 53 = .ok (.getfield 10, 3) := by decide +kernel
theorem dX10_count_56 : decode cX10_count 56 = .ok (.invokevirtual 300, 3) := by decide +kernel
theorem dX10_count_59 : decode cX10_count 59 = .ok (.ireturn, 1) := by decide +kernel
theorem dX10_count_60 : decode cX10_count 60 = .ok (.aload_n 0, 1) := by decide +kernel
theorem dX10_count_61 : decode cX10_count 61 = .ok (.getfield 10, 3) := by decide +kernel
theorem dX10_count_64 : decode cX10_count 64 = .ok (.invokevirtual 303, 3) := by decide +kernel
theorem dX10_count_67 : decode cX10_count 67 = .ok (.ireturn, 1) := by decide +kernel
theorem dX10_count_68 : decode cX10_count 68 = .ok (.aload_n 0, 1) := by decide +kernel
theorem dX10_count_69 : decode cX10_count 69 = .ok (.getfield 22, 3) := by decide +kernel
theorem dX10_count_72 : decode cX10_count 72 = .ok (.invokevirtual 108, 3) := by decide +kernel
theorem dX10_count_75 : decode cX10_count 75 = .ok (.ireturn, 1) := by decide +kernel
theorem dX10_count_76 : decode cX10_count 76 = .ok (.iconst (-1), 1) := by decide +kernel
theorem dX10_count_77 : decode cX10_count 77 = .ok (.ireturn, 1) := by decide +kernel
theorem dX10_trace_0 : decode cX10_trace 0 = .ok (.aload_n 0, 1) := by decide +kernel
theorem dX10_trace_1 : decode cX10_trace 1 = .ok (.getfield 89, 3) := by decide +kernel
theorem dX10_trace_4 : decode cX10_trace 4 = .ok (.lreturn, 1) := by decide +kernel
set_option maxRecDepth 20000 in
theorem ggX10_isGuest_X5_guests : GoodIn wsX10_isGuest wsX5_guests := goodIn_r _ [6, 7, 21, 22, 23, 24, 25, 26] (by decide +kernel) (by decide +kernel)
set_option maxRecDepth 20000 in
theorem gX10_isGuest_X5_guests : GoodIn wsX10_isGuest (wsV RX10 93 RX5 yX5_guests wsX5_guests) := goodIn_app (goodIn_of _ (by decide +kernel)) ggX10_isGuest_X5_guests
theorem dX10_isGuest_0 : decode cX10_isGuest 0 = .ok (.iload_n 1, 1) := by decide +kernel
theorem dX10_isGuest_1 : decode cX10_isGuest 1 = .ok (.ifCond .lt 18, 3) := by decide +kernel
theorem dX10_isGuest_4 : decode cX10_isGuest 4 = .ok (.iload_n 1, 1) := by decide +kernel
theorem dX10_isGuest_5 : decode cX10_isGuest 5 = .ok (.aload_n 0, 1) := by decide +kernel
theorem dX10_isGuest_6 : decode cX10_isGuest 6 = .ok (.getfield 10, 3) := by decide +kernel
theorem dX10_isGuest_9 : decode cX10_isGuest 9 = .ok (.invokevirtual 93, 3) := by decide +kernel
theorem dX10_isGuest_12 : decode cX10_isGuest 12 = .ok (.if_icmp .ge 7, 3) := by decide +kernel
theorem dX10_isGuest_15 : decode cX10_isGuest 15 = .ok (.iconst 1, 1) := by decide +kernel
theorem dX10_isGuest_16 : decode cX10_isGuest 16 = .ok (.goto 4, 3) := by decide +kernel
theorem dX10_isGuest_19 : decode cX10_isGuest 19 = .ok (.iconst 0, 1) := by decide +kernel
theorem dX10_isGuest_20 : decode cX10_isGuest 20 = .ok (.ireturn, 1) := by decide +kernel
set_option maxRecDepth 20000 in
theorem ggX10_areTwoGuests_X10_isGuest : GoodIn wsX10_areTwoGuests wsX10_isGuest := goodIn_r _ [5, 6, 7, 8, 9, 10, 11, 12, 13, 14, 15, 16, 17, 18, 19, 20, 21, 22, 23, 24, 25, 26, 27, 28, 29, 30, 31] (by decide +kernel) (by decide +kernel)
set_option maxRecDepth 20000 in
theorem gX10_areTwoGuests_X10_isGuest : GoodIn wsX10_areTwoGuests (wsV RX10 144 RX10 yX10_isGuest wsX10_isGuest) := goodIn_app (goodIn_of _ (by decide +kernel)) ggX10_areTwoGuests_X10_isGuest
theorem dX10_areTwoGuests_0 : decode cX10_areTwoGuests 0 = .ok (.aload_n 0, 1) := by decide +kernel
theorem dX10_areTwoGuests_1 : decode cX10_areTwoGuests 1 = .ok (.iload_n 1, 1) := by decide +kernel
theorem dX10_areTwoGuests_2 : decode cX10_areTwoGuests 2 = .ok (.invokevirtual 144, 3) := by decide +kernel
theorem dX10_areTwoGuests_5 : decode cX10_areTwoGuests 5 = .ok (.ifCond .eq 20, 3) := by decide +kernel
theorem dX10_areTwoGuests_8 : decode cX10_areTwoGuests 8 = .ok (.aload_n 0, 1) := by decide +kernel
theorem dX10_areTwoGuests_9 : decode cX10_areTwoGuests 9 = .ok (.iload_n 2, 1) := by decide +kernel
theorem dX10_areTwoGuests_10 : decode cX10_areTwoGuests 10 = .ok (.invokevirtual 144, 3) := by decide +kernel
theorem dX10_areTwoGuests_13 : decode cX10_areTwoGuests 13 = .ok (.ifCond .eq 12, 3) := by decide +kernel
theorem dX10_areTwoGuests_16 : decode cX10_areTwoGuests 16 = .ok (.iload_n 1, 1) := by decide +kernel
theorem dX10_areTwoGuests_17 : decode cX10_areTwoGuests 17 = .ok (.iload_n 2, 1) := by decide +kernel
theorem dX10_areTwoGuests_18 : decode cX10_areTwoGuests 18 = .ok (.if_icmp .eq 7, 3) := by decide +kernel
theorem dX10_areTwoGuests_21 : decode cX10_areTwoGuests 21 = .ok (.iconst 1, 1) := by decide +kernel
theorem dX10_areTwoGuests_22 : decode cX10_areTwoGuests 22 = .ok (.goto 4, 3) := by decide +kernel
theorem dX10_areTwoGuests_25 : decode cX10_areTwoGuests 25 = .ok (.iconst 0, 1) := by decide +kernel
theorem dX10_areTwoGuests_26 : decode cX10_areTwoGuests 26 = .ok (.ireturn, 1) := by decide +kernel
set_option maxRecDepth 20000 in
theorem ggX10_isParty_X7_parties : GoodIn wsX10_isParty wsX7_parties := goodIn_r _ [6, 7, 21, 22, 23, 24, 25] (by decide +kernel) (by decide +kernel)
set_option maxRecDepth 20000 in
theorem gX10_isParty_X7_parties : GoodIn wsX10_isParty (wsV RX10 163 RX7 yX7_parties wsX7_parties) := goodIn_app (goodIn_of _ (by decide +kernel)) ggX10_isParty_X7_parties
theorem dX10_isParty_0 : decode cX10_isParty 0 = .ok (.iload_n 1, 1) := by decide +kernel
theorem dX10_isParty_1 : decode cX10_isParty 1 = .ok (.ifCond .lt 18, 3) := by decide +kernel
theorem dX10_isParty_4 : decode cX10_isParty 4 = .ok (.iload_n 1, 1) := by decide +kernel
theorem dX10_isParty_5 : decode cX10_isParty 5 = .ok (.aload_n 0, 1) := by decide +kernel
theorem dX10_isParty_6 : decode cX10_isParty 6 = .ok (.getfield 47, 3) := by decide +kernel
theorem dX10_isParty_9 : decode cX10_isParty 9 = .ok (.invokevirtual 163, 3) := by decide +kernel
theorem dX10_isParty_12 : decode cX10_isParty 12 = .ok (.if_icmp .ge 7, 3) := by decide +kernel
theorem dX10_isParty_15 : decode cX10_isParty 15 = .ok (.iconst 1, 1) := by decide +kernel
theorem dX10_isParty_16 : decode cX10_isParty 16 = .ok (.goto 4, 3) := by decide +kernel
theorem dX10_isParty_19 : decode cX10_isParty 19 = .ok (.iconst 0, 1) := by decide +kernel
theorem dX10_isParty_20 : decode cX10_isParty 20 = .ok (.ireturn, 1) := by decide +kernel
theorem dX10_isImage_0 : decode cX10_isImage 0 = .ok (.iload_n 0, 1) := by decide +kernel
theorem dX10_isImage_1 : decode cX10_isImage 1 = .ok (.ifCond .eq 8, 3) := by decide +kernel
theorem dX10_isImage_4 : decode cX10_isImage 4 = .ok (.iload_n 0, 1) := by decide +kernel
theorem dX10_isImage_5 : decode cX10_isImage 5 = .ok (.iconst 1, 1) := by decide +kernel
theorem dX10_isImage_6 : decode cX10_isImage 6 = .ok (.if_icmp .ne 7, 3) := by decide +kernel
theorem dX10_isImage_9 : decode cX10_isImage 9 = .ok (.iconst 1, 1) := by decide +kernel
theorem dX10_isImage_10 : decode cX10_isImage 10 = .ok (.goto 4, 3) := by decide +kernel
theorem dX10_isImage_13 : decode cX10_isImage 13 = .ok (.iconst 0, 1) := by decide +kernel
theorem dX10_isImage_14 : decode cX10_isImage 14 = .ok (.ireturn, 1) := by decide +kernel
theorem dX10_imageOf_0 : decode cX10_imageOf 0 = .ok (.iload_n 1, 1) := by decide +kernel
theorem dX10_imageOf_1 : decode cX10_imageOf 1 = .ok (.ifCond .ne 10, 3) := by decide +kernel
theorem dX10_imageOf_4 : decode cX10_imageOf 4 = .ok (.aload_n 0, 1) := by decide +kernel
theorem dX10_imageOf_5 : decode cX10_imageOf 5 = .ok (.getfield 68, 3) := by decide +kernel
theorem dX10_imageOf_8 : decode cX10_imageOf 8 = .ok (.goto 7, 3) := by decide +kernel
theorem dX10_imageOf_11 : decode cX10_imageOf 11 = .ok (.aload_n 0, 1) := by decide +kernel
theorem dX10_imageOf_12 : decode cX10_imageOf 12 = .ok (.getfield 72, 3) := by decide +kernel
theorem dX10_imageOf_15 : decode cX10_imageOf 15 = .ok (.areturn, 1) := by decide +kernel
set_option maxRecDepth 20000 in
theorem ggX10_rateAsGuest_X7_partyOf : GoodIn wsX10_rateAsGuest wsX7_partyOf := goodIn_r _ [7, 8, 9, 36, 37, 38, 39, 40] (by decide +kernel) (by decide +kernel)
set_option maxRecDepth 20000 in
theorem gX10_rateAsGuest_X7_partyOf : GoodIn wsX10_rateAsGuest (wsV RX10 147 RX7 yX7_partyOf wsX7_partyOf) := goodIn_app (goodIn_of _ (by decide +kernel)) ggX10_rateAsGuest_X7_partyOf
set_option maxRecDepth 20000 in
theorem ggX10_rateAsGuest_X7_setOf : GoodIn wsX10_rateAsGuest wsX7_setOf := goodIn_r _ [13, 14, 15, 36, 37, 38, 39, 40] (by decide +kernel) (by decide +kernel)
set_option maxRecDepth 20000 in
theorem gX10_rateAsGuest_X7_setOf : GoodIn wsX10_rateAsGuest (wsV RX10 166 RX7 yX7_setOf wsX7_setOf) := goodIn_app (goodIn_of _ (by decide +kernel)) ggX10_rateAsGuest_X7_setOf
set_option maxRecDepth 20000 in
theorem ggX10_rateAsGuest_J6_bitCount_0f7a4 : GoodIn wsX10_rateAsGuest wsJ6_bitCount_0f7a4 := goodIn_r _ [19, 20, 21, 22] (by decide +kernel) (by decide +kernel)
set_option maxRecDepth 20000 in
theorem gX10_rateAsGuest_J6_bitCount_0f7a4 : GoodIn wsX10_rateAsGuest (va_wsS RX10 306 yJ6_bitCount_0f7a4 wsJ6_bitCount_0f7a4) := goodIn_app (goodIn_of _ (by decide +kernel)) ggX10_rateAsGuest_J6_bitCount_0f7a4
theorem dX10_rateAsGuest_0 : decode cX10_rateAsGuest 0 = .ok (.aload_n 0, 1) := by decide +kernel
theorem dX10_rateAsGuest_1 : decode cX10_rateAsGuest 1 = .ok (.dup, 1) := by decide +kernel
theorem dX10_rateAsGuest_2 : decode cX10_rateAsGuest 2 = .ok (.getfield 89, 3) := by decide +kernel
theorem dX10_rateAsGuest_5 : decode cX10_rateAsGuest 5 = .ok (.lconst 1, 1) := by decide +kernel
theorem dX10_rateAsGuest_6 : decode cX10_rateAsGuest 6 = .ok (.ladd, 1) := by decide +kernel
theorem dX10_rateAsGuest_7 : decode cX10_rateAsGuest 7 = .ok (.putfield 89, 3) := by decide +kernel
theorem dX10_rateAsGuest_10 : decode cX10_rateAsGuest 10 = .ok (.aload_n 0, 1) := by decide +kernel
theorem dX10_rateAsGuest_11 : decode cX10_rateAsGuest 11 = .ok (.getfield 47, 3) := by decide +kernel
theorem dX10_rateAsGuest_14 : decode cX10_rateAsGuest 14 = .ok (.aload_n 0, 1) := by decide +kernel
theorem dX10_rateAsGuest_15 : decode cX10_rateAsGuest 15 = .ok (.getfield 47, 3) := by decide +kernel
theorem dX10_rateAsGuest_18 : decode cX10_rateAsGuest 18 = .ok (.iload_n 1, 1) := by decide +kernel
theorem dX10_rateAsGuest_19 : decode cX10_rateAsGuest 19 = .ok (.invokevirtual 147, 3) := by decide +kernel
theorem dX10_rateAsGuest_22 : decode cX10_rateAsGuest 22 = .ok (.invokevirtual 166, 3) := by decide +kernel
theorem dX10_rateAsGuest_25 : decode cX10_rateAsGuest 25 = .ok (.invokestatic 306, 3) := by decide +kernel
theorem dX10_rateAsGuest_28 : decode cX10_rateAsGuest 28 = .ok (.ireturn, 1) := by decide +kernel
set_option maxRecDepth 20000 in
theorem ggX10_rateAsTalker_X10_rateAsGuest : GoodIn wsX10_rateAsTalker wsX10_rateAsGuest := goodIn_r _ [9, 1, 4, 10, 11, 12, 13, 14, 15, 16, 17, 18, 19, 20, 21, 22, 23, 24, 25, 26, 27, 28, 29, 40, 41, 42, 43, 44, 45, 46, 47, 48, 49, 50, 51, 52, 53, 54, 55, 56, 57] (by decide +kernel) (by decide +kernel)
set_option maxRecDepth 20000 in
theorem gX10_rateAsTalker_X10_rateAsGuest : GoodIn wsX10_rateAsTalker (wsV RX10 275 RX10 yX10_rateAsGuest wsX10_rateAsGuest) := goodIn_app (goodIn_of _ (by decide +kernel)) ggX10_rateAsTalker_X10_rateAsGuest
set_option maxRecDepth 20000 in
theorem ggX10_rateAsTalker_X7_partyOf : GoodIn wsX10_rateAsTalker wsX7_partyOf := goodIn_r _ [14, 15, 16, 53, 54, 55, 56, 57] (by decide +kernel) (by decide +kernel)
set_option maxRecDepth 20000 in
theorem gX10_rateAsTalker_X7_partyOf : GoodIn wsX10_rateAsTalker (wsV RX10 147 RX7 yX7_partyOf wsX7_partyOf) := goodIn_app (goodIn_of _ (by decide +kernel)) ggX10_rateAsTalker_X7_partyOf
set_option maxRecDepth 20000 in
theorem ggX10_rateAsTalker_X7_setOf : GoodIn wsX10_rateAsTalker wsX7_setOf := goodIn_r _ [20, 21, 22, 53, 54, 55, 56, 57] (by decide +kernel) (by decide +kernel)
set_option maxRecDepth 20000 in
theorem gX10_rateAsTalker_X7_setOf : GoodIn wsX10_rateAsTalker (wsV RX10 166 RX7 yX7_setOf wsX7_setOf) := goodIn_app (goodIn_of _ (by decide +kernel)) ggX10_rateAsTalker_X7_setOf
set_option maxRecDepth 20000 in
theorem ggX10_rateAsTalker_X5_worthWith : GoodIn wsX10_rateAsTalker wsX5_worthWith := goodIn_r _ [34, 35, 36, 37, 38, 33, 39, 58, 59, 60, 61, 62, 63] (by decide +kernel) (by decide +kernel)
set_option maxRecDepth 20000 in
theorem gX10_rateAsTalker_X5_worthWith : GoodIn wsX10_rateAsTalker (wsV RX10 313 RX5 yX5_worthWith wsX5_worthWith) := goodIn_app (goodIn_of _ (by decide +kernel)) ggX10_rateAsTalker_X5_worthWith
theorem dX10_rateAsTalker_0 : decode cX10_rateAsTalker 0 = .ok (.aload_n 0, 1) := by decide +kernel
theorem dX10_rateAsTalker_1 : decode cX10_rateAsTalker 1 = .ok (.dup, 1) := by decide +kernel
theorem dX10_rateAsTalker_2 : decode cX10_rateAsTalker 2 = .ok (.getfield 89, 3) := by decide +kernel
theorem dX10_rateAsTalker_5 : decode cX10_rateAsTalker 5 = .ok (.ldc2_w 311, 3) := by decide +kernel
theorem dX10_rateAsTalker_8 : decode cX10_rateAsTalker 8 = .ok (.ladd, 1) := by decide +kernel
theorem dX10_rateAsTalker_9 : decode cX10_rateAsTalker 9 = .ok (.putfield 89, 3) := by decide +kernel
theorem dX10_rateAsTalker_12 : decode cX10_rateAsTalker 12 = .ok (.aload_n 0, 1) := by decide +kernel
theorem dX10_rateAsTalker_13 : decode cX10_rateAsTalker 13 = .ok (.iload_n 1, 1) := by decide +kernel
theorem dX10_rateAsTalker_14 : decode cX10_rateAsTalker 14 = .ok (.invokevirtual 275, 3) := by decide +kernel
theorem dX10_rateAsTalker_17 : decode cX10_rateAsTalker 17 = .ok (.aload_n 0, 1) := by decide +kernel
theorem dX10_rateAsTalker_18 : decode cX10_rateAsTalker 18 = .ok (.getfield 10, 3) := by decide +kernel
theorem dX10_rateAsTalker_21 : decode cX10_rateAsTalker 21 = .ok (.iload_n 1, 1) := by decide +kernel
theorem dX10_rateAsTalker_22 : decode cX10_rateAsTalker 22 = .ok (.aload_n 0, 1) := by decide +kernel
theorem dX10_rateAsTalker_23 : decode cX10_rateAsTalker 23 = .ok (.getfield 47, 3) := by decide +kernel
theorem dX10_rateAsTalker_26 : decode cX10_rateAsTalker 26 = .ok (.aload_n 0, 1) := by decide +kernel
theorem dX10_rateAsTalker_27 : decode cX10_rateAsTalker 27 = .ok (.getfield 47, 3) := by decide +kernel
theorem dX10_rateAsTalker_30 : decode cX10_rateAsTalker 30 = .ok (.iload_n 1, 1) := by decide +kernel
theorem dX10_rateAsTalker_31 : decode cX10_rateAsTalker 31 = .ok (.invokevirtual 147, 3) := by decide +kernel
theorem dX10_rateAsTalker_34 : decode cX10_rateAsTalker 34 = .ok (.invokevirtual 166, 3) := by decide +kernel
theorem dX10_rateAsTalker_37 : decode cX10_rateAsTalker 37 = .ok (.invokevirtual 313, 3) := by decide +kernel
theorem dX10_rateAsTalker_40 : decode cX10_rateAsTalker 40 = .ok (.iadd, 1) := by decide +kernel
theorem dX10_rateAsTalker_41 : decode cX10_rateAsTalker 41 = .ok (.ireturn, 1) := by decide +kernel
set_option maxRecDepth 20000 in
theorem ggX10_rateAsListener_X10_rateAsGuest : GoodIn wsX10_rateAsListener wsX10_rateAsGuest := goodIn_r _ [8, 1, 9, 10, 11, 12, 13, 14, 15, 16, 17, 18, 19, 20, 21, 22, 23, 24, 25, 26, 27, 28, 29, 39, 40, 41, 42, 43, 44, 45, 46, 47, 48, 49, 50, 51, 52, 53, 54, 55, 56] (by decide +kernel) (by decide +kernel)
set_option maxRecDepth 20000 in
theorem gX10_rateAsListener_X10_rateAsGuest : GoodIn wsX10_rateAsListener (wsV RX10 275 RX10 yX10_rateAsGuest wsX10_rateAsGuest) := goodIn_app (goodIn_of _ (by decide +kernel)) ggX10_rateAsListener_X10_rateAsGuest
set_option maxRecDepth 20000 in
theorem ggX10_rateAsListener_X5_hatOf : GoodIn wsX10_rateAsListener wsX5_hatOf := goodIn_r _ [34, 35, 36, 37, 33, 38, 57, 58, 59, 60, 61, 62] (by decide +kernel) (by decide +kernel)
set_option maxRecDepth 20000 in
theorem gX10_rateAsListener_X5_hatOf : GoodIn wsX10_rateAsListener (wsV RX10 318 RX5 yX5_hatOf wsX5_hatOf) := goodIn_app (goodIn_of _ (by decide +kernel)) ggX10_rateAsListener_X5_hatOf
theorem dX10_rateAsListener_0 : decode cX10_rateAsListener 0 = .ok (.aload_n 0, 1) := by decide +kernel
theorem dX10_rateAsListener_1 : decode cX10_rateAsListener 1 = .ok (.dup, 1) := by decide +kernel
theorem dX10_rateAsListener_2 : decode cX10_rateAsListener 2 = .ok (.getfield 89, 3) := by decide +kernel
theorem dX10_rateAsListener_5 : decode cX10_rateAsListener 5 = .ok (.ldc2_w 316, 3) := by decide +kernel
theorem dX10_rateAsListener_8 : decode cX10_rateAsListener 8 = .ok (.ladd, 1) := by decide +kernel
theorem dX10_rateAsListener_9 : decode cX10_rateAsListener 9 = .ok (.putfield 89, 3) := by decide +kernel
theorem dX10_rateAsListener_12 : decode cX10_rateAsListener 12 = .ok (.aload_n 0, 1) := by decide +kernel
theorem dX10_rateAsListener_13 : decode cX10_rateAsListener 13 = .ok (.iload_n 1, 1) := by decide +kernel
theorem dX10_rateAsListener_14 : decode cX10_rateAsListener 14 = .ok (.invokevirtual 275, 3) := by decide +kernel
theorem dX10_rateAsListener_17 : decode cX10_rateAsListener 17 = .ok (.aload_n 0, 1) := by decide +kernel
theorem dX10_rateAsListener_18 : decode cX10_rateAsListener 18 = .ok (.getfield 10, 3) := by decide +kernel
theorem dX10_rateAsListener_21 : decode cX10_rateAsListener 21 = .ok (.iload_n 1, 1) := by decide +kernel
theorem dX10_rateAsListener_22 : decode cX10_rateAsListener 22 = .ok (.invokevirtual 318, 3) := by decide +kernel
theorem dX10_rateAsListener_25 : decode cX10_rateAsListener 25 = .ok (.isub, 1) := by decide +kernel
theorem dX10_rateAsListener_26 : decode cX10_rateAsListener 26 = .ok (.ireturn, 1) := by decide +kernel
set_option maxRecDepth 20000 in
theorem ggX10_rateAsSinger_X10_rateAsTalker : GoodIn wsX10_rateAsSinger wsX10_rateAsTalker := goodIn_r _ [7, 1, 8, 9, 10, 11, 12, 13, 6, 14, 15, 16, 17, 18, 19, 20, 21, 22, 23, 24, 25, 26, 27, 28, 29, 30, 31, 32, 33, 34, 35, 36, 37, 38, 39, 40, 41, 42, 43, 44, 45, 46, 47, 48, 49, 50, 51, 52, 53, 54, 55, 56, 57, 58, 59, 60, 61, 62, 63, 64, 65, 66, 67, 68] (by decide +kernel) (by decide +kernel)
set_option maxRecDepth 20000 in
theorem gX10_rateAsSinger_X10_rateAsTalker : GoodIn wsX10_rateAsSinger (wsV RX10 278 RX10 yX10_rateAsTalker wsX10_rateAsTalker) := goodIn_app (goodIn_of _ (by decide +kernel)) ggX10_rateAsSinger_X10_rateAsTalker
theorem dX10_rateAsSinger_0 : decode cX10_rateAsSinger 0 = .ok (.aload_n 0, 1) := by decide +kernel
theorem dX10_rateAsSinger_1 : decode cX10_rateAsSinger 1 = .ok (.dup, 1) := by decide +kernel
theorem dX10_rateAsSinger_2 : decode cX10_rateAsSinger 2 = .ok (.getfield 89, 3) := by decide +kernel
theorem dX10_rateAsSinger_5 : decode cX10_rateAsSinger 5 = .ok (.ldc2_w 321, 3) := by decide +kernel
theorem dX10_rateAsSinger_8 : decode cX10_rateAsSinger 8 = .ok (.ladd, 1) := by decide +kernel
theorem dX10_rateAsSinger_9 : decode cX10_rateAsSinger 9 = .ok (.putfield 89, 3) := by decide +kernel
theorem dX10_rateAsSinger_12 : decode cX10_rateAsSinger 12 = .ok (.iconst 2, 1) := by decide +kernel
theorem dX10_rateAsSinger_13 : decode cX10_rateAsSinger 13 = .ok (.aload_n 0, 1) := by decide +kernel
theorem dX10_rateAsSinger_14 : decode cX10_rateAsSinger 14 = .ok (.iload_n 1, 1) := by decide +kernel
theorem dX10_rateAsSinger_15 : decode cX10_rateAsSinger 15 = .ok (.invokevirtual 278, 3) := by decide +kernel
theorem dX10_rateAsSinger_18 : decode cX10_rateAsSinger 18 = .ok (.imul, 1) := by decide +kernel
theorem dX10_rateAsSinger_19 : decode cX10_rateAsSinger 19 = .ok (.ireturn, 1) := by decide +kernel
set_option maxRecDepth 20000 in
theorem ggX10_rateAsDog_X10_rateAsListener : GoodIn wsX10_rateAsDog wsX10_rateAsListener := goodIn_r _ [8, 1, 9, 10, 11, 12, 13, 7, 14, 3, 15, 16, 17, 18, 19, 20, 21, 22, 23, 24, 25, 26, 27, 28, 29, 30, 31, 32, 33, 34, 35, 36, 37, 38, 39, 40, 41, 42, 43, 44, 45, 46, 47, 48, 49, 50, 51, 52, 53, 54, 55, 56, 57, 58, 59, 60, 61, 62, 63, 64, 65, 66, 67] (by decide +kernel) (by decide +kernel)
set_option maxRecDepth 20000 in
theorem gX10_rateAsDog_X10_rateAsListener : GoodIn wsX10_rateAsDog (wsV RX10 281 RX10 yX10_rateAsListener wsX10_rateAsListener) := goodIn_app (goodIn_of _ (by decide +kernel)) ggX10_rateAsDog_X10_rateAsListener
set_option maxRecDepth 20000 in
theorem ggX10_rateAsDog_X7_partyOf : GoodIn wsX10_rateAsDog wsX7_partyOf := goodIn_r _ [19, 20, 21, 57, 58, 59, 60, 61] (by decide +kernel) (by decide +kernel)
set_option maxRecDepth 20000 in
theorem gX10_rateAsDog_X7_partyOf : GoodIn wsX10_rateAsDog (wsV RX10 147 RX7 yX7_partyOf wsX7_partyOf) := goodIn_app (goodIn_of _ (by decide +kernel)) ggX10_rateAsDog_X7_partyOf
theorem dX10_rateAsDog_0 : decode cX10_rateAsDog 0 = .ok (.aload_n 0, 1) := by decide +kernel
theorem dX10_rateAsDog_1 : decode cX10_rateAsDog 1 = .ok (.dup, 1) := by decide +kernel
theorem dX10_rateAsDog_2 : decode cX10_rateAsDog 2 = .ok (.getfield 89, 3) := by decide +kernel
theorem dX10_rateAsDog_5 : decode cX10_rateAsDog 5 = .ok (.ldc2_w 323, 3) := by decide +kernel
theorem dX10_rateAsDog_8 : decode cX10_rateAsDog 8 = .ok (.ladd, 1) := by decide +kernel
theorem dX10_rateAsDog_9 : decode cX10_rateAsDog 9 = .ok (.putfield 89, 3) := by decide +kernel
theorem dX10_rateAsDog_12 : decode cX10_rateAsDog 12 = .ok (.aload_n 0, 1) := by decide +kernel
theorem dX10_rateAsDog_13 : decode cX10_rateAsDog 13 = .ok (.iload_n 1, 1) := by decide +kernel
theorem dX10_rateAsDog_14 : decode cX10_rateAsDog 14 = .ok (.invokevirtual 281, 3) := by decide +kernel
theorem dX10_rateAsDog_17 : decode cX10_rateAsDog 17 = .ok (.aload_n 0, 1) := by decide +kernel
theorem dX10_rateAsDog_18 : decode cX10_rateAsDog 18 = .ok (.getfield 47, 3) := by decide +kernel
theorem dX10_rateAsDog_21 : decode cX10_rateAsDog 21 = .ok (.iload_n 1, 1) := by decide +kernel
theorem dX10_rateAsDog_22 : decode cX10_rateAsDog 22 = .ok (.invokevirtual 147, 3) := by decide +kernel
theorem dX10_rateAsDog_25 : decode cX10_rateAsDog 25 = .ok (.iadd, 1) := by decide +kernel
theorem dX10_rateAsDog_26 : decode cX10_rateAsDog 26 = .ok (.ireturn, 1) := by decide +kernel
set_option maxRecDepth 20000 in
theorem ggX10_rateAsHostess_X10_rateAsGuest : GoodIn wsX10_rateAsHostess wsX10_rateAsGuest := goodIn_r _ [8, 1, 3, 9, 10, 11, 12, 13, 14, 15, 16, 17, 18, 19, 20, 21, 22, 23, 24, 25, 26, 27, 28, 33, 34, 35, 36, 37, 38, 39, 40, 41, 42, 43, 44, 45, 46, 47, 48, 49, 50] (by decide +kernel) (by decide +kernel)
set_option maxRecDepth 20000 in
theorem gX10_rateAsHostess_X10_rateAsGuest : GoodIn wsX10_rateAsHostess (wsV RX10 275 RX10 yX10_rateAsGuest wsX10_rateAsGuest) := goodIn_app (goodIn_of _ (by decide +kernel)) ggX10_rateAsHostess_X10_rateAsGuest
set_option maxRecDepth 20000 in
theorem ggX10_rateAsHostess_X7_parties : GoodIn wsX10_rateAsHostess wsX7_parties := goodIn_r _ [32, 20, 46, 47, 48, 49, 50] (by decide +kernel) (by decide +kernel)
set_option maxRecDepth 20000 in
theorem gX10_rateAsHostess_X7_parties : GoodIn wsX10_rateAsHostess (wsV RX10 163 RX7 yX7_parties wsX7_parties) := goodIn_app (goodIn_of _ (by decide +kernel)) ggX10_rateAsHostess_X7_parties
theorem dX10_rateAsHostess_0 : decode cX10_rateAsHostess 0 = .ok (.aload_n 0, 1) := by decide +kernel
theorem dX10_rateAsHostess_1 : decode cX10_rateAsHostess 1 = .ok (.dup, 1) := by decide +kernel
theorem dX10_rateAsHostess_2 : decode cX10_rateAsHostess 2 = .ok (.getfield 89, 3) := by decide +kernel
theorem dX10_rateAsHostess_5 : decode cX10_rateAsHostess 5 = .ok (.ldc2_w 325, 3) := by decide +kernel
theorem dX10_rateAsHostess_8 : decode cX10_rateAsHostess 8 = .ok (.ladd, 1) := by decide +kernel
theorem dX10_rateAsHostess_9 : decode cX10_rateAsHostess 9 = .ok (.putfield 89, 3) := by decide +kernel
theorem dX10_rateAsHostess_12 : decode cX10_rateAsHostess 12 = .ok (.aload_n 0, 1) := by decide +kernel
theorem dX10_rateAsHostess_13 : decode cX10_rateAsHostess 13 = .ok (.iload_n 1, 1) := by decide +kernel
theorem dX10_rateAsHostess_14 : decode cX10_rateAsHostess 14 = .ok (.invokevirtual 275, 3) := by decide +kernel
theorem dX10_rateAsHostess_17 : decode cX10_rateAsHostess 17 = .ok (.aload_n 0, 1) := by decide +kernel
theorem dX10_rateAsHostess_18 : decode cX10_rateAsHostess 18 = .ok (.getfield 47, 3) := by decide +kernel
theorem dX10_rateAsHostess_21 : decode cX10_rateAsHostess 21 = .ok (.invokevirtual 163, 3) := by decide +kernel
theorem dX10_rateAsHostess_24 : decode cX10_rateAsHostess 24 = .ok (.iadd, 1) := by decide +kernel
theorem dX10_rateAsHostess_25 : decode cX10_rateAsHostess 25 = .ok (.ireturn, 1) := by decide +kernel
set_option maxRecDepth 20000 in
theorem ggX11_init_X11_drafts : GoodIn wsX11_init wsX11_drafts := goodIn_r _ [19, 6, 24, 25, 26, 27, 28, 29, 30, 31, 32, 33, 34, 35, 36, 37, 38, 39, 40] (by decide +kernel) (by decide +kernel)
set_option maxRecDepth 20000 in
theorem gX11_init_X11_drafts : GoodIn wsX11_init (wsV RX11 38 RX11 yX11_drafts wsX11_drafts) := goodIn_app (goodIn_of _ (by decide +kernel)) ggX11_init_X11_drafts
set_option maxRecDepth 20000 in
theorem ggX11_init_X11_adopts : GoodIn wsX11_init wsX11_adopts := goodIn_r _ [23, 6, 7, 10, 24, 25, 26, 27, 28, 29, 30, 31, 32, 33, 34, 35, 36, 37, 38, 39, 40] (by decide +kernel) (by decide +kernel)
set_option maxRecDepth 20000 in
theorem gX11_init_X11_adopts : GoodIn wsX11_init (wsV RX11 42 RX11 yX11_adopts wsX11_adopts) := goodIn_app (goodIn_of _ (by decide +kernel)) ggX11_init_X11_adopts
theorem dX11_init_0 : decode cX11_init 0 = .ok (.aload_n 0, 1) := by decide +kernel
theorem dX11_init_1 : decode cX11_init 1 = .ok (.invokespecial 1, 3) := by decide +kernel
theorem dX11_init_4 : decode cX11_init 4 = .ok (.aload_n 0, 1) := by decide +kernel
theorem dX11_init_5 : decode cX11_init 5 = .ok (.sipush 300, 3) := by decide +kernel
theorem dX11_init_8 : decode cX11_init 8 = .ok (.newarray .int, 2) := by decide +kernel
theorem dX11_init_10 : decode cX11_init 10 = .ok (.putfield 7, 3) := by decide +kernel
theorem dX11_init_13 : decode cX11_init 13 = .ok (.aload_n 0, 1) := by decide +kernel
theorem dX11_init_14 : decode cX11_init 14 = .ok (.sipush 188, 3) := by decide +kernel
theorem dX11_init_17 : decode cX11_init 17 = .ok (.newarray .int, 2) := by decide +kernel
theorem dX11_init_19 : decode cX11_init 19 = .ok (.putfield 13, 3) := by decide +kernel
theorem dX11_init_22 : decode cX11_init 22 = .ok (.aload_n 0, 1) := by decide +kernel
theorem dX11_init_23 : decode cX11_init 23 = .ok (.bipush 40, 2) := by decide +kernel
theorem dX11_init_25 : decode cX11_init 25 = .ok (.newarray .int, 2) := by decide +kernel
theorem dX11_init_27 : decode cX11_init 27 = .ok (.putfield 16, 3) := by decide +kernel
theorem dX11_init_30 : decode cX11_init 30 = .ok (.aload_n 0, 1) := by decide +kernel
theorem dX11_init_31 : decode cX11_init 31 = .ok (.bipush 80, 2) := by decide +kernel
theorem dX11_init_33 : decode cX11_init 33 = .ok (.newarray .int, 2) := by decide +kernel
theorem dX11_init_35 : decode cX11_init 35 = .ok (.putfield 19, 3) := by decide +kernel
theorem dX11_init_38 : decode cX11_init 38 = .ok (.aload_n 0, 1) := by decide +kernel
theorem dX11_init_39 : decode cX11_init 39 = .ok (.iconst 2, 1) := by decide +kernel
theorem dX11_init_40 : decode cX11_init 40 = .ok (.newarray .boolean, 2) := by decide +kernel
theorem dX11_init_42 : decode cX11_init 42 = .ok (.putfield 22, 3) := by decide +kernel
theorem dX11_init_45 : decode cX11_init 45 = .ok (.aload_n 0, 1) := by decide +kernel
theorem dX11_init_46 : decode cX11_init 46 = .ok (.bipush 8, 2) := by decide +kernel
theorem dX11_init_48 : decode cX11_init 48 = .ok (.newarray .int, 2) := by decide +kernel
theorem dX11_init_50 : decode cX11_init 50 = .ok (.putfield 26, 3) := by decide +kernel
theorem dX11_init_53 : decode cX11_init 53 = .ok (.aload_n 0, 1) := by decide +kernel
theorem dX11_init_54 : decode cX11_init 54 = .ok (.bipush 8, 2) := by decide +kernel
theorem dX11_init_56 : decode cX11_init 56 = .ok (.newarray .int, 2) := by decide +kernel
theorem dX11_init_58 : decode cX11_init 58 = .ok (.putfield 29, 3) := by decide +kernel
theorem dX11_init_61 : decode cX11_init 61 = .ok (.aload_n 0, 1) := by decide +kernel
theorem dX11_init_62 : decode cX11_init 62 = .ok (.bipush 8, 2) := by decide +kernel
theorem dX11_init_64 : decode cX11_init 64 = .ok (.newarray .int, 2) := by decide +kernel
theorem dX11_init_66 : decode cX11_init 66 = .ok (.putfield 32, 3) := by decide +kernel
theorem dX11_init_69 : decode cX11_init 69 = .ok (.aload_n 0, 1) := by decide +kernel
theorem dX11_init_70 : decode cX11_init 70 = .ok (.sipush 256, 3) := by decide +kernel
theorem dX11_init_73 : decode cX11_init 73 = .ok (.newarray .int, 2) := by decide +kernel
theorem dX11_init_75 : decode cX11_init 75 = .ok (.putfield 35, 3) := by decide +kernel
theorem dX11_init_78 : decode cX11_init 78 = .ok (.aload_n 0, 1) := by decide +kernel
theorem dX11_init_79 : decode cX11_init 79 = .ok (.getfield 16, 3) := by decide +kernel
theorem dX11_init_82 : decode cX11_init 82 = .ok (.bipush 39, 2) := by decide +kernel
theorem dX11_init_84 : decode cX11_init 84 = .ok (.iconst 1, 1) := by decide +kernel
theorem dX11_init_85 : decode cX11_init 85 = .ok (.iastore, 1) := by decide +kernel
theorem dX11_init_86 : decode cX11_init 86 = .ok (.aload_n 0, 1) := by decide +kernel
theorem dX11_init_87 : decode cX11_init 87 = .ok (.iconst 4, 1) := by decide +kernel
theorem dX11_init_88 : decode cX11_init 88 = .ok (.invokevirtual 38, 3) := by decide +kernel
theorem dX11_init_91 : decode cX11_init 91 = .ok (.aload_n 0, 1) := by decide +kernel
theorem dX11_init_92 : decode cX11_init 92 = .ok (.invokevirtual 42, 3) := by decide +kernel
theorem dX11_init_95 : decode cX11_init 95 = .ok (.return_, 1) := by decide +kernel
theorem dX11_in_0 : decode cX11_in 0 = .ok (.iload_n 0, 1) := by decide +kernel
theorem dX11_in_1 : decode cX11_in 1 = .ok (.iload_n 1, 1) := by decide +kernel
theorem dX11_in_2 : decode cX11_in 2 = .ok (.if_icmp .lt 12, 3) := by decide +kernel
theorem dX11_in_5 : decode cX11_in 5 = .ok (.iload_n 0, 1) := by decide +kernel
theorem dX11_in_6 : decode cX11_in 6 = .ok (.iload_n 2, 1) := by decide +kernel
theorem dX11_in_7 : decode cX11_in 7 = .ok (.if_icmp .gt 7, 3) := by decide +kernel
theorem dX11_in_10 : decode cX11_in 10 = .ok (.iconst 1, 1) := by decide +kernel
theorem dX11_in_11 : decode cX11_in 11 = .ok (.goto 4, 3) := by decide +kernel
theorem dX11_in_14 : decode cX11_in 14 = .ok (.iconst 0, 1) := by decide +kernel
theorem dX11_in_15 : decode cX11_in 15 = .ok (.ireturn, 1) := by decide +kernel
set_option maxRecDepth 20000 in
theorem ggX11_type_X11_in : GoodIn wsX11_type wsX11_in := goodIn_r _ [8] (by decide +kernel) (by decide +kernel)
set_option maxRecDepth 20000 in
theorem gX11_type_X11_in : GoodIn wsX11_type (va_wsS RX11 49 yX11_in wsX11_in) := goodIn_app (goodIn_of _ (by decide +kernel)) ggX11_type_X11_in
theorem dX11_type_0 : decode cX11_type 0 = .ok (.aload_n 0, 1) := by decide +kernel
theorem dX11_type_1 : decode cX11_type 1 = .ok (.iconst 0, 1) := by decide +kernel
theorem dX11_type_2 : decode cX11_type 2 = .ok (.putfield 45, 3) := by decide +kernel
theorem dX11_type_5 : decode cX11_type 5 = .ok (.iload_n 3, 1) := by decide +kernel
theorem dX11_type_6 : decode cX11_type 6 = .ok (.iconst 1, 1) := by decide +kernel
theorem dX11_type_7 : decode cX11_type 7 = .ok (.bipush 8, 2) := by decide +kernel
theorem dX11_type_9 : decode cX11_type 9 = .ok (.invokestatic 49, 3) := by decide +kernel
theorem dX11_type_12 : decode cX11_type 12 = .ok (.ifCond .ne 5, 3) := by decide +kernel
theorem dX11_type_15 : decode cX11_type 15 = .ok (.iconst (-1), 1) := by decide +kernel
theorem dX11_type_16 : decode cX11_type 16 = .ok (.ireturn, 1) := by decide +kernel
theorem dX11_type_17 : decode cX11_type 17 = .ok (.aload_n 0, 1) := by decide +kernel
theorem dX11_type_18 : decode cX11_type 18 = .ok (.getfield 53, 3) := by decide +kernel
theorem dX11_type_21 : decode cX11_type 21 = .ok (.iload_n 3, 1) := by decide +kernel
theorem dX11_type_22 : decode cX11_type 22 = .ok (.iadd, 1) := by decide +kernel
theorem dX11_type_23 : decode cX11_type 23 = .ok (.sipush 300, 3) := by decide +kernel
theorem dX11_type_26 : decode cX11_type 26 = .ok (.if_icmp .le 6, 3) := by decide +kernel
theorem dX11_type_29 : decode cX11_type 29 = .ok (.bipush (-3), 2) := by decide +kernel
theorem dX11_type_31 : decode cX11_type 31 = .ok (.ireturn, 1) := by decide +kernel
theorem dX11_type_32 : decode cX11_type 32 = .ok (.iload_n 3, 1) := by decide +kernel
theorem dX11_type_33 : decode cX11_type 33 = .ok (.iconst 1, 1) := by decide +kernel
theorem dX11_type_34 : decode cX11_type 34 = .ok (.isub, 1) := by decide +kernel
theorem dX11_type_35 : decode cX11_type 35 = .ok (.istore 4, 2) := by decide +kernel
theorem dX11_type_37 : decode cX11_type 37 = .ok (.iload 4, 2) := by decide +kernel
theorem dX11_type_39 : decode cX11_type 39 = .ok (.ifCond .lt 40, 3) := by decide +kernel
theorem dX11_type_42 : decode cX11_type 42 = .ok (.aload_n 0, 1) := by decide +kernel
theorem dX11_type_43 : decode cX11_type 43 = .ok (.getfield 7, 3) := by decide +kernel
theorem dX11_type_46 : decode cX11_type 46 = .ok (.aload_n 0, 1) := by decide +kernel
theorem dX11_type_47 : decode cX11_type 47 = .ok (.getfield 53, 3) := by decide +kernel
theorem dX11_type_50 : decode cX11_type 50 = .ok (.lload_n 1, 1) := by decide +kernel
theorem dX11_type_51 : decode cX11_type 51 = .ok (.bipush 8, 2) := by decide +kernel
theorem dX11_type_53 : decode cX11_type 53 = .ok (.iload 4, 2) := by decide +kernel
theorem dX11_type_55 : decode cX11_type 55 = .ok (.imul, 1) := by decide +kernel
theorem dX11_type_56 : decode cX11_type 56 = .ok (.lshr, 1) := by decide +kernel
theorem dX11_type_57 : decode cX11_type 57 = .ok (.ldc2_w 56, 3) := by decide +kernel
theorem dX11_type_60 : decode cX11_type 60 = .ok (.land, 1) := by decide +kernel
theorem dX11_type_61 : decode cX11_type 61 = .ok (.l2i, 1) := by decide +kernel
theorem dX11_type_62 : decode cX11_type 62 = .ok (.iastore, 1) := by decide +kernel
theorem dX11_type_63 : decode cX11_type 63 = .ok (.aload_n 0, 1) := by decide +kernel
theorem dX11_type_64 : decode cX11_type 64 = .ok (.dup, 1) := by decide +kernel
theorem dX11_type_65 : decode cX11_type 65 = .ok (.getfield 53, 3) := by decide +kernel
theorem dX11_type_68 : decode cX11_type 68 = .ok (.iconst 1, 1) := by decide +kernel
theorem dX11_type_69 : decode cX11_type 69 = .ok (.iadd, 1) := by decide +kernel
theorem dX11_type_70 : decode cX11_type 70 = .ok (.putfield 53, 3) := by decide +kernel
theorem dX11_type_73 : decode cX11_type 73 = .ok (.iinc 4 (-1), 3) := by decide +kernel
theorem dX11_type_76 : decode cX11_type 76 = .ok (.goto (-39), 3) := by decide +kernel
theorem dX11_type_79 : decode cX11_type 79 = .ok (.aload_n 0, 1) := by decide +kernel
theorem dX11_type_80 : decode cX11_type 80 = .ok (.getfield 53, 3) := by decide +kernel
theorem dX11_type_83 : decode cX11_type 83 = .ok (.ireturn, 1) := by decide +kernel
theorem dX11_clear_0 : decode cX11_clear 0 = .ok (.aload_n 0, 1) := by decide +kernel
theorem dX11_clear_1 : decode cX11_clear 1 = .ok (.iconst 0, 1) := by decide +kernel
theorem dX11_clear_2 : decode cX11_clear 2 = .ok (.putfield 45, 3) := by decide +kernel
theorem dX11_clear_5 : decode cX11_clear 5 = .ok (.aload_n 0, 1) := by decide +kernel
theorem dX11_clear_6 : decode cX11_clear 6 = .ok (.getfield 53, 3) := by decide +kernel
theorem dX11_clear_9 : decode cX11_clear 9 = .ok (.istore_n 1, 1) := by decide +kernel
theorem dX11_clear_10 : decode cX11_clear 10 = .ok (.aload_n 0, 1) := by decide +kernel
theorem dX11_clear_11 : decode cX11_clear 11 = .ok (.iconst 0, 1) := by decide +kernel
theorem dX11_clear_12 : decode cX11_clear 12 = .ok (.putfield 53, 3) := by decide +kernel
theorem dX11_clear_15 : decode cX11_clear 15 = .ok (.iload_n 1, 1) := by decide +kernel
theorem dX11_clear_16 : decode cX11_clear 16 = .ok (.ireturn, 1) := by decide +kernel
theorem dX11_byteAt_0 : decode cX11_byteAt 0 = .ok (.iload_n 1, 1) := by decide +kernel
theorem dX11_byteAt_1 : decode cX11_byteAt 1 = .ok (.aload_n 0, 1) := by decide +kernel
theorem dX11_byteAt_2 : decode cX11_byteAt 2 = .ok (.getfield 53, 3) := by decide +kernel
theorem dX11_byteAt_5 : decode cX11_byteAt 5 = .ok (.if_icmp .ge 12, 3) := by decide +kernel
theorem dX11_byteAt_8 : decode cX11_byteAt 8 = .ok (.aload_n 0, 1) := by decide +kernel
theorem dX11_byteAt_9 : decode cX11_byteAt 9 = .ok (.getfield 7, 3) := by decide +kernel
theorem dX11_byteAt_12 : decode cX11_byteAt 12 = .ok (.iload_n 1, 1) := by decide +kernel
theorem dX11_byteAt_13 : decode cX11_byteAt 13 = .ok (.iaload, 1) := by decide +kernel
theorem dX11_byteAt_14 : decode cX11_byteAt 14 = .ok (.goto 4, 3) := by decide +kernel
theorem dX11_byteAt_17 : decode cX11_byteAt 17 = .ok (.iconst (-1), 1) := by decide +kernel
theorem dX11_byteAt_18 : decode cX11_byteAt 18 = .ok (.ireturn, 1) := by decide +kernel
theorem dX11_add_0 : decode cX11_add 0 = .ok (.iload_n 2, 1) := by decide +kernel
theorem dX11_add_1 : decode cX11_add 1 = .ok (.ifCond .ne 7, 3) := by decide +kernel
theorem dX11_add_4 : decode cX11_add 4 = .ok (.lload_n 0, 1) := by decide +kernel
theorem dX11_add_5 : decode cX11_add 5 = .ok (.goto 11, 3) := by decide +kernel
theorem dX11_add_8 : decode cX11_add 8 = .ok (.ldc2_w 58, 3) := by decide +kernel
theorem dX11_add_11 : decode cX11_add 11 = .ok (.lload_n 0, 1) := by decide +kernel
theorem dX11_add_12 : decode cX11_add 12 = .ok (.lmul, 1) := by decide +kernel
theorem dX11_add_13 : decode cX11_add 13 = .ok (.iload_n 2, 1) := by decide +kernel
theorem dX11_add_14 : decode cX11_add 14 = .ok (.i2l, 1) := by decide +kernel
theorem dX11_add_15 : decode cX11_add 15 = .ok (.ladd, 1) := by decide +kernel
theorem dX11_add_16 : decode cX11_add 16 = .ok (.lreturn, 1) := by decide +kernel
set_option maxRecDepth 20000 in
theorem ggX11_named_X11_add : GoodIn wsX11_named wsX11_add := goodIn_r _ [4, 5] (by decide +kernel) (by decide +kernel)
set_option maxRecDepth 20000 in
theorem gX11_named_X11_add : GoodIn wsX11_named (va_wsS RX11 60 yX11_add wsX11_add) := goodIn_app (goodIn_of _ (by decide +kernel)) ggX11_named_X11_add
theorem dX11_named_0 : decode cX11_named 0 = .ok (.lconst 0, 1) := by decide +kernel
theorem dX11_named_1 : decode cX11_named 1 = .ok (.iload_n 0, 1) := by decide +kernel
theorem dX11_named_2 : decode cX11_named 2 = .ok (.invokestatic 60, 3) := by decide +kernel
theorem dX11_named_5 : decode cX11_named 5 = .ok (.iload_n 1, 1) := by decide +kernel
theorem dX11_named_6 : decode cX11_named 6 = .ok (.invokestatic 60, 3) := by decide +kernel
theorem dX11_named_9 : decode cX11_named 9 = .ok (.iload_n 2, 1) := by decide +kernel
theorem dX11_named_10 : decode cX11_named 10 = .ok (.invokestatic 60, 3) := by decide +kernel
theorem dX11_named_13 : decode cX11_named 13 = .ok (.iload_n 3, 1) := by decide +kernel
theorem dX11_named_14 : decode cX11_named 14 = .ok (.invokestatic 60, 3) := by decide +kernel
theorem dX11_named_17 : decode cX11_named 17 = .ok (.iload 4, 2) := by decide +kernel
theorem dX11_named_19 : decode cX11_named 19 = .ok (.invokestatic 60, 3) := by decide +kernel
theorem dX11_named_22 : decode cX11_named 22 = .ok (.iload 5, 2) := by decide +kernel
theorem dX11_named_24 : decode cX11_named 24 = .ok (.invokestatic 60, 3) := by decide +kernel
theorem dX11_named_27 : decode cX11_named 27 = .ok (.lreturn, 1) := by decide +kernel
set_option maxRecDepth 20000 in
theorem ggX11_wordOf_X11_named : GoodIn wsX11_wordOf wsX11_named := goodIn_r _ [4, 5, 6, 3, 7, 8] (by decide +kernel) (by decide +kernel)
set_option maxRecDepth 20000 in
theorem gX11_wordOf_X11_named : GoodIn wsX11_wordOf (va_wsS RX11 64 yX11_named wsX11_named) := goodIn_app (goodIn_of _ (by decide +kernel)) ggX11_wordOf_X11_named
set_option maxRecDepth 20000 in
theorem ggX11_wordOf_X11_add : GoodIn wsX11_wordOf wsX11_add := goodIn_r _ [7, 8] (by decide +kernel) (by decide +kernel)
set_option maxRecDepth 20000 in
theorem gX11_wordOf_X11_add : GoodIn wsX11_wordOf (va_wsS RX11 60 yX11_add wsX11_add) := goodIn_app (goodIn_of _ (by decide +kernel)) ggX11_wordOf_X11_add
theorem dX11_wordOf_0 : decode cX11_wordOf 0 = .ok (.lload_n 0, 1) := by decide +kernel
theorem dX11_wordOf_1 : decode cX11_wordOf 1 = .ok (.bipush 112, 2) := by decide +kernel
theorem dX11_wordOf_3 : decode cX11_wordOf 3 = .ok (.bipush 97, 2) := by decide +kernel
theorem dX11_wordOf_5 : decode cX11_wordOf 5 = .ok (.bipush 114, 2) := by decide +kernel
theorem dX11_wordOf_7 : decode cX11_wordOf 7 = .ok (.bipush 116, 2) := by decide +kernel
theorem dX11_wordOf_9 : decode cX11_wordOf 9 = .ok (.bipush 105, 2) := by decide +kernel
theorem dX11_wordOf_11 : decode cX11_wordOf 11 = .ok (.bipush 101, 2) := by decide +kernel
theorem dX11_wordOf_13 : decode cX11_wordOf 13 = .ok (.invokestatic 64, 3) := by decide +kernel
theorem dX11_wordOf_16 : decode cX11_wordOf 16 = .ok (.bipush 115, 2) := by decide +kernel
theorem dX11_wordOf_18 : decode cX11_wordOf 18 = .ok (.invokestatic 60, 3) := by decide +kernel
theorem dX11_wordOf_21 : decode cX11_wordOf 21 = .ok (.iconst 0, 1) := by decide +kernel
theorem dX11_wordOf_22 : decode cX11_wordOf 22 = .ok (.invokestatic 60, 3) := by decide +kernel
theorem dX11_wordOf_25 : decode cX11_wordOf 25 = .ok (.lcmp, 1) := by decide +kernel
theorem dX11_wordOf_26 : decode cX11_wordOf 26 = .ok (.ifCond .ne 5, 3) := by decide +kernel
theorem dX11_wordOf_29 : decode cX11_wordOf 29 = .ok (.iconst 2, 1) := by decide +kernel
theorem dX11_wordOf_30 : decode cX11_wordOf 30 = .ok (.ireturn, 1) := by decide +kernel
theorem dX11_wordOf_31 : decode cX11_wordOf 31 = .ok (.lload_n 0, 1) := by decide +kernel
theorem dX11_wordOf_32 : decode cX11_wordOf 32 = .ok (.bipush 116, 2) := by decide +kernel
theorem dX11_wordOf_34 : decode cX11_wordOf 34 = .ok (.bipush 111, 2) := by decide +kernel
theorem dX11_wordOf_36 : decode cX11_wordOf 36 = .ok (.bipush 103, 2) := by decide +kernel
theorem dX11_wordOf_38 : decode cX11_wordOf 38 = .ok (.bipush 101, 2) := by decide +kernel
theorem dX11_wordOf_40 : decode cX11_wordOf 40 = .ok (.bipush 116, 2) := by decide +kernel
theorem dX11_wordOf_42 : decode cX11_wordOf 42 = .ok (.bipush 104, 2) := by decide +kernel
theorem dX11_wordOf_44 : decode cX11_wordOf 44 = .ok (.invokestatic 64, 3) := by decide +kernel
theorem dX11_wordOf_47 : decode cX11_wordOf 47 = .ok (.bipush 101, 2) := by decide +kernel
theorem dX11_wordOf_49 : decode cX11_wordOf 49 = .ok (.invokestatic 60, 3) := by decide +kernel
theorem dX11_wordOf_52 : decode cX11_wordOf 52 = .ok (.bipush 114, 2) := by decide +kernel
theorem dX11_wordOf_54 : decode cX11_wordOf 54 = .ok (.invokestatic 60, 3) := by decide +kernel
theorem dX11_wordOf_57 : decode cX11_wordOf 57 = .ok (.lcmp, 1) := by decide +kernel
theorem dX11_wordOf_58 : decode cX11_wordOf 58 = .ok (.ifCond .ne 6, 3) := by decide +kernel
theorem dX11_wordOf_61 : decode cX11_wordOf 61 = .ok (.bipush 7, 2) := by decide +kernel
theorem dX11_wordOf_63 : decode cX11_wordOf 63 = .ok (.ireturn, 1) := by decide +kernel
theorem dX11_wordOf_64 : decode cX11_wordOf 64 = .ok (.lload_n 0, 1) := by decide +kernel
theorem dX11_wordOf_65 : decode cX11_wordOf 65 = .ok (.bipush 103, 2) := by decide +kernel
theorem dX11_wordOf_67 : decode cX11_wordOf 67 = .ok (.bipush 117, 2) := by decide +kernel
theorem dX11_wordOf_69 : decode cX11_wordOf 69 = .ok (.bipush 101, 2) := by decide +kernel
theorem dX11_wordOf_71 : decode cX11_wordOf 71 = .ok (.bipush 115, 2) := by decide +kernel
theorem dX11_wordOf_73 : decode cX11_wordOf 73 = .ok (.bipush 116, 2) := by decide +kernel
theorem dX11_wordOf_75 : decode cX11_wordOf 75 = .ok (.bipush 115, 2) := by decide +kernel
theorem dX11_wordOf_77 : decode cX11_wordOf 77 = .ok (.invokestatic 64, 3) := by decide +kernel
theorem dX11_wordOf_80 : decode cX11_wordOf 80 = .ok (.lcmp, 1) := by decide +kernel
theorem dX11_wordOf_81 : decode cX11_wordOf 81 = .ok (.ifCond .ne 7, 3) := by decide +kernel
theorem dX11_wordOf_84 : decode cX11_wordOf 84 = .ok (.iconst 0, 1) := by decide +kernel
theorem dX11_wordOf_85 : decode cX11_wordOf 85 = .ok (.goto 71, 3) := by decide +kernel
theorem dX11_wordOf_88 : decode cX11_wordOf 88 = .ok (.lload_n 0, 1) := by decide +kernel
theorem dX11_wordOf_89 : decode cX11_wordOf 89 = .ok (.bipush 104, 2) := by decide +kernel
theorem dX11_wordOf_91 : decode cX11_wordOf 91 = .ok (.bipush 97, 2) := by decide +kernel
theorem dX11_wordOf_93 : decode cX11_wordOf 93 = .ok (.bipush 116, 2) := by decide +kernel
theorem dX11_wordOf_95 : decode cX11_wordOf 95 = .ok (.iconst 0, 1) := by decide +kernel
theorem dX11_wordOf_96 : decode cX11_wordOf 96 = .ok (.iconst 0, 1) := by decide +kernel
theorem dX11_wordOf_97 : decode cX11_wordOf 97 = .ok (.iconst 0, 1) := by decide +kernel
theorem dX11_wordOf_98 : decode cX11_wordOf 98 = .ok (.invokestatic 64, 3) := by decide +kernel
theorem dX11_wordOf_101 : decode cX11_wordOf 101 = .ok (.lcmp, 1) := by decide +kernel
theorem dX11_wordOf_102 : decode cX11_wordOf 102 = .ok (.ifCond .ne 7, 3) := by decide +kernel
theorem dX11_wordOf_105 : decode cX11_wordOf 105 = .ok (.iconst 1, 1) := by decide +kernel
theorem dX11_wordOf_106 : decode cX11_wordOf 106 = .ok (.goto 50, 3) := by decide +kernel
theorem dX11_wordOf_109 : decode cX11_wordOf 109 = .ok (.lload_n 0, 1) := by decide +kernel
theorem dX11_wordOf_110 : decode cX11_wordOf 110 = .ok (.bipush 108, 2) := by decide +kernel
theorem dX11_wordOf_112 : decode cX11_wordOf 112 = .ok (.bipush 101, 2) := by decide +kernel
theorem dX11_wordOf_114 : decode cX11_wordOf 114 = .ok (.bipush 97, 2) := by decide +kernel
theorem dX11_wordOf_116 : decode cX11_wordOf 116 = .ok (.bipush 115, 2) := by decide +kernel
theorem dX11_wordOf_118 : decode cX11_wordOf 118 = .ok (.bipush 116, 2) := by decide +kernel
theorem dX11_wordOf_120 : decode cX11_wordOf 120 = .ok (.iconst 0, 1) := by decide +kernel
theorem dX11_wordOf_121 : decode cX11_wordOf 121 = .ok (.invokestatic 64, 3) := by decide +kernel
theorem dX11_wordOf_124 : decode cX11_wordOf 124 = .ok (.lcmp, 1) := by decide +kernel
theorem dX11_wordOf_125 : decode cX11_wordOf 125 = .ok (.ifCond .ne 7, 3) := by decide +kernel
theorem dX11_wordOf_128 : decode cX11_wordOf 128 = .ok (.iconst 3, 1) := by decide +kernel
theorem dX11_wordOf_129 : decode cX11_wordOf 129 = .ok (.goto 27, 3) := by decide +kernel
theorem dX11_wordOf_132 : decode cX11_wordOf 132 = .ok (.lload_n 0, 1) := by decide +kernel
theorem dX11_wordOf_133 : decode cX11_wordOf 133 = .ok (.bipush 109, 2) := by decide +kernel
theorem dX11_wordOf_135 : decode cX11_wordOf 135 = .ok (.bipush 111, 2) := by decide +kernel
theorem dX11_wordOf_137 : decode cX11_wordOf 137 = .ok (.bipush 115, 2) := by decide +kernel
theorem dX11_wordOf_139 : decode cX11_wordOf 139 = .ok (.bipush 116, 2) := by decide +kernel
theorem dX11_wordOf_141 : decode cX11_wordOf 141 = .ok (.iconst 0, 1) := by decide +kernel
theorem dX11_wordOf_142 : decode cX11_wordOf 142 = .ok (.iconst 0, 1) := by decide +kernel
theorem dX11_wordOf_143 : decode cX11_wordOf 143 = .ok (.invokestatic 64, 3) := by decide +kernel
theorem dX11_wordOf_146 : decode cX11_wordOf 146 = .ok (.lcmp, 1) := by decide +kernel
theorem dX11_wordOf_147 : decode cX11_wordOf 147 = .ok (.ifCond .ne 7, 3) := by decide +kernel
theorem dX11_wordOf_150 : decode cX11_wordOf 150 = .ok (.iconst 4, 1) := by decide +kernel
theorem dX11_wordOf_151 : decode cX11_wordOf 151 = .ok (.goto 5, 3) := by decide +kernel
theorem dX11_wordOf_154 : decode cX11_wordOf 154 = .ok (.bipush (-9), 2) := by decide +kernel
theorem dX11_wordOf_156 : decode cX11_wordOf 156 = .ok (.istore_n 2, 1) := by decide +kernel
theorem dX11_wordOf_157 : decode cX11_wordOf 157 = .ok (.iload_n 2, 1) := by decide +kernel
theorem dX11_wordOf_158 : decode cX11_wordOf 158 = .ok (.bipush (-9), 2) := by decide +kernel
theorem dX11_wordOf_160 : decode cX11_wordOf 160 = .ok (.if_icmp .eq 5, 3) := by decide +kernel
theorem dX11_wordOf_163 : decode cX11_wordOf 163 = .ok (.iload_n 2, 1) := by decide +kernel
theorem dX11_wordOf_164 : decode cX11_wordOf 164 = .ok (.ireturn, 1) := by decide +kernel
theorem dX11_wordOf_165 : decode cX11_wordOf 165 = .ok (.lload_n 0, 1) := by decide +kernel
theorem dX11_wordOf_166 : decode cX11_wordOf 166 = .ok (.bipush 117, 2) := by decide +kernel
theorem dX11_wordOf_168 : decode cX11_wordOf 168 = .ok (.bipush 110, 2) := by decide +kernel
theorem dX11_wordOf_170 : decode cX11_wordOf 170 = .ok (.bipush 108, 2) := by decide +kernel
theorem dX11_wordOf_172 : decode cX11_wordOf 172 = .ok (.bipush 105, 2) := by decide +kernel
theorem dX11_wordOf_174 : decode cX11_wordOf 174 = .ok (.bipush 107, 2) := by decide +kernel
theorem dX11_wordOf_176 : decode cX11_wordOf 176 = .ok (.bipush 101, 2) := by decide +kernel
theorem dX11_wordOf_178 : decode cX11_wordOf 178 = .ok (.invokestatic 64, 3) := by decide +kernel
theorem dX11_wordOf_181 : decode cX11_wordOf 181 = .ok (.lcmp, 1) := by decide +kernel
theorem dX11_wordOf_182 : decode cX11_wordOf 182 = .ok (.ifCond .ne 7, 3) := by decide +kernel
theorem dX11_wordOf_185 : decode cX11_wordOf 185 = .ok (.iconst 5, 1) := by decide +kernel
theorem dX11_wordOf_186 : decode cX11_wordOf 186 = .ok (.goto 52, 3) := by decide +kernel
theorem dX11_wordOf_189 : decode cX11_wordOf 189 = .ok (.lload_n 0, 1) := by decide +kernel
theorem dX11_wordOf_190 : decode cX11_wordOf 190 = .ok (.bipush 114, 2) := by decide +kernel
theorem dX11_wordOf_192 : decode cX11_wordOf 192 = .ok (.bipush 105, 2) := by decide +kernel
theorem dX11_wordOf_194 : decode cX11_wordOf 194 = .ok (.bipush 110, 2) := by decide +kernel
theorem dX11_wordOf_196 : decode cX11_wordOf 196 = .ok (.bipush 103, 2) := by decide +kernel
theorem dX11_wordOf_198 : decode cX11_wordOf 198 = .ok (.iconst 0, 1) := by decide +kernel
theorem dX11_wordOf_199 : decode cX11_wordOf 199 = .ok (.iconst 0, 1) := by decide +kernel
theorem dX11_wordOf_200 : decode cX11_wordOf 200 = .ok (.invokestatic 64, 3) := by decide +kernel
theorem dX11_wordOf_203 : decode cX11_wordOf 203 = .ok (.lcmp, 1) := by decide +kernel
theorem dX11_wordOf_204 : decode cX11_wordOf 204 = .ok (.ifCond .ne 8, 3) := by decide +kernel
theorem dX11_wordOf_207 : decode cX11_wordOf 207 = .ok (.bipush 6, 2) := by decide +kernel
theorem dX11_wordOf_209 : decode cX11_wordOf 209 = .ok (.goto 29, 3) := by decide +kernel
theorem dX11_wordOf_212 : decode cX11_wordOf 212 = .ok (.lload_n 0, 1) := by decide +kernel
theorem dX11_wordOf_213 : decode cX11_wordOf 213 = .ok (.bipush 97, 2) := by decide +kernel
theorem dX11_wordOf_215 : decode cX11_wordOf 215 = .ok (.bipush 112, 2) := by decide +kernel
theorem dX11_wordOf_217 : decode cX11_wordOf 217 = .ok (.bipush 97, 2) := by decide +kernel
theorem dX11_wordOf_219 : decode cX11_wordOf 219 = .ok (.bipush 114, 2) := by decide +kernel
theorem dX11_wordOf_221 : decode cX11_wordOf 221 = .ok (.bipush 116, 2) := by decide +kernel
theorem dX11_wordOf_223 : decode cX11_wordOf 223 = .ok (.iconst 0, 1) := by decide +kernel
theorem dX11_wordOf_224 : decode cX11_wordOf 224 = .ok (.invokestatic 64, 3) := by decide +kernel
theorem dX11_wordOf_227 : decode cX11_wordOf 227 = .ok (.lcmp, 1) := by decide +kernel
theorem dX11_wordOf_228 : decode cX11_wordOf 228 = .ok (.ifCond .ne 8, 3) := by decide +kernel
theorem dX11_wordOf_231 : decode cX11_wordOf 231 = .ok (.bipush 8, 2) := by decide +kernel
theorem dX11_wordOf_233 : decode cX11_wordOf 233 = .ok (.goto 5, 3) := by decide +kernel
theorem dX11_wordOf_236 : decode cX11_wordOf 236 = .ok (.bipush (-9), 2) := by decide +kernel
theorem dX11_wordOf_238 : decode cX11_wordOf 238 = .ok (.istore_n 3, 1) := by decide +kernel
theorem dX11_wordOf_239 : decode cX11_wordOf 239 = .ok (.iload_n 3, 1) := by decide +kernel
theorem dX11_wordOf_240 : decode cX11_wordOf 240 = .ok (.bipush (-9), 2) := by decide +kernel
theorem dX11_wordOf_242 : decode cX11_wordOf 242 = .ok (.if_icmp .eq 7, 3) := by decide +kernel
theorem dX11_wordOf_245 : decode cX11_wordOf 245 = .ok (.iload_n 3, 1) := by decide +kernel
theorem dX11_wordOf_246 : decode cX11_wordOf 246 = .ok (.goto 52, 3) := by decide +kernel
theorem dX11_wordOf_249 : decode cX11_wordOf 249 = .ok (.lload_n 0, 1) := by decide +kernel
theorem dX11_wordOf_250 : decode cX11_wordOf 250 = .ok (.bipush 119, 2) := by decide +kernel
theorem dX11_wordOf_252 : decode cX11_wordOf 252 = .ok (.bipush 111, 2) := by decide +kernel
theorem dX11_wordOf_254 : decode cX11_wordOf 254 = .ok (.bipush 114, 2) := by decide +kernel
theorem dX11_wordOf_256 : decode cX11_wordOf 256 = .ok (.bipush 116, 2) := by decide +kernel
theorem dX11_wordOf_258 : decode cX11_wordOf 258 = .ok (.bipush 104, 2) := by decide +kernel
theorem dX11_wordOf_260 : decode cX11_wordOf 260 = .ok (.iconst 0, 1) := by decide +kernel
theorem dX11_wordOf_261 : decode cX11_wordOf 261 = .ok (.invokestatic 64, 3) := by decide +kernel
theorem dX11_wordOf_264 : decode cX11_wordOf 264 = .ok (.lcmp, 1) := by decide +kernel
theorem dX11_wordOf_265 : decode cX11_wordOf 265 = .ok (.ifCond .ne 8, 3) := by decide +kernel
theorem dX11_wordOf_268 : decode cX11_wordOf 268 = .ok (.bipush 9, 2) := by decide +kernel
theorem dX11_wordOf_270 : decode cX11_wordOf 270 = .ok (.goto 28, 3) := by decide +kernel
theorem dX11_wordOf_273 : decode cX11_wordOf 273 = .ok (.lload_n 0, 1) := by decide +kernel
theorem dX11_wordOf_274 : decode cX11_wordOf 274 = .ok (.bipush 99, 2) := by decide +kernel
theorem dX11_wordOf_276 : decode cX11_wordOf 276 = .ok (.bipush 111, 2) := by decide +kernel
theorem dX11_wordOf_278 : decode cX11_wordOf 278 = .ok (.bipush 115, 2) := by decide +kernel
theorem dX11_wordOf_280 : decode cX11_wordOf 280 = .ok (.bipush 116, 2) := by decide +kernel
theorem dX11_wordOf_282 : decode cX11_wordOf 282 = .ok (.iconst 0, 1) := by decide +kernel
theorem dX11_wordOf_283 : decode cX11_wordOf 283 = .ok (.iconst 0, 1) := by decide +kernel
theorem dX11_wordOf_284 : decode cX11_wordOf 284 = .ok (.invokestatic 64, 3) := by decide +kernel
theorem dX11_wordOf_287 : decode cX11_wordOf 287 = .ok (.lcmp, 1) := by decide +kernel
theorem dX11_wordOf_288 : decode cX11_wordOf 288 = .ok (.ifCond .ne 8, 3) := by decide +kernel
theorem dX11_wordOf_291 : decode cX11_wordOf 291 = .ok (.bipush 10, 2) := by decide +kernel
theorem dX11_wordOf_293 : decode cX11_wordOf 293 = .ok (.goto 5, 3) := by decide +kernel
theorem dX11_wordOf_296 : decode cX11_wordOf 296 = .ok (.bipush (-9), 2) := by decide +kernel
theorem dX11_wordOf_298 : decode cX11_wordOf 298 = .ok (.ireturn, 1) := by decide +kernel
set_option maxRecDepth 20000 in
theorem ggX11_advances_X11_byteAt : GoodIn wsX11_advances wsX11_byteAt := goodIn_r _ [9, 10, 11, 25, 26, 27, 28, 29, 30, 31, 32, 33, 34, 35, 36, 37, 38, 39, 40, 41] (by decide +kernel) (by decide +kernel)
set_option maxRecDepth 20000 in
theorem gX11_advances_X11_byteAt : GoodIn wsX11_advances (wsV RX11 71 RX11 yX11_byteAt wsX11_byteAt) := goodIn_app (goodIn_of _ (by decide +kernel)) ggX11_advances_X11_byteAt
set_option maxRecDepth 20000 in
theorem ggX11_advances_X11_in : GoodIn wsX11_advances wsX11_in := goodIn_r _ [14] (by decide +kernel) (by decide +kernel)
set_option maxRecDepth 20000 in
theorem gX11_advances_X11_in : GoodIn wsX11_advances (va_wsS RX11 49 yX11_in wsX11_in) := goodIn_app (goodIn_of _ (by decide +kernel)) ggX11_advances_X11_in
set_option maxRecDepth 20000 in
theorem ggX11_advances_X11_add : GoodIn wsX11_advances wsX11_add := goodIn_r _ [17, 18] (by decide +kernel) (by decide +kernel)
set_option maxRecDepth 20000 in
theorem gX11_advances_X11_add : GoodIn wsX11_advances (va_wsS RX11 60 yX11_add wsX11_add) := goodIn_app (goodIn_of _ (by decide +kernel)) ggX11_advances_X11_add
set_option maxRecDepth 20000 in
theorem ggX11_advances_X11_wordOf : GoodIn wsX11_advances wsX11_wordOf := goodIn_r _ [21, 22, 23, 8, 24, 15, 16, 17, 18] (by decide +kernel) (by decide +kernel)
set_option maxRecDepth 20000 in
theorem gX11_advances_X11_wordOf : GoodIn wsX11_advances (va_wsS RX11 81 yX11_wordOf wsX11_wordOf) := goodIn_app (goodIn_of _ (by decide +kernel)) ggX11_advances_X11_wordOf
theorem dX11_advances_0 : decode cX11_advances 0 = .ok (.aload_n 0, 1) := by decide +kernel
theorem dX11_advances_1 : decode cX11_advances 1 = .ok (.aload_n 0, 1) := by decide +kernel
theorem dX11_advances_2 : decode cX11_advances 2 = .ok (.getfield 68, 3) := by decide +kernel
theorem dX11_advances_5 : decode cX11_advances 5 = .ok (.invokevirtual 71, 3) := by decide +kernel
theorem dX11_advances_8 : decode cX11_advances 8 = .ok (.bipush 32, 2) := by decide +kernel
theorem dX11_advances_10 : decode cX11_advances 10 = .ok (.if_icmp .ne 16, 3) := by decide +kernel
theorem dX11_advances_13 : decode cX11_advances 13 = .ok (.aload_n 0, 1) := by decide +kernel
theorem dX11_advances_14 : decode cX11_advances 14 = .ok (.dup, 1) := by decide +kernel
theorem dX11_advances_15 : decode cX11_advances 15 = .ok (.getfield 68, 3) := by decide +kernel
theorem dX11_advances_18 : decode cX11_advances 18 = .ok (.iconst 1, 1) := by decide +kernel
theorem dX11_advances_19 : decode cX11_advances 19 = .ok (.iadd, 1) := by decide +kernel
theorem dX11_advances_20 : decode cX11_advances 20 = .ok (.putfield 68, 3) := by decide +kernel
theorem dX11_advances_23 : decode cX11_advances 23 = .ok (.goto (-23), 3) := by decide +kernel
theorem dX11_advances_26 : decode cX11_advances 26 = .ok (.aload_n 0, 1) := by decide +kernel
theorem dX11_advances_27 : decode cX11_advances 27 = .ok (.aload_n 0, 1) := by decide +kernel
theorem dX11_advances_28 : decode cX11_advances 28 = .ok (.getfield 68, 3) := by decide +kernel
theorem dX11_advances_31 : decode cX11_advances 31 = .ok (.putfield 75, 3) := by decide +kernel
theorem dX11_advances_34 : decode cX11_advances 34 = .ok (.aload_n 0, 1) := by decide +kernel
theorem dX11_advances_35 : decode cX11_advances 35 = .ok (.aload_n 0, 1) := by decide +kernel
theorem dX11_advances_36 : decode cX11_advances 36 = .ok (.getfield 68, 3) := by decide +kernel
theorem dX11_advances_39 : decode cX11_advances 39 = .ok (.invokevirtual 71, 3) := by decide +kernel
theorem dX11_advances_42 : decode cX11_advances 42 = .ok (.istore_n 1, 1) := by decide +kernel
theorem dX11_advances_43 : decode cX11_advances 43 = .ok (.iload_n 1, 1) := by decide +kernel
theorem dX11_advances_44 : decode cX11_advances 44 = .ok (.ifCond .ge 11, 3) := by decide +kernel
theorem dX11_advances_47 : decode cX11_advances 47 = .ok (.aload_n 0, 1) := by decide +kernel
theorem dX11_advances_48 : decode cX11_advances 48 = .ok (.iconst 0, 1) := by decide +kernel
theorem dX11_advances_49 : decode cX11_advances 49 = .ok (.putfield 78, 3) := by decide +kernel
theorem dX11_advances_52 : decode cX11_advances 52 = .ok (.goto 277, 3) := by decide +kernel
theorem dX11_advances_55 : decode cX11_advances 55 = .ok (.iload_n 1, 1) := by decide +kernel
theorem dX11_advances_56 : decode cX11_advances 56 = .ok (.bipush 97, 2) := by decide +kernel
theorem dX11_advances_58 : decode cX11_advances 58 = .ok (.bipush 122, 2) := by decide +kernel
theorem dX11_advances_60 : decode cX11_advances 60 = .ok (.invokestatic 49, 3) := by decide +kernel
theorem dX11_advances_63 : decode cX11_advances 63 = .ok (.ifCond .eq 115, 3) := by decide +kernel
theorem dX11_advances_66 : decode cX11_advances 66 = .ok (.lconst 0, 1) := by decide +kernel
theorem dX11_advances_67 : decode cX11_advances 67 = .ok (.lstore_n 2, 1) := by decide +kernel
theorem dX11_advances_68 : decode cX11_advances 68 = .ok (.aload_n 0, 1) := by decide +kernel
theorem dX11_advances_69 : decode cX11_advances 69 = .ok (.aload_n 0, 1) := by decide +kernel
theorem dX11_advances_70 : decode cX11_advances 70 = .ok (.getfield 68, 3) := by decide +kernel
theorem dX11_advances_73 : decode cX11_advances 73 = .ok (.invokevirtual 71, 3) := by decide +kernel
theorem dX11_advances_76 : decode cX11_advances 76 = .ok (.bipush 97, 2) := by decide +kernel
theorem dX11_advances_78 : decode cX11_advances 78 = .ok (.bipush 122, 2) := by decide +kernel
theorem dX11_advances_80 : decode cX11_advances 80 = .ok (.invokestatic 49, 3) := by decide +kernel
theorem dX11_advances_83 : decode cX11_advances 83 = .ok (.ifCond .eq 47, 3) := by decide +kernel
theorem dX11_advances_86 : decode cX11_advances 86 = .ok (.aload_n 0, 1) := by decide +kernel
theorem dX11_advances_87 : decode cX11_advances 87 = .ok (.getfield 68, 3) := by decide +kernel
theorem dX11_advances_90 : decode cX11_advances 90 = .ok (.aload_n 0, 1) := by decide +kernel
theorem dX11_advances_91 : decode cX11_advances 91 = .ok (.getfield 75, 3) := by decide +kernel
theorem dX11_advances_94 : decode cX11_advances 94 = .ok (.isub, 1) := by decide +kernel
theorem dX11_advances_95 : decode cX11_advances 95 = .ok (.bipush 8, 2) := by decide +kernel
theorem dX11_advances_97 : decode cX11_advances 97 = .ok (.if_icmp .ge 18, 3) := by decide +kernel
theorem dX11_advances_100 : decode cX11_advances 100 = .ok (.lload_n 2, 1) := by decide +kernel
theorem dX11_advances_101 : decode cX11_advances 101 = .ok (.aload_n 0, 1) := by decide +kernel
theorem dX11_advances_102 : decode cX11_advances 102 = .ok (.aload_n 0, 1) := by decide +kernel
theorem dX11_advances_103 : decode cX11_advances 103 = .ok (.getfield 68, 3) := by decide +kernel
theorem dX11_advances_106 : decode cX11_advances 106 = .ok (.invokevirtual 71, 3) := by decide +kernel
theorem dX11_advances_109 : decode cX11_advances 109 = .ok (.invokestatic 60, 3) := by decide +kernel
theorem dX11_advances_112 : decode cX11_advances 112 = .ok (.goto 4, 3) := by decide +kernel
theorem dX11_advances_115 : decode cX11_advances 115 = .ok (.lload_n 2, 1) := by decide +kernel
theorem dX11_advances_116 : decode cX11_advances 116 = .ok (.lstore_n 2, 1) := by decide +kernel
theorem dX11_advances_117 : decode cX11_advances 117 = .ok (.aload_n 0, 1) := by decide +kernel
theorem dX11_advances_118 : decode cX11_advances 118 = .ok (.dup, 1) := by decide +kernel
theorem dX11_advances_119 : decode cX11_advances 119 = .ok (.getfield 68, 3) := by decide +kernel
theorem dX11_advances_122 : decode cX11_advances 122 = .ok (.iconst 1, 1) := by decide +kernel
theorem dX11_advances_123 : decode cX11_advances 123 = .ok (.iadd, 1) := by decide +kernel
theorem dX11_advances_124 : decode cX11_advances 124 = .ok (.putfield 68, 3) := by decide +kernel
theorem dX11_advances_127 : decode cX11_advances 127 = .ok (.goto (-59), 3) := by decide +kernel
theorem dX11_advances_130 : decode cX11_advances 130 = .ok (.aload_n 0, 1) := by decide +kernel
theorem dX11_advances_131 : decode cX11_advances 131 = .ok (.aload_n 0, 1) := by decide +kernel
theorem dX11_advances_132 : decode cX11_advances 132 = .ok (.getfield 68, 3) := by decide +kernel
theorem dX11_advances_135 : decode cX11_advances 135 = .ok (.aload_n 0, 1) := by decide +kernel
theorem dX11_advances_136 : decode cX11_advances 136 = .ok (.getfield 75, 3) := by decide +kernel
theorem dX11_advances_139 : decode cX11_advances 139 = .ok (.isub, 1) := by decide +kernel
theorem dX11_advances_140 : decode cX11_advances 140 = .ok (.bipush 8, 2) := by decide +kernel
theorem dX11_advances_142 : decode cX11_advances 142 = .ok (.if_icmp .le 8, 3) := by decide +kernel
theorem dX11_advances_145 : decode cX11_advances 145 = .ok (.bipush (-9), 2) := by decide +kernel
theorem dX11_advances_147 : decode cX11_advances 147 = .ok (.goto 7, 3) := by decide +kernel
theorem dX11_advances_150 : decode cX11_advances 150 = .ok (.lload_n 2, 1) := by decide +kernel
theorem dX11_advances_151 : decode cX11_advances 151 = .ok (.invokestatic 81, 3) := by decide +kernel
theorem dX11_advances_154 : decode cX11_advances 154 = .ok (.putfield 85, 3) := by decide +kernel
theorem dX11_advances_157 : decode cX11_advances 157 = .ok (.aload_n 0, 1) := by decide +kernel
theorem dX11_advances_158 : decode cX11_advances 158 = .ok (.aload_n 0, 1) := by decide +kernel
theorem dX11_advances_159 : decode cX11_advances 159 = .ok (.getfield 85, 3) := by decide +kernel
theorem dX11_advances_162 : decode cX11_advances 162 = .ok (.bipush (-9), 2) := by decide +kernel
theorem dX11_advances_164 : decode cX11_advances 164 = .ok (.if_icmp .ne 7, 3) := by decide +kernel
theorem dX11_advances_167 : decode cX11_advances 167 = .ok (.iconst 4, 1) := by decide +kernel
theorem dX11_advances_168 : decode cX11_advances 168 = .ok (.goto 4, 3) := by decide +kernel
theorem dX11_advances_171 : decode cX11_advances 171 = .ok (.iconst 1, 1) := by decide +kernel
theorem dX11_advances_172 : decode cX11_advances 172 = .ok (.putfield 78, 3) := by decide +kernel
theorem dX11_advances_175 : decode cX11_advances 175 = .ok (.goto 154, 3) := by decide +kernel
theorem dX11_advances_178 : decode cX11_advances 178 = .ok (.iload_n 1, 1) := by decide +kernel
theorem dX11_advances_179 : decode cX11_advances 179 = .ok (.bipush 48, 2) := by decide +kernel
theorem dX11_advances_181 : decode cX11_advances 181 = .ok (.bipush 57, 2) := by decide +kernel
theorem dX11_advances_183 : decode cX11_advances 183 = .ok (.invokestatic 49, 3) := by decide +kernel
theorem dX11_advances_186 : decode cX11_advances 186 = .ok (.ifCond .eq 118, 3) := by decide +kernel
theorem dX11_advances_189 : decode cX11_advances 189 = .ok (.aload_n 0, 1) := by decide +kernel
theorem dX11_advances_190 : decode cX11_advances 190 = .ok (.iconst 0, 1) := by decide +kernel
theorem dX11_advances_191 : decode cX11_advances 191 = .ok (.putfield 85, 3) := by decide +kernel
theorem dX11_advances_194 : decode cX11_advances 194 = .ok (.aload_n 0, 1) := by decide +kernel
theorem dX11_advances_195 : decode cX11_advances 195 = .ok (.aload_n 0, 1) := by decide +kernel
theorem dX11_advances_196 : decode cX11_advances 196 = .ok (.getfield 68, 3) := by decide +kernel
theorem dX11_advances_199 : decode cX11_advances 199 = .ok (.invokevirtual 71, 3) := by decide +kernel
theorem dX11_advances_202 : decode cX11_advances 202 = .ok (.bipush 48, 2) := by decide +kernel
theorem dX11_advances_204 : decode cX11_advances 204 = .ok (.bipush 57, 2) := by decide +kernel
theorem dX11_advances_206 : decode cX11_advances 206 = .ok (.invokestatic 49, 3) := by decide +kernel
theorem dX11_advances_209 : decode cX11_advances 209 = .ok (.ifCond .eq 55, 3) := by decide +kernel
theorem dX11_advances_212 : decode cX11_advances 212 = .ok (.aload_n 0, 1) := by decide +kernel
theorem dX11_advances_213 : decode cX11_advances 213 = .ok (.aload_n 0, 1) := by decide +kernel
theorem dX11_advances_214 : decode cX11_advances 214 = .ok (.getfield 85, 3) := by decide +kernel
theorem dX11_advances_217 : decode cX11_advances 217 = .ok (.bipush 99, 2) := by decide +kernel
theorem dX11_advances_219 : decode cX11_advances 219 = .ok (.if_icmp .le 10, 3) := by decide +kernel
theorem dX11_advances_222 : decode cX11_advances 222 = .ok (.aload_n 0, 1) := by decide +kernel
theorem dX11_advances_223 : decode cX11_advances 223 = .ok (.getfield 85, 3) := by decide +kernel
theorem dX11_advances_226 : decode cX11_advances 226 = .ok (.goto 22, 3) := by decide +kernel
theorem dX11_advances_229 : decode cX11_advances 229 = .ok (.bipush 10, 2) := by decide +kernel
theorem dX11_advances_231 : decode cX11_advances 231 = .ok (.aload_n 0, 1) := by decide +kernel
theorem dX11_advances_232 : decode cX11_advances 232 = .ok (.getfield 85, 3) := by decide +kernel
theorem dX11_advances_235 : decode cX11_advances 235 = .ok (.imul, 1) := by decide +kernel
theorem dX11_advances_236 : decode cX11_advances 236 = .ok (.aload_n 0, 1) := by decide +kernel
theorem dX11_advances_237 : decode cX11_advances 237 = .ok (.aload_n 0, 1) := by decide +kernel
theorem dX11_advances_238 : decode cX11_advances 238 = .ok (.getfield 68, 3) := by decide +kernel
theorem dX11_advances_241 : decode cX11_advances 241 = .ok (.invokevirtual 71, 3) := by decide +kernel
theorem dX11_advances_244 : decode cX11_advances 244 = .ok (.iadd, 1) := by decide +kernel
theorem dX11_advances_245 : decode cX11_advances 245 = .ok (.bipush 48, 2) := by decide +kernel
theorem dX11_advances_247 : decode cX11_advances 247 = .ok (.isub, 1) := by decide +kernel
theorem dX11_advances_248 : decode cX11_advances 248 = .ok (.putfield 85, 3) := by decide +kernel
theorem dX11_advances_251 : decode cX11_advances 251 = .ok (.aload_n 0, 1) := by decide +kernel
theorem dX11_advances_252 : decode cX11_advances 252 = .ok (.dup, 1) := by decide +kernel
theorem dX11_advances_253 : decode cX11_advances 253 = .ok (.getfield 68, 3) := by decide +kernel
theorem dX11_advances_256 : decode cX11_advances 256 = .ok (.iconst 1, 1) := by decide +kernel
theorem dX11_advances_257 : decode cX11_advances 257 = .ok (.iadd, 1) := by decide +kernel
theorem dX11_advances_258 : decode cX11_advances 258 = .ok (.putfield 68, 3) := by decide +kernel
theorem dX11_advances_261 : decode cX11_advances 261 = .ok (.goto (-67), 3) := by decide +kernel
theorem dX11_advances_264 : decode cX11_advances 264 = .ok (.aload_n 0, 1) := by decide +kernel
theorem dX11_advances_265 : decode cX11_advances 265 = .ok (.aload_n 0, 1) := by decide +kernel
theorem dX11_advances_266 : decode cX11_advances 266 = .ok (.getfield 85, 3) := by decide +kernel
theorem dX11_advances_269 : decode cX11_advances 269 = .ok (.bipush 99, 2) := by decide +kernel
theorem dX11_advances_271 : decode cX11_advances 271 = .ok (.if_icmp .gt 22, 3) := by decide +kernel
theorem dX11_advances_274 : decode cX11_advances 274 = .ok (.iload_n 1, 1) := by decide +kernel
theorem dX11_advances_275 : decode cX11_advances 275 = .ok (.bipush 48, 2) := by decide +kernel
theorem dX11_advances_277 : decode cX11_advances 277 = .ok (.if_icmp .ne 20, 3) := by decide +kernel
theorem dX11_advances_280 : decode cX11_advances 280 = .ok (.aload_n 0, 1) := by decide +kernel
theorem dX11_advances_281 : decode cX11_advances 281 = .ok (.getfield 68, 3) := by decide +kernel
theorem dX11_advances_284 : decode cX11_advances 284 = .ok (.aload_n 0, 1) := by decide +kernel
theorem dX11_advances_285 : decode cX11_advances 285 = .ok (.getfield 75, 3) := by decide +kernel
theorem dX11_advances_288 : decode cX11_advances 288 = .ok (.isub, 1) := by decide +kernel
theorem dX11_advances_289 : decode cX11_advances 289 = .ok (.iconst 1, 1) := by decide +kernel
theorem dX11_advances_290 : decode cX11_advances 290 = .ok (.if_icmp .le 7, 3) := by decide +kernel
theorem dX11_advances_293 : decode cX11_advances 293 = .ok (.iconst 4, 1) := by decide +kernel
theorem dX11_advances_294 : decode cX11_advances 294 = .ok (.goto 4, 3) := by decide +kernel
theorem dX11_advances_297 : decode cX11_advances 297 = .ok (.iconst 2, 1) := by decide +kernel
theorem dX11_advances_298 : decode cX11_advances 298 = .ok (.putfield 78, 3) := by decide +kernel
theorem dX11_advances_301 : decode cX11_advances 301 = .ok (.goto 28, 3) := by decide +kernel
theorem dX11_advances_304 : decode cX11_advances 304 = .ok (.aload_n 0, 1) := by decide +kernel
theorem dX11_advances_305 : decode cX11_advances 305 = .ok (.dup, 1) := by decide +kernel
theorem dX11_advances_306 : decode cX11_advances 306 = .ok (.getfield 68, 3) := by decide +kernel
theorem dX11_advances_309 : decode cX11_advances 309 = .ok (.iconst 1, 1) := by decide +kernel
theorem dX11_advances_310 : decode cX11_advances 310 = .ok (.iadd, 1) := by decide +kernel
theorem dX11_advances_311 : decode cX11_advances 311 = .ok (.putfield 68, 3) := by decide +kernel
theorem dX11_advances_314 : decode cX11_advances 314 = .ok (.aload_n 0, 1) := by decide +kernel
theorem dX11_advances_315 : decode cX11_advances 315 = .ok (.iload_n 1, 1) := by decide +kernel
theorem dX11_advances_316 : decode cX11_advances 316 = .ok (.bipush 59, 2) := by decide +kernel
theorem dX11_advances_318 : decode cX11_advances 318 = .ok (.if_icmp .ne 7, 3) := by decide +kernel
theorem dX11_advances_321 : decode cX11_advances 321 = .ok (.iconst 3, 1) := by decide +kernel
theorem dX11_advances_322 : decode cX11_advances 322 = .ok (.goto 4, 3) := by decide +kernel
theorem dX11_advances_325 : decode cX11_advances 325 = .ok (.iconst 4, 1) := by decide +kernel
theorem dX11_advances_326 : decode cX11_advances 326 = .ok (.putfield 78, 3) := by decide +kernel
theorem dX11_advances_329 : decode cX11_advances 329 = .ok (.return_, 1) := by decide +kernel
theorem dX11_isWell_0 : decode cX11_isWell 0 = .ok (.aload_n 0, 1) := by decide +kernel
theorem dX11_isWell_1 : decode cX11_isWell 1 = .ok (.getfield 88, 3) := by decide +kernel
theorem dX11_isWell_4 : decode cX11_isWell 4 = .ok (.ifCond .ge 7, 3) := by decide +kernel
theorem dX11_isWell_7 : decode cX11_isWell 7 = .ok (.iconst 1, 1) := by decide +kernel
theorem dX11_isWell_8 : decode cX11_isWell 8 = .ok (.goto 4, 3) := by decide +kernel
theorem dX11_isWell_11 : decode cX11_isWell 11 = .ok (.iconst 0, 1) := by decide +kernel
theorem dX11_isWell_12 : decode cX11_isWell 12 = .ok (.ireturn, 1) := by decide +kernel
set_option maxRecDepth 20000 in
theorem ggX11_takes_X11_isWell : GoodIn wsX11_takes wsX11_isWell := goodIn_r _ [8, 2, 34, 35, 36, 37, 38, 39, 40, 41, 42, 43, 44, 45, 46, 47, 48, 49, 50] (by decide +kernel) (by decide +kernel)
set_option maxRecDepth 20000 in
theorem gX11_takes_X11_isWell : GoodIn wsX11_takes (wsV RX11 91 RX11 yX11_isWell wsX11_isWell) := goodIn_app (goodIn_of _ (by decide +kernel)) ggX11_takes_X11_isWell
set_option maxRecDepth 20000 in
theorem ggX11_takes_X11_advances : GoodIn wsX11_takes wsX11_advances := goodIn_r _ [12, 13, 1, 14, 3, 15, 16, 17, 7, 18, 19, 20, 21, 22, 23, 24, 25, 26, 27, 28, 29, 30, 31, 32, 33, 34, 35, 36, 37, 38, 39, 40, 41, 42, 43, 44, 45, 46, 47, 48, 49, 50] (by decide +kernel) (by decide +kernel)
set_option maxRecDepth 20000 in
theorem gX11_takes_X11_advances : GoodIn wsX11_takes (wsV RX11 95 RX11 yX11_advances wsX11_advances) := goodIn_app (goodIn_of _ (by decide +kernel)) ggX11_takes_X11_advances
theorem dX11_takes_0 : decode cX11_takes 0 = .ok (.aload_n 0, 1) := by decide +kernel
theorem dX11_takes_1 : decode cX11_takes 1 = .ok (.invokevirtual 91, 3) := by decide +kernel
theorem dX11_takes_4 : decode cX11_takes 4 = .ok (.ifCond .ne 5, 3) := by decide +kernel
theorem dX11_takes_7 : decode cX11_takes 7 = .ok (.iconst 0, 1) := by decide +kernel
theorem dX11_takes_8 : decode cX11_takes 8 = .ok (.ireturn, 1) := by decide +kernel
theorem dX11_takes_9 : decode cX11_takes 9 = .ok (.iload_n 1, 1) := by decide +kernel
theorem dX11_takes_10 : decode cX11_takes 10 = .ok (.ifCond .ne 13, 3) := by decide +kernel
theorem dX11_takes_13 : decode cX11_takes 13 = .ok (.aload_n 0, 1) := by decide +kernel
theorem dX11_takes_14 : decode cX11_takes 14 = .ok (.aload_n 0, 1) := by decide +kernel
theorem dX11_takes_15 : decode cX11_takes 15 = .ok (.getfield 75, 3) := by decide +kernel
theorem dX11_takes_18 : decode cX11_takes 18 = .ok (.putfield 88, 3) := by decide +kernel
theorem dX11_takes_21 : decode cX11_takes 21 = .ok (.iconst 0, 1) := by decide +kernel
theorem dX11_takes_22 : decode cX11_takes 22 = .ok (.ireturn, 1) := by decide +kernel
theorem dX11_takes_23 : decode cX11_takes 23 = .ok (.aload_n 0, 1) := by decide +kernel
theorem dX11_takes_24 : decode cX11_takes 24 = .ok (.getfield 85, 3) := by decide +kernel
theorem dX11_takes_27 : decode cX11_takes 27 = .ok (.istore_n 2, 1) := by decide +kernel
theorem dX11_takes_28 : decode cX11_takes 28 = .ok (.aload_n 0, 1) := by decide +kernel
theorem dX11_takes_29 : decode cX11_takes 29 = .ok (.invokevirtual 95, 3) := by decide +kernel
theorem dX11_takes_32 : decode cX11_takes 32 = .ok (.iload_n 2, 1) := by decide +kernel
theorem dX11_takes_33 : decode cX11_takes 33 = .ok (.ireturn, 1) := by decide +kernel
set_option maxRecDepth 20000 in
theorem ggX11_number_X11_in : GoodIn wsX11_number wsX11_in := goodIn_r _ [6] (by decide +kernel) (by decide +kernel)
set_option maxRecDepth 20000 in
theorem gX11_number_X11_in : GoodIn wsX11_number (va_wsS RX11 49 yX11_in wsX11_in) := goodIn_app (goodIn_of _ (by decide +kernel)) ggX11_number_X11_in
set_option maxRecDepth 20000 in
theorem ggX11_number_X11_takes : GoodIn wsX11_number wsX11_takes := goodIn_r _ [10, 11, 12, 2, 13, 14, 15, 5, 16, 17, 18, 19, 20, 21, 1, 22, 23, 24, 25, 26, 27, 3, 4, 6, 28, 29, 30, 31, 32, 33, 34, 35, 36, 37, 38, 39, 40, 41, 42, 43, 44, 45, 46, 47, 48, 49, 50, 51, 52, 53, 54] (by decide +kernel) (by decide +kernel)
set_option maxRecDepth 20000 in
theorem gX11_number_X11_takes : GoodIn wsX11_number (wsV RX11 98 RX11 yX11_takes wsX11_takes) := goodIn_app (goodIn_of _ (by decide +kernel)) ggX11_number_X11_takes
theorem dX11_number_0 : decode cX11_number 0 = .ok (.aload_n 0, 1) := by decide +kernel
theorem dX11_number_1 : decode cX11_number 1 = .ok (.aload_n 0, 1) := by decide +kernel
theorem dX11_number_2 : decode cX11_number 2 = .ok (.getfield 78, 3) := by decide +kernel
theorem dX11_number_5 : decode cX11_number 5 = .ok (.iconst 2, 1) := by decide +kernel
theorem dX11_number_6 : decode cX11_number 6 = .ok (.if_icmp .ne 19, 3) := by decide +kernel
theorem dX11_number_9 : decode cX11_number 9 = .ok (.aload_n 0, 1) := by decide +kernel
theorem dX11_number_10 : decode cX11_number 10 = .ok (.getfield 85, 3) := by decide +kernel
theorem dX11_number_13 : decode cX11_number 13 = .ok (.iload_n 1, 1) := by decide +kernel
theorem dX11_number_14 : decode cX11_number 14 = .ok (.iload_n 2, 1) := by decide +kernel
theorem dX11_number_15 : decode cX11_number 15 = .ok (.invokestatic 49, 3) := by decide +kernel
theorem dX11_number_18 : decode cX11_number 18 = .ok (.ifCond .eq 7, 3) := by decide +kernel
theorem dX11_number_21 : decode cX11_number 21 = .ok (.iconst 1, 1) := by decide +kernel
theorem dX11_number_22 : decode cX11_number 22 = .ok (.goto 4, 3) := by decide +kernel
theorem dX11_number_25 : decode cX11_number 25 = .ok (.iconst 0, 1) := by decide +kernel
theorem dX11_number_26 : decode cX11_number 26 = .ok (.invokevirtual 98, 3) := by decide +kernel
theorem dX11_number_29 : decode cX11_number 29 = .ok (.ireturn, 1) := by decide +kernel
theorem dX11_drafts_0 : decode cX11_drafts 0 = .ok (.iconst 0, 1) := by decide +kernel
theorem dX11_drafts_1 : decode cX11_drafts 1 = .ok (.istore_n 2, 1) := by decide +kernel
theorem dX11_drafts_2 : decode cX11_drafts 2 = .ok (.iload_n 2, 1) := by decide +kernel
theorem dX11_drafts_3 : decode cX11_drafts 3 = .ok (.bipush 94, 2) := by decide +kernel
theorem dX11_drafts_5 : decode cX11_drafts 5 = .ok (.if_icmp .ge 19, 3) := by decide +kernel
theorem dX11_drafts_8 : decode cX11_drafts 8 = .ok (.aload_n 0, 1) := by decide +kernel
theorem dX11_drafts_9 : decode cX11_drafts 9 = .ok (.getfield 13, 3) := by decide +kernel
theorem dX11_drafts_12 : decode cX11_drafts 12 = .ok (.bipush 94, 2) := by decide +kernel
theorem dX11_drafts_14 : decode cX11_drafts 14 = .ok (.iload_n 2, 1) := by decide +kernel
theorem dX11_drafts_15 : decode cX11_drafts 15 = .ok (.iadd, 1) := by decide +kernel
theorem dX11_drafts_16 : decode cX11_drafts 16 = .ok (.iconst 0, 1) := by decide +kernel
theorem dX11_drafts_17 : decode cX11_drafts 17 = .ok (.iastore, 1) := by decide +kernel
theorem dX11_drafts_18 : decode cX11_drafts 18 = .ok (.iinc 2 1, 3) := by decide +kernel
theorem dX11_drafts_21 : decode cX11_drafts 21 = .ok (.goto (-19), 3) := by decide +kernel
theorem dX11_drafts_24 : decode cX11_drafts 24 = .ok (.aload_n 0, 1) := by decide +kernel
theorem dX11_drafts_25 : decode cX11_drafts 25 = .ok (.getfield 13, 3) := by decide +kernel
theorem dX11_drafts_28 : decode cX11_drafts 28 = .ok (.bipush 94, 2) := by decide +kernel
theorem dX11_drafts_30 : decode cX11_drafts 30 = .ok (.iload_n 1, 1) := by decide +kernel
theorem dX11_drafts_31 : decode cX11_drafts 31 = .ok (.iastore, 1) := by decide +kernel
theorem dX11_drafts_32 : decode cX11_drafts 32 = .ok (.return_, 1) := by decide +kernel
set_option maxRecDepth 20000 in
theorem ggX11_readsTwo_X11_number : GoodIn wsX11_readsTwo wsX11_number := goodIn_r _ [8, 2, 3, 9, 10, 7, 11, 12, 13, 14, 15, 16, 17, 18, 19, 20, 21, 22, 23, 24, 25, 26, 27, 28, 29, 30, 31, 32, 33, 34, 35, 36, 37, 38, 39, 40, 41, 42, 43, 44, 45, 46, 47, 48, 49, 50, 51, 52, 53, 54, 55, 56, 57, 58, 59] (by decide +kernel) (by decide +kernel)
set_option maxRecDepth 20000 in
theorem gX11_readsTwo_X11_number : GoodIn wsX11_readsTwo (wsV RX11 102 RX11 yX11_number wsX11_number) := goodIn_app (goodIn_of _ (by decide +kernel)) ggX11_readsTwo_X11_number
set_option maxRecDepth 20000 in
theorem ggX11_readsTwo_X11_in : GoodIn wsX11_readsTwo wsX11_in := goodIn_r _ [11] (by decide +kernel) (by decide +kernel)
set_option maxRecDepth 20000 in
theorem gX11_readsTwo_X11_in : GoodIn wsX11_readsTwo (va_wsS RX11 49 yX11_in wsX11_in) := goodIn_app (goodIn_of _ (by decide +kernel)) ggX11_readsTwo_X11_in
set_option maxRecDepth 20000 in
theorem ggX11_readsTwo_X11_takes : GoodIn wsX11_readsTwo wsX11_takes := goodIn_r _ [15, 16, 17, 3, 18, 19, 20, 7, 21, 22, 23, 24, 25, 26, 2, 27, 28, 29, 30, 31, 32, 9, 10, 11, 33, 34, 35, 36, 37, 38, 39, 40, 41, 42, 43, 44, 45, 46, 47, 48, 49, 50, 51, 52, 53, 54, 55, 56, 57, 58, 59] (by decide +kernel) (by decide +kernel)
set_option maxRecDepth 20000 in
theorem gX11_readsTwo_X11_takes : GoodIn wsX11_readsTwo (wsV RX11 98 RX11 yX11_takes wsX11_takes) := goodIn_app (goodIn_of _ (by decide +kernel)) ggX11_readsTwo_X11_takes
set_option maxRecDepth 20000 in
theorem ggX11_readsTwo_X11_isWell : GoodIn wsX11_readsTwo wsX11_isWell := goodIn_r _ [21, 17, 43, 44, 45, 46, 47, 48, 49, 50, 51, 52, 53, 54, 55, 56, 57, 58, 59] (by decide +kernel) (by decide +kernel)
set_option maxRecDepth 20000 in
theorem gX11_readsTwo_X11_isWell : GoodIn wsX11_readsTwo (wsV RX11 91 RX11 yX11_isWell wsX11_isWell) := goodIn_app (goodIn_of _ (by decide +kernel)) ggX11_readsTwo_X11_isWell
theorem dX11_readsTwo_0 : decode cX11_readsTwo 0 = .ok (.aload_n 0, 1) := by decide +kernel
theorem dX11_readsTwo_1 : decode cX11_readsTwo 1 = .ok (.iconst 0, 1) := by decide +kernel
theorem dX11_readsTwo_2 : decode cX11_readsTwo 2 = .ok (.aload_n 0, 1) := by decide +kernel
theorem dX11_readsTwo_3 : decode cX11_readsTwo 3 = .ok (.getfield 13, 3) := by decide +kernel
theorem dX11_readsTwo_6 : decode cX11_readsTwo 6 = .ok (.bipush 94, 2) := by decide +kernel
theorem dX11_readsTwo_8 : decode cX11_readsTwo 8 = .ok (.iaload, 1) := by decide +kernel
theorem dX11_readsTwo_9 : decode cX11_readsTwo 9 = .ok (.iconst 1, 1) := by decide +kernel
theorem dX11_readsTwo_10 : decode cX11_readsTwo 10 = .ok (.isub, 1) := by decide +kernel
theorem dX11_readsTwo_11 : decode cX11_readsTwo 11 = .ok (.invokevirtual 102, 3) := by decide +kernel
theorem dX11_readsTwo_14 : decode cX11_readsTwo 14 = .ok (.istore_n 2, 1) := by decide +kernel
theorem dX11_readsTwo_15 : decode cX11_readsTwo 15 = .ok (.aload_n 0, 1) := by decide +kernel
theorem dX11_readsTwo_16 : decode cX11_readsTwo 16 = .ok (.aload_n 0, 1) := by decide +kernel
theorem dX11_readsTwo_17 : decode cX11_readsTwo 17 = .ok (.getfield 78, 3) := by decide +kernel
theorem dX11_readsTwo_20 : decode cX11_readsTwo 20 = .ok (.iconst 2, 1) := by decide +kernel
theorem dX11_readsTwo_21 : decode cX11_readsTwo 21 = .ok (.if_icmp .ne 35, 3) := by decide +kernel
theorem dX11_readsTwo_24 : decode cX11_readsTwo 24 = .ok (.aload_n 0, 1) := by decide +kernel
theorem dX11_readsTwo_25 : decode cX11_readsTwo 25 = .ok (.getfield 85, 3) := by decide +kernel
theorem dX11_readsTwo_28 : decode cX11_readsTwo 28 = .ok (.iconst 0, 1) := by decide +kernel
theorem dX11_readsTwo_29 : decode cX11_readsTwo 29 = .ok (.aload_n 0, 1) := by decide +kernel
theorem dX11_readsTwo_30 : decode cX11_readsTwo 30 = .ok (.getfield 13, 3) := by decide +kernel
theorem dX11_readsTwo_33 : decode cX11_readsTwo 33 = .ok (.bipush 94, 2) := by decide +kernel
theorem dX11_readsTwo_35 : decode cX11_readsTwo 35 = .ok (.iaload, 1) := by decide +kernel
theorem dX11_readsTwo_36 : decode cX11_readsTwo 36 = .ok (.iconst 1, 1) := by decide +kernel
theorem dX11_readsTwo_37 : decode cX11_readsTwo 37 = .ok (.isub, 1) := by decide +kernel
theorem dX11_readsTwo_38 : decode cX11_readsTwo 38 = .ok (.invokestatic 49, 3) := by decide +kernel
theorem dX11_readsTwo_41 : decode cX11_readsTwo 41 = .ok (.ifCond .eq 15, 3) := by decide +kernel
theorem dX11_readsTwo_44 : decode cX11_readsTwo 44 = .ok (.aload_n 0, 1) := by decide +kernel
theorem dX11_readsTwo_45 : decode cX11_readsTwo 45 = .ok (.getfield 85, 3) := by decide +kernel
theorem dX11_readsTwo_48 : decode cX11_readsTwo 48 = .ok (.iload_n 2, 1) := by decide +kernel
theorem dX11_readsTwo_49 : decode cX11_readsTwo 49 = .ok (.if_icmp .eq 7, 3) := by decide +kernel
theorem dX11_readsTwo_52 : decode cX11_readsTwo 52 = .ok (.iconst 1, 1) := by decide +kernel
theorem dX11_readsTwo_53 : decode cX11_readsTwo 53 = .ok (.goto 4, 3) := by decide +kernel
theorem dX11_readsTwo_56 : decode cX11_readsTwo 56 = .ok (.iconst 0, 1) := by decide +kernel
theorem dX11_readsTwo_57 : decode cX11_readsTwo 57 = .ok (.invokevirtual 98, 3) := by decide +kernel
theorem dX11_readsTwo_60 : decode cX11_readsTwo 60 = .ok (.istore_n 3, 1) := by decide +kernel
theorem dX11_readsTwo_61 : decode cX11_readsTwo 61 = .ok (.iload_n 1, 1) := by decide +kernel
theorem dX11_readsTwo_62 : decode cX11_readsTwo 62 = .ok (.bipush 9, 2) := by decide +kernel
theorem dX11_readsTwo_64 : decode cX11_readsTwo 64 = .ok (.if_icmp .eq 9, 3) := by decide +kernel
theorem dX11_readsTwo_67 : decode cX11_readsTwo 67 = .ok (.iload_n 1, 1) := by decide +kernel
theorem dX11_readsTwo_68 : decode cX11_readsTwo 68 = .ok (.bipush 10, 2) := by decide +kernel
theorem dX11_readsTwo_70 : decode cX11_readsTwo 70 = .ok (.if_icmp .ne 13, 3) := by decide +kernel
theorem dX11_readsTwo_73 : decode cX11_readsTwo 73 = .ok (.aload_n 0, 1) := by decide +kernel
theorem dX11_readsTwo_74 : decode cX11_readsTwo 74 = .ok (.iconst 0, 1) := by decide +kernel
theorem dX11_readsTwo_75 : decode cX11_readsTwo 75 = .ok (.bipush 9, 2) := by decide +kernel
theorem dX11_readsTwo_77 : decode cX11_readsTwo 77 = .ok (.invokevirtual 102, 3) := by decide +kernel
theorem dX11_readsTwo_80 : decode cX11_readsTwo 80 = .ok (.goto 4, 3) := by decide +kernel
theorem dX11_readsTwo_83 : decode cX11_readsTwo 83 = .ok (.iconst 0, 1) := by decide +kernel
theorem dX11_readsTwo_84 : decode cX11_readsTwo 84 = .ok (.istore 4, 2) := by decide +kernel
theorem dX11_readsTwo_86 : decode cX11_readsTwo 86 = .ok (.aload_n 0, 1) := by decide +kernel
theorem dX11_readsTwo_87 : decode cX11_readsTwo 87 = .ok (.invokevirtual 91, 3) := by decide +kernel
theorem dX11_readsTwo_90 : decode cX11_readsTwo 90 = .ok (.ifCond .ne 4, 3) := by decide +kernel
theorem dX11_readsTwo_93 : decode cX11_readsTwo 93 = .ok (.return_, 1) := by decide +kernel
theorem dX11_readsTwo_94 : decode cX11_readsTwo 94 = .ok (.iload_n 1, 1) := by decide +kernel
theorem dX11_readsTwo_95 : decode cX11_readsTwo 95 = .ok (.bipush 7, 2) := by decide +kernel
theorem dX11_readsTwo_97 : decode cX11_readsTwo 97 = .ok (.if_icmp .eq 9, 3) := by decide +kernel
theorem dX11_readsTwo_100 : decode cX11_readsTwo 100 = .ok (.iload_n 1, 1) := by decide +kernel
theorem dX11_readsTwo_101 : decode cX11_readsTwo 101 = .ok (.bipush 8, 2) := by decide +kernel
theorem dX11_readsTwo_103 : decode cX11_readsTwo 103 = .ok (.if_icmp .ne 54, 3) := by decide +kernel
theorem dX11_readsTwo_106 : decode cX11_readsTwo 106 = .ok (.bipush 94, 2) := by decide +kernel
theorem dX11_readsTwo_108 : decode cX11_readsTwo 108 = .ok (.iload_n 1, 1) := by decide +kernel
theorem dX11_readsTwo_109 : decode cX11_readsTwo 109 = .ok (.bipush 7, 2) := by decide +kernel
theorem dX11_readsTwo_111 : decode cX11_readsTwo 111 = .ok (.if_icmp .ne 8, 3) := by decide +kernel
theorem dX11_readsTwo_114 : decode cX11_readsTwo 114 = .ok (.bipush 14, 2) := by decide +kernel
theorem dX11_readsTwo_116 : decode cX11_readsTwo 116 = .ok (.goto 5, 3) := by decide +kernel
theorem dX11_readsTwo_119 : decode cX11_readsTwo 119 = .ok (.bipush 22, 2) := by decide +kernel
theorem dX11_readsTwo_121 : decode cX11_readsTwo 121 = .ok (.iadd, 1) := by decide +kernel
theorem dX11_readsTwo_122 : decode cX11_readsTwo 122 = .ok (.istore 5, 2) := by decide +kernel
theorem dX11_readsTwo_124 : decode cX11_readsTwo 124 = .ok (.aload_n 0, 1) := by decide +kernel
theorem dX11_readsTwo_125 : decode cX11_readsTwo 125 = .ok (.getfield 13, 3) := by decide +kernel
theorem dX11_readsTwo_128 : decode cX11_readsTwo 128 = .ok (.iload 5, 2) := by decide +kernel
theorem dX11_readsTwo_130 : decode cX11_readsTwo 130 = .ok (.iload_n 2, 1) := by decide +kernel
theorem dX11_readsTwo_131 : decode cX11_readsTwo 131 = .ok (.iadd, 1) := by decide +kernel
theorem dX11_readsTwo_132 : decode cX11_readsTwo 132 = .ok (.dup2, 1) := by decide +kernel
theorem dX11_readsTwo_133 : decode cX11_readsTwo 133 = .ok (.iaload, 1) := by decide +kernel
theorem dX11_readsTwo_134 : decode cX11_readsTwo 134 = .ok (.iconst 1, 1) := by decide +kernel
theorem dX11_readsTwo_135 : decode cX11_readsTwo 135 = .ok (.iload_n 3, 1) := by decide +kernel
theorem dX11_readsTwo_136 : decode cX11_readsTwo 136 = .ok (.ishl, 1) := by decide +kernel
theorem dX11_readsTwo_137 : decode cX11_readsTwo 137 = .ok (.ior, 1) := by decide +kernel
theorem dX11_readsTwo_138 : decode cX11_readsTwo 138 = .ok (.iastore, 1) := by decide +kernel
theorem dX11_readsTwo_139 : decode cX11_readsTwo 139 = .ok (.aload_n 0, 1) := by decide +kernel
theorem dX11_readsTwo_140 : decode cX11_readsTwo 140 = .ok (.getfield 13, 3) := by decide +kernel
theorem dX11_readsTwo_143 : decode cX11_readsTwo 143 = .ok (.iload 5, 2) := by decide +kernel
theorem dX11_readsTwo_145 : decode cX11_readsTwo 145 = .ok (.iload_n 3, 1) := by decide +kernel
theorem dX11_readsTwo_146 : decode cX11_readsTwo 146 = .ok (.iadd, 1) := by decide +kernel
theorem dX11_readsTwo_147 : decode cX11_readsTwo 147 = .ok (.dup2, 1) := by decide +kernel
theorem dX11_readsTwo_148 : decode cX11_readsTwo 148 = .ok (.iaload, 1) := by decide +kernel
theorem dX11_readsTwo_149 : decode cX11_readsTwo 149 = .ok (.iconst 1, 1) := by decide +kernel
theorem dX11_readsTwo_150 : decode cX11_readsTwo 150 = .ok (.iload_n 2, 1) := by decide +kernel
theorem dX11_readsTwo_151 : decode cX11_readsTwo 151 = .ok (.ishl, 1) := by decide +kernel
theorem dX11_readsTwo_152 : decode cX11_readsTwo 152 = .ok (.ior, 1) := by decide +kernel
theorem dX11_readsTwo_153 : decode cX11_readsTwo 153 = .ok (.iastore, 1) := by decide +kernel
theorem dX11_readsTwo_154 : decode cX11_readsTwo 154 = .ok (.goto 59, 3) := by decide +kernel
theorem dX11_readsTwo_157 : decode cX11_readsTwo 157 = .ok (.aload_n 0, 1) := by decide +kernel
theorem dX11_readsTwo_158 : decode cX11_readsTwo 158 = .ok (.getfield 13, 3) := by decide +kernel
theorem dX11_readsTwo_161 : decode cX11_readsTwo 161 = .ok (.bipush 124, 2) := by decide +kernel
theorem dX11_readsTwo_163 : decode cX11_readsTwo 163 = .ok (.bipush 8, 2) := by decide +kernel
theorem dX11_readsTwo_165 : decode cX11_readsTwo 165 = .ok (.iload_n 2, 1) := by decide +kernel
theorem dX11_readsTwo_166 : decode cX11_readsTwo 166 = .ok (.imul, 1) := by decide +kernel
theorem dX11_readsTwo_167 : decode cX11_readsTwo 167 = .ok (.iadd, 1) := by decide +kernel
theorem dX11_readsTwo_168 : decode cX11_readsTwo 168 = .ok (.iload_n 3, 1) := by decide +kernel
theorem dX11_readsTwo_169 : decode cX11_readsTwo 169 = .ok (.iadd, 1) := by decide +kernel
theorem dX11_readsTwo_170 : decode cX11_readsTwo 170 = .ok (.iload_n 1, 1) := by decide +kernel
theorem dX11_readsTwo_171 : decode cX11_readsTwo 171 = .ok (.bipush 9, 2) := by decide +kernel
theorem dX11_readsTwo_173 : decode cX11_readsTwo 173 = .ok (.if_icmp .ne 8, 3) := by decide +kernel
theorem dX11_readsTwo_176 : decode cX11_readsTwo 176 = .ok (.iload 4, 2) := by decide +kernel
theorem dX11_readsTwo_178 : decode cX11_readsTwo 178 = .ok (.goto 6, 3) := by decide +kernel
theorem dX11_readsTwo_181 : decode cX11_readsTwo 181 = .ok (.iload 4, 2) := by decide +kernel
theorem dX11_readsTwo_183 : decode cX11_readsTwo 183 = .ok (.ineg, 1) := by decide +kernel
theorem dX11_readsTwo_184 : decode cX11_readsTwo 184 = .ok (.iastore, 1) := by decide +kernel
theorem dX11_readsTwo_185 : decode cX11_readsTwo 185 = .ok (.aload_n 0, 1) := by decide +kernel
theorem dX11_readsTwo_186 : decode cX11_readsTwo 186 = .ok (.getfield 13, 3) := by decide +kernel
theorem dX11_readsTwo_189 : decode cX11_readsTwo 189 = .ok (.bipush 124, 2) := by decide +kernel
theorem dX11_readsTwo_191 : decode cX11_readsTwo 191 = .ok (.bipush 8, 2) := by decide +kernel
theorem dX11_readsTwo_193 : decode cX11_readsTwo 193 = .ok (.iload_n 3, 1) := by decide +kernel
theorem dX11_readsTwo_194 : decode cX11_readsTwo 194 = .ok (.imul, 1) := by decide +kernel
theorem dX11_readsTwo_195 : decode cX11_readsTwo 195 = .ok (.iadd, 1) := by decide +kernel
theorem dX11_readsTwo_196 : decode cX11_readsTwo 196 = .ok (.iload_n 2, 1) := by decide +kernel
theorem dX11_readsTwo_197 : decode cX11_readsTwo 197 = .ok (.iadd, 1) := by decide +kernel
theorem dX11_readsTwo_198 : decode cX11_readsTwo 198 = .ok (.iload_n 1, 1) := by decide +kernel
theorem dX11_readsTwo_199 : decode cX11_readsTwo 199 = .ok (.bipush 9, 2) := by decide +kernel
theorem dX11_readsTwo_201 : decode cX11_readsTwo 201 = .ok (.if_icmp .ne 8, 3) := by decide +kernel
theorem dX11_readsTwo_204 : decode cX11_readsTwo 204 = .ok (.iload 4, 2) := by decide +kernel
theorem dX11_readsTwo_206 : decode cX11_readsTwo 206 = .ok (.goto 6, 3) := by decide +kernel
theorem dX11_readsTwo_209 : decode cX11_readsTwo 209 = .ok (.iload 4, 2) := by decide +kernel
theorem dX11_readsTwo_211 : decode cX11_readsTwo 211 = .ok (.ineg, 1) := by decide +kernel
theorem dX11_readsTwo_212 : decode cX11_readsTwo 212 = .ok (.iastore, 1) := by decide +kernel
theorem dX11_readsTwo_213 : decode cX11_readsTwo 213 = .ok (.return_, 1) := by decide +kernel
set_option maxRecDepth 20000 in
theorem ggX11_readsItem_X11_number : GoodIn wsX11_readsItem wsX11_number := goodIn_r _ [6, 7, 8, 9, 10, 5, 11, 12, 13, 14, 15, 16, 17, 18, 19, 20, 21, 22, 23, 24, 25, 26, 27, 28, 29, 30, 31, 32, 33, 34, 35, 36, 37, 38, 39, 40, 41, 42, 47, 48, 49, 50, 51, 52, 53, 54, 55, 56, 57, 58, 59, 60, 61, 62, 63] (by decide +kernel) (by decide +kernel)
set_option maxRecDepth 20000 in
theorem gX11_readsItem_X11_number : GoodIn wsX11_readsItem (wsV RX11 102 RX11 yX11_number wsX11_number) := goodIn_app (goodIn_of _ (by decide +kernel)) ggX11_readsItem_X11_number
set_option maxRecDepth 20000 in
theorem ggX11_readsItem_X11_isWell : GoodIn wsX11_readsItem wsX11_isWell := goodIn_r _ [21, 17, 47, 48, 49, 50, 51, 52, 53, 54, 55, 56, 57, 58, 59, 60, 61, 62, 63] (by decide +kernel) (by decide +kernel)
set_option maxRecDepth 20000 in
theorem gX11_readsItem_X11_isWell : GoodIn wsX11_readsItem (wsV RX11 91 RX11 yX11_isWell wsX11_isWell) := goodIn_app (goodIn_of _ (by decide +kernel)) ggX11_readsItem_X11_isWell
set_option maxRecDepth 20000 in
theorem ggX11_readsItem_X11_readsTwo : GoodIn wsX11_readsItem wsX11_readsTwo := goodIn_r _ [46, 1, 7, 8, 2, 3, 4, 5, 6, 9, 10, 11, 12, 13, 14, 15, 16, 17, 18, 19, 20, 21, 22, 23, 24, 25, 26, 27, 28, 29, 30, 31, 32, 33, 34, 35, 36, 37, 38, 39, 40, 41, 42, 47, 48, 49, 50, 51, 52, 53, 54, 55, 56, 57, 58, 59, 60, 61, 62, 63] (by decide +kernel) (by decide +kernel)
set_option maxRecDepth 20000 in
theorem gX11_readsItem_X11_readsTwo : GoodIn wsX11_readsItem (wsV RX11 106 RX11 yX11_readsTwo wsX11_readsTwo) := goodIn_app (goodIn_of _ (by decide +kernel)) ggX11_readsItem_X11_readsTwo
theorem dX11_readsItem_0 : decode cX11_readsItem 0 = .ok (.iload_n 1, 1) := by decide +kernel
theorem dX11_readsItem_1 : decode cX11_readsItem 1 = .ok (.ifCond .ne 29, 3) := by decide +kernel
theorem dX11_readsItem_4 : decode cX11_readsItem 4 = .ok (.aload_n 0, 1) := by decide +kernel
theorem dX11_readsItem_5 : decode cX11_readsItem 5 = .ok (.iconst 1, 1) := by decide +kernel
theorem dX11_readsItem_6 : decode cX11_readsItem 6 = .ok (.bipush 8, 2) := by decide +kernel
theorem dX11_readsItem_8 : decode cX11_readsItem 8 = .ok (.invokevirtual 102, 3) := by decide +kernel
theorem dX11_readsItem_11 : decode cX11_readsItem 11 = .ok (.istore_n 2, 1) := by decide +kernel
theorem dX11_readsItem_12 : decode cX11_readsItem 12 = .ok (.aload_n 0, 1) := by decide +kernel
theorem dX11_readsItem_13 : decode cX11_readsItem 13 = .ok (.invokevirtual 91, 3) := by decide +kernel
theorem dX11_readsItem_16 : decode cX11_readsItem 16 = .ok (.ifCond .eq 11, 3) := by decide +kernel
theorem dX11_readsItem_19 : decode cX11_readsItem 19 = .ok (.aload_n 0, 1) := by decide +kernel
theorem dX11_readsItem_20 : decode cX11_readsItem 20 = .ok (.getfield 13, 3) := by decide +kernel
theorem dX11_readsItem_23 : decode cX11_readsItem 23 = .ok (.bipush 94, 2) := by decide +kernel
theorem dX11_readsItem_25 : decode cX11_readsItem 25 = .ok (.iload_n 2, 1) := by decide +kernel
theorem dX11_readsItem_26 : decode cX11_readsItem 26 = .ok (.iastore, 1) := by decide +kernel
theorem dX11_readsItem_27 : decode cX11_readsItem 27 = .ok (.goto 102, 3) := by decide +kernel
theorem dX11_readsItem_30 : decode cX11_readsItem 30 = .ok (.iload_n 1, 1) := by decide +kernel
theorem dX11_readsItem_31 : decode cX11_readsItem 31 = .ok (.iconst 1, 1) := by decide +kernel
theorem dX11_readsItem_32 : decode cX11_readsItem 32 = .ok (.if_icmp .ne 45, 3) := by decide +kernel
theorem dX11_readsItem_35 : decode cX11_readsItem 35 = .ok (.aload_n 0, 1) := by decide +kernel
theorem dX11_readsItem_36 : decode cX11_readsItem 36 = .ok (.iconst 0, 1) := by decide +kernel
theorem dX11_readsItem_37 : decode cX11_readsItem 37 = .ok (.aload_n 0, 1) := by decide +kernel
