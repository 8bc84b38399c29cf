theorem dX11_now_66 : decode cX11_now 66 = .ok (.invokevirtual 154, 3) := by decide +kernel
theorem dX11_now_69 : decode cX11_now 69 = .ok (.goto 5, 3) := by decide +kernel
theorem dX11_now_72 : decode cX11_now 72 = .ok (.ldc 124, 2) := by decide +kernel
theorem dX11_now_74 : decode cX11_now 74 = .ok (.ireturn, 1) := by decide +kernel
theorem dX11_firstRow_0 : decode cX11_firstRow 0 = .ok (.iconst 0, 1) := by decide +kernel
theorem dX11_firstRow_1 : decode cX11_firstRow 1 = .ok (.istore_n 1, 1) := by decide +kernel
theorem dX11_firstRow_2 : decode cX11_firstRow 2 = .ok (.iload_n 1, 1) := by decide +kernel
theorem dX11_firstRow_3 : decode cX11_firstRow 3 = .ok (.bipush 8, 2) := by decide +kernel
theorem dX11_firstRow_5 : decode cX11_firstRow 5 = .ok (.if_icmp .ge 16, 3) := by decide +kernel
theorem dX11_firstRow_8 : decode cX11_firstRow 8 = .ok (.aload_n 0, 1) := by decide +kernel
theorem dX11_firstRow_9 : decode cX11_firstRow 9 = .ok (.getfield 26, 3) := by decide +kernel
theorem dX11_firstRow_12 : decode cX11_firstRow 12 = .ok (.iload_n 1, 1) := by decide +kernel
theorem dX11_firstRow_13 : decode cX11_firstRow 13 = .ok (.iconst 0, 1) := by decide +kernel
theorem dX11_firstRow_14 : decode cX11_firstRow 14 = .ok (.iastore, 1) := by decide +kernel
theorem dX11_firstRow_15 : decode cX11_firstRow 15 = .ok (.iinc 1 1, 3) := by decide +kernel
theorem dX11_firstRow_18 : decode cX11_firstRow 18 = .ok (.goto (-16), 3) := by decide +kernel
theorem dX11_firstRow_21 : decode cX11_firstRow 21 = .ok (.return_, 1) := by decide +kernel
set_option maxRecDepth 20000 in
theorem ggX11_nextRow_X11_guests : GoodIn wsX11_nextRow wsX11_guests := goodIn_r _ [6, 7, 8, 9, 10, 11, 12, 13, 14, 15, 16, 17, 18, 19, 20, 21, 22, 23, 24] (by decide +kernel) (by decide +kernel)
set_option maxRecDepth 20000 in
theorem gX11_nextRow_X11_guests : GoodIn wsX11_nextRow (wsV RX11 112 RX11 yX11_guests wsX11_guests) := goodIn_app (goodIn_of _ (by decide +kernel)) ggX11_nextRow_X11_guests
theorem dX11_nextRow_0 : decode cX11_nextRow 0 = .ok (.aload_n 0, 1) := by decide +kernel
theorem dX11_nextRow_1 : decode cX11_nextRow 1 = .ok (.invokevirtual 112, 3) := by decide +kernel
theorem dX11_nextRow_4 : decode cX11_nextRow 4 = .ok (.iconst 1, 1) := by decide +kernel
theorem dX11_nextRow_5 : decode cX11_nextRow 5 = .ok (.isub, 1) := by decide +kernel
theorem dX11_nextRow_6 : decode cX11_nextRow 6 = .ok (.istore_n 1, 1) := by decide +kernel
theorem dX11_nextRow_7 : decode cX11_nextRow 7 = .ok (.iload_n 1, 1) := by decide +kernel
theorem dX11_nextRow_8 : decode cX11_nextRow 8 = .ok (.ifCond .le 92, 3) := by decide +kernel
theorem dX11_nextRow_11 : decode cX11_nextRow 11 = .ok (.iconst (-1), 1) := by decide +kernel
theorem dX11_nextRow_12 : decode cX11_nextRow 12 = .ok (.istore_n 2, 1) := by decide +kernel
theorem dX11_nextRow_13 : decode cX11_nextRow 13 = .ok (.iconst 0, 1) := by decide +kernel
theorem dX11_nextRow_14 : decode cX11_nextRow 14 = .ok (.istore_n 3, 1) := by decide +kernel
theorem dX11_nextRow_15 : decode cX11_nextRow 15 = .ok (.iload_n 3, 1) := by decide +kernel
theorem dX11_nextRow_16 : decode cX11_nextRow 16 = .ok (.iload_n 1, 1) := by decide +kernel
theorem dX11_nextRow_17 : decode cX11_nextRow 17 = .ok (.if_icmp .ge 30, 3) := by decide +kernel
theorem dX11_nextRow_20 : decode cX11_nextRow 20 = .ok (.aload_n 0, 1) := by decide +kernel
theorem dX11_nextRow_21 : decode cX11_nextRow 21 = .ok (.getfield 26, 3) := by decide +kernel
theorem dX11_nextRow_24 : decode cX11_nextRow 24 = .ok (.iload_n 3, 1) := by decide +kernel
theorem dX11_nextRow_25 : decode cX11_nextRow 25 = .ok (.iaload, 1) := by decide +kernel
theorem dX11_nextRow_26 : decode cX11_nextRow 26 = .ok (.iload_n 2, 1) := by decide +kernel
theorem dX11_nextRow_27 : decode cX11_nextRow 27 = .ok (.if_icmp .le 12, 3) := by decide +kernel
theorem dX11_nextRow_30 : decode cX11_nextRow 30 = .ok (.aload_n 0, 1) := by decide +kernel
theorem dX11_nextRow_31 : decode cX11_nextRow 31 = .ok (.getfield 26, 3) := by decide +kernel
theorem dX11_nextRow_34 : decode cX11_nextRow 34 = .ok (.iload_n 3, 1) := by decide +kernel
theorem dX11_nextRow_35 : decode cX11_nextRow 35 = .ok (.iaload, 1) := by decide +kernel
theorem dX11_nextRow_36 : decode cX11_nextRow 36 = .ok (.goto 4, 3) := by decide +kernel
theorem dX11_nextRow_39 : decode cX11_nextRow 39 = .ok (.iload_n 2, 1) := by decide +kernel
theorem dX11_nextRow_40 : decode cX11_nextRow 40 = .ok (.istore_n 2, 1) := by decide +kernel
theorem dX11_nextRow_41 : decode cX11_nextRow 41 = .ok (.iinc 3 1, 3) := by decide +kernel
theorem dX11_nextRow_44 : decode cX11_nextRow 44 = .ok (.goto (-29), 3) := by decide +kernel
theorem dX11_nextRow_47 : decode cX11_nextRow 47 = .ok (.aload_n 0, 1) := by decide +kernel
theorem dX11_nextRow_48 : decode cX11_nextRow 48 = .ok (.getfield 26, 3) := by decide +kernel
theorem dX11_nextRow_51 : decode cX11_nextRow 51 = .ok (.iload_n 1, 1) := by decide +kernel
theorem dX11_nextRow_52 : decode cX11_nextRow 52 = .ok (.iaload, 1) := by decide +kernel
theorem dX11_nextRow_53 : decode cX11_nextRow 53 = .ok (.iload_n 2, 1) := by decide +kernel
theorem dX11_nextRow_54 : decode cX11_nextRow 54 = .ok (.if_icmp .gt 40, 3) := by decide +kernel
theorem dX11_nextRow_57 : decode cX11_nextRow 57 = .ok (.aload_n 0, 1) := by decide +kernel
theorem dX11_nextRow_58 : decode cX11_nextRow 58 = .ok (.getfield 26, 3) := by decide +kernel
theorem dX11_nextRow_61 : decode cX11_nextRow 61 = .ok (.iload_n 1, 1) := by decide +kernel
theorem dX11_nextRow_62 : decode cX11_nextRow 62 = .ok (.dup2, 1) := by decide +kernel
theorem dX11_nextRow_63 : decode cX11_nextRow 63 = .ok (.iaload, 1) := by decide +kernel
theorem dX11_nextRow_64 : decode cX11_nextRow 64 = .ok (.iconst 1, 1) := by decide +kernel
theorem dX11_nextRow_65 : decode cX11_nextRow 65 = .ok (.iadd, 1) := by decide +kernel
theorem dX11_nextRow_66 : decode cX11_nextRow 66 = .ok (.iastore, 1) := by decide +kernel
theorem dX11_nextRow_67 : decode cX11_nextRow 67 = .ok (.iload_n 1, 1) := by decide +kernel
theorem dX11_nextRow_68 : decode cX11_nextRow 68 = .ok (.iconst 1, 1) := by decide +kernel
theorem dX11_nextRow_69 : decode cX11_nextRow 69 = .ok (.iadd, 1) := by decide +kernel
theorem dX11_nextRow_70 : decode cX11_nextRow 70 = .ok (.istore_n 3, 1) := by decide +kernel
theorem dX11_nextRow_71 : decode cX11_nextRow 71 = .ok (.iload_n 3, 1) := by decide +kernel
theorem dX11_nextRow_72 : decode cX11_nextRow 72 = .ok (.aload_n 0, 1) := by decide +kernel
theorem dX11_nextRow_73 : decode cX11_nextRow 73 = .ok (.invokevirtual 112, 3) := by decide +kernel
theorem dX11_nextRow_76 : decode cX11_nextRow 76 = .ok (.if_icmp .ge 16, 3) := by decide +kernel
theorem dX11_nextRow_79 : decode cX11_nextRow 79 = .ok (.aload_n 0, 1) := by decide +kernel
theorem dX11_nextRow_80 : decode cX11_nextRow 80 = .ok (.getfield 26, 3) := by decide +kernel
theorem dX11_nextRow_83 : decode cX11_nextRow 83 = .ok (.iload_n 3, 1) := by decide +kernel
theorem dX11_nextRow_84 : decode cX11_nextRow 84 = .ok (.iconst 0, 1) := by decide +kernel
theorem dX11_nextRow_85 : decode cX11_nextRow 85 = .ok (.iastore, 1) := by decide +kernel
theorem dX11_nextRow_86 : decode cX11_nextRow 86 = .ok (.iinc 3 1, 3) := by decide +kernel
theorem dX11_nextRow_89 : decode cX11_nextRow 89 = .ok (.goto (-18), 3) := by decide +kernel
theorem dX11_nextRow_92 : decode cX11_nextRow 92 = .ok (.iconst 1, 1) := by decide +kernel
theorem dX11_nextRow_93 : decode cX11_nextRow 93 = .ok (.ireturn, 1) := by decide +kernel
theorem dX11_nextRow_94 : decode cX11_nextRow 94 = .ok (.iinc 1 (-1), 3) := by decide +kernel
theorem dX11_nextRow_97 : decode cX11_nextRow 97 = .ok (.goto (-90), 3) := by decide +kernel
theorem dX11_nextRow_100 : decode cX11_nextRow 100 = .ok (.iconst 0, 1) := by decide +kernel
theorem dX11_nextRow_101 : decode cX11_nextRow 101 = .ok (.ireturn, 1) := by decide +kernel
set_option maxRecDepth 20000 in
theorem ggX11_manyOf_X11_firstRow : GoodIn wsX11_manyOf wsX11_firstRow := goodIn_r _ [6, 1, 36, 37, 38, 39, 40, 41, 42, 43, 44, 45, 46, 47, 48, 49, 50, 51, 52] (by decide +kernel) (by decide +kernel)
set_option maxRecDepth 20000 in
theorem gX11_manyOf_X11_firstRow : GoodIn wsX11_manyOf (wsV RX11 157 RX11 yX11_firstRow wsX11_firstRow) := goodIn_app (goodIn_of _ (by decide +kernel)) ggX11_manyOf_X11_firstRow
set_option maxRecDepth 20000 in
theorem ggX11_manyOf_X11_partiesOf : GoodIn wsX11_manyOf wsX11_partiesOf := goodIn_r _ [10, 11, 12, 13, 5, 14, 15, 36, 37, 38, 39, 40, 41, 42, 43, 44, 45, 46, 47, 48, 49, 50, 51, 52] (by decide +kernel) (by decide +kernel)
set_option maxRecDepth 20000 in
theorem gX11_manyOf_X11_partiesOf : GoodIn wsX11_manyOf (wsV RX11 125 RX11 yX11_partiesOf wsX11_partiesOf) := goodIn_app (goodIn_of _ (by decide +kernel)) ggX11_manyOf_X11_partiesOf
set_option maxRecDepth 20000 in
theorem ggX11_manyOf_X11_isLawful : GoodIn wsX11_manyOf wsX11_isLawful := goodIn_r _ [19, 15, 7, 8, 9, 5, 10, 11, 12, 13, 14, 20, 21, 22, 23, 24, 25, 26, 27, 28, 29, 30, 31, 36, 37, 38, 39, 40, 41, 42, 43, 44, 45, 46, 47, 48, 49, 50, 51, 52] (by decide +kernel) (by decide +kernel)
set_option maxRecDepth 20000 in
theorem gX11_manyOf_X11_isLawful : GoodIn wsX11_manyOf (wsV RX11 148 RX11 yX11_isLawful wsX11_isLawful) := goodIn_app (goodIn_of _ (by decide +kernel)) ggX11_manyOf_X11_isLawful
set_option maxRecDepth 20000 in
theorem ggX11_manyOf_X11_nextRow : GoodIn wsX11_manyOf wsX11_nextRow := goodIn_r _ [35, 1, 11, 12, 13, 5, 14, 15, 36, 37, 38, 39, 40, 41, 42, 43, 44, 45, 46, 47, 48, 49, 50, 51, 52] (by decide +kernel) (by decide +kernel)
set_option maxRecDepth 20000 in
theorem gX11_manyOf_X11_nextRow : GoodIn wsX11_manyOf (wsV RX11 160 RX11 yX11_nextRow wsX11_nextRow) := goodIn_app (goodIn_of _ (by decide +kernel)) ggX11_manyOf_X11_nextRow
theorem dX11_manyOf_0 : decode cX11_manyOf 0 = .ok (.iconst 0, 1) := by decide +kernel
theorem dX11_manyOf_1 : decode cX11_manyOf 1 = .ok (.istore_n 2, 1) := by decide +kernel
theorem dX11_manyOf_2 : decode cX11_manyOf 2 = .ok (.aload_n 0, 1) := by decide +kernel
theorem dX11_manyOf_3 : decode cX11_manyOf 3 = .ok (.invokevirtual 157, 3) := by decide +kernel
theorem dX11_manyOf_6 : decode cX11_manyOf 6 = .ok (.iconst 1, 1) := by decide +kernel
theorem dX11_manyOf_7 : decode cX11_manyOf 7 = .ok (.istore_n 3, 1) := by decide +kernel
theorem dX11_manyOf_8 : decode cX11_manyOf 8 = .ok (.iload_n 3, 1) := by decide +kernel
theorem dX11_manyOf_9 : decode cX11_manyOf 9 = .ok (.ifCond .eq 46, 3) := by decide +kernel
theorem dX11_manyOf_12 : decode cX11_manyOf 12 = .ok (.iload_n 2, 1) := by decide +kernel
theorem dX11_manyOf_13 : decode cX11_manyOf 13 = .ok (.iload_n 1, 1) := by decide +kernel
theorem dX11_manyOf_14 : decode cX11_manyOf 14 = .ok (.ifCond .eq 15, 3) := by decide +kernel
theorem dX11_manyOf_17 : decode cX11_manyOf 17 = .ok (.aload_n 0, 1) := by decide +kernel
theorem dX11_manyOf_18 : decode cX11_manyOf 18 = .ok (.aload_n 0, 1) := by decide +kernel
theorem dX11_manyOf_19 : decode cX11_manyOf 19 = .ok (.getfield 26, 3) := by decide +kernel
theorem dX11_manyOf_22 : decode cX11_manyOf 22 = .ok (.invokevirtual 125, 3) := by decide +kernel
theorem dX11_manyOf_25 : decode cX11_manyOf 25 = .ok (.iload_n 1, 1) := by decide +kernel
theorem dX11_manyOf_26 : decode cX11_manyOf 26 = .ok (.if_icmp .ne 18, 3) := by decide +kernel
theorem dX11_manyOf_29 : decode cX11_manyOf 29 = .ok (.aload_n 0, 1) := by decide +kernel
theorem dX11_manyOf_30 : decode cX11_manyOf 30 = .ok (.aload_n 0, 1) := by decide +kernel
theorem dX11_manyOf_31 : decode cX11_manyOf 31 = .ok (.getfield 26, 3) := by decide +kernel
theorem dX11_manyOf_34 : decode cX11_manyOf 34 = .ok (.invokevirtual 148, 3) := by decide +kernel
theorem dX11_manyOf_37 : decode cX11_manyOf 37 = .ok (.ifCond .eq 7, 3) := by decide +kernel
theorem dX11_manyOf_40 : decode cX11_manyOf 40 = .ok (.iconst 1, 1) := by decide +kernel
theorem dX11_manyOf_41 : decode cX11_manyOf 41 = .ok (.goto 4, 3) := by decide +kernel
theorem dX11_manyOf_44 : decode cX11_manyOf 44 = .ok (.iconst 0, 1) := by decide +kernel
theorem dX11_manyOf_45 : decode cX11_manyOf 45 = .ok (.iadd, 1) := by decide +kernel
theorem dX11_manyOf_46 : decode cX11_manyOf 46 = .ok (.istore_n 2, 1) := by decide +kernel
theorem dX11_manyOf_47 : decode cX11_manyOf 47 = .ok (.aload_n 0, 1) := by decide +kernel
theorem dX11_manyOf_48 : decode cX11_manyOf 48 = .ok (.invokevirtual 160, 3) := by decide +kernel
theorem dX11_manyOf_51 : decode cX11_manyOf 51 = .ok (.istore_n 3, 1) := by decide +kernel
theorem dX11_manyOf_52 : decode cX11_manyOf 52 = .ok (.goto (-44), 3) := by decide +kernel
theorem dX11_manyOf_55 : decode cX11_manyOf 55 = .ok (.iload_n 2, 1) := by decide +kernel
theorem dX11_manyOf_56 : decode cX11_manyOf 56 = .ok (.ireturn, 1) := by decide +kernel
set_option maxRecDepth 20000 in
theorem ggX11_many_X11_in : GoodIn wsX11_many wsX11_in := goodIn_r _ [5] (by decide +kernel) (by decide +kernel)
set_option maxRecDepth 20000 in
theorem gX11_many_X11_in : GoodIn wsX11_many (va_wsS RX11 49 yX11_in wsX11_in) := goodIn_app (goodIn_of _ (by decide +kernel)) ggX11_many_X11_in
set_option maxRecDepth 20000 in
theorem ggX11_many_X11_manyOf : GoodIn wsX11_many wsX11_manyOf := goodIn_r _ [9, 10, 11, 12, 13, 4, 14, 15, 16, 17, 18, 19, 20, 21, 22, 23, 24, 25, 26, 27, 28, 29, 30, 31, 32, 33, 34, 35, 36, 37, 38, 39, 40, 41, 42, 43, 44, 45, 46, 47, 48, 49, 50, 51, 52, 53, 54, 55, 56, 57, 58, 59, 60] (by decide +kernel) (by decide +kernel)
set_option maxRecDepth 20000 in
theorem gX11_many_X11_manyOf : GoodIn wsX11_many (wsV RX11 163 RX11 yX11_manyOf wsX11_manyOf) := goodIn_app (goodIn_of _ (by decide +kernel)) ggX11_many_X11_manyOf
theorem dX11_many_0 : decode cX11_many 0 = .ok (.aload_n 0, 1) := by decide +kernel
theorem dX11_many_1 : decode cX11_many 1 = .ok (.iconst 0, 1) := by decide +kernel
theorem dX11_many_2 : decode cX11_many 2 = .ok (.putfield 45, 3) := by decide +kernel
theorem dX11_many_5 : decode cX11_many 5 = .ok (.iload_n 1, 1) := by decide +kernel
theorem dX11_many_6 : decode cX11_many 6 = .ok (.iconst 0, 1) := by decide +kernel
theorem dX11_many_7 : decode cX11_many 7 = .ok (.bipush 8, 2) := by decide +kernel
theorem dX11_many_9 : decode cX11_many 9 = .ok (.invokestatic 49, 3) := by decide +kernel
theorem dX11_many_12 : decode cX11_many 12 = .ok (.ifCond .eq 11, 3) := by decide +kernel
theorem dX11_many_15 : decode cX11_many 15 = .ok (.aload_n 0, 1) := by decide +kernel
theorem dX11_many_16 : decode cX11_many 16 = .ok (.iload_n 1, 1) := by decide +kernel
theorem dX11_many_17 : decode cX11_many 17 = .ok (.invokevirtual 163, 3) := by decide +kernel
theorem dX11_many_20 : decode cX11_many 20 = .ok (.goto 4, 3) := by decide +kernel
theorem dX11_many_23 : decode cX11_many 23 = .ok (.iconst (-1), 1) := by decide +kernel
theorem dX11_many_24 : decode cX11_many 24 = .ok (.ireturn, 1) := by decide +kernel
set_option maxRecDepth 20000 in
theorem ggX11_rank_X11_isLawful : GoodIn wsX11_rank wsX11_isLawful := goodIn_r _ [8, 9, 10, 11, 12, 7, 13, 14, 15, 16, 17, 18, 19, 20, 21, 22, 23, 24, 25, 26, 27, 28, 29, 38, 39, 40, 41, 42, 43, 44, 45, 46, 47, 48, 49, 50, 51, 52, 53, 54] (by decide +kernel) (by decide +kernel)
set_option maxRecDepth 20000 in
theorem gX11_rank_X11_isLawful : GoodIn wsX11_rank (wsV RX11 148 RX11 yX11_isLawful wsX11_isLawful) := goodIn_app (goodIn_of _ (by decide +kernel)) ggX11_rank_X11_isLawful
set_option maxRecDepth 20000 in
theorem ggX11_rank_X11_firstRow : GoodIn wsX11_rank wsX11_firstRow := goodIn_r _ [33, 3, 38, 39, 40, 41, 42, 43, 44, 45, 46, 47, 48, 49, 50, 51, 52, 53, 54] (by decide +kernel) (by decide +kernel)
set_option maxRecDepth 20000 in
theorem gX11_rank_X11_firstRow : GoodIn wsX11_rank (wsV RX11 157 RX11 yX11_firstRow wsX11_firstRow) := goodIn_app (goodIn_of _ (by decide +kernel)) ggX11_rank_X11_firstRow
set_option maxRecDepth 20000 in
theorem ggX11_rank_X11_guests : GoodIn wsX11_rank wsX11_guests := goodIn_r _ [17, 9, 38, 39, 40, 41, 42, 43, 44, 45, 46, 47, 48, 49, 50, 51, 52, 53, 54] (by decide +kernel) (by decide +kernel)
set_option maxRecDepth 20000 in
theorem gX11_rank_X11_guests : GoodIn wsX11_rank (wsV RX11 112 RX11 yX11_guests wsX11_guests) := goodIn_app (goodIn_of _ (by decide +kernel)) ggX11_rank_X11_guests
set_option maxRecDepth 20000 in
theorem ggX11_rank_X11_nextRow : GoodIn wsX11_rank wsX11_nextRow := goodIn_r _ [37, 3, 14, 15, 16, 7, 17, 9, 38, 39, 40, 41, 42, 43, 44, 45, 46, 47, 48, 49, 50, 51, 52, 53, 54] (by decide +kernel) (by decide +kernel)
set_option maxRecDepth 20000 in
theorem gX11_rank_X11_nextRow : GoodIn wsX11_rank (wsV RX11 160 RX11 yX11_nextRow wsX11_nextRow) := goodIn_app (goodIn_of _ (by decide +kernel)) ggX11_rank_X11_nextRow
theorem dX11_rank_0 : decode cX11_rank 0 = .ok (.aload_n 0, 1) := by decide +kernel
theorem dX11_rank_1 : decode cX11_rank 1 = .ok (.iconst 0, 1) := by decide +kernel
theorem dX11_rank_2 : decode cX11_rank 2 = .ok (.putfield 45, 3) := by decide +kernel
theorem dX11_rank_5 : decode cX11_rank 5 = .ok (.aload_n 0, 1) := by decide +kernel
theorem dX11_rank_6 : decode cX11_rank 6 = .ok (.aload_n 0, 1) := by decide +kernel
theorem dX11_rank_7 : decode cX11_rank 7 = .ok (.getfield 16, 3) := by decide +kernel
theorem dX11_rank_10 : decode cX11_rank 10 = .ok (.invokevirtual 148, 3) := by decide +kernel
theorem dX11_rank_13 : decode cX11_rank 13 = .ok (.ifCond .ne 6, 3) := by decide +kernel
theorem dX11_rank_16 : decode cX11_rank 16 = .ok (.bipush (-9), 2) := by decide +kernel
theorem dX11_rank_18 : decode cX11_rank 18 = .ok (.ireturn, 1) := by decide +kernel
theorem dX11_rank_19 : decode cX11_rank 19 = .ok (.iconst 0, 1) := by decide +kernel
theorem dX11_rank_20 : decode cX11_rank 20 = .ok (.istore_n 1, 1) := by decide +kernel
theorem dX11_rank_21 : decode cX11_rank 21 = .ok (.aload_n 0, 1) := by decide +kernel
theorem dX11_rank_22 : decode cX11_rank 22 = .ok (.invokevirtual 157, 3) := by decide +kernel
theorem dX11_rank_25 : decode cX11_rank 25 = .ok (.iconst 1, 1) := by decide +kernel
theorem dX11_rank_26 : decode cX11_rank 26 = .ok (.istore_n 2, 1) := by decide +kernel
theorem dX11_rank_27 : decode cX11_rank 27 = .ok (.iload_n 2, 1) := by decide +kernel
theorem dX11_rank_28 : decode cX11_rank 28 = .ok (.ifCond .eq 83, 3) := by decide +kernel
theorem dX11_rank_31 : decode cX11_rank 31 = .ok (.iconst 1, 1) := by decide +kernel
theorem dX11_rank_32 : decode cX11_rank 32 = .ok (.istore_n 3, 1) := by decide +kernel
theorem dX11_rank_33 : decode cX11_rank 33 = .ok (.iconst 0, 1) := by decide +kernel
theorem dX11_rank_34 : decode cX11_rank 34 = .ok (.istore 4, 2) := by decide +kernel
theorem dX11_rank_36 : decode cX11_rank 36 = .ok (.iload 4, 2) := by decide +kernel
theorem dX11_rank_38 : decode cX11_rank 38 = .ok (.aload_n 0, 1) := by decide +kernel
theorem dX11_rank_39 : decode cX11_rank 39 = .ok (.invokevirtual 112, 3) := by decide +kernel
theorem dX11_rank_42 : decode cX11_rank 42 = .ok (.if_icmp .ge 36, 3) := by decide +kernel
theorem dX11_rank_45 : decode cX11_rank 45 = .ok (.iload_n 3, 1) := by decide +kernel
theorem dX11_rank_46 : decode cX11_rank 46 = .ok (.ifCond .eq 24, 3) := by decide +kernel
theorem dX11_rank_49 : decode cX11_rank 49 = .ok (.aload_n 0, 1) := by decide +kernel
theorem dX11_rank_50 : decode cX11_rank 50 = .ok (.getfield 26, 3) := by decide +kernel
theorem dX11_rank_53 : decode cX11_rank 53 = .ok (.iload 4, 2) := by decide +kernel
theorem dX11_rank_55 : decode cX11_rank 55 = .ok (.iaload, 1) := by decide +kernel
theorem dX11_rank_56 : decode cX11_rank 56 = .ok (.aload_n 0, 1) := by decide +kernel
theorem dX11_rank_57 : decode cX11_rank 57 = .ok (.getfield 16, 3) := by decide +kernel
theorem dX11_rank_60 : decode cX11_rank 60 = .ok (.iload 4, 2) := by decide +kernel
theorem dX11_rank_62 : decode cX11_rank 62 = .ok (.iaload, 1) := by decide +kernel
theorem dX11_rank_63 : decode cX11_rank 63 = .ok (.if_icmp .ne 7, 3) := by decide +kernel
theorem dX11_rank_66 : decode cX11_rank 66 = .ok (.iconst 1, 1) := by decide +kernel
theorem dX11_rank_67 : decode cX11_rank 67 = .ok (.goto 4, 3) := by decide +kernel
theorem dX11_rank_70 : decode cX11_rank 70 = .ok (.iconst 0, 1) := by decide +kernel
theorem dX11_rank_71 : decode cX11_rank 71 = .ok (.istore_n 3, 1) := by decide +kernel
theorem dX11_rank_72 : decode cX11_rank 72 = .ok (.iinc 4 1, 3) := by decide +kernel
theorem dX11_rank_75 : decode cX11_rank 75 = .ok (.goto (-39), 3) := by decide +kernel
theorem dX11_rank_78 : decode cX11_rank 78 = .ok (.iload_n 3, 1) := by decide +kernel
theorem dX11_rank_79 : decode cX11_rank 79 = .ok (.ifCond .eq 5, 3) := by decide +kernel
theorem dX11_rank_82 : decode cX11_rank 82 = .ok (.iload_n 1, 1) := by decide +kernel
theorem dX11_rank_83 : decode cX11_rank 83 = .ok (.ireturn, 1) := by decide +kernel
theorem dX11_rank_84 : decode cX11_rank 84 = .ok (.iload_n 1, 1) := by decide +kernel
theorem dX11_rank_85 : decode cX11_rank 85 = .ok (.aload_n 0, 1) := by decide +kernel
theorem dX11_rank_86 : decode cX11_rank 86 = .ok (.aload_n 0, 1) := by decide +kernel
theorem dX11_rank_87 : decode cX11_rank 87 = .ok (.getfield 26, 3) := by decide +kernel
theorem dX11_rank_90 : decode cX11_rank 90 = .ok (.invokevirtual 148, 3) := by decide +kernel
theorem dX11_rank_93 : decode cX11_rank 93 = .ok (.ifCond .eq 7, 3) := by decide +kernel
theorem dX11_rank_96 : decode cX11_rank 96 = .ok (.iconst 1, 1) := by decide +kernel
theorem dX11_rank_97 : decode cX11_rank 97 = .ok (.goto 4, 3) := by decide +kernel
theorem dX11_rank_100 : decode cX11_rank 100 = .ok (.iconst 0, 1) := by decide +kernel
theorem dX11_rank_101 : decode cX11_rank 101 = .ok (.iadd, 1) := by decide +kernel
theorem dX11_rank_102 : decode cX11_rank 102 = .ok (.istore_n 1, 1) := by decide +kernel
theorem dX11_rank_103 : decode cX11_rank 103 = .ok (.aload_n 0, 1) := by decide +kernel
theorem dX11_rank_104 : decode cX11_rank 104 = .ok (.invokevirtual 160, 3) := by decide +kernel
theorem dX11_rank_107 : decode cX11_rank 107 = .ok (.istore_n 2, 1) := by decide +kernel
theorem dX11_rank_108 : decode cX11_rank 108 = .ok (.goto (-81), 3) := by decide +kernel
theorem dX11_rank_111 : decode cX11_rank 111 = .ok (.bipush (-9), 2) := by decide +kernel
theorem dX11_rank_113 : decode cX11_rank 113 = .ok (.ireturn, 1) := by decide +kernel
set_option maxRecDepth 20000 in
theorem ggX11_finds_X11_firstRow : GoodIn wsX11_finds wsX11_firstRow := goodIn_r _ [6, 1, 36, 37, 38, 39, 40, 41, 42, 43, 44, 45, 46, 47, 48, 49, 50, 51, 52] (by decide +kernel) (by decide +kernel)
set_option maxRecDepth 20000 in
theorem gX11_finds_X11_firstRow : GoodIn wsX11_finds (wsV RX11 157 RX11 yX11_firstRow wsX11_firstRow) := goodIn_app (goodIn_of _ (by decide +kernel)) ggX11_finds_X11_firstRow
set_option maxRecDepth 20000 in
theorem ggX11_finds_X11_isLawful : GoodIn wsX11_finds wsX11_isLawful := goodIn_r _ [10, 11, 12, 13, 14, 5, 15, 16, 17, 18, 19, 20, 21, 22, 23, 24, 25, 26, 27, 28, 29, 30, 31, 36, 37, 38, 39, 40, 41, 42, 43, 44, 45, 46, 47, 48, 49, 50, 51, 52] (by decide +kernel) (by decide +kernel)
set_option maxRecDepth 20000 in
theorem gX11_finds_X11_isLawful : GoodIn wsX11_finds (wsV RX11 148 RX11 yX11_isLawful wsX11_isLawful) := goodIn_app (goodIn_of _ (by decide +kernel)) ggX11_finds_X11_isLawful
set_option maxRecDepth 20000 in
theorem ggX11_finds_X11_nextRow : GoodIn wsX11_finds wsX11_nextRow := goodIn_r _ [35, 1, 16, 17, 18, 5, 19, 11, 36, 37, 38, 39, 40, 41, 42, 43, 44, 45, 46, 47, 48, 49, 50, 51, 52] (by decide +kernel) (by decide +kernel)
set_option maxRecDepth 20000 in
theorem gX11_finds_X11_nextRow : GoodIn wsX11_finds (wsV RX11 160 RX11 yX11_nextRow wsX11_nextRow) := goodIn_app (goodIn_of _ (by decide +kernel)) ggX11_finds_X11_nextRow
theorem dX11_finds_0 : decode cX11_finds 0 = .ok (.iconst 0, 1) := by decide +kernel
theorem dX11_finds_1 : decode cX11_finds 1 = .ok (.istore_n 2, 1) := by decide +kernel
theorem dX11_finds_2 : decode cX11_finds 2 = .ok (.aload_n 0, 1) := by decide +kernel
theorem dX11_finds_3 : decode cX11_finds 3 = .ok (.invokevirtual 157, 3) := by decide +kernel
theorem dX11_finds_6 : decode cX11_finds 6 = .ok (.iconst 1, 1) := by decide +kernel
theorem dX11_finds_7 : decode cX11_finds 7 = .ok (.istore_n 3, 1) := by decide +kernel
theorem dX11_finds_8 : decode cX11_finds 8 = .ok (.iload_n 3, 1) := by decide +kernel
theorem dX11_finds_9 : decode cX11_finds 9 = .ok (.ifCond .eq 32, 3) := by decide +kernel
theorem dX11_finds_12 : decode cX11_finds 12 = .ok (.aload_n 0, 1) := by decide +kernel
theorem dX11_finds_13 : decode cX11_finds 13 = .ok (.aload_n 0, 1) := by decide +kernel
theorem dX11_finds_14 : decode cX11_finds 14 = .ok (.getfield 26, 3) := by decide +kernel
theorem dX11_finds_17 : decode cX11_finds 17 = .ok (.invokevirtual 148, 3) := by decide +kernel
theorem dX11_finds_20 : decode cX11_finds 20 = .ok (.ifCond .eq 13, 3) := by decide +kernel
theorem dX11_finds_23 : decode cX11_finds 23 = .ok (.iload_n 2, 1) := by decide +kernel
theorem dX11_finds_24 : decode cX11_finds 24 = .ok (.iload_n 1, 1) := by decide +kernel
theorem dX11_finds_25 : decode cX11_finds 25 = .ok (.if_icmp .ne 5, 3) := by decide +kernel
theorem dX11_finds_28 : decode cX11_finds 28 = .ok (.iconst 1, 1) := by decide +kernel
theorem dX11_finds_29 : decode cX11_finds 29 = .ok (.ireturn, 1) := by decide +kernel
theorem dX11_finds_30 : decode cX11_finds 30 = .ok (.iinc 2 1, 3) := by decide +kernel
theorem dX11_finds_33 : decode cX11_finds 33 = .ok (.aload_n 0, 1) := by decide +kernel
theorem dX11_finds_34 : decode cX11_finds 34 = .ok (.invokevirtual 160, 3) := by decide +kernel
theorem dX11_finds_37 : decode cX11_finds 37 = .ok (.istore_n 3, 1) := by decide +kernel
theorem dX11_finds_38 : decode cX11_finds 38 = .ok (.goto (-30), 3) := by decide +kernel
theorem dX11_finds_41 : decode cX11_finds 41 = .ok (.iconst 0, 1) := by decide +kernel
theorem dX11_finds_42 : decode cX11_finds 42 = .ok (.ireturn, 1) := by decide +kernel
set_option maxRecDepth 20000 in
theorem ggX11_nth_X11_isGuest : GoodIn wsX11_nth wsX11_isGuest := goodIn_r _ [7, 8, 9, 10, 6, 11, 12, 13, 14, 15, 48, 49, 50, 51, 52, 53, 54, 55, 56, 57, 58, 59, 60, 61, 62, 63, 64] (by decide +kernel) (by decide +kernel)
set_option maxRecDepth 20000 in
theorem gX11_nth_X11_isGuest : GoodIn wsX11_nth (wsV RX11 116 RX11 yX11_isGuest wsX11_isGuest) := goodIn_app (goodIn_of _ (by decide +kernel)) ggX11_nth_X11_isGuest
set_option maxRecDepth 20000 in
theorem ggX11_nth_X11_finds : GoodIn wsX11_nth wsX11_finds := goodIn_r _ [19, 2, 20, 21, 22, 6, 23, 24, 25, 26, 27, 12, 28, 29, 30, 31, 8, 9, 10, 11, 32, 33, 34, 35, 36, 37, 38, 39, 40, 41, 42, 43, 44, 45, 46, 47, 48, 49, 50, 51, 52, 53, 54, 55, 56, 57, 58, 59, 60, 61, 62, 63, 64] (by decide +kernel) (by decide +kernel)
set_option maxRecDepth 20000 in
theorem gX11_nth_X11_finds : GoodIn wsX11_nth (wsV RX11 166 RX11 yX11_finds wsX11_finds) := goodIn_app (goodIn_of _ (by decide +kernel)) ggX11_nth_X11_finds
theorem dX11_nth_0 : decode cX11_nth 0 = .ok (.aload_n 0, 1) := by decide +kernel
theorem dX11_nth_1 : decode cX11_nth 1 = .ok (.iconst 0, 1) := by decide +kernel
theorem dX11_nth_2 : decode cX11_nth 2 = .ok (.putfield 45, 3) := by decide +kernel
theorem dX11_nth_5 : decode cX11_nth 5 = .ok (.iload_n 1, 1) := by decide +kernel
theorem dX11_nth_6 : decode cX11_nth 6 = .ok (.ifCond .lt 11, 3) := by decide +kernel
theorem dX11_nth_9 : decode cX11_nth 9 = .ok (.aload_n 0, 1) := by decide +kernel
theorem dX11_nth_10 : decode cX11_nth 10 = .ok (.iload_n 2, 1) := by decide +kernel
theorem dX11_nth_11 : decode cX11_nth 11 = .ok (.invokevirtual 116, 3) := by decide +kernel
theorem dX11_nth_14 : decode cX11_nth 14 = .ok (.ifCond .ne 5, 3) := by decide +kernel
theorem dX11_nth_17 : decode cX11_nth 17 = .ok (.iconst (-1), 1) := by decide +kernel
theorem dX11_nth_18 : decode cX11_nth 18 = .ok (.ireturn, 1) := by decide +kernel
theorem dX11_nth_19 : decode cX11_nth 19 = .ok (.aload_n 0, 1) := by decide +kernel
theorem dX11_nth_20 : decode cX11_nth 20 = .ok (.iload_n 1, 1) := by decide +kernel
theorem dX11_nth_21 : decode cX11_nth 21 = .ok (.invokevirtual 166, 3) := by decide +kernel
theorem dX11_nth_24 : decode cX11_nth 24 = .ok (.ifCond .eq 12, 3) := by decide +kernel
theorem dX11_nth_27 : decode cX11_nth 27 = .ok (.aload_n 0, 1) := by decide +kernel
theorem dX11_nth_28 : decode cX11_nth 28 = .ok (.getfield 26, 3) := by decide +kernel
theorem dX11_nth_31 : decode cX11_nth 31 = .ok (.iload_n 2, 1) := by decide +kernel
theorem dX11_nth_32 : decode cX11_nth 32 = .ok (.iaload, 1) := by decide +kernel
theorem dX11_nth_33 : decode cX11_nth 33 = .ok (.goto 5, 3) := by decide +kernel
theorem dX11_nth_36 : decode cX11_nth 36 = .ok (.bipush (-5), 2) := by decide +kernel
theorem dX11_nth_38 : decode cX11_nth 38 = .ok (.ireturn, 1) := by decide +kernel
theorem dX11_draws_0 : decode cX11_draws 0 = .ok (.aload_n 0, 1) := by decide +kernel
theorem dX11_draws_1 : decode cX11_draws 1 = .ok (.getfield 16, 3) := by decide +kernel
theorem dX11_draws_4 : decode cX11_draws 4 = .ok (.bipush 39, 2) := by decide +kernel
theorem dX11_draws_6 : decode cX11_draws 6 = .ok (.aload_n 0, 1) := by decide +kernel
theorem dX11_draws_7 : decode cX11_draws 7 = .ok (.getfield 16, 3) := by decide +kernel
theorem dX11_draws_10 : decode cX11_draws 10 = .ok (.bipush 39, 2) := by decide +kernel
theorem dX11_draws_12 : decode cX11_draws 12 = .ok (.iaload, 1) := by decide +kernel
theorem dX11_draws_13 : decode cX11_draws 13 = .ok (.ldc 169, 2) := by decide +kernel
theorem dX11_draws_15 : decode cX11_draws 15 = .ok (.imul, 1) := by decide +kernel
theorem dX11_draws_16 : decode cX11_draws 16 = .ok (.sipush 12345, 3) := by decide +kernel
theorem dX11_draws_19 : decode cX11_draws 19 = .ok (.iadd, 1) := by decide +kernel
theorem dX11_draws_20 : decode cX11_draws 20 = .ok (.iastore, 1) := by decide +kernel
theorem dX11_draws_21 : decode cX11_draws 21 = .ok (.aload_n 0, 1) := by decide +kernel
theorem dX11_draws_22 : decode cX11_draws 22 = .ok (.getfield 16, 3) := by decide +kernel
theorem dX11_draws_25 : decode cX11_draws 25 = .ok (.bipush 39, 2) := by decide +kernel
theorem dX11_draws_27 : decode cX11_draws 27 = .ok (.iaload, 1) := by decide +kernel
theorem dX11_draws_28 : decode cX11_draws 28 = .ok (.bipush 16, 2) := by decide +kernel
theorem dX11_draws_30 : decode cX11_draws 30 = .ok (.ishr, 1) := by decide +kernel
theorem dX11_draws_31 : decode cX11_draws 31 = .ok (.ldc 170, 2) := by decide +kernel
theorem dX11_draws_33 : decode cX11_draws 33 = .ok (.iand, 1) := by decide +kernel
theorem dX11_draws_34 : decode cX11_draws 34 = .ok (.iload_n 1, 1) := by decide +kernel
theorem dX11_draws_35 : decode cX11_draws 35 = .ok (.irem, 1) := by decide +kernel
theorem dX11_draws_36 : decode cX11_draws 36 = .ok (.ireturn, 1) := by decide +kernel
set_option maxRecDepth 20000 in
theorem ggX11_draw_X11_manyOf : GoodIn wsX11_draw wsX11_manyOf := goodIn_r _ [8, 3, 9, 10, 11, 7, 12, 13, 14, 15, 16, 17, 18, 19, 20, 21, 22, 23, 24, 25, 26, 27, 28, 29, 30, 31, 32, 33, 34, 35, 36, 37, 38, 39, 40, 41, 52, 53, 54, 55, 56, 57, 58, 59, 60, 61, 62, 63, 64, 65, 66, 67, 68] (by decide +kernel) (by decide +kernel)
set_option maxRecDepth 20000 in
theorem gX11_draw_X11_manyOf : GoodIn wsX11_draw (wsV RX11 163 RX11 yX11_manyOf wsX11_manyOf) := goodIn_app (goodIn_of _ (by decide +kernel)) ggX11_draw_X11_manyOf
set_option maxRecDepth 20000 in
theorem ggX11_draw_X11_draws : GoodIn wsX11_draw wsX11_draws := goodIn_r _ [45, 2, 46, 47, 52, 53, 54, 55, 56, 57, 58, 59, 60, 61, 62, 63, 64, 65, 66, 67, 68] (by decide +kernel) (by decide +kernel)
set_option maxRecDepth 20000 in
theorem gX11_draw_X11_draws : GoodIn wsX11_draw (wsV RX11 171 RX11 yX11_draws wsX11_draws) := goodIn_app (goodIn_of _ (by decide +kernel)) ggX11_draw_X11_draws
set_option maxRecDepth 20000 in
theorem ggX11_draw_X11_finds : GoodIn wsX11_draw wsX11_finds := goodIn_r _ [51, 3, 9, 10, 11, 7, 12, 22, 23, 24, 25, 21, 13, 14, 15, 16, 17, 18, 19, 20, 26, 27, 28, 29, 30, 31, 32, 33, 34, 35, 36, 37, 38, 39, 40, 41, 52, 53, 54, 55, 56, 57, 58, 59, 60, 61, 62, 63, 64, 65, 66, 67, 68] (by decide +kernel) (by decide +kernel)
set_option maxRecDepth 20000 in
theorem gX11_draw_X11_finds : GoodIn wsX11_draw (wsV RX11 166 RX11 yX11_finds wsX11_finds) := goodIn_app (goodIn_of _ (by decide +kernel)) ggX11_draw_X11_finds
set_option maxRecDepth 20000 in
theorem ggX11_draw_X11_guests : GoodIn wsX11_draw wsX11_guests := goodIn_r _ [20, 21, 52, 53, 54, 55, 56, 57, 58, 59, 60, 61, 62, 63, 64, 65, 66, 67, 68] (by decide +kernel) (by decide +kernel)
set_option maxRecDepth 20000 in
theorem gX11_draw_X11_guests : GoodIn wsX11_draw (wsV RX11 112 RX11 yX11_guests wsX11_guests) := goodIn_app (goodIn_of _ (by decide +kernel)) ggX11_draw_X11_guests
theorem dX11_draw_0 : decode cX11_draw 0 = .ok (.aload_n 0, 1) := by decide +kernel
theorem dX11_draw_1 : decode cX11_draw 1 = .ok (.iconst 0, 1) := by decide +kernel
theorem dX11_draw_2 : decode cX11_draw 2 = .ok (.putfield 45, 3) := by decide +kernel
theorem dX11_draw_5 : decode cX11_draw 5 = .ok (.aload_n 0, 1) := by decide +kernel
theorem dX11_draw_6 : decode cX11_draw 6 = .ok (.iconst 0, 1) := by decide +kernel
theorem dX11_draw_7 : decode cX11_draw 7 = .ok (.invokevirtual 163, 3) := by decide +kernel
theorem dX11_draw_10 : decode cX11_draw 10 = .ok (.istore_n 1, 1) := by decide +kernel
theorem dX11_draw_11 : decode cX11_draw 11 = .ok (.iload_n 1, 1) := by decide +kernel
theorem dX11_draw_12 : decode cX11_draw 12 = .ok (.ifCond .ne 6, 3) := by decide +kernel
theorem dX11_draw_15 : decode cX11_draw 15 = .ok (.bipush (-2), 2) := by decide +kernel
theorem dX11_draw_17 : decode cX11_draw 17 = .ok (.ireturn, 1) := by decide +kernel
theorem dX11_draw_18 : decode cX11_draw 18 = .ok (.aload_n 0, 1) := by decide +kernel
theorem dX11_draw_19 : decode cX11_draw 19 = .ok (.iload_n 1, 1) := by decide +kernel
theorem dX11_draw_20 : decode cX11_draw 20 = .ok (.invokevirtual 171, 3) := by decide +kernel
theorem dX11_draw_23 : decode cX11_draw 23 = .ok (.istore_n 2, 1) := by decide +kernel
theorem dX11_draw_24 : decode cX11_draw 24 = .ok (.aload_n 0, 1) := by decide +kernel
theorem dX11_draw_25 : decode cX11_draw 25 = .ok (.iload_n 2, 1) := by decide +kernel
theorem dX11_draw_26 : decode cX11_draw 26 = .ok (.invokevirtual 166, 3) := by decide +kernel
theorem dX11_draw_29 : decode cX11_draw 29 = .ok (.pop, 1) := by decide +kernel
theorem dX11_draw_30 : decode cX11_draw 30 = .ok (.iconst 0, 1) := by decide +kernel
theorem dX11_draw_31 : decode cX11_draw 31 = .ok (.istore_n 3, 1) := by decide +kernel
theorem dX11_draw_32 : decode cX11_draw 32 = .ok (.iload_n 3, 1) := by decide +kernel
theorem dX11_draw_33 : decode cX11_draw 33 = .ok (.aload_n 0, 1) := by decide +kernel
theorem dX11_draw_34 : decode cX11_draw 34 = .ok (.invokevirtual 112, 3) := by decide +kernel
theorem dX11_draw_37 : decode cX11_draw 37 = .ok (.if_icmp .ge 21, 3) := by decide +kernel
theorem dX11_draw_40 : decode cX11_draw 40 = .ok (.aload_n 0, 1) := by decide +kernel
theorem dX11_draw_41 : decode cX11_draw 41 = .ok (.getfield 16, 3) := by decide +kernel
theorem dX11_draw_44 : decode cX11_draw 44 = .ok (.iload_n 3, 1) := by decide +kernel
theorem dX11_draw_45 : decode cX11_draw 45 = .ok (.aload_n 0, 1) := by decide +kernel
theorem dX11_draw_46 : decode cX11_draw 46 = .ok (.getfield 26, 3) := by decide +kernel
theorem dX11_draw_49 : decode cX11_draw 49 = .ok (.iload_n 3, 1) := by decide +kernel
theorem dX11_draw_50 : decode cX11_draw 50 = .ok (.iaload, 1) := by decide +kernel
theorem dX11_draw_51 : decode cX11_draw 51 = .ok (.iastore, 1) := by decide +kernel
theorem dX11_draw_52 : decode cX11_draw 52 = .ok (.iinc 3 1, 3) := by decide +kernel
theorem dX11_draw_55 : decode cX11_draw 55 = .ok (.goto (-23), 3) := by decide +kernel
theorem dX11_draw_58 : decode cX11_draw 58 = .ok (.iload_n 2, 1) := by decide +kernel
theorem dX11_draw_59 : decode cX11_draw 59 = .ok (.ireturn, 1) := by decide +kernel
theorem dX11_lot_0 : decode cX11_lot 0 = .ok (.aload_n 0, 1) := by decide +kernel
theorem dX11_lot_1 : decode cX11_lot 1 = .ok (.iconst 0, 1) := by decide +kernel
theorem dX11_lot_2 : decode cX11_lot 2 = .ok (.putfield 45, 3) := by decide +kernel
theorem dX11_lot_5 : decode cX11_lot 5 = .ok (.aload_n 0, 1) := by decide +kernel
theorem dX11_lot_6 : decode cX11_lot 6 = .ok (.getfield 16, 3) := by decide +kernel
theorem dX11_lot_9 : decode cX11_lot 9 = .ok (.bipush 39, 2) := by decide +kernel
theorem dX11_lot_11 : decode cX11_lot 11 = .ok (.iaload, 1) := by decide +kernel
theorem dX11_lot_12 : decode cX11_lot 12 = .ok (.istore_n 2, 1) := by decide +kernel
theorem dX11_lot_13 : decode cX11_lot 13 = .ok (.aload_n 0, 1) := by decide +kernel
theorem dX11_lot_14 : decode cX11_lot 14 = .ok (.getfield 16, 3) := by decide +kernel
theorem dX11_lot_17 : decode cX11_lot 17 = .ok (.bipush 39, 2) := by decide +kernel
theorem dX11_lot_19 : decode cX11_lot 19 = .ok (.iload_n 1, 1) := by decide +kernel
theorem dX11_lot_20 : decode cX11_lot 20 = .ok (.iastore, 1) := by decide +kernel
theorem dX11_lot_21 : decode cX11_lot 21 = .ok (.iload_n 2, 1) := by decide +kernel
theorem dX11_lot_22 : decode cX11_lot 22 = .ok (.ireturn, 1) := by decide +kernel
set_option maxRecDepth 20000 in
theorem ggX11_saw_X11_areTwo : GoodIn wsX11_saw wsX11_areTwo := goodIn_r _ [7, 8, 9, 10, 6, 11, 12, 13, 14, 15, 16, 17, 18, 19, 20, 21, 22, 23, 24, 25, 26, 27, 28, 29, 30, 31, 32, 33, 34, 35, 36] (by decide +kernel) (by decide +kernel)
set_option maxRecDepth 20000 in
theorem gX11_saw_X11_areTwo : GoodIn wsX11_saw (wsV RX11 120 RX11 yX11_areTwo wsX11_areTwo) := goodIn_app (goodIn_of _ (by decide +kernel)) ggX11_saw_X11_areTwo
set_option maxRecDepth 20000 in
theorem ggX11_saw_X11_in : GoodIn wsX11_saw wsX11_in := goodIn_r _ [19] (by decide +kernel) (by decide +kernel)
set_option maxRecDepth 20000 in
theorem gX11_saw_X11_in : GoodIn wsX11_saw (va_wsS RX11 49 yX11_in wsX11_in) := goodIn_app (goodIn_of _ (by decide +kernel)) ggX11_saw_X11_in
theorem dX11_saw_0 : decode cX11_saw 0 = .ok (.aload_n 0, 1) := by decide +kernel
theorem dX11_saw_1 : decode cX11_saw 1 = .ok (.iconst 0, 1) := by decide +kernel
theorem dX11_saw_2 : decode cX11_saw 2 = .ok (.putfield 45, 3) := by decide +kernel
theorem dX11_saw_5 : decode cX11_saw 5 = .ok (.aload_n 0, 1) := by decide +kernel
theorem dX11_saw_6 : decode cX11_saw 6 = .ok (.iload_n 1, 1) := by decide +kernel
theorem dX11_saw_7 : decode cX11_saw 7 = .ok (.iload_n 2, 1) := by decide +kernel
theorem dX11_saw_8 : decode cX11_saw 8 = .ok (.invokevirtual 120, 3) := by decide +kernel
theorem dX11_saw_11 : decode cX11_saw 11 = .ok (.ifCond .eq 12, 3) := by decide +kernel
theorem dX11_saw_14 : decode cX11_saw 14 = .ok (.iload_n 3, 1) := by decide +kernel
theorem dX11_saw_15 : decode cX11_saw 15 = .ok (.iconst 0, 1) := by decide +kernel
theorem dX11_saw_16 : decode cX11_saw 16 = .ok (.iconst 1, 1) := by decide +kernel
theorem dX11_saw_17 : decode cX11_saw 17 = .ok (.invokestatic 49, 3) := by decide +kernel
theorem dX11_saw_20 : decode cX11_saw 20 = .ok (.ifCond .ne 5, 3) := by decide +kernel
theorem dX11_saw_23 : decode cX11_saw 23 = .ok (.iconst (-1), 1) := by decide +kernel
theorem dX11_saw_24 : decode cX11_saw 24 = .ok (.ireturn, 1) := by decide +kernel
theorem dX11_saw_25 : decode cX11_saw 25 = .ok (.aload_n 0, 1) := by decide +kernel
theorem dX11_saw_26 : decode cX11_saw 26 = .ok (.getfield 16, 3) := by decide +kernel
theorem dX11_saw_29 : decode cX11_saw 29 = .ok (.bipush 8, 2) := by decide +kernel
theorem dX11_saw_31 : decode cX11_saw 31 = .ok (.iaload, 1) := by decide +kernel
theorem dX11_saw_32 : decode cX11_saw 32 = .ok (.bipush 10, 2) := by decide +kernel
theorem dX11_saw_34 : decode cX11_saw 34 = .ok (.if_icmp .ne 6, 3) := by decide +kernel
theorem dX11_saw_37 : decode cX11_saw 37 = .ok (.bipush (-3), 2) := by decide +kernel
theorem dX11_saw_39 : decode cX11_saw 39 = .ok (.ireturn, 1) := by decide +kernel
theorem dX11_saw_40 : decode cX11_saw 40 = .ok (.aload_n 0, 1) := by decide +kernel
theorem dX11_saw_41 : decode cX11_saw 41 = .ok (.getfield 16, 3) := by decide +kernel
theorem dX11_saw_44 : decode cX11_saw 44 = .ok (.bipush 9, 2) := by decide +kernel
theorem dX11_saw_46 : decode cX11_saw 46 = .ok (.iconst 3, 1) := by decide +kernel
theorem dX11_saw_47 : decode cX11_saw 47 = .ok (.aload_n 0, 1) := by decide +kernel
theorem dX11_saw_48 : decode cX11_saw 48 = .ok (.getfield 16, 3) := by decide +kernel
theorem dX11_saw_51 : decode cX11_saw 51 = .ok (.bipush 8, 2) := by decide +kernel
theorem dX11_saw_53 : decode cX11_saw 53 = .ok (.iaload, 1) := by decide +kernel
theorem dX11_saw_54 : decode cX11_saw 54 = .ok (.imul, 1) := by decide +kernel
theorem dX11_saw_55 : decode cX11_saw 55 = .ok (.iadd, 1) := by decide +kernel
theorem dX11_saw_56 : decode cX11_saw 56 = .ok (.iload_n 1, 1) := by decide +kernel
theorem dX11_saw_57 : decode cX11_saw 57 = .ok (.iastore, 1) := by decide +kernel
theorem dX11_saw_58 : decode cX11_saw 58 = .ok (.aload_n 0, 1) := by decide +kernel
theorem dX11_saw_59 : decode cX11_saw 59 = .ok (.getfield 16, 3) := by decide +kernel
theorem dX11_saw_62 : decode cX11_saw 62 = .ok (.bipush 9, 2) := by decide +kernel
theorem dX11_saw_64 : decode cX11_saw 64 = .ok (.iconst 3, 1) := by decide +kernel
theorem dX11_saw_65 : decode cX11_saw 65 = .ok (.aload_n 0, 1) := by decide +kernel
theorem dX11_saw_66 : decode cX11_saw 66 = .ok (.getfield 16, 3) := by decide +kernel
theorem dX11_saw_69 : decode cX11_saw 69 = .ok (.bipush 8, 2) := by decide +kernel
theorem dX11_saw_71 : decode cX11_saw 71 = .ok (.iaload, 1) := by decide +kernel
theorem dX11_saw_72 : decode cX11_saw 72 = .ok (.imul, 1) := by decide +kernel
theorem dX11_saw_73 : decode cX11_saw 73 = .ok (.iadd, 1) := by decide +kernel
theorem dX11_saw_74 : decode cX11_saw 74 = .ok (.iconst 1, 1) := by decide +kernel
theorem dX11_saw_75 : decode cX11_saw 75 = .ok (.iadd, 1) := by decide +kernel
theorem dX11_saw_76 : decode cX11_saw 76 = .ok (.iload_n 2, 1) := by decide +kernel
theorem dX11_saw_77 : decode cX11_saw 77 = .ok (.iastore, 1) := by decide +kernel
theorem dX11_saw_78 : decode cX11_saw 78 = .ok (.aload_n 0, 1) := by decide +kernel
theorem dX11_saw_79 : decode cX11_saw 79 = .ok (.getfield 16, 3) := by decide +kernel
theorem dX11_saw_82 : decode cX11_saw 82 = .ok (.bipush 9, 2) := by decide +kernel
theorem dX11_saw_84 : decode cX11_saw 84 = .ok (.iconst 3, 1) := by decide +kernel
theorem dX11_saw_85 : decode cX11_saw 85 = .ok (.aload_n 0, 1) := by decide +kernel
theorem dX11_saw_86 : decode cX11_saw 86 = .ok (.getfield 16, 3) := by decide +kernel
theorem dX11_saw_89 : decode cX11_saw 89 = .ok (.bipush 8, 2) := by decide +kernel
theorem dX11_saw_91 : decode cX11_saw 91 = .ok (.iaload, 1) := by decide +kernel
theorem dX11_saw_92 : decode cX11_saw 92 = .ok (.imul, 1) := by decide +kernel
theorem dX11_saw_93 : decode cX11_saw 93 = .ok (.iadd, 1) := by decide +kernel
theorem dX11_saw_94 : decode cX11_saw 94 = .ok (.iconst 2, 1) := by decide +kernel
theorem dX11_saw_95 : decode cX11_saw 95 = .ok (.iadd, 1) := by decide +kernel
theorem dX11_saw_96 : decode cX11_saw 96 = .ok (.iload_n 3, 1) := by decide +kernel
theorem dX11_saw_97 : decode cX11_saw 97 = .ok (.iastore, 1) := by decide +kernel
theorem dX11_saw_98 : decode cX11_saw 98 = .ok (.aload_n 0, 1) := by decide +kernel
theorem dX11_saw_99 : decode cX11_saw 99 = .ok (.getfield 16, 3) := by decide +kernel
theorem dX11_saw_102 : decode cX11_saw 102 = .ok (.bipush 8, 2) := by decide +kernel
theorem dX11_saw_104 : decode cX11_saw 104 = .ok (.dup2, 1) := by decide +kernel
theorem dX11_saw_105 : decode cX11_saw 105 = .ok (.iaload, 1) := by decide +kernel
theorem dX11_saw_106 : decode cX11_saw 106 = .ok (.iconst 1, 1) := by decide +kernel
theorem dX11_saw_107 : decode cX11_saw 107 = .ok (.iadd, 1) := by decide +kernel
theorem dX11_saw_108 : decode cX11_saw 108 = .ok (.iastore, 1) := by decide +kernel
theorem dX11_saw_109 : decode cX11_saw 109 = .ok (.aload_n 0, 1) := by decide +kernel
theorem dX11_saw_110 : decode cX11_saw 110 = .ok (.getfield 16, 3) := by decide +kernel
theorem dX11_saw_113 : decode cX11_saw 113 = .ok (.bipush 8, 2) := by decide +kernel
theorem dX11_saw_115 : decode cX11_saw 115 = .ok (.iaload, 1) := by decide +kernel
theorem dX11_saw_116 : decode cX11_saw 116 = .ok (.ireturn, 1) := by decide +kernel
theorem dX11_forget_0 : decode cX11_forget 0 = .ok (.aload_n 0, 1) := by decide +kernel
theorem dX11_forget_1 : decode cX11_forget 1 = .ok (.iconst 0, 1) := by decide +kernel
theorem dX11_forget_2 : decode cX11_forget 2 = .ok (.putfield 45, 3) := by decide +kernel
theorem dX11_forget_5 : decode cX11_forget 5 = .ok (.aload_n 0, 1) := by decide +kernel
theorem dX11_forget_6 : decode cX11_forget 6 = .ok (.getfield 16, 3) := by decide +kernel
theorem dX11_forget_9 : decode cX11_forget 9 = .ok (.bipush 8, 2) := by decide +kernel
theorem dX11_forget_11 : decode cX11_forget 11 = .ok (.iaload, 1) := by decide +kernel
theorem dX11_forget_12 : decode cX11_forget 12 = .ok (.istore_n 1, 1) := by decide +kernel
theorem dX11_forget_13 : decode cX11_forget 13 = .ok (.aload_n 0, 1) := by decide +kernel
theorem dX11_forget_14 : decode cX11_forget 14 = .ok (.getfield 16, 3) := by decide +kernel
theorem dX11_forget_17 : decode cX11_forget 17 = .ok (.bipush 8, 2) := by decide +kernel
theorem dX11_forget_19 : decode cX11_forget 19 = .ok (.iconst 0, 1) := by decide +kernel
theorem dX11_forget_20 : decode cX11_forget 20 = .ok (.iastore, 1) := by decide +kernel
theorem dX11_forget_21 : decode cX11_forget 21 = .ok (.iload_n 1, 1) := by decide +kernel
theorem dX11_forget_22 : decode cX11_forget 22 = .ok (.ireturn, 1) := by decide +kernel
set_option maxRecDepth 20000 in
theorem ggX11_fits_X11_isLawful : GoodIn wsX11_fits wsX11_isLawful := goodIn_r _ [7, 8, 9, 10, 11, 6, 12, 13, 14, 15, 16, 17, 18, 19, 20, 21, 22, 23, 24, 25, 26, 27, 28, 29, 30, 31, 32, 33, 34, 35, 36, 37, 38, 39, 40, 41, 42, 43, 44, 45] (by decide +kernel) (by decide +kernel)
set_option maxRecDepth 20000 in
theorem gX11_fits_X11_isLawful : GoodIn wsX11_fits (wsV RX11 148 RX11 yX11_isLawful wsX11_isLawful) := goodIn_app (goodIn_of _ (by decide +kernel)) ggX11_fits_X11_isLawful
theorem dX11_fits_0 : decode cX11_fits 0 = .ok (.aload_n 0, 1) := by decide +kernel
theorem dX11_fits_1 : decode cX11_fits 1 = .ok (.aload_n 0, 1) := by decide +kernel
theorem dX11_fits_2 : decode cX11_fits 2 = .ok (.getfield 26, 3) := by decide +kernel
theorem dX11_fits_5 : decode cX11_fits 5 = .ok (.invokevirtual 148, 3) := by decide +kernel
theorem dX11_fits_8 : decode cX11_fits 8 = .ok (.istore_n 1, 1) := by decide +kernel
theorem dX11_fits_9 : decode cX11_fits 9 = .ok (.iconst 0, 1) := by decide +kernel
theorem dX11_fits_10 : decode cX11_fits 10 = .ok (.istore_n 2, 1) := by decide +kernel
theorem dX11_fits_11 : decode cX11_fits 11 = .ok (.iload_n 2, 1) := by decide +kernel
theorem dX11_fits_12 : decode cX11_fits 12 = .ok (.aload_n 0, 1) := by decide +kernel
theorem dX11_fits_13 : decode cX11_fits 13 = .ok (.getfield 16, 3) := by decide +kernel
theorem dX11_fits_16 : decode cX11_fits 16 = .ok (.bipush 8, 2) := by decide +kernel
theorem dX11_fits_18 : decode cX11_fits 18 = .ok (.iaload, 1) := by decide +kernel
theorem dX11_fits_19 : decode cX11_fits 19 = .ok (.if_icmp .ge 88, 3) := by decide +kernel
theorem dX11_fits_22 : decode cX11_fits 22 = .ok (.aload_n 0, 1) := by decide +kernel
theorem dX11_fits_23 : decode cX11_fits 23 = .ok (.getfield 26, 3) := by decide +kernel
theorem dX11_fits_26 : decode cX11_fits 26 = .ok (.aload_n 0, 1) := by decide +kernel
theorem dX11_fits_27 : decode cX11_fits 27 = .ok (.getfield 16, 3) := by decide +kernel
theorem dX11_fits_30 : decode cX11_fits 30 = .ok (.bipush 9, 2) := by decide +kernel
theorem dX11_fits_32 : decode cX11_fits 32 = .ok (.iconst 3, 1) := by decide +kernel
theorem dX11_fits_33 : decode cX11_fits 33 = .ok (.iload_n 2, 1) := by decide +kernel
theorem dX11_fits_34 : decode cX11_fits 34 = .ok (.imul, 1) := by decide +kernel
theorem dX11_fits_35 : decode cX11_fits 35 = .ok (.iadd, 1) := by decide +kernel
theorem dX11_fits_36 : decode cX11_fits 36 = .ok (.iaload, 1) := by decide +kernel
theorem dX11_fits_37 : decode cX11_fits 37 = .ok (.iaload, 1) := by decide +kernel
theorem dX11_fits_38 : decode cX11_fits 38 = .ok (.aload_n 0, 1) := by decide +kernel
theorem dX11_fits_39 : decode cX11_fits 39 = .ok (.getfield 26, 3) := by decide +kernel
theorem dX11_fits_42 : decode cX11_fits 42 = .ok (.aload_n 0, 1) := by decide +kernel
theorem dX11_fits_43 : decode cX11_fits 43 = .ok (.getfield 16, 3) := by decide +kernel
theorem dX11_fits_46 : decode cX11_fits 46 = .ok (.bipush 9, 2) := by decide +kernel
theorem dX11_fits_48 : decode cX11_fits 48 = .ok (.iconst 3, 1) := by decide +kernel
theorem dX11_fits_49 : decode cX11_fits 49 = .ok (.iload_n 2, 1) := by decide +kernel
theorem dX11_fits_50 : decode cX11_fits 50 = .ok (.imul, 1) := by decide +kernel
theorem dX11_fits_51 : decode cX11_fits 51 = .ok (.iadd, 1) := by decide +kernel
theorem dX11_fits_52 : decode cX11_fits 52 = .ok (.iconst 1, 1) := by decide +kernel
theorem dX11_fits_53 : decode cX11_fits 53 = .ok (.iadd, 1) := by decide +kernel
theorem dX11_fits_54 : decode cX11_fits 54 = .ok (.iaload, 1) := by decide +kernel
theorem dX11_fits_55 : decode cX11_fits 55 = .ok (.iaload, 1) := by decide +kernel
theorem dX11_fits_56 : decode cX11_fits 56 = .ok (.if_icmp .ne 7, 3) := by decide +kernel
theorem dX11_fits_59 : decode cX11_fits 59 = .ok (.iconst 1, 1) := by decide +kernel
theorem dX11_fits_60 : decode cX11_fits 60 = .ok (.goto 4, 3) := by decide +kernel
theorem dX11_fits_63 : decode cX11_fits 63 = .ok (.iconst 0, 1) := by decide +kernel
theorem dX11_fits_64 : decode cX11_fits 64 = .ok (.istore_n 3, 1) := by decide +kernel
theorem dX11_fits_65 : decode cX11_fits 65 = .ok (.iload_n 1, 1) := by decide +kernel
theorem dX11_fits_66 : decode cX11_fits 66 = .ok (.ifCond .eq 33, 3) := by decide +kernel
theorem dX11_fits_69 : decode cX11_fits 69 = .ok (.iload_n 3, 1) := by decide +kernel
theorem dX11_fits_70 : decode cX11_fits 70 = .ok (.aload_n 0, 1) := by decide +kernel
theorem dX11_fits_71 : decode cX11_fits 71 = .ok (.getfield 16, 3) := by decide +kernel
theorem dX11_fits_74 : decode cX11_fits 74 = .ok (.bipush 9, 2) := by decide +kernel
theorem dX11_fits_76 : decode cX11_fits 76 = .ok (.iconst 3, 1) := by decide +kernel
theorem dX11_fits_77 : decode cX11_fits 77 = .ok (.iload_n 2, 1) := by decide +kernel
theorem dX11_fits_78 : decode cX11_fits 78 = .ok (.imul, 1) := by decide +kernel
theorem dX11_fits_79 : decode cX11_fits 79 = .ok (.iadd, 1) := by decide +kernel
theorem dX11_fits_80 : decode cX11_fits 80 = .ok (.iconst 2, 1) := by decide +kernel
theorem dX11_fits_81 : decode cX11_fits 81 = .ok (.iadd, 1) := by decide +kernel
theorem dX11_fits_82 : decode cX11_fits 82 = .ok (.iaload, 1) := by decide +kernel
theorem dX11_fits_83 : decode cX11_fits 83 = .ok (.iconst 1, 1) := by decide +kernel
theorem dX11_fits_84 : decode cX11_fits 84 = .ok (.if_icmp .ne 7, 3) := by decide +kernel
theorem dX11_fits_87 : decode cX11_fits 87 = .ok (.iconst 1, 1) := by decide +kernel
theorem dX11_fits_88 : decode cX11_fits 88 = .ok (.goto 4, 3) := by decide +kernel
theorem dX11_fits_91 : decode cX11_fits 91 = .ok (.iconst 0, 1) := by decide +kernel
theorem dX11_fits_92 : decode cX11_fits 92 = .ok (.if_icmp .ne 7, 3) := by decide +kernel
theorem dX11_fits_95 : decode cX11_fits 95 = .ok (.iconst 1, 1) := by decide +kernel
theorem dX11_fits_96 : decode cX11_fits 96 = .ok (.goto 4, 3) := by decide +kernel
theorem dX11_fits_99 : decode cX11_fits 99 = .ok (.iconst 0, 1) := by decide +kernel
theorem dX11_fits_100 : decode cX11_fits 100 = .ok (.istore_n 1, 1) := by decide +kernel
theorem dX11_fits_101 : decode cX11_fits 101 = .ok (.iinc 2 1, 3) := by decide +kernel
theorem dX11_fits_104 : decode cX11_fits 104 = .ok (.goto (-93), 3) := by decide +kernel
theorem dX11_fits_107 : decode cX11_fits 107 = .ok (.iload_n 1, 1) := by decide +kernel
theorem dX11_fits_108 : decode cX11_fits 108 = .ok (.ireturn, 1) := by decide +kernel
set_option maxRecDepth 20000 in
theorem ggX11_leftWith_X11_firstRow : GoodIn wsX11_leftWith wsX11_firstRow := goodIn_r _ [6, 1, 41, 42, 43, 44, 45, 46, 47, 48, 49, 50, 51, 52, 53, 54, 55, 56, 57] (by decide +kernel) (by decide +kernel)
set_option maxRecDepth 20000 in
theorem gX11_leftWith_X11_firstRow : GoodIn wsX11_leftWith (wsV RX11 157 RX11 yX11_firstRow wsX11_firstRow) := goodIn_app (goodIn_of _ (by decide +kernel)) ggX11_leftWith_X11_firstRow
set_option maxRecDepth 20000 in
theorem ggX11_leftWith_X11_fits : GoodIn wsX11_leftWith wsX11_fits := goodIn_r _ [10, 1, 11, 12, 13, 14, 5, 15, 16, 17, 18, 19, 20, 21, 22, 23, 24, 25, 26, 27, 28, 29, 30, 31, 32, 33, 34, 35, 36, 41, 42, 43, 44, 45, 46, 47, 48, 49, 50, 51, 52, 53, 54, 55, 56, 57] (by decide +kernel) (by decide +kernel)
set_option maxRecDepth 20000 in
theorem gX11_leftWith_X11_fits : GoodIn wsX11_leftWith (wsV RX11 174 RX11 yX11_fits wsX11_fits) := goodIn_app (goodIn_of _ (by decide +kernel)) ggX11_leftWith_X11_fits
set_option maxRecDepth 20000 in
theorem ggX11_leftWith_X11_nextRow : GoodIn wsX11_leftWith wsX11_nextRow := goodIn_r _ [40, 1, 21, 22, 23, 5, 24, 16, 41, 42, 43, 44, 45, 46, 47, 48, 49, 50, 51, 52, 53, 54, 55, 56, 57] (by decide +kernel) (by decide +kernel)
set_option maxRecDepth 20000 in
theorem gX11_leftWith_X11_nextRow : GoodIn wsX11_leftWith (wsV RX11 160 RX11 yX11_nextRow wsX11_nextRow) := goodIn_app (goodIn_of _ (by decide +kernel)) ggX11_leftWith_X11_nextRow
theorem dX11_leftWith_0 : decode cX11_leftWith 0 = .ok (.iconst 0, 1) := by decide +kernel
theorem dX11_leftWith_1 : decode cX11_leftWith 1 = .ok (.istore_n 3, 1) := by decide +kernel
theorem dX11_leftWith_2 : decode cX11_leftWith 2 = .ok (.aload_n 0, 1) := by decide +kernel
theorem dX11_leftWith_3 : decode cX11_leftWith 3 = .ok (.invokevirtual 157, 3) := by decide +kernel
theorem dX11_leftWith_6 : decode cX11_leftWith 6 = .ok (.iconst 1, 1) := by decide +kernel
theorem dX11_leftWith_7 : decode cX11_leftWith 7 = .ok (.istore 4, 2) := by decide +kernel
theorem dX11_leftWith_9 : decode cX11_leftWith 9 = .ok (.iload 4, 2) := by decide +kernel
theorem dX11_leftWith_11 : decode cX11_leftWith 11 = .ok (.ifCond .eq 42, 3) := by decide +kernel
theorem dX11_leftWith_14 : decode cX11_leftWith 14 = .ok (.iload_n 3, 1) := by decide +kernel
theorem dX11_leftWith_15 : decode cX11_leftWith 15 = .ok (.aload_n 0, 1) := by decide +kernel
theorem dX11_leftWith_16 : decode cX11_leftWith 16 = .ok (.getfield 26, 3) := by decide +kernel
theorem dX11_leftWith_19 : decode cX11_leftWith 19 = .ok (.iload_n 1, 1) := by decide +kernel
theorem dX11_leftWith_20 : decode cX11_leftWith 20 = .ok (.iaload, 1) := by decide +kernel
theorem dX11_leftWith_21 : decode cX11_leftWith 21 = .ok (.aload_n 0, 1) := by decide +kernel
theorem dX11_leftWith_22 : decode cX11_leftWith 22 = .ok (.getfield 26, 3) := by decide +kernel
theorem dX11_leftWith_25 : decode cX11_leftWith 25 = .ok (.iload_n 2, 1) := by decide +kernel
theorem dX11_leftWith_26 : decode cX11_leftWith 26 = .ok (.iaload, 1) := by decide +kernel
theorem dX11_leftWith_27 : decode cX11_leftWith 27 = .ok (.if_icmp .ne 14, 3) := by decide +kernel
theorem dX11_leftWith_30 : decode cX11_leftWith 30 = .ok (.aload_n 0, 1) := by decide +kernel
theorem dX11_leftWith_31 : decode cX11_leftWith 31 = .ok (.invokevirtual 174, 3) := by decide +kernel
theorem dX11_leftWith_34 : decode cX11_leftWith 34 = .ok (.ifCond .eq 7, 3) := by decide +kernel
theorem dX11_leftWith_37 : decode cX11_leftWith 37 = .ok (.iconst 1, 1) := by decide +kernel
theorem dX11_leftWith_38 : decode cX11_leftWith 38 = .ok (.goto 4, 3) := by decide +kernel
theorem dX11_leftWith_41 : decode cX11_leftWith 41 = .ok (.iconst 0, 1) := by decide +kernel
theorem dX11_leftWith_42 : decode cX11_leftWith 42 = .ok (.iadd, 1) := by decide +kernel
theorem dX11_leftWith_43 : decode cX11_leftWith 43 = .ok (.istore_n 3, 1) := by decide +kernel
theorem dX11_leftWith_44 : decode cX11_leftWith 44 = .ok (.aload_n 0, 1) := by decide +kernel
theorem dX11_leftWith_45 : decode cX11_leftWith 45 = .ok (.invokevirtual 160, 3) := by decide +kernel
theorem dX11_leftWith_48 : decode cX11_leftWith 48 = .ok (.istore 4, 2) := by decide +kernel
theorem dX11_leftWith_50 : decode cX11_leftWith 50 = .ok (.goto (-41), 3) := by decide +kernel
theorem dX11_leftWith_53 : decode cX11_leftWith 53 = .ok (.iload_n 3, 1) := by decide +kernel
theorem dX11_leftWith_54 : decode cX11_leftWith 54 = .ok (.ireturn, 1) := by decide +kernel
set_option maxRecDepth 20000 in
theorem ggX11_left_X11_leftWith : GoodIn wsX11_left wsX11_leftWith := goodIn_r _ [6, 7, 8, 9, 10, 5, 11, 12, 13, 14, 15, 16, 17, 18, 19, 20, 21, 22, 23, 24, 25, 26, 27, 28, 29, 30, 31, 32, 33, 34, 35, 36, 37, 38, 39, 40, 41, 42, 43, 44, 45, 46, 47, 48, 49, 50, 51, 52, 53, 54, 55, 56, 57, 58, 59, 60, 61, 62] (by decide +kernel) (by decide +kernel)
set_option maxRecDepth 20000 in
theorem gX11_left_X11_leftWith : GoodIn wsX11_left (wsV RX11 177 RX11 yX11_leftWith wsX11_leftWith) := goodIn_app (goodIn_of _ (by decide +kernel)) ggX11_left_X11_leftWith
theorem dX11_left_0 : decode cX11_left 0 = .ok (.aload_n 0, 1) := by decide +kernel
theorem dX11_left_1 : decode cX11_left 1 = .ok (.iconst 0, 1) := by decide +kernel
theorem dX11_left_2 : decode cX11_left 2 = .ok (.putfield 45, 3) := by decide +kernel
theorem dX11_left_5 : decode cX11_left 5 = .ok (.aload_n 0, 1) := by decide +kernel
theorem dX11_left_6 : decode cX11_left 6 = .ok (.iconst 0, 1) := by decide +kernel
theorem dX11_left_7 : decode cX11_left 7 = .ok (.iconst 0, 1) := by decide +kernel
theorem dX11_left_8 : decode cX11_left 8 = .ok (.invokevirtual 177, 3) := by decide +kernel
theorem dX11_left_11 : decode cX11_left 11 = .ok (.ireturn, 1) := by decide +kernel
set_option maxRecDepth 20000 in
theorem ggX11_sure_X11_areTwo : GoodIn wsX11_sure wsX11_areTwo := goodIn_r _ [6, 7, 8, 9, 5, 10, 11, 12, 13, 14, 15, 16, 17, 18, 57, 58, 59, 60, 61, 62, 63, 64, 65, 66, 67, 68, 69, 70, 71, 72, 73] (by decide +kernel) (by decide +kernel)
set_option maxRecDepth 20000 in
theorem gX11_sure_X11_areTwo : GoodIn wsX11_sure (wsV RX11 120 RX11 yX11_areTwo wsX11_areTwo) := goodIn_app (goodIn_of _ (by decide +kernel)) ggX11_sure_X11_areTwo
set_option maxRecDepth 20000 in
theorem ggX11_sure_X11_leftWith : GoodIn wsX11_sure wsX11_leftWith := goodIn_r _ [22, 23, 24, 25, 26, 5, 27, 28, 29, 30, 31, 32, 33, 34, 35, 36, 15, 37, 38, 39, 40, 11, 12, 13, 14, 41, 42, 43, 44, 45, 46, 47, 48, 49, 50, 51, 52, 53, 54, 55, 56, 57, 58, 59, 60, 61, 62, 63, 64, 65, 66, 67, 68, 69, 70, 71, 72, 73] (by decide +kernel) (by decide +kernel)
set_option maxRecDepth 20000 in
theorem gX11_sure_X11_leftWith : GoodIn wsX11_sure (wsV RX11 177 RX11 yX11_leftWith wsX11_leftWith) := goodIn_app (goodIn_of _ (by decide +kernel)) ggX11_sure_X11_leftWith
theorem dX11_sure_0 : decode cX11_sure 0 = .ok (.aload_n 0, 1) := by decide +kernel
theorem dX11_sure_1 : decode cX11_sure 1 = .ok (.iconst 0, 1) := by decide +kernel
theorem dX11_sure_2 : decode cX11_sure 2 = .ok (.putfield 45, 3) := by decide +kernel
theorem dX11_sure_5 : decode cX11_sure 5 = .ok (.aload_n 0, 1) := by decide +kernel
theorem dX11_sure_6 : decode cX11_sure 6 = .ok (.iload_n 1, 1) := by decide +kernel
theorem dX11_sure_7 : decode cX11_sure 7 = .ok (.iload_n 2, 1) := by decide +kernel
theorem dX11_sure_8 : decode cX11_sure 8 = .ok (.invokevirtual 120, 3) := by decide +kernel
theorem dX11_sure_11 : decode cX11_sure 11 = .ok (.ifCond .ne 5, 3) := by decide +kernel
theorem dX11_sure_14 : decode cX11_sure 14 = .ok (.iconst (-1), 1) := by decide +kernel
theorem dX11_sure_15 : decode cX11_sure 15 = .ok (.ireturn, 1) := by decide +kernel
theorem dX11_sure_16 : decode cX11_sure 16 = .ok (.aload_n 0, 1) := by decide +kernel
theorem dX11_sure_17 : decode cX11_sure 17 = .ok (.iconst 0, 1) := by decide +kernel
theorem dX11_sure_18 : decode cX11_sure 18 = .ok (.iconst 0, 1) := by decide +kernel
theorem dX11_sure_19 : decode cX11_sure 19 = .ok (.invokevirtual 177, 3) := by decide +kernel
theorem dX11_sure_22 : decode cX11_sure 22 = .ok (.istore_n 3, 1) := by decide +kernel
theorem dX11_sure_23 : decode cX11_sure 23 = .ok (.aload_n 0, 1) := by decide +kernel
theorem dX11_sure_24 : decode cX11_sure 24 = .ok (.iload_n 1, 1) := by decide +kernel
theorem dX11_sure_25 : decode cX11_sure 25 = .ok (.iload_n 2, 1) := by decide +kernel
theorem dX11_sure_26 : decode cX11_sure 26 = .ok (.invokevirtual 177, 3) := by decide +kernel
theorem dX11_sure_29 : decode cX11_sure 29 = .ok (.istore 4, 2) := by decide +kernel
theorem dX11_sure_31 : decode cX11_sure 31 = .ok (.iload_n 3, 1) := by decide +kernel
theorem dX11_sure_32 : decode cX11_sure 32 = .ok (.ifCond .ne 8, 3) := by decide +kernel
theorem dX11_sure_35 : decode cX11_sure 35 = .ok (.bipush (-9), 2) := by decide +kernel
theorem dX11_sure_37 : decode cX11_sure 37 = .ok (.goto 24, 3) := by decide +kernel
theorem dX11_sure_40 : decode cX11_sure 40 = .ok (.iload 4, 2) := by decide +kernel
theorem dX11_sure_42 : decode cX11_sure 42 = .ok (.iload_n 3, 1) := by decide +kernel
theorem dX11_sure_43 : decode cX11_sure 43 = .ok (.if_icmp .ne 7, 3) := by decide +kernel
theorem dX11_sure_46 : decode cX11_sure 46 = .ok (.iconst 1, 1) := by decide +kernel
theorem dX11_sure_47 : decode cX11_sure 47 = .ok (.goto 14, 3) := by decide +kernel
theorem dX11_sure_50 : decode cX11_sure 50 = .ok (.iload 4, 2) := by decide +kernel
theorem dX11_sure_52 : decode cX11_sure 52 = .ok (.ifCond .ne 7, 3) := by decide +kernel
theorem dX11_sure_55 : decode cX11_sure 55 = .ok (.iconst 0, 1) := by decide +kernel
theorem dX11_sure_56 : decode cX11_sure 56 = .ok (.goto 5, 3) := by decide +kernel
theorem dX11_sure_59 : decode cX11_sure 59 = .ok (.bipush (-9), 2) := by decide +kernel
theorem dX11_sure_61 : decode cX11_sure 61 = .ok (.ireturn, 1) := by decide +kernel
set_option maxRecDepth 20000 in
theorem ggX11_isImage_X11_in : GoodIn wsX11_isImage wsX11_in := goodIn_r _ [4] (by decide +kernel) (by decide +kernel)
set_option maxRecDepth 20000 in
theorem gX11_isImage_X11_in : GoodIn wsX11_isImage (va_wsS RX11 49 yX11_in wsX11_in) := goodIn_app (goodIn_of _ (by decide +kernel)) ggX11_isImage_X11_in
theorem dX11_isImage_0 : decode cX11_isImage 0 = .ok (.iload_n 0, 1) := by decide +kernel
theorem dX11_isImage_1 : decode cX11_isImage 1 = .ok (.iconst 0, 1) := by decide +kernel
theorem dX11_isImage_2 : decode cX11_isImage 2 = .ok (.iconst 1, 1) := by decide +kernel
theorem dX11_isImage_3 : decode cX11_isImage 3 = .ok (.invokestatic 49, 3) := by decide +kernel
theorem dX11_isImage_6 : decode cX11_isImage 6 = .ok (.ireturn, 1) := by decide +kernel
set_option maxRecDepth 20000 in
theorem ggX11_finer_X11_guests : GoodIn wsX11_finer wsX11_guests := goodIn_r _ [8, 9, 14, 15, 16, 17, 18, 19, 20, 21, 22, 23, 24, 25, 26, 27, 28, 29, 30] (by decide +kernel) (by decide +kernel)
set_option maxRecDepth 20000 in
theorem gX11_finer_X11_guests : GoodIn wsX11_finer (wsV RX11 112 RX11 yX11_guests wsX11_guests) := goodIn_app (goodIn_of _ (by decide +kernel)) ggX11_finer_X11_guests
set_option maxRecDepth 20000 in
theorem ggX11_finer_X11_numbers : GoodIn wsX11_finer wsX11_numbers := goodIn_r _ [13, 4, 5, 6, 7, 8, 9, 14, 15, 16, 17, 18, 19, 20, 21, 22, 23, 24, 25, 26, 27, 28, 29, 30] (by decide +kernel) (by decide +kernel)
set_option maxRecDepth 20000 in
theorem gX11_finer_X11_numbers : GoodIn wsX11_finer (wsV RX11 140 RX11 yX11_numbers wsX11_numbers) := goodIn_app (goodIn_of _ (by decide +kernel)) ggX11_finer_X11_numbers
theorem dX11_finer_0 : decode cX11_finer 0 = .ok (.iconst 0, 1) := by decide +kernel
theorem dX11_finer_1 : decode cX11_finer 1 = .ok (.istore_n 2, 1) := by decide +kernel
theorem dX11_finer_2 : decode cX11_finer 2 = .ok (.iload_n 2, 1) := by decide +kernel
theorem dX11_finer_3 : decode cX11_finer 3 = .ok (.aload_n 0, 1) := by decide +kernel
theorem dX11_finer_4 : decode cX11_finer 4 = .ok (.invokevirtual 112, 3) := by decide +kernel
theorem dX11_finer_7 : decode cX11_finer 7 = .ok (.if_icmp .ge 36, 3) := by decide +kernel
theorem dX11_finer_10 : decode cX11_finer 10 = .ok (.aload_n 0, 1) := by decide +kernel
theorem dX11_finer_11 : decode cX11_finer 11 = .ok (.getfield 26, 3) := by decide +kernel
theorem dX11_finer_14 : decode cX11_finer 14 = .ok (.iload_n 2, 1) := by decide +kernel
theorem dX11_finer_15 : decode cX11_finer 15 = .ok (.bipush 8, 2) := by decide +kernel
theorem dX11_finer_17 : decode cX11_finer 17 = .ok (.aload_n 0, 1) := by decide +kernel
theorem dX11_finer_18 : decode cX11_finer 18 = .ok (.getfield 16, 3) := by decide +kernel
theorem dX11_finer_21 : decode cX11_finer 21 = .ok (.iload_n 2, 1) := by decide +kernel
theorem dX11_finer_22 : decode cX11_finer 22 = .ok (.iaload, 1) := by decide +kernel
theorem dX11_finer_23 : decode cX11_finer 23 = .ok (.imul, 1) := by decide +kernel
theorem dX11_finer_24 : decode cX11_finer 24 = .ok (.aload_n 0, 1) := by decide +kernel
theorem dX11_finer_25 : decode cX11_finer 25 = .ok (.getfield 19, 3) := by decide +kernel
theorem dX11_finer_28 : decode cX11_finer 28 = .ok (.bipush 40, 2) := by decide +kernel
theorem dX11_finer_30 : decode cX11_finer 30 = .ok (.iload_n 1, 1) := by decide +kernel
theorem dX11_finer_31 : decode cX11_finer 31 = .ok (.imul, 1) := by decide +kernel
theorem dX11_finer_32 : decode cX11_finer 32 = .ok (.iload_n 2, 1) := by decide +kernel
theorem dX11_finer_33 : decode cX11_finer 33 = .ok (.iadd, 1) := by decide +kernel
theorem dX11_finer_34 : decode cX11_finer 34 = .ok (.iaload, 1) := by decide +kernel
theorem dX11_finer_35 : decode cX11_finer 35 = .ok (.iadd, 1) := by decide +kernel
theorem dX11_finer_36 : decode cX11_finer 36 = .ok (.iastore, 1) := by decide +kernel
theorem dX11_finer_37 : decode cX11_finer 37 = .ok (.iinc 2 1, 3) := by decide +kernel
theorem dX11_finer_40 : decode cX11_finer 40 = .ok (.goto (-38), 3) := by decide +kernel
theorem dX11_finer_43 : decode cX11_finer 43 = .ok (.aload_n 0, 1) := by decide +kernel
theorem dX11_finer_44 : decode cX11_finer 44 = .ok (.aload_n 0, 1) := by decide +kernel
theorem dX11_finer_45 : decode cX11_finer 45 = .ok (.getfield 26, 3) := by decide +kernel
theorem dX11_finer_48 : decode cX11_finer 48 = .ok (.invokevirtual 140, 3) := by decide +kernel
theorem dX11_finer_51 : decode cX11_finer 51 = .ok (.return_, 1) := by decide +kernel
set_option maxRecDepth 20000 in
theorem ggX11_coarser_X11_guests : GoodIn wsX11_coarser wsX11_guests := goodIn_r _ [8, 9, 14, 15, 16, 17, 18, 19, 20, 21, 22, 23, 24, 25, 26, 27, 28, 29, 30] (by decide +kernel) (by decide +kernel)
set_option maxRecDepth 20000 in
theorem gX11_coarser_X11_guests : GoodIn wsX11_coarser (wsV RX11 112 RX11 yX11_guests wsX11_guests) := goodIn_app (goodIn_of _ (by decide +kernel)) ggX11_coarser_X11_guests
set_option maxRecDepth 20000 in
theorem ggX11_coarser_X11_numbers : GoodIn wsX11_coarser wsX11_numbers := goodIn_r _ [13, 4, 5, 6, 7, 8, 9, 14, 15, 16, 17, 18, 19, 20, 21, 22, 23, 24, 25, 26, 27, 28, 29, 30] (by decide +kernel) (by decide +kernel)
set_option maxRecDepth 20000 in
theorem gX11_coarser_X11_numbers : GoodIn wsX11_coarser (wsV RX11 140 RX11 yX11_numbers wsX11_numbers) := goodIn_app (goodIn_of _ (by decide +kernel)) ggX11_coarser_X11_numbers
theorem dX11_coarser_0 : decode cX11_coarser 0 = .ok (.iconst 0, 1) := by decide +kernel
theorem dX11_coarser_1 : decode cX11_coarser 1 = .ok (.istore_n 2, 1) := by decide +kernel
theorem dX11_coarser_2 : decode cX11_coarser 2 = .ok (.iload_n 2, 1) := by decide +kernel
theorem dX11_coarser_3 : decode cX11_coarser 3 = .ok (.aload_n 0, 1) := by decide +kernel
theorem dX11_coarser_4 : decode cX11_coarser 4 = .ok (.invokevirtual 112, 3) := by decide +kernel
theorem dX11_coarser_7 : decode cX11_coarser 7 = .ok (.if_icmp .ge 16, 3) := by decide +kernel
theorem dX11_coarser_10 : decode cX11_coarser 10 = .ok (.aload_n 0, 1) := by decide +kernel
theorem dX11_coarser_11 : decode cX11_coarser 11 = .ok (.getfield 26, 3) := by decide +kernel
theorem dX11_coarser_14 : decode cX11_coarser 14 = .ok (.iload_n 2, 1) := by decide +kernel
theorem dX11_coarser_15 : decode cX11_coarser 15 = .ok (.iload_n 2, 1) := by decide +kernel
theorem dX11_coarser_16 : decode cX11_coarser 16 = .ok (.iastore, 1) := by decide +kernel
theorem dX11_coarser_17 : decode cX11_coarser 17 = .ok (.iinc 2 1, 3) := by decide +kernel
theorem dX11_coarser_20 : decode cX11_coarser 20 = .ok (.goto (-18), 3) := by decide +kernel
theorem dX11_coarser_23 : decode cX11_coarser 23 = .ok (.iconst 0, 1) := by decide +kernel
theorem dX11_coarser_24 : decode cX11_coarser 24 = .ok (.istore_n 2, 1) := by decide +kernel
theorem dX11_coarser_25 : decode cX11_coarser 25 = .ok (.iload_n 2, 1) := by decide +kernel
theorem dX11_coarser_26 : decode cX11_coarser 26 = .ok (.aload_n 0, 1) := by decide +kernel
theorem dX11_coarser_27 : decode cX11_coarser 27 = .ok (.invokevirtual 112, 3) := by decide +kernel
theorem dX11_coarser_30 : decode cX11_coarser 30 = .ok (.if_icmp .ge 135, 3) := by decide +kernel
theorem dX11_coarser_33 : decode cX11_coarser 33 = .ok (.iconst 0, 1) := by decide +kernel
theorem dX11_coarser_34 : decode cX11_coarser 34 = .ok (.istore_n 3, 1) := by decide +kernel
theorem dX11_coarser_35 : decode cX11_coarser 35 = .ok (.iload_n 3, 1) := by decide +kernel
theorem dX11_coarser_36 : decode cX11_coarser 36 = .ok (.aload_n 0, 1) := by decide +kernel
theorem dX11_coarser_37 : decode cX11_coarser 37 = .ok (.invokevirtual 112, 3) := by decide +kernel
theorem dX11_coarser_40 : decode cX11_coarser 40 = .ok (.if_icmp .ge 119, 3) := by decide +kernel
theorem dX11_coarser_43 : decode cX11_coarser 43 = .ok (.iconst 0, 1) := by decide +kernel
theorem dX11_coarser_44 : decode cX11_coarser 44 = .ok (.istore 4, 2) := by decide +kernel
theorem dX11_coarser_46 : decode cX11_coarser 46 = .ok (.iload 4, 2) := by decide +kernel
theorem dX11_coarser_48 : decode cX11_coarser 48 = .ok (.aload_n 0, 1) := by decide +kernel
theorem dX11_coarser_49 : decode cX11_coarser 49 = .ok (.invokevirtual 112, 3) := by decide +kernel
theorem dX11_coarser_52 : decode cX11_coarser 52 = .ok (.if_icmp .ge 101, 3) := by decide +kernel
theorem dX11_coarser_55 : decode cX11_coarser 55 = .ok (.aload_n 0, 1) := by decide +kernel
theorem dX11_coarser_56 : decode cX11_coarser 56 = .ok (.getfield 16, 3) := by decide +kernel
theorem dX11_coarser_59 : decode cX11_coarser 59 = .ok (.iload_n 3, 1) := by decide +kernel
theorem dX11_coarser_60 : decode cX11_coarser 60 = .ok (.iaload, 1) := by decide +kernel
theorem dX11_coarser_61 : decode cX11_coarser 61 = .ok (.aload_n 0, 1) := by decide +kernel
theorem dX11_coarser_62 : decode cX11_coarser 62 = .ok (.getfield 16, 3) := by decide +kernel
theorem dX11_coarser_65 : decode cX11_coarser 65 = .ok (.iload 4, 2) := by decide +kernel
theorem dX11_coarser_67 : decode cX11_coarser 67 = .ok (.iaload, 1) := by decide +kernel
theorem dX11_coarser_68 : decode cX11_coarser 68 = .ok (.if_icmp .eq 29, 3) := by decide +kernel
theorem dX11_coarser_71 : decode cX11_coarser 71 = .ok (.aload_n 0, 1) := by decide +kernel
theorem dX11_coarser_72 : decode cX11_coarser 72 = .ok (.getfield 19, 3) := by decide +kernel
theorem dX11_coarser_75 : decode cX11_coarser 75 = .ok (.bipush 40, 2) := by decide +kernel
theorem dX11_coarser_77 : decode cX11_coarser 77 = .ok (.iload_n 1, 1) := by decide +kernel
theorem dX11_coarser_78 : decode cX11_coarser 78 = .ok (.imul, 1) := by decide +kernel
theorem dX11_coarser_79 : decode cX11_coarser 79 = .ok (.iload_n 3, 1) := by decide +kernel
theorem dX11_coarser_80 : decode cX11_coarser 80 = .ok (.iadd, 1) := by decide +kernel
theorem dX11_coarser_81 : decode cX11_coarser 81 = .ok (.iaload, 1) := by decide +kernel
theorem dX11_coarser_82 : decode cX11_coarser 82 = .ok (.aload_n 0, 1) := by decide +kernel
theorem dX11_coarser_83 : decode cX11_coarser 83 = .ok (.getfield 19, 3) := by decide +kernel
theorem dX11_coarser_86 : decode cX11_coarser 86 = .ok (.bipush 40, 2) := by decide +kernel
theorem dX11_coarser_88 : decode cX11_coarser 88 = .ok (.iload_n 1, 1) := by decide +kernel
theorem dX11_coarser_89 : decode cX11_coarser 89 = .ok (.imul, 1) := by decide +kernel
theorem dX11_coarser_90 : decode cX11_coarser 90 = .ok (.iload 4, 2) := by decide +kernel
theorem dX11_coarser_92 : decode cX11_coarser 92 = .ok (.iadd, 1) := by decide +kernel
theorem dX11_coarser_93 : decode cX11_coarser 93 = .ok (.iaload, 1) := by decide +kernel
theorem dX11_coarser_94 : decode cX11_coarser 94 = .ok (.if_icmp .ne 7, 3) := by decide +kernel
theorem dX11_coarser_97 : decode cX11_coarser 97 = .ok (.iconst 1, 1) := by decide +kernel
theorem dX11_coarser_98 : decode cX11_coarser 98 = .ok (.goto 4, 3) := by decide +kernel
theorem dX11_coarser_101 : decode cX11_coarser 101 = .ok (.iconst 0, 1) := by decide +kernel
theorem dX11_coarser_102 : decode cX11_coarser 102 = .ok (.istore 5, 2) := by decide +kernel
theorem dX11_coarser_104 : decode cX11_coarser 104 = .ok (.aload_n 0, 1) := by decide +kernel
theorem dX11_coarser_105 : decode cX11_coarser 105 = .ok (.getfield 26, 3) := by decide +kernel
theorem dX11_coarser_108 : decode cX11_coarser 108 = .ok (.iload_n 3, 1) := by decide +kernel
theorem dX11_coarser_109 : decode cX11_coarser 109 = .ok (.iload 5, 2) := by decide +kernel
theorem dX11_coarser_111 : decode cX11_coarser 111 = .ok (.ifCond .eq 29, 3) := by decide +kernel
theorem dX11_coarser_114 : decode cX11_coarser 114 = .ok (.aload_n 0, 1) := by decide +kernel
theorem dX11_coarser_115 : decode cX11_coarser 115 = .ok (.getfield 26, 3) := by decide +kernel
theorem dX11_coarser_118 : decode cX11_coarser 118 = .ok (.iload 4, 2) := by decide +kernel
theorem dX11_coarser_120 : decode cX11_coarser 120 = .ok (.iaload, 1) := by decide +kernel
theorem dX11_coarser_121 : decode cX11_coarser 121 = .ok (.aload_n 0, 1) := by decide +kernel
theorem dX11_coarser_122 : decode cX11_coarser 122 = .ok (.getfield 26, 3) := by decide +kernel
theorem dX11_coarser_125 : decode cX11_coarser 125 = .ok (.iload_n 3, 1) := by decide +kernel
theorem dX11_coarser_126 : decode cX11_coarser 126 = .ok (.iaload, 1) := by decide +kernel
theorem dX11_coarser_127 : decode cX11_coarser 127 = .ok (.if_icmp .ge 13, 3) := by decide +kernel
theorem dX11_coarser_130 : decode cX11_coarser 130 = .ok (.aload_n 0, 1) := by decide +kernel
theorem dX11_coarser_131 : decode cX11_coarser 131 = .ok (.getfield 26, 3) := by decide +kernel
theorem dX11_coarser_134 : decode cX11_coarser 134 = .ok (.iload 4, 2) := by decide +kernel
theorem dX11_coarser_136 : decode cX11_coarser 136 = .ok (.iaload, 1) := by decide +kernel
theorem dX11_coarser_137 : decode cX11_coarser 137 = .ok (.goto 9, 3) := by decide +kernel
theorem dX11_coarser_140 : decode cX11_coarser 140 = .ok (.aload_n 0, 1) := by decide +kernel
theorem dX11_coarser_141 : decode cX11_coarser 141 = .ok (.getfield 26, 3) := by decide +kernel
theorem dX11_coarser_144 : decode cX11_coarser 144 = .ok (.iload_n 3, 1) := by decide +kernel
theorem dX11_coarser_145 : decode cX11_coarser 145 = .ok (.iaload, 1) := by decide +kernel
theorem dX11_coarser_146 : decode cX11_coarser 146 = .ok (.iastore, 1) := by decide +kernel
theorem dX11_coarser_147 : decode cX11_coarser 147 = .ok (.iinc 4 1, 3) := by decide +kernel
theorem dX11_coarser_150 : decode cX11_coarser 150 = .ok (.goto (-104), 3) := by decide +kernel
theorem dX11_coarser_153 : decode cX11_coarser 153 = .ok (.iinc 3 1, 3) := by decide +kernel
theorem dX11_coarser_156 : decode cX11_coarser 156 = .ok (.goto (-121), 3) := by decide +kernel
theorem dX11_coarser_159 : decode cX11_coarser 159 = .ok (.iinc 2 1, 3) := by decide +kernel
theorem dX11_coarser_162 : decode cX11_coarser 162 = .ok (.goto (-137), 3) := by decide +kernel
theorem dX11_coarser_165 : decode cX11_coarser 165 = .ok (.aload_n 0, 1) := by decide +kernel
theorem dX11_coarser_166 : decode cX11_coarser 166 = .ok (.aload_n 0, 1) := by decide +kernel
theorem dX11_coarser_167 : decode cX11_coarser 167 = .ok (.getfield 26, 3) := by decide +kernel
theorem dX11_coarser_170 : decode cX11_coarser 170 = .ok (.invokevirtual 140, 3) := by decide +kernel
theorem dX11_coarser_173 : decode cX11_coarser 173 = .ok (.return_, 1) := by decide +kernel
set_option maxRecDepth 20000 in
theorem ggX11_two_X11_isImage : GoodIn wsX11_two wsX11_isImage := goodIn_r _ [7, 8, 9, 6, 10] (by decide +kernel) (by decide +kernel)
set_option maxRecDepth 20000 in
theorem gX11_two_X11_isImage : GoodIn wsX11_two (va_wsS RX11 180 yX11_isImage wsX11_isImage) := goodIn_app (goodIn_of _ (by decide +kernel)) ggX11_two_X11_isImage
set_option maxRecDepth 20000 in
theorem ggX11_two_X11_in : GoodIn wsX11_two wsX11_in := goodIn_r _ [10] (by decide +kernel) (by decide +kernel)
set_option maxRecDepth 20000 in
theorem gX11_two_X11_in : GoodIn wsX11_two (va_wsS RX11 49 yX11_in wsX11_in) := goodIn_app (goodIn_of _ (by decide +kernel)) ggX11_two_X11_in
set_option maxRecDepth 20000 in
theorem ggX11_two_X11_isGuest : GoodIn wsX11_two wsX11_isGuest := goodIn_r _ [14, 15, 16, 17, 6, 18, 19, 8, 9, 10, 34, 35, 36, 37, 38, 39, 40, 41, 42, 43, 44, 45, 46, 47, 48, 49, 50] (by decide +kernel) (by decide +kernel)
set_option maxRecDepth 20000 in
theorem gX11_two_X11_isGuest : GoodIn wsX11_two (wsV RX11 116 RX11 yX11_isGuest wsX11_isGuest) := goodIn_app (goodIn_of _ (by decide +kernel)) ggX11_two_X11_isGuest
set_option maxRecDepth 20000 in
theorem ggX11_two_X11_finer : GoodIn wsX11_two wsX11_finer := goodIn_r _ [23, 3, 24, 25, 15, 16, 17, 6, 18, 19, 26, 27, 28, 29, 34, 35, 36, 37, 38, 39, 40, 41, 42, 43, 44, 45, 46, 47, 48, 49, 50] (by decide +kernel) (by decide +kernel)
set_option maxRecDepth 20000 in
theorem gX11_two_X11_finer : GoodIn wsX11_two (wsV RX11 183 RX11 yX11_finer wsX11_finer) := goodIn_app (goodIn_of _ (by decide +kernel)) ggX11_two_X11_finer
set_option maxRecDepth 20000 in
theorem ggX11_two_X11_coarser : GoodIn wsX11_two wsX11_coarser := goodIn_r _ [33, 3, 24, 25, 15, 16, 17, 6, 18, 19, 26, 27, 28, 29, 34, 35, 36, 37, 38, 39, 40, 41, 42, 43, 44, 45, 46, 47, 48, 49, 50] (by decide +kernel) (by decide +kernel)
set_option maxRecDepth 20000 in
theorem gX11_two_X11_coarser : GoodIn wsX11_two (wsV RX11 186 RX11 yX11_coarser wsX11_coarser) := goodIn_app (goodIn_of _ (by decide +kernel)) ggX11_two_X11_coarser
theorem dX11_two_0 : decode cX11_two 0 = .ok (.aload_n 0, 1) := by decide +kernel
theorem dX11_two_1 : decode cX11_two 1 = .ok (.iconst 0, 1) := by decide +kernel
theorem dX11_two_2 : decode cX11_two 2 = .ok (.putfield 45, 3) := by decide +kernel
theorem dX11_two_5 : decode cX11_two 5 = .ok (.iload_n 1, 1) := by decide +kernel
theorem dX11_two_6 : decode cX11_two 6 = .ok (.invokestatic 180, 3) := by decide +kernel
theorem dX11_two_9 : decode cX11_two 9 = .ok (.ifCond .eq 20, 3) := by decide +kernel
theorem dX11_two_12 : decode cX11_two 12 = .ok (.iload_n 2, 1) := by decide +kernel
theorem dX11_two_13 : decode cX11_two 13 = .ok (.iconst 0, 1) := by decide +kernel
theorem dX11_two_14 : decode cX11_two 14 = .ok (.iconst 1, 1) := by decide +kernel
theorem dX11_two_15 : decode cX11_two 15 = .ok (.invokestatic 49, 3) := by decide +kernel
theorem dX11_two_18 : decode cX11_two 18 = .ok (.ifCond .eq 11, 3) := by decide +kernel
theorem dX11_two_21 : decode cX11_two 21 = .ok (.aload_n 0, 1) := by decide +kernel
theorem dX11_two_22 : decode cX11_two 22 = .ok (.iload_n 3, 1) := by decide +kernel
theorem dX11_two_23 : decode cX11_two 23 = .ok (.invokevirtual 116, 3) := by decide +kernel
theorem dX11_two_26 : decode cX11_two 26 = .ok (.ifCond .ne 5, 3) := by decide +kernel
theorem dX11_two_29 : decode cX11_two 29 = .ok (.iconst (-1), 1) := by decide +kernel
theorem dX11_two_30 : decode cX11_two 30 = .ok (.ireturn, 1) := by decide +kernel
theorem dX11_two_31 : decode cX11_two 31 = .ok (.aload_n 0, 1) := by decide +kernel
theorem dX11_two_32 : decode cX11_two 32 = .ok (.getfield 22, 3) := by decide +kernel
theorem dX11_two_35 : decode cX11_two 35 = .ok (.iload_n 1, 1) := by decide +kernel
theorem dX11_two_36 : decode cX11_two 36 = .ok (.baload, 1) := by decide +kernel
theorem dX11_two_37 : decode cX11_two 37 = .ok (.ifCond .ne 6, 3) := by decide +kernel
theorem dX11_two_40 : decode cX11_two 40 = .ok (.bipush (-2), 2) := by decide +kernel
theorem dX11_two_42 : decode cX11_two 42 = .ok (.ireturn, 1) := by decide +kernel
theorem dX11_two_43 : decode cX11_two 43 = .ok (.iload_n 2, 1) := by decide +kernel
theorem dX11_two_44 : decode cX11_two 44 = .ok (.ifCond .ne 11, 3) := by decide +kernel
theorem dX11_two_47 : decode cX11_two 47 = .ok (.aload_n 0, 1) := by decide +kernel
theorem dX11_two_48 : decode cX11_two 48 = .ok (.iload_n 1, 1) := by decide +kernel
theorem dX11_two_49 : decode cX11_two 49 = .ok (.invokevirtual 183, 3) := by decide +kernel
theorem dX11_two_52 : decode cX11_two 52 = .ok (.goto 8, 3) := by decide +kernel
theorem dX11_two_55 : decode cX11_two 55 = .ok (.aload_n 0, 1) := by decide +kernel
theorem dX11_two_56 : decode cX11_two 56 = .ok (.iload_n 1, 1) := by decide +kernel
theorem dX11_two_57 : decode cX11_two 57 = .ok (.invokevirtual 186, 3) := by decide +kernel
theorem dX11_two_60 : decode cX11_two 60 = .ok (.aload_n 0, 1) := by decide +kernel
theorem dX11_two_61 : decode cX11_two 61 = .ok (.getfield 26, 3) := by decide +kernel
theorem dX11_two_64 : decode cX11_two 64 = .ok (.iload_n 3, 1) := by decide +kernel
theorem dX11_two_65 : decode cX11_two 65 = .ok (.iaload, 1) := by decide +kernel
theorem dX11_two_66 : decode cX11_two 66 = .ok (.ireturn, 1) := by decide +kernel
theorem dX11_bell_0 : decode cX11_bell 0 = .ok (.iload_n 0, 1) := by decide +kernel
theorem dX11_bell_1 : decode cX11_bell 1 = .ok (.iconst 2, 1) := by decide +kernel
theorem dX11_bell_2 : decode cX11_bell 2 = .ok (.if_icmp .ge 7, 3) := by decide +kernel
theorem dX11_bell_5 : decode cX11_bell 5 = .ok (.iconst 1, 1) := by decide +kernel
theorem dX11_bell_6 : decode cX11_bell 6 = .ok (.goto 68, 3) := by decide +kernel
theorem dX11_bell_9 : decode cX11_bell 9 = .ok (.iload_n 0, 1) := by decide +kernel
theorem dX11_bell_10 : decode cX11_bell 10 = .ok (.iconst 2, 1) := by decide +kernel
theorem dX11_bell_11 : decode cX11_bell 11 = .ok (.if_icmp .ne 7, 3) := by decide +kernel
theorem dX11_bell_14 : decode cX11_bell 14 = .ok (.iconst 2, 1) := by decide +kernel
theorem dX11_bell_15 : decode cX11_bell 15 = .ok (.goto 59, 3) := by decide +kernel
theorem dX11_bell_18 : decode cX11_bell 18 = .ok (.iload_n 0, 1) := by decide +kernel
theorem dX11_bell_19 : decode cX11_bell 19 = .ok (.iconst 3, 1) := by decide +kernel
theorem dX11_bell_20 : decode cX11_bell 20 = .ok (.if_icmp .ne 7, 3) := by decide +kernel
theorem dX11_bell_23 : decode cX11_bell 23 = .ok (.iconst 5, 1) := by decide +kernel
theorem dX11_bell_24 : decode cX11_bell 24 = .ok (.goto 50, 3) := by decide +kernel
theorem dX11_bell_27 : decode cX11_bell 27 = .ok (.iload_n 0, 1) := by decide +kernel
theorem dX11_bell_28 : decode cX11_bell 28 = .ok (.iconst 4, 1) := by decide +kernel
theorem dX11_bell_29 : decode cX11_bell 29 = .ok (.if_icmp .ne 8, 3) := by decide +kernel
theorem dX11_bell_32 : decode cX11_bell 32 = .ok (.bipush 15, 2) := by decide +kernel
theorem dX11_bell_34 : decode cX11_bell 34 = .ok (.goto 40, 3) := by decide +kernel
theorem dX11_bell_37 : decode cX11_bell 37 = .ok (.iload_n 0, 1) := by decide +kernel
theorem dX11_bell_38 : decode cX11_bell 38 = .ok (.iconst 5, 1) := by decide +kernel
theorem dX11_bell_39 : decode cX11_bell 39 = .ok (.if_icmp .ne 8, 3) := by decide +kernel
theorem dX11_bell_42 : decode cX11_bell 42 = .ok (.bipush 52, 2) := by decide +kernel
theorem dX11_bell_44 : decode cX11_bell 44 = .ok (.goto 30, 3) := by decide +kernel
theorem dX11_bell_47 : decode cX11_bell 47 = .ok (.iload_n 0, 1) := by decide +kernel
theorem dX11_bell_48 : decode cX11_bell 48 = .ok (.bipush 6, 2) := by decide +kernel
theorem dX11_bell_50 : decode cX11_bell 50 = .ok (.if_icmp .ne 9, 3) := by decide +kernel
theorem dX11_bell_53 : decode cX11_bell 53 = .ok (.sipush 203, 3) := by decide +kernel
theorem dX11_bell_56 : decode cX11_bell 56 = .ok (.goto 18, 3) := by decide +kernel
theorem dX11_bell_59 : decode cX11_bell 59 = .ok (.iload_n 0, 1) := by decide +kernel
theorem dX11_bell_60 : decode cX11_bell 60 = .ok (.bipush 7, 2) := by decide +kernel
theorem dX11_bell_62 : decode cX11_bell 62 = .ok (.if_icmp .ne 9, 3) := by decide +kernel
theorem dX11_bell_65 : decode cX11_bell 65 = .ok (.sipush 877, 3) := by decide +kernel
theorem dX11_bell_68 : decode cX11_bell 68 = .ok (.goto 6, 3) := by decide +kernel
theorem dX11_bell_71 : decode cX11_bell 71 = .ok (.sipush 4140, 3) := by decide +kernel
theorem dX11_bell_74 : decode cX11_bell 74 = .ok (.ireturn, 1) := by decide +kernel
set_option maxRecDepth 20000 in
theorem ggX11_between_X11_isImage : GoodIn wsX11_between wsX11_isImage := goodIn_r _ [8, 9, 10, 7, 11] (by decide +kernel) (by decide +kernel)
set_option maxRecDepth 20000 in
theorem gX11_between_X11_isImage : GoodIn wsX11_between (va_wsS RX11 180 yX11_isImage wsX11_isImage) := goodIn_app (goodIn_of _ (by decide +kernel)) ggX11_between_X11_isImage
set_option maxRecDepth 20000 in
theorem ggX11_between_X11_finer : GoodIn wsX11_between wsX11_finer := goodIn_r _ [15, 4, 16, 17, 18, 19, 20, 7, 21, 22, 23, 24, 25, 26, 41, 42, 43, 44, 45, 46, 47, 48, 49, 50, 51, 52, 53, 54, 55, 56, 57] (by decide +kernel) (by decide +kernel)
set_option maxRecDepth 20000 in
theorem gX11_between_X11_finer : GoodIn wsX11_between (wsV RX11 183 RX11 yX11_finer wsX11_finer) := goodIn_app (goodIn_of _ (by decide +kernel)) ggX11_between_X11_finer
set_option maxRecDepth 20000 in
theorem ggX11_between_X11_guests : GoodIn wsX11_between wsX11_guests := goodIn_r _ [21, 22, 41, 42, 43, 44, 45, 46, 47, 48, 49, 50, 51, 52, 53, 54, 55, 56, 57] (by decide +kernel) (by decide +kernel)
set_option maxRecDepth 20000 in
theorem gX11_between_X11_guests : GoodIn wsX11_between (wsV RX11 112 RX11 yX11_guests wsX11_guests) := goodIn_app (goodIn_of _ (by decide +kernel)) ggX11_between_X11_guests
set_option maxRecDepth 20000 in
theorem ggX11_between_X11_coarser : GoodIn wsX11_between wsX11_coarser := goodIn_r _ [30, 4, 16, 17, 18, 19, 20, 7, 21, 22, 23, 24, 25, 26, 41, 42, 43, 44, 45, 46, 47, 48, 49, 50, 51, 52, 53, 54, 55, 56, 57] (by decide +kernel) (by decide +kernel)
set_option maxRecDepth 20000 in
theorem gX11_between_X11_coarser : GoodIn wsX11_between (wsV RX11 186 RX11 yX11_coarser wsX11_coarser) := goodIn_app (goodIn_of _ (by decide +kernel)) ggX11_between_X11_coarser
set_option maxRecDepth 20000 in
theorem ggX11_between_X11_partiesOf : GoodIn wsX11_between wsX11_partiesOf := goodIn_r _ [34, 18, 19, 20, 7, 21, 22, 41, 42, 43, 44, 45, 46, 47, 48, 49, 50, 51, 52, 53, 54, 55, 56, 57] (by decide +kernel) (by decide +kernel)
set_option maxRecDepth 20000 in
theorem gX11_between_X11_partiesOf : GoodIn wsX11_between (wsV RX11 125 RX11 yX11_partiesOf wsX11_partiesOf) := goodIn_app (goodIn_of _ (by decide +kernel)) ggX11_between_X11_partiesOf
set_option maxRecDepth 20000 in
theorem ggX11_between_X11_ones : GoodIn wsX11_between wsX11_ones := goodIn_r _ [37] (by decide +kernel) (by decide +kernel)
set_option maxRecDepth 20000 in
theorem gX11_between_X11_ones : GoodIn wsX11_between (va_wsS RX11 189 yX11_ones wsX11_ones) := goodIn_app (goodIn_of _ (by decide +kernel)) ggX11_between_X11_ones
set_option maxRecDepth 20000 in
theorem ggX11_between_X11_bell : GoodIn wsX11_between wsX11_bell := goodIn_r _ [40] (by decide +kernel) (by decide +kernel)
set_option maxRecDepth 20000 in
theorem gX11_between_X11_bell : GoodIn wsX11_between (va_wsS RX11 192 yX11_bell wsX11_bell) := goodIn_app (goodIn_of _ (by decide +kernel)) ggX11_between_X11_bell
theorem dX11_between_0 : decode cX11_between 0 = .ok (.aload_n 0, 1) := by decide +kernel
theorem dX11_between_1 : decode cX11_between 1 = .ok (.iconst 0, 1) := by decide +kernel
theorem dX11_between_2 : decode cX11_between 2 = .ok (.putfield 45, 3) := by decide +kernel
theorem dX11_between_5 : decode cX11_between 5 = .ok (.iload_n 1, 1) := by decide +kernel
theorem dX11_between_6 : decode cX11_between 6 = .ok (.invokestatic 180, 3) := by decide +kernel
theorem dX11_between_9 : decode cX11_between 9 = .ok (.ifCond .ne 5, 3) := by decide +kernel
theorem dX11_between_12 : decode cX11_between 12 = .ok (.iconst (-1), 1) := by decide +kernel
theorem dX11_between_13 : decode cX11_between 13 = .ok (.ireturn, 1) := by decide +kernel
theorem dX11_between_14 : decode cX11_between 14 = .ok (.aload_n 0, 1) := by decide +kernel
theorem dX11_between_15 : decode cX11_between 15 = .ok (.getfield 22, 3) := by decide +kernel
theorem dX11_between_18 : decode cX11_between 18 = .ok (.iload_n 1, 1) := by decide +kernel
theorem dX11_between_19 : decode cX11_between 19 = .ok (.baload, 1) := by decide +kernel
theorem dX11_between_20 : decode cX11_between 20 = .ok (.ifCond .ne 6, 3) := by decide +kernel
theorem dX11_between_23 : decode cX11_between 23 = .ok (.bipush (-2), 2) := by decide +kernel
theorem dX11_between_25 : decode cX11_between 25 = .ok (.ireturn, 1) := by decide +kernel
theorem dX11_between_26 : decode cX11_between 26 = .ok (.aload_n 0, 1) := by decide +kernel
theorem dX11_between_27 : decode cX11_between 27 = .ok (.iload_n 1, 1) := by decide +kernel
theorem dX11_between_28 : decode cX11_between 28 = .ok (.invokevirtual 183, 3) := by decide +kernel
theorem dX11_between_31 : decode cX11_between 31 = .ok (.iconst 0, 1) := by decide +kernel
theorem dX11_between_32 : decode cX11_between 32 = .ok (.istore_n 2, 1) := by decide +kernel
theorem dX11_between_33 : decode cX11_between 33 = .ok (.iload_n 2, 1) := by decide +kernel
theorem dX11_between_34 : decode cX11_between 34 = .ok (.aload_n 0, 1) := by decide +kernel
theorem dX11_between_35 : decode cX11_between 35 = .ok (.invokevirtual 112, 3) := by decide +kernel
theorem dX11_between_38 : decode cX11_between 38 = .ok (.if_icmp .ge 21, 3) := by decide +kernel
theorem dX11_between_41 : decode cX11_between 41 = .ok (.aload_n 0, 1) := by decide +kernel
theorem dX11_between_42 : decode cX11_between 42 = .ok (.getfield 29, 3) := by decide +kernel
theorem dX11_between_45 : decode cX11_between 45 = .ok (.iload_n 2, 1) := by decide +kernel
theorem dX11_between_46 : decode cX11_between 46 = .ok (.aload_n 0, 1) := by decide +kernel
theorem dX11_between_47 : decode cX11_between 47 = .ok (.getfield 26, 3) := by decide +kernel
theorem dX11_between_50 : decode cX11_between 50 = .ok (.iload_n 2, 1) := by decide +kernel
theorem dX11_between_51 : decode cX11_between 51 = .ok (.iaload, 1) := by decide +kernel
theorem dX11_between_52 : decode cX11_between 52 = .ok (.iastore, 1) := by decide +kernel
theorem dX11_between_53 : decode cX11_between 53 = .ok (.iinc 2 1, 3) := by decide +kernel
theorem dX11_between_56 : decode cX11_between 56 = .ok (.goto (-23), 3) := by decide +kernel
theorem dX11_between_59 : decode cX11_between 59 = .ok (.aload_n 0, 1) := by decide +kernel
theorem dX11_between_60 : decode cX11_between 60 = .ok (.iload_n 1, 1) := by decide +kernel
theorem dX11_between_61 : decode cX11_between 61 = .ok (.invokevirtual 186, 3) := by decide +kernel
theorem dX11_between_64 : decode cX11_between 64 = .ok (.iconst 1, 1) := by decide +kernel
theorem dX11_between_65 : decode cX11_between 65 = .ok (.istore_n 2, 1) := by decide +kernel
theorem dX11_between_66 : decode cX11_between 66 = .ok (.iconst 0, 1) := by decide +kernel
theorem dX11_between_67 : decode cX11_between 67 = .ok (.istore_n 3, 1) := by decide +kernel
theorem dX11_between_68 : decode cX11_between 68 = .ok (.iload_n 3, 1) := by decide +kernel
theorem dX11_between_69 : decode cX11_between 69 = .ok (.aload_n 0, 1) := by decide +kernel
theorem dX11_between_70 : decode cX11_between 70 = .ok (.aload_n 0, 1) := by decide +kernel
theorem dX11_between_71 : decode cX11_between 71 = .ok (.getfield 26, 3) := by decide +kernel
theorem dX11_between_74 : decode cX11_between 74 = .ok (.invokevirtual 125, 3) := by decide +kernel
theorem dX11_between_77 : decode cX11_between 77 = .ok (.if_icmp .ge 70, 3) := by decide +kernel
theorem dX11_between_80 : decode cX11_between 80 = .ok (.iconst 0, 1) := by decide +kernel
theorem dX11_between_81 : decode cX11_between 81 = .ok (.istore 4, 2) := by decide +kernel
theorem dX11_between_83 : decode cX11_between 83 = .ok (.iconst 0, 1) := by decide +kernel
theorem dX11_between_84 : decode cX11_between 84 = .ok (.istore 5, 2) := by decide +kernel
theorem dX11_between_86 : decode cX11_between 86 = .ok (.iload 5, 2) := by decide +kernel
theorem dX11_between_88 : decode cX11_between 88 = .ok (.aload_n 0, 1) := by decide +kernel
theorem dX11_between_89 : decode cX11_between 89 = .ok (.invokevirtual 112, 3) := by decide +kernel
theorem dX11_between_92 : decode cX11_between 92 = .ok (.if_icmp .ge 38, 3) := by decide +kernel
theorem dX11_between_95 : decode cX11_between 95 = .ok (.iload 4, 2) := by decide +kernel
theorem dX11_between_97 : decode cX11_between 97 = .ok (.aload_n 0, 1) := by decide +kernel
theorem dX11_between_98 : decode cX11_between 98 = .ok (.getfield 26, 3) := by decide +kernel
theorem dX11_between_101 : decode cX11_between 101 = .ok (.iload 5, 2) := by decide +kernel
theorem dX11_between_103 : decode cX11_between 103 = .ok (.iaload, 1) := by decide +kernel
theorem dX11_between_104 : decode cX11_between 104 = .ok (.iload_n 3, 1) := by decide +kernel
theorem dX11_between_105 : decode cX11_between 105 = .ok (.if_icmp .ne 15, 3) := by decide +kernel
theorem dX11_between_108 : decode cX11_between 108 = .ok (.iconst 1, 1) := by decide +kernel
theorem dX11_between_109 : decode cX11_between 109 = .ok (.aload_n 0, 1) := by decide +kernel
theorem dX11_between_110 : decode cX11_between 110 = .ok (.getfield 29, 3) := by decide +kernel
theorem dX11_between_113 : decode cX11_between 113 = .ok (.iload 5, 2) := by decide +kernel
theorem dX11_between_115 : decode cX11_between 115 = .ok (.iaload, 1) := by decide +kernel
theorem dX11_between_116 : decode cX11_between 116 = .ok (.ishl, 1) := by decide +kernel
theorem dX11_between_117 : decode cX11_between 117 = .ok (.goto 4, 3) := by decide +kernel
theorem dX11_between_120 : decode cX11_between 120 = .ok (.iconst 0, 1) := by decide +kernel
theorem dX11_between_121 : decode cX11_between 121 = .ok (.ior, 1) := by decide +kernel
theorem dX11_between_122 : decode cX11_between 122 = .ok (.istore 4, 2) := by decide +kernel
theorem dX11_between_124 : decode cX11_between 124 = .ok (.iinc 5 1, 3) := by decide +kernel
theorem dX11_between_127 : decode cX11_between 127 = .ok (.goto (-41), 3) := by decide +kernel
theorem dX11_between_130 : decode cX11_between 130 = .ok (.iload_n 2, 1) := by decide +kernel
theorem dX11_between_131 : decode cX11_between 131 = .ok (.iload 4, 2) := by decide +kernel
theorem dX11_between_133 : decode cX11_between 133 = .ok (.invokestatic 189, 3) := by decide +kernel
theorem dX11_between_136 : decode cX11_between 136 = .ok (.invokestatic 192, 3) := by decide +kernel
theorem dX11_between_139 : decode cX11_between 139 = .ok (.imul, 1) := by decide +kernel
theorem dX11_between_140 : decode cX11_between 140 = .ok (.istore_n 2, 1) := by decide +kernel
theorem dX11_between_141 : decode cX11_between 141 = .ok (.iinc 3 1, 3) := by decide +kernel
theorem dX11_between_144 : decode cX11_between 144 = .ok (.goto (-76), 3) := by decide +kernel
theorem dX11_between_147 : decode cX11_between 147 = .ok (.iload_n 2, 1) := by decide +kernel
theorem dX11_between_148 : decode cX11_between 148 = .ok (.ireturn, 1) := by decide +kernel
theorem dX11_ones_0 : decode cX11_ones 0 = .ok (.iconst 0, 1) := by decide +kernel
theorem dX11_ones_1 : decode cX11_ones 1 = .ok (.istore_n 1, 1) := by decide +kernel
theorem dX11_ones_2 : decode cX11_ones 2 = .ok (.iconst 0, 1) := by decide +kernel
theorem dX11_ones_3 : decode cX11_ones 3 = .ok (.istore_n 2, 1) := by decide +kernel
theorem dX11_ones_4 : decode cX11_ones 4 = .ok (.iload_n 2, 1) := by decide +kernel
theorem dX11_ones_5 : decode cX11_ones 5 = .ok (.bipush 8, 2) := by decide +kernel
theorem dX11_ones_7 : decode cX11_ones 7 = .ok (.if_icmp .ge 17, 3) := by decide +kernel
theorem dX11_ones_10 : decode cX11_ones 10 = .ok (.iload_n 1, 1) := by decide +kernel
theorem dX11_ones_11 : decode cX11_ones 11 = .ok (.iload_n 0, 1) := by decide +kernel
theorem dX11_ones_12 : decode cX11_ones 12 = .ok (.iload_n 2, 1) := by decide +kernel
theorem dX11_ones_13 : decode cX11_ones 13 = .ok (.ishr, 1) := by decide +kernel
theorem dX11_ones_14 : decode cX11_ones 14 = .ok (.iconst 1, 1) := by decide +kernel
theorem dX11_ones_15 : decode cX11_ones 15 = .ok (.iand, 1) := by decide +kernel
theorem dX11_ones_16 : decode cX11_ones 16 = .ok (.iadd, 1) := by decide +kernel
theorem dX11_ones_17 : decode cX11_ones 17 = .ok (.istore_n 1, 1) := by decide +kernel
theorem dX11_ones_18 : decode cX11_ones 18 = .ok (.iinc 2 1, 3) := by decide +kernel
theorem dX11_ones_21 : decode cX11_ones 21 = .ok (.goto (-17), 3) := by decide +kernel
theorem dX11_ones_24 : decode cX11_ones 24 = .ok (.iload_n 1, 1) := by decide +kernel
theorem dX11_ones_25 : decode cX11_ones 25 = .ok (.ireturn, 1) := by decide +kernel
set_option maxRecDepth 20000 in
theorem ggX11_fewest_X11_isImage : GoodIn wsX11_fewest wsX11_isImage := goodIn_r _ [9, 10, 11, 8, 12] (by decide +kernel) (by decide +kernel)
set_option maxRecDepth 20000 in
theorem gX11_fewest_X11_isImage : GoodIn wsX11_fewest (va_wsS RX11 180 yX11_isImage wsX11_isImage) := goodIn_app (goodIn_of _ (by decide +kernel)) ggX11_fewest_X11_isImage
set_option maxRecDepth 20000 in
theorem ggX11_fewest_X11_partiesOf : GoodIn wsX11_fewest wsX11_partiesOf := goodIn_r _ [16, 17, 18, 19, 8, 20, 21, 22, 23, 24, 25, 26, 27, 28, 29, 30, 31, 32, 33, 34, 35, 36, 37, 38] (by decide +kernel) (by decide +kernel)
set_option maxRecDepth 20000 in
theorem gX11_fewest_X11_partiesOf : GoodIn wsX11_fewest (wsV RX11 125 RX11 yX11_partiesOf wsX11_partiesOf) := goodIn_app (goodIn_of _ (by decide +kernel)) ggX11_fewest_X11_partiesOf
set_option maxRecDepth 20000 in
theorem ggX11_fewest_X11_guests : GoodIn wsX11_fewest wsX11_guests := goodIn_r _ [20, 21, 22, 23, 24, 25, 26, 27, 28, 29, 30, 31, 32, 33, 34, 35, 36, 37, 38] (by decide +kernel) (by decide +kernel)
set_option maxRecDepth 20000 in
theorem gX11_fewest_X11_guests : GoodIn wsX11_fewest (wsV RX11 112 RX11 yX11_guests wsX11_guests) := goodIn_app (goodIn_of _ (by decide +kernel)) ggX11_fewest_X11_guests
theorem dX11_fewest_0 : decode cX11_fewest 0 = .ok (.aload_n 0, 1) := by decide +kernel
theorem dX11_fewest_1 : decode cX11_fewest 1 = .ok (.iconst 0, 1) := by decide +kernel
theorem dX11_fewest_2 : decode cX11_fewest 2 = .ok (.putfield 45, 3) := by decide +kernel
theorem dX11_fewest_5 : decode cX11_fewest 5 = .ok (.iload_n 1, 1) := by decide +kernel
theorem dX11_fewest_6 : decode cX11_fewest 6 = .ok (.invokestatic 180, 3) := by decide +kernel
theorem dX11_fewest_9 : decode cX11_fewest 9 = .ok (.ifCond .ne 5, 3) := by decide +kernel
theorem dX11_fewest_12 : decode cX11_fewest 12 = .ok (.iconst (-1), 1) := by decide +kernel
theorem dX11_fewest_13 : decode cX11_fewest 13 = .ok (.ireturn, 1) := by decide +kernel
theorem dX11_fewest_14 : decode cX11_fewest 14 = .ok (.aload_n 0, 1) := by decide +kernel
theorem dX11_fewest_15 : decode cX11_fewest 15 = .ok (.getfield 22, 3) := by decide +kernel
theorem dX11_fewest_18 : decode cX11_fewest 18 = .ok (.iload_n 1, 1) := by decide +kernel
theorem dX11_fewest_19 : decode cX11_fewest 19 = .ok (.baload, 1) := by decide +kernel
theorem dX11_fewest_20 : decode cX11_fewest 20 = .ok (.ifCond .ne 6, 3) := by decide +kernel
theorem dX11_fewest_23 : decode cX11_fewest 23 = .ok (.bipush (-2), 2) := by decide +kernel
theorem dX11_fewest_25 : decode cX11_fewest 25 = .ok (.ireturn, 1) := by decide +kernel
theorem dX11_fewest_26 : decode cX11_fewest 26 = .ok (.iconst 0, 1) := by decide +kernel
theorem dX11_fewest_27 : decode cX11_fewest 27 = .ok (.istore_n 2, 1) := by decide +kernel
theorem dX11_fewest_28 : decode cX11_fewest 28 = .ok (.iload_n 2, 1) := by decide +kernel
theorem dX11_fewest_29 : decode cX11_fewest 29 = .ok (.sipush 256, 3) := by decide +kernel
theorem dX11_fewest_32 : decode cX11_fewest 32 = .ok (.if_icmp .ge 25, 3) := by decide +kernel
theorem dX11_fewest_35 : decode cX11_fewest 35 = .ok (.aload_n 0, 1) := by decide +kernel
theorem dX11_fewest_36 : decode cX11_fewest 36 = .ok (.getfield 35, 3) := by decide +kernel
theorem dX11_fewest_39 : decode cX11_fewest 39 = .ok (.iload_n 2, 1) := by decide +kernel
theorem dX11_fewest_40 : decode cX11_fewest 40 = .ok (.iload_n 2, 1) := by decide +kernel
theorem dX11_fewest_41 : decode cX11_fewest 41 = .ok (.ifCond .ne 7, 3) := by decide +kernel
theorem dX11_fewest_44 : decode cX11_fewest 44 = .ok (.iconst 0, 1) := by decide +kernel
theorem dX11_fewest_45 : decode cX11_fewest 45 = .ok (.goto 5, 3) := by decide +kernel
theorem dX11_fewest_48 : decode cX11_fewest 48 = .ok (.bipush (-9), 2) := by decide +kernel
theorem dX11_fewest_50 : decode cX11_fewest 50 = .ok (.iastore, 1) := by decide +kernel
theorem dX11_fewest_51 : decode cX11_fewest 51 = .ok (.iinc 2 1, 3) := by decide +kernel
theorem dX11_fewest_54 : decode cX11_fewest 54 = .ok (.goto (-26), 3) := by decide +kernel
theorem dX11_fewest_57 : decode cX11_fewest 57 = .ok (.iconst 0, 1) := by decide +kernel
theorem dX11_fewest_58 : decode cX11_fewest 58 = .ok (.istore_n 2, 1) := by decide +kernel
theorem dX11_fewest_59 : decode cX11_fewest 59 = .ok (.iload_n 2, 1) := by decide +kernel
theorem dX11_fewest_60 : decode cX11_fewest 60 = .ok (.aload_n 0, 1) := by decide +kernel
theorem dX11_fewest_61 : decode cX11_fewest 61 = .ok (.aload_n 0, 1) := by decide +kernel
theorem dX11_fewest_62 : decode cX11_fewest 62 = .ok (.getfield 16, 3) := by decide +kernel
theorem dX11_fewest_65 : decode cX11_fewest 65 = .ok (.invokevirtual 125, 3) := by decide +kernel
theorem dX11_fewest_68 : decode cX11_fewest 68 = .ok (.if_icmp .ge 172, 3) := by decide +kernel
theorem dX11_fewest_71 : decode cX11_fewest 71 = .ok (.sipush 255, 3) := by decide +kernel
theorem dX11_fewest_74 : decode cX11_fewest 74 = .ok (.istore_n 3, 1) := by decide +kernel
theorem dX11_fewest_75 : decode cX11_fewest 75 = .ok (.iload_n 3, 1) := by decide +kernel
theorem dX11_fewest_76 : decode cX11_fewest 76 = .ok (.ifCond .lt 158, 3) := by decide +kernel
theorem dX11_fewest_79 : decode cX11_fewest 79 = .ok (.iconst 0, 1) := by decide +kernel
theorem dX11_fewest_80 : decode cX11_fewest 80 = .ok (.istore 4, 2) := by decide +kernel
theorem dX11_fewest_82 : decode cX11_fewest 82 = .ok (.iload 4, 2) := by decide +kernel
theorem dX11_fewest_84 : decode cX11_fewest 84 = .ok (.bipush 8, 2) := by decide +kernel
theorem dX11_fewest_86 : decode cX11_fewest 86 = .ok (.if_icmp .ge 142, 3) := by decide +kernel
theorem dX11_fewest_89 : decode cX11_fewest 89 = .ok (.iload_n 3, 1) := by decide +kernel
theorem dX11_fewest_90 : decode cX11_fewest 90 = .ok (.iload 4, 2) := by decide +kernel
theorem dX11_fewest_92 : decode cX11_fewest 92 = .ok (.ishr, 1) := by decide +kernel
theorem dX11_fewest_93 : decode cX11_fewest 93 = .ok (.iconst 1, 1) := by decide +kernel
theorem dX11_fewest_94 : decode cX11_fewest 94 = .ok (.iand, 1) := by decide +kernel
theorem dX11_fewest_95 : decode cX11_fewest 95 = .ok (.iconst 1, 1) := by decide +kernel
theorem dX11_fewest_96 : decode cX11_fewest 96 = .ok (.if_icmp .ne 126, 3) := by decide +kernel
theorem dX11_fewest_99 : decode cX11_fewest 99 = .ok (.aload_n 0, 1) := by decide +kernel
theorem dX11_fewest_100 : decode cX11_fewest 100 = .ok (.getfield 35, 3) := by decide +kernel
theorem dX11_fewest_103 : decode cX11_fewest 103 = .ok (.iload_n 3, 1) := by decide +kernel
theorem dX11_fewest_104 : decode cX11_fewest 104 = .ok (.iconst 1, 1) := by decide +kernel
theorem dX11_fewest_105 : decode cX11_fewest 105 = .ok (.iload 4, 2) := by decide +kernel
theorem dX11_fewest_107 : decode cX11_fewest 107 = .ok (.ishl, 1) := by decide +kernel
theorem dX11_fewest_108 : decode cX11_fewest 108 = .ok (.iconst (-1), 1) := by decide +kernel
theorem dX11_fewest_109 : decode cX11_fewest 109 = .ok (.ixor, 1) := by decide +kernel
theorem dX11_fewest_110 : decode cX11_fewest 110 = .ok (.iand, 1) := by decide +kernel
theorem dX11_fewest_111 : decode cX11_fewest 111 = .ok (.iaload, 1) := by decide +kernel
theorem dX11_fewest_112 : decode cX11_fewest 112 = .ok (.bipush (-9), 2) := by decide +kernel
theorem dX11_fewest_114 : decode cX11_fewest 114 = .ok (.if_icmp .eq 108, 3) := by decide +kernel
theorem dX11_fewest_117 : decode cX11_fewest 117 = .ok (.iconst 0, 1) := by decide +kernel
theorem dX11_fewest_118 : decode cX11_fewest 118 = .ok (.istore 5, 2) := by decide +kernel
theorem dX11_fewest_120 : decode cX11_fewest 120 = .ok (.iconst 0, 1) := by decide +kernel
theorem dX11_fewest_121 : decode cX11_fewest 121 = .ok (.istore 6, 2) := by decide +kernel
theorem dX11_fewest_123 : decode cX11_fewest 123 = .ok (.iload 6, 2) := by decide +kernel
theorem dX11_fewest_125 : decode cX11_fewest 125 = .ok (.aload_n 0, 1) := by decide +kernel
theorem dX11_fewest_126 : decode cX11_fewest 126 = .ok (.invokevirtual 112, 3) := by decide +kernel
theorem dX11_fewest_129 : decode cX11_fewest 129 = .ok (.if_icmp .ge 47, 3) := by decide +kernel
theorem dX11_fewest_132 : decode cX11_fewest 132 = .ok (.iload 5, 2) := by decide +kernel
theorem dX11_fewest_134 : decode cX11_fewest 134 = .ok (.aload_n 0, 1) := by decide +kernel
theorem dX11_fewest_135 : decode cX11_fewest 135 = .ok (.getfield 16, 3) := by decide +kernel
theorem dX11_fewest_138 : decode cX11_fewest 138 = .ok (.iload 6, 2) := by decide +kernel
theorem dX11_fewest_140 : decode cX11_fewest 140 = .ok (.iaload, 1) := by decide +kernel
theorem dX11_fewest_141 : decode cX11_fewest 141 = .ok (.iload_n 2, 1) := by decide +kernel
theorem dX11_fewest_142 : decode cX11_fewest 142 = .ok (.if_icmp .ne 24, 3) := by decide +kernel
theorem dX11_fewest_145 : decode cX11_fewest 145 = .ok (.aload_n 0, 1) := by decide +kernel
theorem dX11_fewest_146 : decode cX11_fewest 146 = .ok (.getfield 19, 3) := by decide +kernel
theorem dX11_fewest_149 : decode cX11_fewest 149 = .ok (.bipush 40, 2) := by decide +kernel
theorem dX11_fewest_151 : decode cX11_fewest 151 = .ok (.iload_n 1, 1) := by decide +kernel
theorem dX11_fewest_152 : decode cX11_fewest 152 = .ok (.imul, 1) := by decide +kernel
theorem dX11_fewest_153 : decode cX11_fewest 153 = .ok (.iload 6, 2) := by decide +kernel
theorem dX11_fewest_155 : decode cX11_fewest 155 = .ok (.iadd, 1) := by decide +kernel
theorem dX11_fewest_156 : decode cX11_fewest 156 = .ok (.iaload, 1) := by decide +kernel
theorem dX11_fewest_157 : decode cX11_fewest 157 = .ok (.iload 4, 2) := by decide +kernel
theorem dX11_fewest_159 : decode cX11_fewest 159 = .ok (.if_icmp .ne 7, 3) := by decide +kernel
theorem dX11_fewest_162 : decode cX11_fewest 162 = .ok (.iconst 1, 1) := by decide +kernel
theorem dX11_fewest_163 : decode cX11_fewest 163 = .ok (.goto 4, 3) := by decide +kernel
