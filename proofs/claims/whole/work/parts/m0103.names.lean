theorem dX7_shiftOf_4 : decode cX7_shiftOf 4 = .ok (.isub, 1) := by decide +kernel
theorem dX7_shiftOf_5 : decode cX7_shiftOf 5 = .ok (.imul, 1) := by decide +kernel
theorem dX7_shiftOf_6 : decode cX7_shiftOf 6 = .ok (.ireturn, 1) := by decide +kernel
theorem dX7_guests_0 : decode cX7_guests 0 = .ok (.aload_n 0, 1) := by decide +kernel
theorem dX7_guests_1 : decode cX7_guests 1 = .ok (.getfield 21, 3) := by decide +kernel
theorem dX7_guests_4 : decode cX7_guests 4 = .ok (.ireturn, 1) := by decide +kernel
theorem dX7_parties_0 : decode cX7_parties 0 = .ok (.aload_n 0, 1) := by decide +kernel
theorem dX7_parties_1 : decode cX7_parties 1 = .ok (.getfield 25, 3) := by decide +kernel
theorem dX7_parties_4 : decode cX7_parties 4 = .ok (.ireturn, 1) := by decide +kernel
theorem dX7_partyOf_0 : decode cX7_partyOf 0 = .ok (.iload_n 1, 1) := by decide +kernel
theorem dX7_partyOf_1 : decode cX7_partyOf 1 = .ok (.ifCond .lt 20, 3) := by decide +kernel
theorem dX7_partyOf_4 : decode cX7_partyOf 4 = .ok (.iload_n 1, 1) := by decide +kernel
theorem dX7_partyOf_5 : decode cX7_partyOf 5 = .ok (.aload_n 0, 1) := by decide +kernel
theorem dX7_partyOf_6 : decode cX7_partyOf 6 = .ok (.getfield 21, 3) := by decide +kernel
theorem dX7_partyOf_9 : decode cX7_partyOf 9 = .ok (.if_icmp .ge 12, 3) := by decide +kernel
theorem dX7_partyOf_12 : decode cX7_partyOf 12 = .ok (.aload_n 0, 1) := by decide +kernel
theorem dX7_partyOf_13 : decode cX7_partyOf 13 = .ok (.getfield 9, 3) := by decide +kernel
theorem dX7_partyOf_16 : decode cX7_partyOf 16 = .ok (.iload_n 1, 1) := by decide +kernel
theorem dX7_partyOf_17 : decode cX7_partyOf 17 = .ok (.iaload, 1) := by decide +kernel
theorem dX7_partyOf_18 : decode cX7_partyOf 18 = .ok (.goto 4, 3) := by decide +kernel
theorem dX7_partyOf_21 : decode cX7_partyOf 21 = .ok (.iconst 0, 1) := by decide +kernel
theorem dX7_partyOf_22 : decode cX7_partyOf 22 = .ok (.ireturn, 1) := by decide +kernel
theorem dX7_setOf_0 : decode cX7_setOf 0 = .ok (.iload_n 1, 1) := by decide +kernel
theorem dX7_setOf_1 : decode cX7_setOf 1 = .ok (.ifCond .lt 20, 3) := by decide +kernel
theorem dX7_setOf_4 : decode cX7_setOf 4 = .ok (.iload_n 1, 1) := by decide +kernel
theorem dX7_setOf_5 : decode cX7_setOf 5 = .ok (.aload_n 0, 1) := by decide +kernel
theorem dX7_setOf_6 : decode cX7_setOf 6 = .ok (.getfield 25, 3) := by decide +kernel
theorem dX7_setOf_9 : decode cX7_setOf 9 = .ok (.if_icmp .ge 12, 3) := by decide +kernel
theorem dX7_setOf_12 : decode cX7_setOf 12 = .ok (.aload_n 0, 1) := by decide +kernel
theorem dX7_setOf_13 : decode cX7_setOf 13 = .ok (.getfield 15, 3) := by decide +kernel
theorem dX7_setOf_16 : decode cX7_setOf 16 = .ok (.iload_n 1, 1) := by decide +kernel
theorem dX7_setOf_17 : decode cX7_setOf 17 = .ok (.iaload, 1) := by decide +kernel
theorem dX7_setOf_18 : decode cX7_setOf 18 = .ok (.goto 4, 3) := by decide +kernel
theorem dX7_setOf_21 : decode cX7_setOf 21 = .ok (.iconst 0, 1) := by decide +kernel
theorem dX7_setOf_22 : decode cX7_setOf 22 = .ok (.ireturn, 1) := by decide +kernel
set_option maxRecDepth 20000 in
theorem ggX7_isAlone_X7_partyOf : GoodIn wsX7_isAlone wsX7_partyOf := goodIn_r _ [5, 6, 7, 21, 22, 23, 24, 25] (by decide +kernel) (by decide +kernel)
set_option maxRecDepth 20000 in
theorem gX7_isAlone_X7_partyOf : GoodIn wsX7_isAlone (wsV RX7 32 RX7 yX7_partyOf wsX7_partyOf) := goodIn_app (goodIn_of _ (by decide +kernel)) ggX7_isAlone_X7_partyOf
set_option maxRecDepth 20000 in
theorem ggX7_isAlone_X7_setOf : GoodIn wsX7_isAlone wsX7_setOf := goodIn_r _ [11, 12, 13, 21, 22, 23, 24, 25] (by decide +kernel) (by decide +kernel)
set_option maxRecDepth 20000 in
theorem gX7_isAlone_X7_setOf : GoodIn wsX7_isAlone (wsV RX7 35 RX7 yX7_setOf wsX7_setOf) := goodIn_app (goodIn_of _ (by decide +kernel)) ggX7_isAlone_X7_setOf
set_option maxRecDepth 20000 in
theorem ggX7_isAlone_J6_bitCount_0f7a4 : GoodIn wsX7_isAlone wsJ6_bitCount_0f7a4 := goodIn_r _ [17, 18, 19, 20] (by decide +kernel) (by decide +kernel)
set_option maxRecDepth 20000 in
theorem gX7_isAlone_J6_bitCount_0f7a4 : GoodIn wsX7_isAlone (va_wsS RX7 38 yJ6_bitCount_0f7a4 wsJ6_bitCount_0f7a4) := goodIn_app (goodIn_of _ (by decide +kernel)) ggX7_isAlone_J6_bitCount_0f7a4
theorem dX7_isAlone_0 : decode cX7_isAlone 0 = .ok (.aload_n 0, 1) := by decide +kernel
theorem dX7_isAlone_1 : decode cX7_isAlone 1 = .ok (.aload_n 0, 1) := by decide +kernel
theorem dX7_isAlone_2 : decode cX7_isAlone 2 = .ok (.iload_n 1, 1) := by decide +kernel
theorem dX7_isAlone_3 : decode cX7_isAlone 3 = .ok (.invokevirtual 32, 3) := by decide +kernel
theorem dX7_isAlone_6 : decode cX7_isAlone 6 = .ok (.invokevirtual 35, 3) := by decide +kernel
theorem dX7_isAlone_9 : decode cX7_isAlone 9 = .ok (.invokestatic 38, 3) := by decide +kernel
theorem dX7_isAlone_12 : decode cX7_isAlone 12 = .ok (.iconst 1, 1) := by decide +kernel
theorem dX7_isAlone_13 : decode cX7_isAlone 13 = .ok (.if_icmp .ne 7, 3) := by decide +kernel
theorem dX7_isAlone_16 : decode cX7_isAlone 16 = .ok (.iconst 1, 1) := by decide +kernel
theorem dX7_isAlone_17 : decode cX7_isAlone 17 = .ok (.goto 4, 3) := by decide +kernel
theorem dX7_isAlone_20 : decode cX7_isAlone 20 = .ok (.iconst 0, 1) := by decide +kernel
theorem dX7_isAlone_21 : decode cX7_isAlone 21 = .ok (.ireturn, 1) := by decide +kernel
set_option maxRecDepth 20000 in
theorem ggX7_loners_X7_setOf : GoodIn wsX7_loners wsX7_setOf := goodIn_r _ [6, 1, 7, 15, 16, 17, 18, 19] (by decide +kernel) (by decide +kernel)
set_option maxRecDepth 20000 in
theorem gX7_loners_X7_setOf : GoodIn wsX7_loners (wsV RX7 35 RX7 yX7_setOf wsX7_setOf) := goodIn_app (goodIn_of _ (by decide +kernel)) ggX7_loners_X7_setOf
set_option maxRecDepth 20000 in
theorem ggX7_loners_J6_bitCount_0f7a4 : GoodIn wsX7_loners wsJ6_bitCount_0f7a4 := goodIn_r _ [11, 12, 13, 14] (by decide +kernel) (by decide +kernel)
set_option maxRecDepth 20000 in
theorem gX7_loners_J6_bitCount_0f7a4 : GoodIn wsX7_loners (va_wsS RX7 38 yJ6_bitCount_0f7a4 wsJ6_bitCount_0f7a4) := goodIn_app (goodIn_of _ (by decide +kernel)) ggX7_loners_J6_bitCount_0f7a4
theorem dX7_loners_0 : decode cX7_loners 0 = .ok (.iconst 0, 1) := by decide +kernel
theorem dX7_loners_1 : decode cX7_loners 1 = .ok (.istore_n 1, 1) := by decide +kernel
theorem dX7_loners_2 : decode cX7_loners 2 = .ok (.iconst 0, 1) := by decide +kernel
theorem dX7_loners_3 : decode cX7_loners 3 = .ok (.istore_n 2, 1) := by decide +kernel
theorem dX7_loners_4 : decode cX7_loners 4 = .ok (.iload_n 2, 1) := by decide +kernel
theorem dX7_loners_5 : decode cX7_loners 5 = .ok (.aload_n 0, 1) := by decide +kernel
theorem dX7_loners_6 : decode cX7_loners 6 = .ok (.getfield 25, 3) := by decide +kernel
theorem dX7_loners_9 : decode cX7_loners 9 = .ok (.if_icmp .ge 24, 3) := by decide +kernel
theorem dX7_loners_12 : decode cX7_loners 12 = .ok (.aload_n 0, 1) := by decide +kernel
theorem dX7_loners_13 : decode cX7_loners 13 = .ok (.iload_n 2, 1) := by decide +kernel
theorem dX7_loners_14 : decode cX7_loners 14 = .ok (.invokevirtual 35, 3) := by decide +kernel
theorem dX7_loners_17 : decode cX7_loners 17 = .ok (.invokestatic 38, 3) := by decide +kernel
theorem dX7_loners_20 : decode cX7_loners 20 = .ok (.iconst 1, 1) := by decide +kernel
theorem dX7_loners_21 : decode cX7_loners 21 = .ok (.if_icmp .ne 6, 3) := by decide +kernel
theorem dX7_loners_24 : decode cX7_loners 24 = .ok (.iinc 1 1, 3) := by decide +kernel
theorem dX7_loners_27 : decode cX7_loners 27 = .ok (.iinc 2 1, 3) := by decide +kernel
theorem dX7_loners_30 : decode cX7_loners 30 = .ok (.goto (-26), 3) := by decide +kernel
theorem dX7_loners_33 : decode cX7_loners 33 = .ok (.iload_n 1, 1) := by decide +kernel
theorem dX7_loners_34 : decode cX7_loners 34 = .ok (.ireturn, 1) := by decide +kernel
set_option maxRecDepth 20000 in
theorem ggX7_code_X7_partyOf : GoodIn wsX7_code wsX7_partyOf := goodIn_r _ [6, 1, 7, 11, 12, 13, 14, 15] (by decide +kernel) (by decide +kernel)
set_option maxRecDepth 20000 in
theorem gX7_code_X7_partyOf : GoodIn wsX7_code (wsV RX7 32 RX7 yX7_partyOf wsX7_partyOf) := goodIn_app (goodIn_of _ (by decide +kernel)) ggX7_code_X7_partyOf
set_option maxRecDepth 20000 in
theorem ggX7_code_X7_shiftOf : GoodIn wsX7_code wsX7_shiftOf := goodIn_r _ [10] (by decide +kernel) (by decide +kernel)
set_option maxRecDepth 20000 in
theorem gX7_code_X7_shiftOf : GoodIn wsX7_code (va_wsS RX7 28 yX7_shiftOf wsX7_shiftOf) := goodIn_app (goodIn_of _ (by decide +kernel)) ggX7_code_X7_shiftOf
theorem dX7_code_0 : decode cX7_code 0 = .ok (.iconst 0, 1) := by decide +kernel
theorem dX7_code_1 : decode cX7_code 1 = .ok (.istore_n 1, 1) := by decide +kernel
theorem dX7_code_2 : decode cX7_code 2 = .ok (.iconst 0, 1) := by decide +kernel
theorem dX7_code_3 : decode cX7_code 3 = .ok (.istore_n 2, 1) := by decide +kernel
theorem dX7_code_4 : decode cX7_code 4 = .ok (.iload_n 2, 1) := by decide +kernel
theorem dX7_code_5 : decode cX7_code 5 = .ok (.aload_n 0, 1) := by decide +kernel
theorem dX7_code_6 : decode cX7_code 6 = .ok (.getfield 21, 3) := by decide +kernel
theorem dX7_code_9 : decode cX7_code 9 = .ok (.if_icmp .ge 22, 3) := by decide +kernel
theorem dX7_code_12 : decode cX7_code 12 = .ok (.iload_n 1, 1) := by decide +kernel
theorem dX7_code_13 : decode cX7_code 13 = .ok (.aload_n 0, 1) := by decide +kernel
theorem dX7_code_14 : decode cX7_code 14 = .ok (.iload_n 2, 1) := by decide +kernel
theorem dX7_code_15 : decode cX7_code 15 = .ok (.invokevirtual 32, 3) := by decide +kernel
theorem dX7_code_18 : decode cX7_code 18 = .ok (.iload_n 2, 1) := by decide +kernel
theorem dX7_code_19 : decode cX7_code 19 = .ok (.invokestatic 28, 3) := by decide +kernel
theorem dX7_code_22 : decode cX7_code 22 = .ok (.ishl, 1) := by decide +kernel
theorem dX7_code_23 : decode cX7_code 23 = .ok (.ior, 1) := by decide +kernel
theorem dX7_code_24 : decode cX7_code 24 = .ok (.istore_n 1, 1) := by decide +kernel
theorem dX7_code_25 : decode cX7_code 25 = .ok (.iinc 2 1, 3) := by decide +kernel
theorem dX7_code_28 : decode cX7_code 28 = .ok (.goto (-24), 3) := by decide +kernel
theorem dX7_code_31 : decode cX7_code 31 = .ok (.iload_n 1, 1) := by decide +kernel
theorem dX7_code_32 : decode cX7_code 32 = .ok (.ireturn, 1) := by decide +kernel
set_option maxRecDepth 20000 in
theorem ggX7_scatter_X7_settle : GoodIn wsX7_scatter wsX7_settle := goodIn_r _ [14, 15, 8, 16, 17, 18, 19, 20, 13, 21, 9, 22, 23, 24, 25, 26] (by decide +kernel) (by decide +kernel)
set_option maxRecDepth 20000 in
theorem gX7_scatter_X7_settle : GoodIn wsX7_scatter (wsV RX7 52 RX7 yX7_settle wsX7_settle) := goodIn_app (goodIn_of _ (by decide +kernel)) ggX7_scatter_X7_settle
theorem dX7_scatter_0 : decode cX7_scatter 0 = .ok (.aload_n 0, 1) := by decide +kernel
theorem dX7_scatter_1 : decode cX7_scatter 1 = .ok (.iconst 1, 1) := by decide +kernel
theorem dX7_scatter_2 : decode cX7_scatter 2 = .ok (.bipush 8, 2) := by decide +kernel
theorem dX7_scatter_4 : decode cX7_scatter 4 = .ok (.iload_n 1, 1) := by decide +kernel
theorem dX7_scatter_5 : decode cX7_scatter 5 = .ok (.invokestatic 43, 3) := by decide +kernel
theorem dX7_scatter_8 : decode cX7_scatter 8 = .ok (.invokestatic 49, 3) := by decide +kernel
theorem dX7_scatter_11 : decode cX7_scatter 11 = .ok (.putfield 21, 3) := by decide +kernel
theorem dX7_scatter_14 : decode cX7_scatter 14 = .ok (.iconst 0, 1) := by decide +kernel
theorem dX7_scatter_15 : decode cX7_scatter 15 = .ok (.istore_n 2, 1) := by decide +kernel
theorem dX7_scatter_16 : decode cX7_scatter 16 = .ok (.iload_n 2, 1) := by decide +kernel
theorem dX7_scatter_17 : decode cX7_scatter 17 = .ok (.aload_n 0, 1) := by decide +kernel
theorem dX7_scatter_18 : decode cX7_scatter 18 = .ok (.getfield 21, 3) := by decide +kernel
theorem dX7_scatter_21 : decode cX7_scatter 21 = .ok (.if_icmp .ge 16, 3) := by decide +kernel
theorem dX7_scatter_24 : decode cX7_scatter 24 = .ok (.aload_n 0, 1) := by decide +kernel
theorem dX7_scatter_25 : decode cX7_scatter 25 = .ok (.getfield 18, 3) := by decide +kernel
theorem dX7_scatter_28 : decode cX7_scatter 28 = .ok (.iload_n 2, 1) := by decide +kernel
theorem dX7_scatter_29 : decode cX7_scatter 29 = .ok (.iload_n 2, 1) := by decide +kernel
theorem dX7_scatter_30 : decode cX7_scatter 30 = .ok (.iastore, 1) := by decide +kernel
theorem dX7_scatter_31 : decode cX7_scatter 31 = .ok (.iinc 2 1, 3) := by decide +kernel
theorem dX7_scatter_34 : decode cX7_scatter 34 = .ok (.goto (-18), 3) := by decide +kernel
theorem dX7_scatter_37 : decode cX7_scatter 37 = .ok (.aload_n 0, 1) := by decide +kernel
theorem dX7_scatter_38 : decode cX7_scatter 38 = .ok (.invokevirtual 52, 3) := by decide +kernel
theorem dX7_scatter_41 : decode cX7_scatter 41 = .ok (.return_, 1) := by decide +kernel
set_option maxRecDepth 20000 in
theorem ggX7_standAs_X7_partyIn : GoodIn wsX7_standAs wsX7_partyIn := goodIn_r _ [6, 7, 8, 5, 9] (by decide +kernel) (by decide +kernel)
set_option maxRecDepth 20000 in
theorem gX7_standAs_X7_partyIn : GoodIn wsX7_standAs (va_wsS RX7 55 yX7_partyIn wsX7_partyIn) := goodIn_app (goodIn_of _ (by decide +kernel)) ggX7_standAs_X7_partyIn
set_option maxRecDepth 20000 in
theorem ggX7_standAs_X7_settle : GoodIn wsX7_standAs wsX7_settle := goodIn_r _ [13, 14, 1, 15, 16, 17, 18, 19, 5, 20, 2, 21, 22, 23, 24, 25] (by decide +kernel) (by decide +kernel)
set_option maxRecDepth 20000 in
theorem gX7_standAs_X7_settle : GoodIn wsX7_standAs (wsV RX7 52 RX7 yX7_settle wsX7_settle) := goodIn_app (goodIn_of _ (by decide +kernel)) ggX7_standAs_X7_settle
theorem dX7_standAs_0 : decode cX7_standAs 0 = .ok (.iconst 0, 1) := by decide +kernel
theorem dX7_standAs_1 : decode cX7_standAs 1 = .ok (.istore_n 2, 1) := by decide +kernel
theorem dX7_standAs_2 : decode cX7_standAs 2 = .ok (.iload_n 2, 1) := by decide +kernel
theorem dX7_standAs_3 : decode cX7_standAs 3 = .ok (.aload_n 0, 1) := by decide +kernel
theorem dX7_standAs_4 : decode cX7_standAs 4 = .ok (.getfield 21, 3) := by decide +kernel
theorem dX7_standAs_7 : decode cX7_standAs 7 = .ok (.if_icmp .ge 20, 3) := by decide +kernel
theorem dX7_standAs_10 : decode cX7_standAs 10 = .ok (.aload_n 0, 1) := by decide +kernel
theorem dX7_standAs_11 : decode cX7_standAs 11 = .ok (.getfield 18, 3) := by decide +kernel
theorem dX7_standAs_14 : decode cX7_standAs 14 = .ok (.iload_n 2, 1) := by decide +kernel
theorem dX7_standAs_15 : decode cX7_standAs 15 = .ok (.iload_n 1, 1) := by decide +kernel
theorem dX7_standAs_16 : decode cX7_standAs 16 = .ok (.iload_n 2, 1) := by decide +kernel
theorem dX7_standAs_17 : decode cX7_standAs 17 = .ok (.invokestatic 55, 3) := by decide +kernel
theorem dX7_standAs_20 : decode cX7_standAs 20 = .ok (.iastore, 1) := by decide +kernel
theorem dX7_standAs_21 : decode cX7_standAs 21 = .ok (.iinc 2 1, 3) := by decide +kernel
theorem dX7_standAs_24 : decode cX7_standAs 24 = .ok (.goto (-22), 3) := by decide +kernel
theorem dX7_standAs_27 : decode cX7_standAs 27 = .ok (.aload_n 0, 1) := by decide +kernel
theorem dX7_standAs_28 : decode cX7_standAs 28 = .ok (.invokevirtual 52, 3) := by decide +kernel
theorem dX7_standAs_31 : decode cX7_standAs 31 = .ok (.return_, 1) := by decide +kernel
set_option maxRecDepth 20000 in
theorem ggX7_standLike_X7_guests : GoodIn wsX7_standLike wsX7_guests := goodIn_r _ [6, 1, 37, 38, 39, 40, 41] (by decide +kernel) (by decide +kernel)
set_option maxRecDepth 20000 in
theorem gX7_standLike_X7_guests : GoodIn wsX7_standLike (wsV RX7 58 RX7 yX7_guests wsX7_guests) := goodIn_app (goodIn_of _ (by decide +kernel)) ggX7_standLike_X7_guests
set_option maxRecDepth 20000 in
theorem ggX7_standLike_X7_code : GoodIn wsX7_standLike wsX7_code := goodIn_r _ [10, 1, 11, 12, 13, 5, 14, 15, 16, 17, 18, 37, 38, 39, 40, 41] (by decide +kernel) (by decide +kernel)
set_option maxRecDepth 20000 in
theorem gX7_standLike_X7_code : GoodIn wsX7_standLike (wsV RX7 61 RX7 yX7_code wsX7_code) := goodIn_app (goodIn_of _ (by decide +kernel)) ggX7_standLike_X7_code
set_option maxRecDepth 20000 in
theorem ggX7_standLike_X7_standAs : GoodIn wsX7_standLike wsX7_standAs := goodIn_r _ [22, 1, 23, 24, 25, 5, 26, 16, 17, 18, 27, 28, 29, 30, 31, 32, 15, 33, 34, 35, 36, 37, 38, 39, 40, 41] (by decide +kernel) (by decide +kernel)
set_option maxRecDepth 20000 in
theorem gX7_standLike_X7_standAs : GoodIn wsX7_standLike (wsV RX7 64 RX7 yX7_standAs wsX7_standAs) := goodIn_app (goodIn_of _ (by decide +kernel)) ggX7_standLike_X7_standAs
theorem dX7_standLike_0 : decode cX7_standLike 0 = .ok (.aload_n 0, 1) := by decide +kernel
theorem dX7_standLike_1 : decode cX7_standLike 1 = .ok (.aload_n 1, 1) := by decide +kernel
theorem dX7_standLike_2 : decode cX7_standLike 2 = .ok (.invokevirtual 58, 3) := by decide +kernel
theorem dX7_standLike_5 : decode cX7_standLike 5 = .ok (.putfield 21, 3) := by decide +kernel
theorem dX7_standLike_8 : decode cX7_standLike 8 = .ok (.aload_n 0, 1) := by decide +kernel
theorem dX7_standLike_9 : decode cX7_standLike 9 = .ok (.aload_n 1, 1) := by decide +kernel
theorem dX7_standLike_10 : decode cX7_standLike 10 = .ok (.invokevirtual 61, 3) := by decide +kernel
theorem dX7_standLike_13 : decode cX7_standLike 13 = .ok (.invokevirtual 64, 3) := by decide +kernel
theorem dX7_standLike_16 : decode cX7_standLike 16 = .ok (.return_, 1) := by decide +kernel
set_option maxRecDepth 20000 in
theorem ggX7_sendTo_X7_partyOf : GoodIn wsX7_sendTo wsX7_partyOf := goodIn_r _ [5, 6, 7, 27, 28, 29, 30, 31] (by decide +kernel) (by decide +kernel)
set_option maxRecDepth 20000 in
theorem gX7_sendTo_X7_partyOf : GoodIn wsX7_sendTo (wsV RX7 32 RX7 yX7_partyOf wsX7_partyOf) := goodIn_app (goodIn_of _ (by decide +kernel)) ggX7_sendTo_X7_partyOf
set_option maxRecDepth 20000 in
theorem ggX7_sendTo_X7_sendToParty : GoodIn wsX7_sendTo wsX7_sendToParty := goodIn_r _ [11, 6, 12, 13, 14, 15, 4, 16, 7, 17, 18, 19, 20, 21, 22, 23, 24, 25, 26, 27, 28, 29, 30, 31] (by decide +kernel) (by decide +kernel)
set_option maxRecDepth 20000 in
theorem gX7_sendTo_X7_sendToParty : GoodIn wsX7_sendTo (wsV RX7 68 RX7 yX7_sendToParty wsX7_sendToParty) := goodIn_app (goodIn_of _ (by decide +kernel)) ggX7_sendTo_X7_sendToParty
theorem dX7_sendTo_0 : decode cX7_sendTo 0 = .ok (.aload_n 0, 1) := by decide +kernel
theorem dX7_sendTo_1 : decode cX7_sendTo 1 = .ok (.iload_n 1, 1) := by decide +kernel
theorem dX7_sendTo_2 : decode cX7_sendTo 2 = .ok (.iload_n 1, 1) := by decide +kernel
theorem dX7_sendTo_3 : decode cX7_sendTo 3 = .ok (.iload_n 2, 1) := by decide +kernel
theorem dX7_sendTo_4 : decode cX7_sendTo 4 = .ok (.if_icmp .ne 8, 3) := by decide +kernel
theorem dX7_sendTo_7 : decode cX7_sendTo 7 = .ok (.bipush 8, 2) := by decide +kernel
theorem dX7_sendTo_9 : decode cX7_sendTo 9 = .ok (.goto 8, 3) := by decide +kernel
theorem dX7_sendTo_12 : decode cX7_sendTo 12 = .ok (.aload_n 0, 1) := by decide +kernel
theorem dX7_sendTo_13 : decode cX7_sendTo 13 = .ok (.iload_n 2, 1) := by decide +kernel
theorem dX7_sendTo_14 : decode cX7_sendTo 14 = .ok (.invokevirtual 32, 3) := by decide +kernel
theorem dX7_sendTo_17 : decode cX7_sendTo 17 = .ok (.invokevirtual 68, 3) := by decide +kernel
theorem dX7_sendTo_20 : decode cX7_sendTo 20 = .ok (.return_, 1) := by decide +kernel
set_option maxRecDepth 20000 in
theorem ggX7_sendAlone_X7_sendToParty : GoodIn wsX7_sendAlone wsX7_sendToParty := goodIn_r _ [5, 6, 7, 8, 9, 10, 4, 11, 12, 13, 14, 15, 16, 17, 18, 19, 20, 21, 22, 23, 24, 25, 26, 27] (by decide +kernel) (by decide +kernel)
set_option maxRecDepth 20000 in
theorem gX7_sendAlone_X7_sendToParty : GoodIn wsX7_sendAlone (wsV RX7 68 RX7 yX7_sendToParty wsX7_sendToParty) := goodIn_app (goodIn_of _ (by decide +kernel)) ggX7_sendAlone_X7_sendToParty
theorem dX7_sendAlone_0 : decode cX7_sendAlone 0 = .ok (.aload_n 0, 1) := by decide +kernel
theorem dX7_sendAlone_1 : decode cX7_sendAlone 1 = .ok (.iload_n 1, 1) := by decide +kernel
theorem dX7_sendAlone_2 : decode cX7_sendAlone 2 = .ok (.bipush 8, 2) := by decide +kernel
theorem dX7_sendAlone_4 : decode cX7_sendAlone 4 = .ok (.invokevirtual 68, 3) := by decide +kernel
theorem dX7_sendAlone_7 : decode cX7_sendAlone 7 = .ok (.return_, 1) := by decide +kernel
set_option maxRecDepth 20000 in
theorem ggX7_sendToParty_X7_relabel : GoodIn wsX7_sendToParty wsX7_relabel := goodIn_r _ [7, 1, 2, 8, 19, 20, 21, 22, 23] (by decide +kernel) (by decide +kernel)
set_option maxRecDepth 20000 in
theorem gX7_sendToParty_X7_relabel : GoodIn wsX7_sendToParty (wsV RX7 72 RX7 yX7_relabel wsX7_relabel) := goodIn_app (goodIn_of _ (by decide +kernel)) ggX7_sendToParty_X7_relabel
set_option maxRecDepth 20000 in
theorem ggX7_sendToParty_X7_settle : GoodIn wsX7_sendToParty wsX7_settle := goodIn_r _ [12, 13, 1, 14, 8, 15, 16, 17, 6, 18, 2, 19, 20, 21, 22, 23] (by decide +kernel) (by decide +kernel)
set_option maxRecDepth 20000 in
theorem gX7_sendToParty_X7_settle : GoodIn wsX7_sendToParty (wsV RX7 52 RX7 yX7_settle wsX7_settle) := goodIn_app (goodIn_of _ (by decide +kernel)) ggX7_sendToParty_X7_settle
theorem dX7_sendToParty_0 : decode cX7_sendToParty 0 = .ok (.aload_n 0, 1) := by decide +kernel
theorem dX7_sendToParty_1 : decode cX7_sendToParty 1 = .ok (.invokevirtual 72, 3) := by decide +kernel
theorem dX7_sendToParty_4 : decode cX7_sendToParty 4 = .ok (.iload_n 1, 1) := by decide +kernel
theorem dX7_sendToParty_5 : decode cX7_sendToParty 5 = .ok (.ifCond .lt 18, 3) := by decide +kernel
theorem dX7_sendToParty_8 : decode cX7_sendToParty 8 = .ok (.iload_n 1, 1) := by decide +kernel
theorem dX7_sendToParty_9 : decode cX7_sendToParty 9 = .ok (.aload_n 0, 1) := by decide +kernel
theorem dX7_sendToParty_10 : decode cX7_sendToParty 10 = .ok (.getfield 21, 3) := by decide +kernel
theorem dX7_sendToParty_13 : decode cX7_sendToParty 13 = .ok (.if_icmp .ge 10, 3) := by decide +kernel
theorem dX7_sendToParty_16 : decode cX7_sendToParty 16 = .ok (.aload_n 0, 1) := by decide +kernel
theorem dX7_sendToParty_17 : decode cX7_sendToParty 17 = .ok (.getfield 18, 3) := by decide +kernel
theorem dX7_sendToParty_20 : decode cX7_sendToParty 20 = .ok (.iload_n 1, 1) := by decide +kernel
theorem dX7_sendToParty_21 : decode cX7_sendToParty 21 = .ok (.iload_n 2, 1) := by decide +kernel
theorem dX7_sendToParty_22 : decode cX7_sendToParty 22 = .ok (.iastore, 1) := by decide +kernel
theorem dX7_sendToParty_23 : decode cX7_sendToParty 23 = .ok (.aload_n 0, 1) := by decide +kernel
theorem dX7_sendToParty_24 : decode cX7_sendToParty 24 = .ok (.invokevirtual 52, 3) := by decide +kernel
theorem dX7_sendToParty_27 : decode cX7_sendToParty 27 = .ok (.return_, 1) := by decide +kernel
set_option maxRecDepth 20000 in
theorem ggX7_merge_X7_settle : GoodIn wsX7_merge wsX7_settle := goodIn_r _ [8, 9, 1, 10, 3, 11, 12, 13, 7, 14, 2, 15, 16, 17, 18, 19] (by decide +kernel) (by decide +kernel)
set_option maxRecDepth 20000 in
theorem gX7_merge_X7_settle : GoodIn wsX7_merge (wsV RX7 52 RX7 yX7_settle wsX7_settle) := goodIn_app (goodIn_of _ (by decide +kernel)) ggX7_merge_X7_settle
theorem dX7_merge_0 : decode cX7_merge 0 = .ok (.iconst 0, 1) := by decide +kernel
theorem dX7_merge_1 : decode cX7_merge 1 = .ok (.istore_n 3, 1) := by decide +kernel
theorem dX7_merge_2 : decode cX7_merge 2 = .ok (.iload_n 3, 1) := by decide +kernel
theorem dX7_merge_3 : decode cX7_merge 3 = .ok (.aload_n 0, 1) := by decide +kernel
theorem dX7_merge_4 : decode cX7_merge 4 = .ok (.getfield 21, 3) := by decide +kernel
theorem dX7_merge_7 : decode cX7_merge 7 = .ok (.if_icmp .ge 35, 3) := by decide +kernel
theorem dX7_merge_10 : decode cX7_merge 10 = .ok (.aload_n 0, 1) := by decide +kernel
theorem dX7_merge_11 : decode cX7_merge 11 = .ok (.getfield 18, 3) := by decide +kernel
theorem dX7_merge_14 : decode cX7_merge 14 = .ok (.iload_n 3, 1) := by decide +kernel
theorem dX7_merge_15 : decode cX7_merge 15 = .ok (.aload_n 0, 1) := by decide +kernel
theorem dX7_merge_16 : decode cX7_merge 16 = .ok (.getfield 9, 3) := by decide +kernel
theorem dX7_merge_19 : decode cX7_merge 19 = .ok (.iload_n 3, 1) := by decide +kernel
theorem dX7_merge_20 : decode cX7_merge 20 = .ok (.iaload, 1) := by decide +kernel
theorem dX7_merge_21 : decode cX7_merge 21 = .ok (.iload_n 2, 1) := by decide +kernel
theorem dX7_merge_22 : decode cX7_merge 22 = .ok (.if_icmp .ne 7, 3) := by decide +kernel
theorem dX7_merge_25 : decode cX7_merge 25 = .ok (.iload_n 1, 1) := by decide +kernel
theorem dX7_merge_26 : decode cX7_merge 26 = .ok (.goto 9, 3) := by decide +kernel
theorem dX7_merge_29 : decode cX7_merge 29 = .ok (.aload_n 0, 1) := by decide +kernel
theorem dX7_merge_30 : decode cX7_merge 30 = .ok (.getfield 9, 3) := by decide +kernel
theorem dX7_merge_33 : decode cX7_merge 33 = .ok (.iload_n 3, 1) := by decide +kernel
theorem dX7_merge_34 : decode cX7_merge 34 = .ok (.iaload, 1) := by decide +kernel
theorem dX7_merge_35 : decode cX7_merge 35 = .ok (.iastore, 1) := by decide +kernel
theorem dX7_merge_36 : decode cX7_merge 36 = .ok (.iinc 3 1, 3) := by decide +kernel
theorem dX7_merge_39 : decode cX7_merge 39 = .ok (.goto (-37), 3) := by decide +kernel
theorem dX7_merge_42 : decode cX7_merge 42 = .ok (.aload_n 0, 1) := by decide +kernel
theorem dX7_merge_43 : decode cX7_merge 43 = .ok (.invokevirtual 52, 3) := by decide +kernel
theorem dX7_merge_46 : decode cX7_merge 46 = .ok (.return_, 1) := by decide +kernel
set_option maxRecDepth 20000 in
theorem ggX7_splitOff_X7_settle : GoodIn wsX7_splitOff wsX7_settle := goodIn_r _ [8, 9, 1, 10, 3, 11, 12, 13, 7, 14, 2, 15, 16, 17, 18, 19] (by decide +kernel) (by decide +kernel)
set_option maxRecDepth 20000 in
theorem gX7_splitOff_X7_settle : GoodIn wsX7_splitOff (wsV RX7 52 RX7 yX7_settle wsX7_settle) := goodIn_app (goodIn_of _ (by decide +kernel)) ggX7_splitOff_X7_settle
theorem dX7_splitOff_0 : decode cX7_splitOff 0 = .ok (.iconst 0, 1) := by decide +kernel
theorem dX7_splitOff_1 : decode cX7_splitOff 1 = .ok (.istore_n 2, 1) := by decide +kernel
theorem dX7_splitOff_2 : decode cX7_splitOff 2 = .ok (.iload_n 2, 1) := by decide +kernel
theorem dX7_splitOff_3 : decode cX7_splitOff 3 = .ok (.aload_n 0, 1) := by decide +kernel
theorem dX7_splitOff_4 : decode cX7_splitOff 4 = .ok (.getfield 21, 3) := by decide +kernel
theorem dX7_splitOff_7 : decode cX7_splitOff 7 = .ok (.if_icmp .ge 34, 3) := by decide +kernel
theorem dX7_splitOff_10 : decode cX7_splitOff 10 = .ok (.aload_n 0, 1) := by decide +kernel
theorem dX7_splitOff_11 : decode cX7_splitOff 11 = .ok (.getfield 18, 3) := by decide +kernel
theorem dX7_splitOff_14 : decode cX7_splitOff 14 = .ok (.iload_n 2, 1) := by decide +kernel
theorem dX7_splitOff_15 : decode cX7_splitOff 15 = .ok (.iload_n 1, 1) := by decide +kernel
theorem dX7_splitOff_16 : decode cX7_splitOff 16 = .ok (.iconst 1, 1) := by decide +kernel
theorem dX7_splitOff_17 : decode cX7_splitOff 17 = .ok (.iload_n 2, 1) := by decide +kernel
theorem dX7_splitOff_18 : decode cX7_splitOff 18 = .ok (.ishl, 1) := by decide +kernel
theorem dX7_splitOff_19 : decode cX7_splitOff 19 = .ok (.iand, 1) := by decide +kernel
theorem dX7_splitOff_20 : decode cX7_splitOff 20 = .ok (.ifCond .eq 8, 3) := by decide +kernel
theorem dX7_splitOff_23 : decode cX7_splitOff 23 = .ok (.bipush 8, 2) := by decide +kernel
theorem dX7_splitOff_25 : decode cX7_splitOff 25 = .ok (.goto 9, 3) := by decide +kernel
theorem dX7_splitOff_28 : decode cX7_splitOff 28 = .ok (.aload_n 0, 1) := by decide +kernel
theorem dX7_splitOff_29 : decode cX7_splitOff 29 = .ok (.getfield 9, 3) := by decide +kernel
theorem dX7_splitOff_32 : decode cX7_splitOff 32 = .ok (.iload_n 2, 1) := by decide +kernel
theorem dX7_splitOff_33 : decode cX7_splitOff 33 = .ok (.iaload, 1) := by decide +kernel
theorem dX7_splitOff_34 : decode cX7_splitOff 34 = .ok (.iastore, 1) := by decide +kernel
theorem dX7_splitOff_35 : decode cX7_splitOff 35 = .ok (.iinc 2 1, 3) := by decide +kernel
theorem dX7_splitOff_38 : decode cX7_splitOff 38 = .ok (.goto (-36), 3) := by decide +kernel
theorem dX7_splitOff_41 : decode cX7_splitOff 41 = .ok (.aload_n 0, 1) := by decide +kernel
theorem dX7_splitOff_42 : decode cX7_splitOff 42 = .ok (.invokevirtual 52, 3) := by decide +kernel
theorem dX7_splitOff_45 : decode cX7_splitOff 45 = .ok (.return_, 1) := by decide +kernel
set_option maxRecDepth 20000 in
theorem ggX7_meet_X7_guests : GoodIn wsX7_meet wsX7_guests := goodIn_r _ [7, 1, 23, 24, 25, 26, 27] (by decide +kernel) (by decide +kernel)
set_option maxRecDepth 20000 in
theorem gX7_meet_X7_guests : GoodIn wsX7_meet (wsV RX7 58 RX7 yX7_guests wsX7_guests) := goodIn_app (goodIn_of _ (by decide +kernel)) ggX7_meet_X7_guests
set_option maxRecDepth 20000 in
theorem ggX7_meet_X7_partyOf : GoodIn wsX7_meet wsX7_partyOf := goodIn_r _ [11, 1, 12, 23, 24, 25, 26, 27] (by decide +kernel) (by decide +kernel)
set_option maxRecDepth 20000 in
theorem gX7_meet_X7_partyOf : GoodIn wsX7_meet (wsV RX7 32 RX7 yX7_partyOf wsX7_partyOf) := goodIn_app (goodIn_of _ (by decide +kernel)) ggX7_meet_X7_partyOf
set_option maxRecDepth 20000 in
theorem ggX7_meet_X7_settle : GoodIn wsX7_meet wsX7_settle := goodIn_r _ [16, 17, 1, 18, 12, 19, 20, 21, 6, 22, 2, 23, 24, 25, 26, 27] (by decide +kernel) (by decide +kernel)
set_option maxRecDepth 20000 in
theorem gX7_meet_X7_settle : GoodIn wsX7_meet (wsV RX7 52 RX7 yX7_settle wsX7_settle) := goodIn_app (goodIn_of _ (by decide +kernel)) ggX7_meet_X7_settle
theorem dX7_meet_0 : decode cX7_meet 0 = .ok (.aload_n 0, 1) := by decide +kernel
theorem dX7_meet_1 : decode cX7_meet 1 = .ok (.aload_n 1, 1) := by decide +kernel
theorem dX7_meet_2 : decode cX7_meet 2 = .ok (.invokevirtual 58, 3) := by decide +kernel
theorem dX7_meet_5 : decode cX7_meet 5 = .ok (.putfield 21, 3) := by decide +kernel
theorem dX7_meet_8 : decode cX7_meet 8 = .ok (.iconst 0, 1) := by decide +kernel
theorem dX7_meet_9 : decode cX7_meet 9 = .ok (.istore_n 3, 1) := by decide +kernel
theorem dX7_meet_10 : decode cX7_meet 10 = .ok (.iload_n 3, 1) := by decide +kernel
theorem dX7_meet_11 : decode cX7_meet 11 = .ok (.aload_n 0, 1) := by decide +kernel
theorem dX7_meet_12 : decode cX7_meet 12 = .ok (.getfield 21, 3) := by decide +kernel
theorem dX7_meet_15 : decode cX7_meet 15 = .ok (.if_icmp .ge 29, 3) := by decide +kernel
theorem dX7_meet_18 : decode cX7_meet 18 = .ok (.aload_n 0, 1) := by decide +kernel
theorem dX7_meet_19 : decode cX7_meet 19 = .ok (.getfield 18, 3) := by decide +kernel
theorem dX7_meet_22 : decode cX7_meet 22 = .ok (.iload_n 3, 1) := by decide +kernel
theorem dX7_meet_23 : decode cX7_meet 23 = .ok (.aload_n 1, 1) := by decide +kernel
theorem dX7_meet_24 : decode cX7_meet 24 = .ok (.iload_n 3, 1) := by decide +kernel
theorem dX7_meet_25 : decode cX7_meet 25 = .ok (.invokevirtual 32, 3) := by decide +kernel
theorem dX7_meet_28 : decode cX7_meet 28 = .ok (.bipush 8, 2) := by decide +kernel
theorem dX7_meet_30 : decode cX7_meet 30 = .ok (.imul, 1) := by decide +kernel
theorem dX7_meet_31 : decode cX7_meet 31 = .ok (.aload_n 2, 1) := by decide +kernel
theorem dX7_meet_32 : decode cX7_meet 32 = .ok (.iload_n 3, 1) := by decide +kernel
theorem dX7_meet_33 : decode cX7_meet 33 = .ok (.invokevirtual 32, 3) := by decide +kernel
theorem dX7_meet_36 : decode cX7_meet 36 = .ok (.iadd, 1) := by decide +kernel
theorem dX7_meet_37 : decode cX7_meet 37 = .ok (.iastore, 1) := by decide +kernel
theorem dX7_meet_38 : decode cX7_meet 38 = .ok (.iinc 3 1, 3) := by decide +kernel
theorem dX7_meet_41 : decode cX7_meet 41 = .ok (.goto (-31), 3) := by decide +kernel
theorem dX7_meet_44 : decode cX7_meet 44 = .ok (.aload_n 0, 1) := by decide +kernel
theorem dX7_meet_45 : decode cX7_meet 45 = .ok (.invokevirtual 52, 3) := by decide +kernel
theorem dX7_meet_48 : decode cX7_meet 48 = .ok (.return_, 1) := by decide +kernel
set_option maxRecDepth 20000 in
theorem ggX7_mergeAlong_X7_partyOf : GoodIn wsX7_mergeAlong wsX7_partyOf := goodIn_r _ [6, 1, 7, 32, 33, 34, 35, 36] (by decide +kernel) (by decide +kernel)
set_option maxRecDepth 20000 in
theorem gX7_mergeAlong_X7_partyOf : GoodIn wsX7_mergeAlong (wsV RX7 32 RX7 yX7_partyOf wsX7_partyOf) := goodIn_app (goodIn_of _ (by decide +kernel)) ggX7_mergeAlong_X7_partyOf
set_option maxRecDepth 20000 in
theorem ggX7_mergeAlong_X7_setOf : GoodIn wsX7_mergeAlong wsX7_setOf := goodIn_r _ [11, 12, 13, 32, 33, 34, 35, 36] (by decide +kernel) (by decide +kernel)
set_option maxRecDepth 20000 in
theorem gX7_mergeAlong_X7_setOf : GoodIn wsX7_mergeAlong (wsV RX7 35 RX7 yX7_setOf wsX7_setOf) := goodIn_app (goodIn_of _ (by decide +kernel)) ggX7_mergeAlong_X7_setOf
set_option maxRecDepth 20000 in
theorem ggX7_mergeAlong_J6_numberOfTrailingZeros_0f7a4 : GoodIn wsX7_mergeAlong wsJ6_numberOfTrailingZeros_0f7a4 := goodIn_r _ [17, 18] (by decide +kernel) (by decide +kernel)
set_option maxRecDepth 20000 in
theorem gX7_mergeAlong_J6_numberOfTrailingZeros_0f7a4 : GoodIn wsX7_mergeAlong (va_wsS RX7 75 yJ6_numberOfTrailingZeros_0f7a4 wsJ6_numberOfTrailingZeros_0f7a4) := goodIn_app (goodIn_of _ (by decide +kernel)) ggX7_mergeAlong_J6_numberOfTrailingZeros_0f7a4
set_option maxRecDepth 20000 in
theorem ggX7_mergeAlong_X7_merge : GoodIn wsX7_mergeAlong wsX7_merge := goodIn_r _ [22, 1, 23, 7, 24, 25, 26, 5, 27, 12, 13, 28, 29, 30, 31, 32, 33, 34, 35, 36] (by decide +kernel) (by decide +kernel)
set_option maxRecDepth 20000 in
theorem gX7_mergeAlong_X7_merge : GoodIn wsX7_mergeAlong (wsV RX7 78 RX7 yX7_merge wsX7_merge) := goodIn_app (goodIn_of _ (by decide +kernel)) ggX7_mergeAlong_X7_merge
theorem dX7_mergeAlong_0 : decode cX7_mergeAlong 0 = .ok (.iconst 1, 1) := by decide +kernel
theorem dX7_mergeAlong_1 : decode cX7_mergeAlong 1 = .ok (.istore_n 2, 1) := by decide +kernel
theorem dX7_mergeAlong_2 : decode cX7_mergeAlong 2 = .ok (.iload_n 2, 1) := by decide +kernel
theorem dX7_mergeAlong_3 : decode cX7_mergeAlong 3 = .ok (.aload_n 0, 1) := by decide +kernel
theorem dX7_mergeAlong_4 : decode cX7_mergeAlong 4 = .ok (.getfield 21, 3) := by decide +kernel
theorem dX7_mergeAlong_7 : decode cX7_mergeAlong 7 = .ok (.if_icmp .ge 49, 3) := by decide +kernel
theorem dX7_mergeAlong_10 : decode cX7_mergeAlong 10 = .ok (.aload_n 1, 1) := by decide +kernel
theorem dX7_mergeAlong_11 : decode cX7_mergeAlong 11 = .ok (.aload_n 1, 1) := by decide +kernel
theorem dX7_mergeAlong_12 : decode cX7_mergeAlong 12 = .ok (.iload_n 2, 1) := by decide +kernel
theorem dX7_mergeAlong_13 : decode cX7_mergeAlong 13 = .ok (.invokevirtual 32, 3) := by decide +kernel
theorem dX7_mergeAlong_16 : decode cX7_mergeAlong 16 = .ok (.invokevirtual 35, 3) := by decide +kernel
theorem dX7_mergeAlong_19 : decode cX7_mergeAlong 19 = .ok (.invokestatic 75, 3) := by decide +kernel
theorem dX7_mergeAlong_22 : decode cX7_mergeAlong 22 = .ok (.istore_n 3, 1) := by decide +kernel
theorem dX7_mergeAlong_23 : decode cX7_mergeAlong 23 = .ok (.aload_n 0, 1) := by decide +kernel
theorem dX7_mergeAlong_24 : decode cX7_mergeAlong 24 = .ok (.iload_n 3, 1) := by decide +kernel
theorem dX7_mergeAlong_25 : decode cX7_mergeAlong 25 = .ok (.invokevirtual 32, 3) := by decide +kernel
theorem dX7_mergeAlong_28 : decode cX7_mergeAlong 28 = .ok (.aload_n 0, 1) := by decide +kernel
theorem dX7_mergeAlong_29 : decode cX7_mergeAlong 29 = .ok (.iload_n 2, 1) := by decide +kernel
theorem dX7_mergeAlong_30 : decode cX7_mergeAlong 30 = .ok (.invokevirtual 32, 3) := by decide +kernel
theorem dX7_mergeAlong_33 : decode cX7_mergeAlong 33 = .ok (.if_icmp .eq 17, 3) := by decide +kernel
theorem dX7_mergeAlong_36 : decode cX7_mergeAlong 36 = .ok (.aload_n 0, 1) := by decide +kernel
theorem dX7_mergeAlong_37 : decode cX7_mergeAlong 37 = .ok (.aload_n 0, 1) := by decide +kernel
theorem dX7_mergeAlong_38 : decode cX7_mergeAlong 38 = .ok (.iload_n 3, 1) := by decide +kernel
theorem dX7_mergeAlong_39 : decode cX7_mergeAlong 39 = .ok (.invokevirtual 32, 3) := by decide +kernel
theorem dX7_mergeAlong_42 : decode cX7_mergeAlong 42 = .ok (.aload_n 0, 1) := by decide +kernel
theorem dX7_mergeAlong_43 : decode cX7_mergeAlong 43 = .ok (.iload_n 2, 1) := by decide +kernel
theorem dX7_mergeAlong_44 : decode cX7_mergeAlong 44 = .ok (.invokevirtual 32, 3) := by decide +kernel
theorem dX7_mergeAlong_47 : decode cX7_mergeAlong 47 = .ok (.invokevirtual 78, 3) := by decide +kernel
theorem dX7_mergeAlong_50 : decode cX7_mergeAlong 50 = .ok (.iinc 2 1, 3) := by decide +kernel
theorem dX7_mergeAlong_53 : decode cX7_mergeAlong 53 = .ok (.goto (-51), 3) := by decide +kernel
theorem dX7_mergeAlong_56 : decode cX7_mergeAlong 56 = .ok (.return_, 1) := by decide +kernel
theorem dX7_relabel_0 : decode cX7_relabel 0 = .ok (.iconst 0, 1) := by decide +kernel
theorem dX7_relabel_1 : decode cX7_relabel 1 = .ok (.istore_n 1, 1) := by decide +kernel
theorem dX7_relabel_2 : decode cX7_relabel 2 = .ok (.iload_n 1, 1) := by decide +kernel
theorem dX7_relabel_3 : decode cX7_relabel 3 = .ok (.aload_n 0, 1) := by decide +kernel
theorem dX7_relabel_4 : decode cX7_relabel 4 = .ok (.getfield 21, 3) := by decide +kernel
theorem dX7_relabel_7 : decode cX7_relabel 7 = .ok (.if_icmp .ge 21, 3) := by decide +kernel
theorem dX7_relabel_10 : decode cX7_relabel 10 = .ok (.aload_n 0, 1) := by decide +kernel
theorem dX7_relabel_11 : decode cX7_relabel 11 = .ok (.getfield 18, 3) := by decide +kernel
theorem dX7_relabel_14 : decode cX7_relabel 14 = .ok (.iload_n 1, 1) := by decide +kernel
theorem dX7_relabel_15 : decode cX7_relabel 15 = .ok (.aload_n 0, 1) := by decide +kernel
theorem dX7_relabel_16 : decode cX7_relabel 16 = .ok (.getfield 9, 3) := by decide +kernel
theorem dX7_relabel_19 : decode cX7_relabel 19 = .ok (.iload_n 1, 1) := by decide +kernel
theorem dX7_relabel_20 : decode cX7_relabel 20 = .ok (.iaload, 1) := by decide +kernel
theorem dX7_relabel_21 : decode cX7_relabel 21 = .ok (.iastore, 1) := by decide +kernel
theorem dX7_relabel_22 : decode cX7_relabel 22 = .ok (.iinc 1 1, 3) := by decide +kernel
theorem dX7_relabel_25 : decode cX7_relabel 25 = .ok (.goto (-23), 3) := by decide +kernel
theorem dX7_relabel_28 : decode cX7_relabel 28 = .ok (.return_, 1) := by decide +kernel
set_option maxRecDepth 20000 in
theorem ggX7_settle_X7_firstLabelledLike : GoodIn wsX7_settle wsX7_firstLabelledLike := goodIn_r _ [9, 10, 11, 12, 13, 14, 15] (by decide +kernel) (by decide +kernel)
set_option maxRecDepth 20000 in
theorem gX7_settle_X7_firstLabelledLike : GoodIn wsX7_settle (wsV RX7 81 RX7 yX7_firstLabelledLike wsX7_firstLabelledLike) := goodIn_app (goodIn_of _ (by decide +kernel)) ggX7_settle_X7_firstLabelledLike
theorem dX7_settle_0 : decode cX7_settle 0 = .ok (.aload_n 0, 1) := by decide +kernel
theorem dX7_settle_1 : decode cX7_settle 1 = .ok (.iconst 0, 1) := by decide +kernel
theorem dX7_settle_2 : decode cX7_settle 2 = .ok (.putfield 25, 3) := by decide +kernel
theorem dX7_settle_5 : decode cX7_settle 5 = .ok (.iconst 0, 1) := by decide +kernel
theorem dX7_settle_6 : decode cX7_settle 6 = .ok (.istore_n 1, 1) := by decide +kernel
theorem dX7_settle_7 : decode cX7_settle 7 = .ok (.iload_n 1, 1) := by decide +kernel
theorem dX7_settle_8 : decode cX7_settle 8 = .ok (.aload_n 0, 1) := by decide +kernel
theorem dX7_settle_9 : decode cX7_settle 9 = .ok (.getfield 21, 3) := by decide +kernel
theorem dX7_settle_12 : decode cX7_settle 12 = .ok (.if_icmp .ge 82, 3) := by decide +kernel
theorem dX7_settle_15 : decode cX7_settle 15 = .ok (.aload_n 0, 1) := by decide +kernel
theorem dX7_settle_16 : decode cX7_settle 16 = .ok (.iload_n 1, 1) := by decide +kernel
theorem dX7_settle_17 : decode cX7_settle 17 = .ok (.invokevirtual 81, 3) := by decide +kernel
theorem dX7_settle_20 : decode cX7_settle 20 = .ok (.istore_n 2, 1) := by decide +kernel
theorem dX7_settle_21 : decode cX7_settle 21 = .ok (.iload_n 2, 1) := by decide +kernel
theorem dX7_settle_22 : decode cX7_settle 22 = .ok (.iload_n 1, 1) := by decide +kernel
theorem dX7_settle_23 : decode cX7_settle 23 = .ok (.if_icmp .ne 36, 3) := by decide +kernel
theorem dX7_settle_26 : decode cX7_settle 26 = .ok (.aload_n 0, 1) := by decide +kernel
theorem dX7_settle_27 : decode cX7_settle 27 = .ok (.getfield 15, 3) := by decide +kernel
theorem dX7_settle_30 : decode cX7_settle 30 = .ok (.aload_n 0, 1) := by decide +kernel
theorem dX7_settle_31 : decode cX7_settle 31 = .ok (.getfield 25, 3) := by decide +kernel
theorem dX7_settle_34 : decode cX7_settle 34 = .ok (.iconst 0, 1) := by decide +kernel
theorem dX7_settle_35 : decode cX7_settle 35 = .ok (.iastore, 1) := by decide +kernel
theorem dX7_settle_36 : decode cX7_settle 36 = .ok (.aload_n 0, 1) := by decide +kernel
theorem dX7_settle_37 : decode cX7_settle 37 = .ok (.getfield 9, 3) := by decide +kernel
theorem dX7_settle_40 : decode cX7_settle 40 = .ok (.iload_n 1, 1) := by decide +kernel
theorem dX7_settle_41 : decode cX7_settle 41 = .ok (.aload_n 0, 1) := by decide +kernel
theorem dX7_settle_42 : decode cX7_settle 42 = .ok (.getfield 25, 3) := by decide +kernel
theorem dX7_settle_45 : decode cX7_settle 45 = .ok (.iastore, 1) := by decide +kernel
theorem dX7_settle_46 : decode cX7_settle 46 = .ok (.aload_n 0, 1) := by decide +kernel
theorem dX7_settle_47 : decode cX7_settle 47 = .ok (.dup, 1) := by decide +kernel
theorem dX7_settle_48 : decode cX7_settle 48 = .ok (.getfield 25, 3) := by decide +kernel
theorem dX7_settle_51 : decode cX7_settle 51 = .ok (.iconst 1, 1) := by decide +kernel
theorem dX7_settle_52 : decode cX7_settle 52 = .ok (.iadd, 1) := by decide +kernel
theorem dX7_settle_53 : decode cX7_settle 53 = .ok (.putfield 25, 3) := by decide +kernel
theorem dX7_settle_56 : decode cX7_settle 56 = .ok (.goto 15, 3) := by decide +kernel
theorem dX7_settle_59 : decode cX7_settle 59 = .ok (.aload_n 0, 1) := by decide +kernel
theorem dX7_settle_60 : decode cX7_settle 60 = .ok (.getfield 9, 3) := by decide +kernel
theorem dX7_settle_63 : decode cX7_settle 63 = .ok (.iload_n 1, 1) := by decide +kernel
theorem dX7_settle_64 : decode cX7_settle 64 = .ok (.aload_n 0, 1) := by decide +kernel
theorem dX7_settle_65 : decode cX7_settle 65 = .ok (.getfield 9, 3) := by decide +kernel
theorem dX7_settle_68 : decode cX7_settle 68 = .ok (.iload_n 2, 1) := by decide +kernel
theorem dX7_settle_69 : decode cX7_settle 69 = .ok (.iaload, 1) := by decide +kernel
theorem dX7_settle_70 : decode cX7_settle 70 = .ok (.iastore, 1) := by decide +kernel
theorem dX7_settle_71 : decode cX7_settle 71 = .ok (.aload_n 0, 1) := by decide +kernel
theorem dX7_settle_72 : decode cX7_settle 72 = .ok (.getfield 15, 3) := by decide +kernel
theorem dX7_settle_75 : decode cX7_settle 75 = .ok (.aload_n 0, 1) := by decide +kernel
theorem dX7_settle_76 : decode cX7_settle 76 = .ok (.getfield 9, 3) := by decide +kernel
theorem dX7_settle_79 : decode cX7_settle 79 = .ok (.iload_n 1, 1) := by decide +kernel
theorem dX7_settle_80 : decode cX7_settle 80 = .ok (.iaload, 1) := by decide +kernel
theorem dX7_settle_81 : decode cX7_settle 81 = .ok (.dup2, 1) := by decide +kernel
theorem dX7_settle_82 : decode cX7_settle 82 = .ok (.iaload, 1) := by decide +kernel
theorem dX7_settle_83 : decode cX7_settle 83 = .ok (.iconst 1, 1) := by decide +kernel
theorem dX7_settle_84 : decode cX7_settle 84 = .ok (.iload_n 1, 1) := by decide +kernel
theorem dX7_settle_85 : decode cX7_settle 85 = .ok (.ishl, 1) := by decide +kernel
theorem dX7_settle_86 : decode cX7_settle 86 = .ok (.ior, 1) := by decide +kernel
theorem dX7_settle_87 : decode cX7_settle 87 = .ok (.iastore, 1) := by decide +kernel
theorem dX7_settle_88 : decode cX7_settle 88 = .ok (.iinc 1 1, 3) := by decide +kernel
theorem dX7_settle_91 : decode cX7_settle 91 = .ok (.goto (-84), 3) := by decide +kernel
theorem dX7_settle_94 : decode cX7_settle 94 = .ok (.return_, 1) := by decide +kernel
theorem dX7_firstLabelledLike_0 : decode cX7_firstLabelledLike 0 = .ok (.iconst 0, 1) := by decide +kernel
theorem dX7_firstLabelledLike_1 : decode cX7_firstLabelledLike 1 = .ok (.istore_n 2, 1) := by decide +kernel
theorem dX7_firstLabelledLike_2 : decode cX7_firstLabelledLike 2 = .ok (.iload_n 2, 1) := by decide +kernel
theorem dX7_firstLabelledLike_3 : decode cX7_firstLabelledLike 3 = .ok (.iload_n 1, 1) := by decide +kernel
theorem dX7_firstLabelledLike_4 : decode cX7_firstLabelledLike 4 = .ok (.if_icmp .ge 26, 3) := by decide +kernel
theorem dX7_firstLabelledLike_7 : decode cX7_firstLabelledLike 7 = .ok (.aload_n 0, 1) := by decide +kernel
theorem dX7_firstLabelledLike_8 : decode cX7_firstLabelledLike 8 = .ok (.getfield 18, 3) := by decide +kernel
theorem dX7_firstLabelledLike_11 : decode cX7_firstLabelledLike 11 = .ok (.iload_n 2, 1) := by decide +kernel
theorem dX7_firstLabelledLike_12 : decode cX7_firstLabelledLike 12 = .ok (.iaload, 1) := by decide +kernel
theorem dX7_firstLabelledLike_13 : decode cX7_firstLabelledLike 13 = .ok (.aload_n 0, 1) := by decide +kernel
theorem dX7_firstLabelledLike_14 : decode cX7_firstLabelledLike 14 = .ok (.getfield 18, 3) := by decide +kernel
theorem dX7_firstLabelledLike_17 : decode cX7_firstLabelledLike 17 = .ok (.iload_n 1, 1) := by decide +kernel
theorem dX7_firstLabelledLike_18 : decode cX7_firstLabelledLike 18 = .ok (.iaload, 1) := by decide +kernel
theorem dX7_firstLabelledLike_19 : decode cX7_firstLabelledLike 19 = .ok (.if_icmp .ne 5, 3) := by decide +kernel
theorem dX7_firstLabelledLike_22 : decode cX7_firstLabelledLike 22 = .ok (.iload_n 2, 1) := by decide +kernel
theorem dX7_firstLabelledLike_23 : decode cX7_firstLabelledLike 23 = .ok (.ireturn, 1) := by decide +kernel
theorem dX7_firstLabelledLike_24 : decode cX7_firstLabelledLike 24 = .ok (.iinc 2 1, 3) := by decide +kernel
theorem dX7_firstLabelledLike_27 : decode cX7_firstLabelledLike 27 = .ok (.goto (-25), 3) := by decide +kernel
theorem dX7_firstLabelledLike_30 : decode cX7_firstLabelledLike 30 = .ok (.iload_n 1, 1) := by decide +kernel
theorem dX7_firstLabelledLike_31 : decode cX7_firstLabelledLike 31 = .ok (.ireturn, 1) := by decide +kernel
theorem dX8_init_0 : decode cX8_init 0 = .ok (.aload_n 0, 1) := by decide +kernel
theorem dX8_init_1 : decode cX8_init 1 = .ok (.invokespecial 1, 3) := by decide +kernel
theorem dX8_init_4 : decode cX8_init 4 = .ok (.aload_n 0, 1) := by decide +kernel
theorem dX8_init_5 : decode cX8_init 5 = .ok (.sipush 300, 3) := by decide +kernel
theorem dX8_init_8 : decode cX8_init 8 = .ok (.newarray .int, 2) := by decide +kernel
theorem dX8_init_10 : decode cX8_init 10 = .ok (.putfield 9, 3) := by decide +kernel
theorem dX8_init_13 : decode cX8_init 13 = .ok (.aload_n 0, 1) := by decide +kernel
theorem dX8_init_14 : decode cX8_init 14 = .ok (.iconst 0, 1) := by decide +kernel
theorem dX8_init_15 : decode cX8_init 15 = .ok (.putfield 13, 3) := by decide +kernel
theorem dX8_init_18 : decode cX8_init 18 = .ok (.return_, 1) := by decide +kernel
theorem dX8_length_0 : decode cX8_length 0 = .ok (.aload_n 0, 1) := by decide +kernel
theorem dX8_length_1 : decode cX8_length 1 = .ok (.getfield 13, 3) := by decide +kernel
theorem dX8_length_4 : decode cX8_length 4 = .ok (.ireturn, 1) := by decide +kernel
theorem dX8_hasSpaceFor_0 : decode cX8_hasSpaceFor 0 = .ok (.iload_n 1, 1) := by decide +kernel
theorem dX8_hasSpaceFor_1 : decode cX8_hasSpaceFor 1 = .ok (.sipush 300, 3) := by decide +kernel
theorem dX8_hasSpaceFor_4 : decode cX8_hasSpaceFor 4 = .ok (.aload_n 0, 1) := by decide +kernel
theorem dX8_hasSpaceFor_5 : decode cX8_hasSpaceFor 5 = .ok (.getfield 13, 3) := by decide +kernel
theorem dX8_hasSpaceFor_8 : decode cX8_hasSpaceFor 8 = .ok (.isub, 1) := by decide +kernel
theorem dX8_hasSpaceFor_9 : decode cX8_hasSpaceFor 9 = .ok (.if_icmp .gt 7, 3) := by decide +kernel
theorem dX8_hasSpaceFor_12 : decode cX8_hasSpaceFor 12 = .ok (.iconst 1, 1) := by decide +kernel
theorem dX8_hasSpaceFor_13 : decode cX8_hasSpaceFor 13 = .ok (.goto 4, 3) := by decide +kernel
theorem dX8_hasSpaceFor_16 : decode cX8_hasSpaceFor 16 = .ok (.iconst 0, 1) := by decide +kernel
theorem dX8_hasSpaceFor_17 : decode cX8_hasSpaceFor 17 = .ok (.ireturn, 1) := by decide +kernel
theorem dX8_append_0 : decode cX8_append 0 = .ok (.aload_n 0, 1) := by decide +kernel
theorem dX8_append_1 : decode cX8_append 1 = .ok (.getfield 13, 3) := by decide +kernel
theorem dX8_append_4 : decode cX8_append 4 = .ok (.sipush 300, 3) := by decide +kernel
theorem dX8_append_7 : decode cX8_append 7 = .ok (.if_icmp .ge 23, 3) := by decide +kernel
theorem dX8_append_10 : decode cX8_append 10 = .ok (.aload_n 0, 1) := by decide +kernel
theorem dX8_append_11 : decode cX8_append 11 = .ok (.getfield 9, 3) := by decide +kernel
theorem dX8_append_14 : decode cX8_append 14 = .ok (.aload_n 0, 1) := by decide +kernel
theorem dX8_append_15 : decode cX8_append 15 = .ok (.getfield 13, 3) := by decide +kernel
theorem dX8_append_18 : decode cX8_append 18 = .ok (.iload_n 1, 1) := by decide +kernel
theorem dX8_append_19 : decode cX8_append 19 = .ok (.iastore, 1) := by decide +kernel
theorem dX8_append_20 : decode cX8_append 20 = .ok (.aload_n 0, 1) := by decide +kernel
theorem dX8_append_21 : decode cX8_append 21 = .ok (.dup, 1) := by decide +kernel
theorem dX8_append_22 : decode cX8_append 22 = .ok (.getfield 13, 3) := by decide +kernel
theorem dX8_append_25 : decode cX8_append 25 = .ok (.iconst 1, 1) := by decide +kernel
theorem dX8_append_26 : decode cX8_append 26 = .ok (.iadd, 1) := by decide +kernel
theorem dX8_append_27 : decode cX8_append 27 = .ok (.putfield 13, 3) := by decide +kernel
theorem dX8_append_30 : decode cX8_append 30 = .ok (.return_, 1) := by decide +kernel
theorem dX8_byteAt_0 : decode cX8_byteAt 0 = .ok (.iload_n 1, 1) := by decide +kernel
theorem dX8_byteAt_1 : decode cX8_byteAt 1 = .ok (.ifCond .lt 20, 3) := by decide +kernel
theorem dX8_byteAt_4 : decode cX8_byteAt 4 = .ok (.iload_n 1, 1) := by decide +kernel
theorem dX8_byteAt_5 : decode cX8_byteAt 5 = .ok (.aload_n 0, 1) := by decide +kernel
theorem dX8_byteAt_6 : decode cX8_byteAt 6 = .ok (.getfield 13, 3) := by decide +kernel
theorem dX8_byteAt_9 : decode cX8_byteAt 9 = .ok (.if_icmp .ge 12, 3) := by decide +kernel
theorem dX8_byteAt_12 : decode cX8_byteAt 12 = .ok (.aload_n 0, 1) := by decide +kernel
theorem dX8_byteAt_13 : decode cX8_byteAt 13 = .ok (.getfield 9, 3) := by decide +kernel
theorem dX8_byteAt_16 : decode cX8_byteAt 16 = .ok (.iload_n 1, 1) := by decide +kernel
theorem dX8_byteAt_17 : decode cX8_byteAt 17 = .ok (.iaload, 1) := by decide +kernel
theorem dX8_byteAt_18 : decode cX8_byteAt 18 = .ok (.goto 4, 3) := by decide +kernel
theorem dX8_byteAt_21 : decode cX8_byteAt 21 = .ok (.iconst (-1), 1) := by decide +kernel
theorem dX8_byteAt_22 : decode cX8_byteAt 22 = .ok (.ireturn, 1) := by decide +kernel
theorem dX8_empty_0 : decode cX8_empty 0 = .ok (.aload_n 0, 1) := by decide +kernel
theorem dX8_empty_1 : decode cX8_empty 1 = .ok (.iconst 0, 1) := by decide +kernel
theorem dX8_empty_2 : decode cX8_empty 2 = .ok (.putfield 13, 3) := by decide +kernel
theorem dX8_empty_5 : decode cX8_empty 5 = .ok (.return_, 1) := by decide +kernel
theorem dX9_init_0 : decode cX9_init 0 = .ok (.aload_n 0, 1) := by decide +kernel
theorem dX9_init_1 : decode cX9_init 1 = .ok (.invokespecial 3, 3) := by decide +kernel
theorem dX9_init_4 : decode cX9_init 4 = .ok (.aload_n 0, 1) := by decide +kernel
theorem dX9_init_5 : decode cX9_init 5 = .ok (.sipush 4140, 3) := by decide +kernel
theorem dX9_init_8 : decode cX9_init 8 = .ok (.newarray .int, 2) := by decide +kernel
theorem dX9_init_10 : decode cX9_init 10 = .ok (.putfield 11, 3) := by decide +kernel
theorem dX9_init_13 : decode cX9_init 13 = .ok (.aload_n 0, 1) := by decide +kernel
theorem dX9_init_14 : decode cX9_init 14 = .ok (.bipush 9, 2) := by decide +kernel
theorem dX9_init_16 : decode cX9_init 16 = .ok (.newarray .int, 2) := by decide +kernel
theorem dX9_init_18 : decode cX9_init 18 = .ok (.putfield 15, 3) := by decide +kernel
theorem dX9_init_21 : decode cX9_init 21 = .ok (.aload_n 0, 1) := by decide +kernel
theorem dX9_init_22 : decode cX9_init 22 = .ok (.bipush 8, 2) := by decide +kernel
theorem dX9_init_24 : decode cX9_init 24 = .ok (.newarray .int, 2) := by decide +kernel
theorem dX9_init_26 : decode cX9_init 26 = .ok (.putfield 18, 3) := by decide +kernel
theorem dX9_init_29 : decode cX9_init 29 = .ok (.aload_n 0, 1) := by decide +kernel
theorem dX9_init_30 : decode cX9_init 30 = .ok (.iconst 0, 1) := by decide +kernel
theorem dX9_init_31 : decode cX9_init 31 = .ok (.putfield 21, 3) := by decide +kernel
theorem dX9_init_34 : decode cX9_init 34 = .ok (.aload_n 0, 1) := by decide +kernel
theorem dX9_init_35 : decode cX9_init 35 = .ok (.iconst 0, 1) := by decide +kernel
theorem dX9_init_36 : decode cX9_init 36 = .ok (.putfield 25, 3) := by decide +kernel
theorem dX9_init_39 : decode cX9_init 39 = .ok (.aload_n 0, 1) := by decide +kernel
theorem dX9_init_40 : decode cX9_init 40 = .ok (.iconst 0, 1) := by decide +kernel
theorem dX9_init_41 : decode cX9_init 41 = .ok (.putfield 29, 3) := by decide +kernel
theorem dX9_init_44 : decode cX9_init 44 = .ok (.aload_n 0, 1) := by decide +kernel
theorem dX9_init_45 : decode cX9_init 45 = .ok (.iconst 0, 1) := by decide +kernel
theorem dX9_init_46 : decode cX9_init 46 = .ok (.putfield 32, 3) := by decide +kernel
theorem dX9_init_49 : decode cX9_init 49 = .ok (.aload_n 0, 1) := by decide +kernel
theorem dX9_init_50 : decode cX9_init 50 = .ok (.aload_n 1, 1) := by decide +kernel
theorem dX9_init_51 : decode cX9_init 51 = .ok (.putfield 35, 3) := by decide +kernel
theorem dX9_init_54 : decode cX9_init 54 = .ok (.return_, 1) := by decide +kernel
theorem dX9_obey_0 : decode cX9_obey 0 = .ok (.aload_n 0, 1) := by decide +kernel
theorem dX9_obey_1 : decode cX9_obey 1 = .ok (.aload_n 1, 1) := by decide +kernel
theorem dX9_obey_2 : decode cX9_obey 2 = .ok (.putfield 35, 3) := by decide +kernel
theorem dX9_obey_5 : decode cX9_obey 5 = .ok (.aload_n 0, 1) := by decide +kernel
theorem dX9_obey_6 : decode cX9_obey 6 = .ok (.iconst 0, 1) := by decide +kernel
theorem dX9_obey_7 : decode cX9_obey 7 = .ok (.putfield 21, 3) := by decide +kernel
theorem dX9_obey_10 : decode cX9_obey 10 = .ok (.return_, 1) := by decide +kernel
set_option maxRecDepth 20000 in
theorem ggX9_total_X9_gather : GoodIn wsX9_total wsX9_gather := goodIn_r _ [6, 7, 1, 8, 9, 10, 11, 12, 5, 13, 14, 15, 16, 17, 18, 19, 20, 21, 22, 23, 24, 25, 26, 27, 28, 29, 30, 31, 32, 33, 34, 35, 36, 37, 38, 39, 40, 41, 42, 43, 44, 45, 46, 47, 48, 49, 50, 51, 52, 53, 54, 55, 56, 57, 58, 59, 60, 61, 62, 63, 64, 65, 66, 67, 68, 69, 70, 71, 72, 73, 74, 75, 76, 77, 78, 79, 80, 81, 82, 83, 84, 85, 86, 87, 88, 89, 90, 91, 92, 93, 94, 95, 96, 97, 98, 99, 100] (by decide +kernel) (by decide +kernel)
set_option maxRecDepth 20000 in
theorem gX9_total_X9_gather : GoodIn wsX9_total (wsV RX9 39 RX9 yX9_gather wsX9_gather) := goodIn_app (goodIn_of _ (by decide +kernel)) ggX9_total_X9_gather
theorem dX9_total_0 : decode cX9_total 0 = .ok (.aload_n 0, 1) := by decide +kernel
theorem dX9_total_1 : decode cX9_total 1 = .ok (.invokevirtual 39, 3) := by decide +kernel
theorem dX9_total_4 : decode cX9_total 4 = .ok (.aload_n 0, 1) := by decide +kernel
theorem dX9_total_5 : decode cX9_total 5 = .ok (.getfield 25, 3) := by decide +kernel
theorem dX9_total_8 : decode cX9_total 8 = .ok (.ireturn, 1) := by decide +kernel
set_option maxRecDepth 20000 in
theorem ggX9_totalWith_X9_gather : GoodIn wsX9_totalWith wsX9_gather := goodIn_r _ [6, 7, 8, 1, 9, 10, 11, 12, 5, 13, 14, 15, 16, 17, 18, 19, 20, 21, 22, 23, 24, 25, 26, 27, 28, 29, 30, 31, 32, 33, 34, 35, 36, 37, 38, 39, 40, 41, 42, 43, 44, 45, 46, 47, 48, 49, 50, 51, 52, 53, 54, 55, 56, 57, 58, 59, 60, 61, 62, 63, 64, 65, 66, 67, 68, 69, 70, 71, 72, 73, 74, 75, 76, 77, 78, 79, 80, 81, 82, 83, 84, 85, 86, 87, 88, 89, 90, 91, 92, 93, 94, 95, 96, 97, 98, 99, 100] (by decide +kernel) (by decide +kernel)
set_option maxRecDepth 20000 in
theorem gX9_totalWith_X9_gather : GoodIn wsX9_totalWith (wsV RX9 39 RX9 yX9_gather wsX9_gather) := goodIn_app (goodIn_of _ (by decide +kernel)) ggX9_totalWith_X9_gather
theorem dX9_totalWith_0 : decode cX9_totalWith 0 = .ok (.aload_n 0, 1) := by decide +kernel
theorem dX9_totalWith_1 : decode cX9_totalWith 1 = .ok (.invokevirtual 39, 3) := by decide +kernel
theorem dX9_totalWith_4 : decode cX9_totalWith 4 = .ok (.iload_n 1, 1) := by decide +kernel
theorem dX9_totalWith_5 : decode cX9_totalWith 5 = .ok (.ifCond .lt 21, 3) := by decide +kernel
theorem dX9_totalWith_8 : decode cX9_totalWith 8 = .ok (.iload_n 1, 1) := by decide +kernel
theorem dX9_totalWith_9 : decode cX9_totalWith 9 = .ok (.aload_n 0, 1) := by decide +kernel
theorem dX9_totalWith_10 : decode cX9_totalWith 10 = .ok (.getfield 15, 3) := by decide +kernel
theorem dX9_totalWith_13 : decode cX9_totalWith 13 = .ok (.arraylength, 1) := by decide +kernel
theorem dX9_totalWith_14 : decode cX9_totalWith 14 = .ok (.if_icmp .ge 12, 3) := by decide +kernel
theorem dX9_totalWith_17 : decode cX9_totalWith 17 = .ok (.aload_n 0, 1) := by decide +kernel
theorem dX9_totalWith_18 : decode cX9_totalWith 18 = .ok (.getfield 15, 3) := by decide +kernel
theorem dX9_totalWith_21 : decode cX9_totalWith 21 = .ok (.iload_n 1, 1) := by decide +kernel
theorem dX9_totalWith_22 : decode cX9_totalWith 22 = .ok (.iaload, 1) := by decide +kernel
theorem dX9_totalWith_23 : decode cX9_totalWith 23 = .ok (.goto 4, 3) := by decide +kernel
theorem dX9_totalWith_26 : decode cX9_totalWith 26 = .ok (.iconst 0, 1) := by decide +kernel
theorem dX9_totalWith_27 : decode cX9_totalWith 27 = .ok (.ireturn, 1) := by decide +kernel
set_option maxRecDepth 20000 in
theorem ggX9_codeAt_X9_gather : GoodIn wsX9_codeAt wsX9_gather := goodIn_r _ [7, 8, 1, 9, 10, 11, 12, 13, 6, 14, 15, 16, 17, 18, 19, 20, 21, 22, 23, 24, 25, 26, 27, 2, 28, 29, 30, 31, 32, 33, 34, 35, 36, 37, 38, 39, 40, 41, 42, 43, 44, 45, 46, 47, 48, 49, 50, 51, 52, 53, 54, 55, 56, 57, 58, 59, 60, 61, 62, 63, 64, 65, 66, 67, 68, 69, 70, 71, 72, 73, 74, 75, 76, 77, 78, 79, 80, 81, 82, 83, 84, 85, 86, 87, 88, 89, 90, 91, 92, 93, 94, 95, 96, 97, 98, 99, 100] (by decide +kernel) (by decide +kernel)
set_option maxRecDepth 20000 in
theorem gX9_codeAt_X9_gather : GoodIn wsX9_codeAt (wsV RX9 39 RX9 yX9_gather wsX9_gather) := goodIn_app (goodIn_of _ (by decide +kernel)) ggX9_codeAt_X9_gather
theorem dX9_codeAt_0 : decode cX9_codeAt 0 = .ok (.aload_n 0, 1) := by decide +kernel
theorem dX9_codeAt_1 : decode cX9_codeAt 1 = .ok (.invokevirtual 39, 3) := by decide +kernel
theorem dX9_codeAt_4 : decode cX9_codeAt 4 = .ok (.iload_n 1, 1) := by decide +kernel
theorem dX9_codeAt_5 : decode cX9_codeAt 5 = .ok (.ifCond .lt 20, 3) := by decide +kernel
theorem dX9_codeAt_8 : decode cX9_codeAt 8 = .ok (.iload_n 1, 1) := by decide +kernel
theorem dX9_codeAt_9 : decode cX9_codeAt 9 = .ok (.aload_n 0, 1) := by decide +kernel
theorem dX9_codeAt_10 : decode cX9_codeAt 10 = .ok (.getfield 25, 3) := by decide +kernel
theorem dX9_codeAt_13 : decode cX9_codeAt 13 = .ok (.if_icmp .ge 12, 3) := by decide +kernel
theorem dX9_codeAt_16 : decode cX9_codeAt 16 = .ok (.aload_n 0, 1) := by decide +kernel
theorem dX9_codeAt_17 : decode cX9_codeAt 17 = .ok (.getfield 11, 3) := by decide +kernel
theorem dX9_codeAt_20 : decode cX9_codeAt 20 = .ok (.iload_n 1, 1) := by decide +kernel
theorem dX9_codeAt_21 : decode cX9_codeAt 21 = .ok (.iaload, 1) := by decide +kernel
theorem dX9_codeAt_22 : decode cX9_codeAt 22 = .ok (.goto 4, 3) := by decide +kernel
theorem dX9_codeAt_25 : decode cX9_codeAt 25 = .ok (.iconst 0, 1) := by decide +kernel
theorem dX9_codeAt_26 : decode cX9_codeAt 26 = .ok (.ireturn, 1) := by decide +kernel
set_option maxRecDepth 20000 in
theorem ggX9_greatestWorth_X9_gather : GoodIn wsX9_greatestWorth wsX9_gather := goodIn_r _ [6, 7, 8, 9, 10, 11, 12, 13, 5, 14, 15, 16, 17, 18, 19, 20, 21, 22, 23, 24, 25, 1, 26, 27, 28, 29, 30, 31, 32, 33, 34, 35, 36, 37, 38, 39, 40, 41, 42, 43, 44, 45, 46, 47, 48, 49, 50, 51, 52, 53, 54, 55, 56, 57, 58, 59, 60, 61, 62, 63, 64, 65, 66, 67, 68, 69, 70, 71, 72, 73, 74, 75, 76, 77, 78, 79, 80, 81, 82, 83, 84, 85, 86, 87, 88, 89, 90, 91, 92, 93, 94, 95, 96, 97, 98, 99, 100] (by decide +kernel) (by decide +kernel)
set_option maxRecDepth 20000 in
theorem gX9_greatestWorth_X9_gather : GoodIn wsX9_greatestWorth (wsV RX9 39 RX9 yX9_gather wsX9_gather) := goodIn_app (goodIn_of _ (by decide +kernel)) ggX9_greatestWorth_X9_gather
theorem dX9_greatestWorth_0 : decode cX9_greatestWorth 0 = .ok (.aload_n 0, 1) := by decide +kernel
theorem dX9_greatestWorth_1 : decode cX9_greatestWorth 1 = .ok (.invokevirtual 39, 3) := by decide +kernel
theorem dX9_greatestWorth_4 : decode cX9_greatestWorth 4 = .ok (.aload_n 0, 1) := by decide +kernel
theorem dX9_greatestWorth_5 : decode cX9_greatestWorth 5 = .ok (.getfield 29, 3) := by decide +kernel
theorem dX9_greatestWorth_8 : decode cX9_greatestWorth 8 = .ok (.ireturn, 1) := by decide +kernel
set_option maxRecDepth 20000 in
theorem ggX9_worthiestCode_X9_gather : GoodIn wsX9_worthiestCode wsX9_gather := goodIn_r _ [6, 7, 8, 9, 10, 11, 12, 13, 5, 14, 15, 16, 17, 18, 19, 20, 21, 22, 23, 24, 25, 26, 1, 27, 28, 29, 30, 31, 32, 33, 34, 35, 36, 37, 38, 39, 40, 41, 42, 43, 44, 45, 46, 47, 48, 49, 50, 51, 52, 53, 54, 55, 56, 57, 58, 59, 60, 61, 62, 63, 64, 65, 66, 67, 68, 69, 70, 71, 72, 73, 74, 75, 76, 77, 78, 79, 80, 81, 82, 83, 84, 85, 86, 87, 88, 89, 90, 91, 92, 93, 94, 95, 96, 97, 98, 99, 100] (by decide +kernel) (by decide +kernel)
set_option maxRecDepth 20000 in
theorem gX9_worthiestCode_X9_gather : GoodIn wsX9_worthiestCode (wsV RX9 39 RX9 yX9_gather wsX9_gather) := goodIn_app (goodIn_of _ (by decide +kernel)) ggX9_worthiestCode_X9_gather
theorem dX9_worthiestCode_0 : decode cX9_worthiestCode 0 = .ok (.aload_n 0, 1) := by decide +kernel
theorem dX9_worthiestCode_1 : decode cX9_worthiestCode 1 = .ok (.invokevirtual 39, 3) := by decide +kernel
theorem dX9_worthiestCode_4 : decode cX9_worthiestCode 4 = .ok (.aload_n 0, 1) := by decide +kernel
theorem dX9_worthiestCode_5 : decode cX9_worthiestCode 5 = .ok (.getfield 32, 3) := by decide +kernel
theorem dX9_worthiestCode_8 : decode cX9_worthiestCode 8 = .ok (.ireturn, 1) := by decide +kernel
set_option maxRecDepth 20000 in
theorem ggX9_placeOf_X9_gather : GoodIn wsX9_placeOf wsX9_gather := goodIn_r _ [7, 8, 1, 9, 10, 11, 12, 13, 6, 14, 15, 16, 17, 18, 19, 20, 21, 22, 23, 24, 25, 26, 27, 2, 28, 29, 30, 31, 32, 33, 34, 35, 36, 37, 38, 39, 40, 41, 42, 43, 44, 45, 46, 47, 48, 49, 50, 51, 52, 53, 54, 55, 56, 57, 58, 59, 60, 61, 62, 63, 64, 65, 66, 67, 68, 69, 70, 71, 72, 73, 74, 75, 76, 77, 78, 79, 80, 81, 82, 83, 84, 85, 86, 87, 88, 89, 90, 91, 92, 93, 94, 95, 96, 97, 98, 99, 100] (by decide +kernel) (by decide +kernel)
set_option maxRecDepth 20000 in
theorem gX9_placeOf_X9_gather : GoodIn wsX9_placeOf (wsV RX9 39 RX9 yX9_gather wsX9_gather) := goodIn_app (goodIn_of _ (by decide +kernel)) ggX9_placeOf_X9_gather
theorem dX9_placeOf_0 : decode cX9_placeOf 0 = .ok (.aload_n 0, 1) := by decide +kernel
theorem dX9_placeOf_1 : decode cX9_placeOf 1 = .ok (.invokevirtual 39, 3) := by decide +kernel
theorem dX9_placeOf_4 : decode cX9_placeOf 4 = .ok (.iconst 0, 1) := by decide +kernel
theorem dX9_placeOf_5 : decode cX9_placeOf 5 = .ok (.istore_n 2, 1) := by decide +kernel
theorem dX9_placeOf_6 : decode cX9_placeOf 6 = .ok (.iload_n 2, 1) := by decide +kernel
theorem dX9_placeOf_7 : decode cX9_placeOf 7 = .ok (.aload_n 0, 1) := by decide +kernel
theorem dX9_placeOf_8 : decode cX9_placeOf 8 = .ok (.getfield 25, 3) := by decide +kernel
theorem dX9_placeOf_11 : decode cX9_placeOf 11 = .ok (.if_icmp .ge 19, 3) := by decide +kernel
theorem dX9_placeOf_14 : decode cX9_placeOf 14 = .ok (.aload_n 0, 1) := by decide +kernel
theorem dX9_placeOf_15 : decode cX9_placeOf 15 = .ok (.getfield 11, 3) := by decide +kernel
theorem dX9_placeOf_18 : decode cX9_placeOf 18 = .ok (.iload_n 2, 1) := by decide +kernel
theorem dX9_placeOf_19 : decode cX9_placeOf 19 = .ok (.iaload, 1) := by decide +kernel
theorem dX9_placeOf_20 : decode cX9_placeOf 20 = .ok (.iload_n 1, 1) := by decide +kernel
theorem dX9_placeOf_21 : decode cX9_placeOf 21 = .ok (.if_icmp .ge 9, 3) := by decide +kernel
theorem dX9_placeOf_24 : decode cX9_placeOf 24 = .ok (.iinc 2 1, 3) := by decide +kernel
theorem dX9_placeOf_27 : decode cX9_placeOf 27 = .ok (.goto (-21), 3) := by decide +kernel
theorem dX9_placeOf_30 : decode cX9_placeOf 30 = .ok (.iload_n 2, 1) := by decide +kernel
theorem dX9_placeOf_31 : decode cX9_placeOf 31 = .ok (.aload_n 0, 1) := by decide +kernel
theorem dX9_placeOf_32 : decode cX9_placeOf 32 = .ok (.getfield 25, 3) := by decide +kernel
theorem dX9_placeOf_35 : decode cX9_placeOf 35 = .ok (.if_icmp .ge 17, 3) := by decide +kernel
theorem dX9_placeOf_38 : decode cX9_placeOf 38 = .ok (.aload_n 0, 1) := by decide +kernel
theorem dX9_placeOf_39 : decode cX9_placeOf 39 = .ok (.getfield 11, 3) := by decide +kernel
theorem dX9_placeOf_42 : decode cX9_placeOf 42 = .ok (.iload_n 2, 1) := by decide +kernel
theorem dX9_placeOf_43 : decode cX9_placeOf 43 = .ok (.iaload, 1) := by decide +kernel
theorem dX9_placeOf_44 : decode cX9_placeOf 44 = .ok (.iload_n 1, 1) := by decide +kernel
theorem dX9_placeOf_45 : decode cX9_placeOf 45 = .ok (.if_icmp .ne 7, 3) := by decide +kernel
theorem dX9_placeOf_48 : decode cX9_placeOf 48 = .ok (.iload_n 2, 1) := by decide +kernel
theorem dX9_placeOf_49 : decode cX9_placeOf 49 = .ok (.goto 5, 3) := by decide +kernel
theorem dX9_placeOf_52 : decode cX9_placeOf 52 = .ok (.bipush (-9), 2) := by decide +kernel
theorem dX9_placeOf_54 : decode cX9_placeOf 54 = .ok (.ireturn, 1) := by decide +kernel
set_option maxRecDepth 20000 in
theorem ggX9_fitting_X9_gather : GoodIn wsX9_fitting wsX9_gather := goodIn_r _ [7, 8, 1, 9, 10, 11, 12, 13, 6, 14, 15, 16, 17, 18, 19, 20, 21, 22, 23, 24, 25, 26, 27, 2, 28, 29, 30, 31, 32, 33, 34, 35, 36, 37, 38, 39, 40, 41, 42, 43, 44, 45, 46, 47, 48, 49, 50, 51, 52, 53, 54, 55, 56, 57, 58, 59, 60, 61, 62, 63, 64, 65, 66, 67, 68, 69, 70, 71, 72, 73, 74, 75, 76, 77, 78, 79, 80, 81, 82, 83, 84, 85, 86, 100, 101, 102, 103, 104, 105, 106, 107, 108, 109, 110, 111, 112, 113] (by decide +kernel) (by decide +kernel)
set_option maxRecDepth 20000 in
theorem gX9_fitting_X9_gather : GoodIn wsX9_fitting (wsV RX9 39 RX9 yX9_gather wsX9_gather) := goodIn_app (goodIn_of _ (by decide +kernel)) ggX9_fitting_X9_gather
set_option maxRecDepth 20000 in
theorem ggX9_fitting_X6_fit : GoodIn wsX9_fitting wsX6_fit := goodIn_r _ [91, 92, 93, 94, 95, 96, 97, 85, 98, 99, 84, 86, 114, 115, 116, 117] (by decide +kernel) (by decide +kernel)
set_option maxRecDepth 20000 in
theorem gX9_fitting_X6_fit : GoodIn wsX9_fitting (wsV RX9 42 RX6 yX6_fit wsX6_fit) := goodIn_app (goodIn_of _ (by decide +kernel)) ggX9_fitting_X6_fit
theorem dX9_fitting_0 : decode cX9_fitting 0 = .ok (.aload_n 0, 1) := by decide +kernel
theorem dX9_fitting_1 : decode cX9_fitting 1 = .ok (.invokevirtual 39, 3) := by decide +kernel
theorem dX9_fitting_4 : decode cX9_fitting 4 = .ok (.iconst 0, 1) := by decide +kernel
theorem dX9_fitting_5 : decode cX9_fitting 5 = .ok (.istore_n 2, 1) := by decide +kernel
theorem dX9_fitting_6 : decode cX9_fitting 6 = .ok (.iconst 0, 1) := by decide +kernel
theorem dX9_fitting_7 : decode cX9_fitting 7 = .ok (.istore_n 3, 1) := by decide +kernel
theorem dX9_fitting_8 : decode cX9_fitting 8 = .ok (.iload_n 3, 1) := by decide +kernel
theorem dX9_fitting_9 : decode cX9_fitting 9 = .ok (.aload_n 0, 1) := by decide +kernel
theorem dX9_fitting_10 : decode cX9_fitting 10 = .ok (.getfield 25, 3) := by decide +kernel
theorem dX9_fitting_13 : decode cX9_fitting 13 = .ok (.if_icmp .ge 25, 3) := by decide +kernel
theorem dX9_fitting_16 : decode cX9_fitting 16 = .ok (.aload_n 1, 1) := by decide +kernel
theorem dX9_fitting_17 : decode cX9_fitting 17 = .ok (.aload_n 0, 1) := by decide +kernel
theorem dX9_fitting_18 : decode cX9_fitting 18 = .ok (.getfield 11, 3) := by decide +kernel
theorem dX9_fitting_21 : decode cX9_fitting 21 = .ok (.iload_n 3, 1) := by decide +kernel
theorem dX9_fitting_22 : decode cX9_fitting 22 = .ok (.iaload, 1) := by decide +kernel
theorem dX9_fitting_23 : decode cX9_fitting 23 = .ok (.invokevirtual 42, 3) := by decide +kernel
theorem dX9_fitting_26 : decode cX9_fitting 26 = .ok (.ifCond .eq 6, 3) := by decide +kernel
theorem dX9_fitting_29 : decode cX9_fitting 29 = .ok (.iinc 2 1, 3) := by decide +kernel
theorem dX9_fitting_32 : decode cX9_fitting 32 = .ok (.iinc 3 1, 3) := by decide +kernel
theorem dX9_fitting_35 : decode cX9_fitting 35 = .ok (.goto (-27), 3) := by decide +kernel
theorem dX9_fitting_38 : decode cX9_fitting 38 = .ok (.iload_n 2, 1) := by decide +kernel
theorem dX9_fitting_39 : decode cX9_fitting 39 = .ok (.ireturn, 1) := by decide +kernel
set_option maxRecDepth 20000 in
theorem ggX9_certain_X9_gather : GoodIn wsX9_certain wsX9_gather := goodIn_r _ [7, 8, 1, 9, 10, 11, 12, 13, 6, 14, 15, 16, 17, 18, 19, 20, 21, 22, 23, 24, 25, 26, 27, 2, 28, 29, 30, 31, 32, 33, 34, 35, 36, 37, 38, 39, 40, 41, 42, 43, 44, 45, 46, 47, 48, 49, 50, 51, 52, 53, 54, 55, 56, 57, 58, 59, 60, 61, 62, 63, 64, 65, 66, 67, 68, 69, 70, 71, 72, 73, 74, 75, 76, 77, 78, 79, 80, 81, 82, 83, 84, 85, 86, 101, 102, 103, 104, 105, 106, 107, 108, 109, 110, 111, 112, 113, 114] (by decide +kernel) (by decide +kernel)
set_option maxRecDepth 20000 in
theorem gX9_certain_X9_gather : GoodIn wsX9_certain (wsV RX9 39 RX9 yX9_gather wsX9_gather) := goodIn_app (goodIn_of _ (by decide +kernel)) ggX9_certain_X9_gather
set_option maxRecDepth 20000 in
theorem ggX9_certain_X6_fit : GoodIn wsX9_certain wsX6_fit := goodIn_r _ [91, 92, 93, 94, 95, 96, 97, 85, 98, 99, 84, 86, 115, 116, 117, 118] (by decide +kernel) (by decide +kernel)
set_option maxRecDepth 20000 in
theorem gX9_certain_X6_fit : GoodIn wsX9_certain (wsV RX9 42 RX6 yX6_fit wsX6_fit) := goodIn_app (goodIn_of _ (by decide +kernel)) ggX9_certain_X6_fit
set_option maxRecDepth 20000 in
theorem ggX9_certain_X7_partyIn : GoodIn wsX9_certain wsX7_partyIn := goodIn_r _ [98, 99, 84, 85, 86] (by decide +kernel) (by decide +kernel)
set_option maxRecDepth 20000 in
theorem gX9_certain_X7_partyIn : GoodIn wsX9_certain (va_wsS RX9 48 yX7_partyIn wsX7_partyIn) := goodIn_app (goodIn_of _ (by decide +kernel)) ggX9_certain_X7_partyIn
theorem dX9_certain_0 : decode cX9_certain 0 = .ok (.aload_n 0, 1) := by decide +kernel
theorem dX9_certain_1 : decode cX9_certain 1 = .ok (.invokevirtual 39, 3) := by decide +kernel
theorem dX9_certain_4 : decode cX9_certain 4 = .ok (.bipush (-9), 2) := by decide +kernel
theorem dX9_certain_6 : decode cX9_certain 6 = .ok (.istore 4, 2) := by decide +kernel
theorem dX9_certain_8 : decode cX9_certain 8 = .ok (.iconst 0, 1) := by decide +kernel
theorem dX9_certain_9 : decode cX9_certain 9 = .ok (.istore 5, 2) := by decide +kernel
theorem dX9_certain_11 : decode cX9_certain 11 = .ok (.iload 5, 2) := by decide +kernel
theorem dX9_certain_13 : decode cX9_certain 13 = .ok (.aload_n 0, 1) := by decide +kernel
theorem dX9_certain_14 : decode cX9_certain 14 = .ok (.getfield 25, 3) := by decide +kernel
theorem dX9_certain_17 : decode cX9_certain 17 = .ok (.if_icmp .ge 76, 3) := by decide +kernel
theorem dX9_certain_20 : decode cX9_certain 20 = .ok (.aload_n 1, 1) := by decide +kernel
theorem dX9_certain_21 : decode cX9_certain 21 = .ok (.aload_n 0, 1) := by decide +kernel
theorem dX9_certain_22 : decode cX9_certain 22 = .ok (.getfield 11, 3) := by decide +kernel
theorem dX9_certain_25 : decode cX9_certain 25 = .ok (.iload 5, 2) := by decide +kernel
theorem dX9_certain_27 : decode cX9_certain 27 = .ok (.iaload, 1) := by decide +kernel
theorem dX9_certain_28 : decode cX9_certain 28 = .ok (.invokevirtual 42, 3) := by decide +kernel
theorem dX9_certain_31 : decode cX9_certain 31 = .ok (.ifCond .eq 56, 3) := by decide +kernel
theorem dX9_certain_34 : decode cX9_certain 34 = .ok (.aload_n 0, 1) := by decide +kernel
theorem dX9_certain_35 : decode cX9_certain 35 = .ok (.getfield 11, 3) := by decide +kernel
theorem dX9_certain_38 : decode cX9_certain 38 = .ok (.iload 5, 2) := by decide +kernel
theorem dX9_certain_40 : decode cX9_certain 40 = .ok (.iaload, 1) := by decide +kernel
theorem dX9_certain_41 : decode cX9_certain 41 = .ok (.iload_n 2, 1) := by decide +kernel
theorem dX9_certain_42 : decode cX9_certain 42 = .ok (.invokestatic 48, 3) := by decide +kernel
theorem dX9_certain_45 : decode cX9_certain 45 = .ok (.aload_n 0, 1) := by decide +kernel
theorem dX9_certain_46 : decode cX9_certain 46 = .ok (.getfield 11, 3) := by decide +kernel
theorem dX9_certain_49 : decode cX9_certain 49 = .ok (.iload 5, 2) := by decide +kernel
theorem dX9_certain_51 : decode cX9_certain 51 = .ok (.iaload, 1) := by decide +kernel
theorem dX9_certain_52 : decode cX9_certain 52 = .ok (.iload_n 3, 1) := by decide +kernel
theorem dX9_certain_53 : decode cX9_certain 53 = .ok (.invokestatic 48, 3) := by decide +kernel
theorem dX9_certain_56 : decode cX9_certain 56 = .ok (.if_icmp .ne 7, 3) := by decide +kernel
theorem dX9_certain_59 : decode cX9_certain 59 = .ok (.iconst 1, 1) := by decide +kernel
theorem dX9_certain_60 : decode cX9_certain 60 = .ok (.goto 4, 3) := by decide +kernel
theorem dX9_certain_63 : decode cX9_certain 63 = .ok (.iconst 0, 1) := by decide +kernel
theorem dX9_certain_64 : decode cX9_certain 64 = .ok (.istore 6, 2) := by decide +kernel
theorem dX9_certain_66 : decode cX9_certain 66 = .ok (.iload 4, 2) := by decide +kernel
theorem dX9_certain_68 : decode cX9_certain 68 = .ok (.bipush (-9), 2) := by decide +kernel
theorem dX9_certain_70 : decode cX9_certain 70 = .ok (.if_icmp .eq 13, 3) := by decide +kernel
theorem dX9_certain_73 : decode cX9_certain 73 = .ok (.iload 4, 2) := by decide +kernel
theorem dX9_certain_75 : decode cX9_certain 75 = .ok (.iload 6, 2) := by decide +kernel
theorem dX9_certain_77 : decode cX9_certain 77 = .ok (.if_icmp .eq 6, 3) := by decide +kernel
theorem dX9_certain_80 : decode cX9_certain 80 = .ok (.bipush (-9), 2) := by decide +kernel
theorem dX9_certain_82 : decode cX9_certain 82 = .ok (.ireturn, 1) := by decide +kernel
theorem dX9_certain_83 : decode cX9_certain 83 = .ok (.iload 6, 2) := by decide +kernel
theorem dX9_certain_85 : decode cX9_certain 85 = .ok (.istore 4, 2) := by decide +kernel
theorem dX9_certain_87 : decode cX9_certain 87 = .ok (.iinc 5 1, 3) := by decide +kernel
theorem dX9_certain_90 : decode cX9_certain 90 = .ok (.goto (-79), 3) := by decide +kernel
theorem dX9_certain_93 : decode cX9_certain 93 = .ok (.iload 4, 2) := by decide +kernel
theorem dX9_certain_95 : decode cX9_certain 95 = .ok (.ireturn, 1) := by decide +kernel
set_option maxRecDepth 20000 in
theorem ggX9_gather_X9_placeFrom : GoodIn wsX9_gather wsX9_placeFrom := goodIn_r _ [9, 10, 11, 12, 13, 14, 15, 16, 17, 18, 19, 8, 20, 2, 21, 22, 23, 3, 24, 25, 26, 27, 4, 28, 29, 30, 31, 32, 33, 34, 35, 36, 37, 38, 39, 40, 41, 42, 43, 44, 45, 46, 47, 48, 49, 50, 51, 52, 53, 54, 55, 56, 57, 58, 59, 60, 61, 62, 63, 64, 65, 66, 67, 68, 69, 70, 71, 72, 73, 74, 75, 76, 77, 78, 79, 80, 81, 82, 5, 6, 7, 83, 84, 85, 86, 87, 88, 89, 90, 91, 92, 93, 94, 95, 96] (by decide +kernel) (by decide +kernel)
set_option maxRecDepth 20000 in
theorem gX9_gather_X9_placeFrom : GoodIn wsX9_gather (wsV RX9 54 RX9 yX9_placeFrom wsX9_placeFrom) := goodIn_app (goodIn_of _ (by decide +kernel)) ggX9_gather_X9_placeFrom
theorem dX9_gather_0 : decode cX9_gather 0 = .ok (.aload_n 0, 1) := by decide +kernel
theorem dX9_gather_1 : decode cX9_gather 1 = .ok (.getfield 21, 3) := by decide +kernel
theorem dX9_gather_4 : decode cX9_gather 4 = .ok (.ifCond .eq 4, 3) := by decide +kernel
theorem dX9_gather_7 : decode cX9_gather 7 = .ok (.return_, 1) := by decide +kernel
theorem dX9_gather_8 : decode cX9_gather 8 = .ok (.aload_n 0, 1) := by decide +kernel
theorem dX9_gather_9 : decode cX9_gather 9 = .ok (.iconst 1, 1) := by decide +kernel
theorem dX9_gather_10 : decode cX9_gather 10 = .ok (.putfield 21, 3) := by decide +kernel
theorem dX9_gather_13 : decode cX9_gather 13 = .ok (.aload_n 0, 1) := by decide +kernel
theorem dX9_gather_14 : decode cX9_gather 14 = .ok (.iconst 0, 1) := by decide +kernel
theorem dX9_gather_15 : decode cX9_gather 15 = .ok (.putfield 25, 3) := by decide +kernel
theorem dX9_gather_18 : decode cX9_gather 18 = .ok (.iconst 0, 1) := by decide +kernel
theorem dX9_gather_19 : decode cX9_gather 19 = .ok (.istore_n 1, 1) := by decide +kernel
theorem dX9_gather_20 : decode cX9_gather 20 = .ok (.iload_n 1, 1) := by decide +kernel
theorem dX9_gather_21 : decode cX9_gather 21 = .ok (.aload_n 0, 1) := by decide +kernel
theorem dX9_gather_22 : decode cX9_gather 22 = .ok (.getfield 15, 3) := by decide +kernel
theorem dX9_gather_25 : decode cX9_gather 25 = .ok (.arraylength, 1) := by decide +kernel
theorem dX9_gather_26 : decode cX9_gather 26 = .ok (.if_icmp .ge 16, 3) := by decide +kernel
theorem dX9_gather_29 : decode cX9_gather 29 = .ok (.aload_n 0, 1) := by decide +kernel
theorem dX9_gather_30 : decode cX9_gather 30 = .ok (.getfield 15, 3) := by decide +kernel
theorem dX9_gather_33 : decode cX9_gather 33 = .ok (.iload_n 1, 1) := by decide +kernel
theorem dX9_gather_34 : decode cX9_gather 34 = .ok (.iconst 0, 1) := by decide +kernel
theorem dX9_gather_35 : decode cX9_gather 35 = .ok (.iastore, 1) := by decide +kernel
theorem dX9_gather_36 : decode cX9_gather 36 = .ok (.iinc 1 1, 3) := by decide +kernel
theorem dX9_gather_39 : decode cX9_gather 39 = .ok (.goto (-19), 3) := by decide +kernel
theorem dX9_gather_42 : decode cX9_gather 42 = .ok (.iconst 0, 1) := by decide +kernel
theorem dX9_gather_43 : decode cX9_gather 43 = .ok (.istore_n 1, 1) := by decide +kernel
theorem dX9_gather_44 : decode cX9_gather 44 = .ok (.iload_n 1, 1) := by decide +kernel
theorem dX9_gather_45 : decode cX9_gather 45 = .ok (.bipush 8, 2) := by decide +kernel
theorem dX9_gather_47 : decode cX9_gather 47 = .ok (.if_icmp .ge 16, 3) := by decide +kernel
theorem dX9_gather_50 : decode cX9_gather 50 = .ok (.aload_n 0, 1) := by decide +kernel
theorem dX9_gather_51 : decode cX9_gather 51 = .ok (.getfield 18, 3) := by decide +kernel
theorem dX9_gather_54 : decode cX9_gather 54 = .ok (.iload_n 1, 1) := by decide +kernel
theorem dX9_gather_55 : decode cX9_gather 55 = .ok (.iconst 0, 1) := by decide +kernel
theorem dX9_gather_56 : decode cX9_gather 56 = .ok (.iastore, 1) := by decide +kernel
theorem dX9_gather_57 : decode cX9_gather 57 = .ok (.iinc 1 1, 3) := by decide +kernel
theorem dX9_gather_60 : decode cX9_gather 60 = .ok (.goto (-16), 3) := by decide +kernel
theorem dX9_gather_63 : decode cX9_gather 63 = .ok (.aload_n 0, 1) := by decide +kernel
theorem dX9_gather_64 : decode cX9_gather 64 = .ok (.iconst 0, 1) := by decide +kernel
theorem dX9_gather_65 : decode cX9_gather 65 = .ok (.iconst 0, 1) := by decide +kernel
theorem dX9_gather_66 : decode cX9_gather 66 = .ok (.iconst 0, 1) := by decide +kernel
theorem dX9_gather_67 : decode cX9_gather 67 = .ok (.iconst 0, 1) := by decide +kernel
theorem dX9_gather_68 : decode cX9_gather 68 = .ok (.invokevirtual 54, 3) := by decide +kernel
theorem dX9_gather_71 : decode cX9_gather 71 = .ok (.return_, 1) := by decide +kernel
set_option maxRecDepth 20000 in
theorem ggX9_placeFrom_X5_guests : GoodIn wsX9_placeFrom wsX5_guests := goodIn_r _ [6, 7, 89, 90, 91, 92, 93, 94] (by decide +kernel) (by decide +kernel)
set_option maxRecDepth 20000 in
theorem gX9_placeFrom_X5_guests : GoodIn wsX9_placeFrom (wsV RX9 58 RX5 yX5_guests wsX5_guests) := goodIn_app (goodIn_of _ (by decide +kernel)) ggX9_placeFrom_X5_guests
set_option maxRecDepth 20000 in
theorem ggX9_placeFrom_X9_accept : GoodIn wsX9_placeFrom wsX9_accept := goodIn_r _ [12, 13, 14, 15, 16, 17, 18, 19, 20, 11, 21, 1, 22, 23, 24, 25, 5, 26, 27, 28, 29, 30, 31, 32, 33, 34, 81, 82, 83, 84, 85, 86, 87, 88, 89, 90, 91, 92, 93, 94] (by decide +kernel) (by decide +kernel)
set_option maxRecDepth 20000 in
theorem gX9_placeFrom_X9_accept : GoodIn wsX9_placeFrom (wsV RX9 64 RX9 yX9_accept wsX9_accept) := goodIn_app (goodIn_of _ (by decide +kernel)) ggX9_placeFrom_X9_accept
set_option maxRecDepth 20000 in
theorem ggX9_placeFrom_X9_mayStand : GoodIn wsX9_placeFrom wsX9_mayStand := goodIn_r _ [38, 1, 22, 23, 24, 25, 5, 26, 27, 28, 29, 30, 31, 32, 33, 34, 39, 40, 41, 42, 43, 44, 45, 46, 47, 48, 49, 50, 51, 52, 53, 54, 55, 11, 56, 57, 58, 59, 60, 81, 82, 83, 84, 85, 86, 87, 88, 89, 90, 91, 92, 93, 94] (by decide +kernel) (by decide +kernel)
set_option maxRecDepth 20000 in
theorem gX9_placeFrom_X9_mayStand : GoodIn wsX9_placeFrom (wsV RX9 68 RX9 yX9_mayStand wsX9_mayStand) := goodIn_app (goodIn_of _ (by decide +kernel)) ggX9_placeFrom_X9_mayStand
set_option maxRecDepth 20000 in
theorem ggX9_placeFrom_X9_place : GoodIn wsX9_placeFrom wsX9_place := goodIn_r _ [64, 22, 1, 65, 66, 67, 68, 69, 70, 71, 5, 72, 7, 73, 45, 46, 47, 74, 75, 76, 77, 78, 79, 80, 11, 0, 2, 3, 4, 6, 8, 9, 10, 12, 13, 14, 15, 16, 17, 18, 19, 20, 21, 23, 24, 25, 26, 27, 28, 29, 30, 31, 32, 33, 34, 35, 36, 37, 38, 39, 40, 41, 42, 43, 44, 48, 49, 50, 51, 52, 53, 54, 55, 56, 57, 58, 59, 60, 61, 62, 63, 81, 82, 83, 84, 85, 86, 87, 88, 89, 90, 91, 92, 93, 94] (by decide +kernel) (by decide +kernel)
set_option maxRecDepth 20000 in
theorem gX9_placeFrom_X9_place : GoodIn wsX9_placeFrom (wsV RX9 72 RX9 yX9_place wsX9_place) := goodIn_app (goodIn_of _ (by decide +kernel)) ggX9_placeFrom_X9_place
theorem dX9_placeFrom_0 : decode cX9_placeFrom 0 = .ok (.iload_n 1, 1) := by decide +kernel
theorem dX9_placeFrom_1 : decode cX9_placeFrom 1 = .ok (.aload_n 0, 1) := by decide +kernel
theorem dX9_placeFrom_2 : decode cX9_placeFrom 2 = .ok (.getfield 35, 3) := by decide +kernel
theorem dX9_placeFrom_5 : decode cX9_placeFrom 5 = .ok (.invokevirtual 58, 3) := by decide +kernel
theorem dX9_placeFrom_8 : decode cX9_placeFrom 8 = .ok (.if_icmp .ge 9, 3) := by decide +kernel
theorem dX9_placeFrom_11 : decode cX9_placeFrom 11 = .ok (.iload_n 1, 1) := by decide +kernel
theorem dX9_placeFrom_12 : decode cX9_placeFrom 12 = .ok (.bipush 8, 2) := by decide +kernel
theorem dX9_placeFrom_14 : decode cX9_placeFrom 14 = .ok (.if_icmp .lt 12, 3) := by decide +kernel
theorem dX9_placeFrom_17 : decode cX9_placeFrom 17 = .ok (.aload_n 0, 1) := by decide +kernel
theorem dX9_placeFrom_18 : decode cX9_placeFrom 18 = .ok (.iload_n 2, 1) := by decide +kernel
theorem dX9_placeFrom_19 : decode cX9_placeFrom 19 = .ok (.iload_n 3, 1) := by decide +kernel
theorem dX9_placeFrom_20 : decode cX9_placeFrom 20 = .ok (.iload 4, 2) := by decide +kernel
theorem dX9_placeFrom_22 : decode cX9_placeFrom 22 = .ok (.invokevirtual 64, 3) := by decide +kernel
theorem dX9_placeFrom_25 : decode cX9_placeFrom 25 = .ok (.return_, 1) := by decide +kernel
theorem dX9_placeFrom_26 : decode cX9_placeFrom 26 = .ok (.iconst 0, 1) := by decide +kernel
theorem dX9_placeFrom_27 : decode cX9_placeFrom 27 = .ok (.istore 5, 2) := by decide +kernel
theorem dX9_placeFrom_29 : decode cX9_placeFrom 29 = .ok (.iload 5, 2) := by decide +kernel
theorem dX9_placeFrom_31 : decode cX9_placeFrom 31 = .ok (.iload_n 2, 1) := by decide +kernel
theorem dX9_placeFrom_32 : decode cX9_placeFrom 32 = .ok (.if_icmp .gt 38, 3) := by decide +kernel
theorem dX9_placeFrom_35 : decode cX9_placeFrom 35 = .ok (.iload 5, 2) := by decide +kernel
theorem dX9_placeFrom_37 : decode cX9_placeFrom 37 = .ok (.bipush 8, 2) := by decide +kernel
theorem dX9_placeFrom_39 : decode cX9_placeFrom 39 = .ok (.if_icmp .ge 31, 3) := by decide +kernel
theorem dX9_placeFrom_42 : decode cX9_placeFrom 42 = .ok (.aload_n 0, 1) := by decide +kernel
theorem dX9_placeFrom_43 : decode cX9_placeFrom 43 = .ok (.iload_n 1, 1) := by decide +kernel
theorem dX9_placeFrom_44 : decode cX9_placeFrom 44 = .ok (.iload 5, 2) := by decide +kernel
theorem dX9_placeFrom_46 : decode cX9_placeFrom 46 = .ok (.iload_n 2, 1) := by decide +kernel
theorem dX9_placeFrom_47 : decode cX9_placeFrom 47 = .ok (.invokevirtual 68, 3) := by decide +kernel
theorem dX9_placeFrom_50 : decode cX9_placeFrom 50 = .ok (.ifCond .eq 14, 3) := by decide +kernel
theorem dX9_placeFrom_53 : decode cX9_placeFrom 53 = .ok (.aload_n 0, 1) := by decide +kernel
theorem dX9_placeFrom_54 : decode cX9_placeFrom 54 = .ok (.iload_n 1, 1) := by decide +kernel
theorem dX9_placeFrom_55 : decode cX9_placeFrom 55 = .ok (.iload 5, 2) := by decide +kernel
theorem dX9_placeFrom_57 : decode cX9_placeFrom 57 = .ok (.iload_n 2, 1) := by decide +kernel
theorem dX9_placeFrom_58 : decode cX9_placeFrom 58 = .ok (.iload_n 3, 1) := by decide +kernel
theorem dX9_placeFrom_59 : decode cX9_placeFrom 59 = .ok (.iload 4, 2) := by decide +kernel
theorem dX9_placeFrom_61 : decode cX9_placeFrom 61 = .ok (.invokevirtual 72, 3) := by decide +kernel
theorem dX9_placeFrom_64 : decode cX9_placeFrom 64 = .ok (.iinc 5 1, 3) := by decide +kernel
theorem dX9_placeFrom_67 : decode cX9_placeFrom 67 = .ok (.goto (-38), 3) := by decide +kernel
theorem dX9_placeFrom_70 : decode cX9_placeFrom 70 = .ok (.return_, 1) := by decide +kernel
set_option maxRecDepth 20000 in
theorem ggX9_place_X5_worthWith : GoodIn wsX9_place wsX5_worthWith := goodIn_r _ [11, 12, 13, 14, 15, 10, 16, 89, 90, 91, 92, 93, 94] (by decide +kernel) (by decide +kernel)
set_option maxRecDepth 20000 in
theorem gX9_place_X5_worthWith : GoodIn wsX9_place (wsV RX9 76 RX5 yX5_worthWith wsX5_worthWith) := goodIn_app (goodIn_of _ (by decide +kernel)) ggX9_place_X5_worthWith
set_option maxRecDepth 20000 in
theorem ggX9_place_X7_shiftOf : GoodIn wsX9_place wsX7_shiftOf := goodIn_r _ [20] (by decide +kernel) (by decide +kernel)
set_option maxRecDepth 20000 in
theorem gX9_place_X7_shiftOf : GoodIn wsX9_place (va_wsS RX9 79 yX7_shiftOf wsX7_shiftOf) := goodIn_app (goodIn_of _ (by decide +kernel)) ggX9_place_X7_shiftOf
set_option maxRecDepth 20000 in
theorem ggX9_place_X9_placeFrom : GoodIn wsX9_place wsX9_placeFrom := goodIn_r _ [25, 2, 26, 27, 28, 10, 29, 12, 30, 31, 32, 24, 33, 34, 35, 36, 37, 38, 39, 40, 41, 42, 1, 43, 44, 45, 46, 47, 48, 49, 50, 51, 52, 53, 54, 55, 56, 57, 58, 59, 60, 61, 62, 63, 64, 14, 15, 16, 65, 66, 67, 68, 69, 70, 71, 72, 73, 74, 75, 76, 77, 78, 79, 80, 0, 3, 4, 5, 6, 7, 8, 9, 11, 13, 17, 18, 19, 20, 21, 22, 23, 81, 82, 83, 84, 85, 86, 87, 88, 89, 90, 91, 92, 93, 94] (by decide +kernel) (by decide +kernel)
set_option maxRecDepth 20000 in
theorem gX9_place_X9_placeFrom : GoodIn wsX9_place (wsV RX9 54 RX9 yX9_placeFrom wsX9_placeFrom) := goodIn_app (goodIn_of _ (by decide +kernel)) ggX9_place_X9_placeFrom
theorem dX9_place_0 : decode cX9_place 0 = .ok (.aload_n 0, 1) := by decide +kernel
theorem dX9_place_1 : decode cX9_place 1 = .ok (.getfield 18, 3) := by decide +kernel
theorem dX9_place_4 : decode cX9_place 4 = .ok (.iload_n 2, 1) := by decide +kernel
theorem dX9_place_5 : decode cX9_place 5 = .ok (.iaload, 1) := by decide +kernel
theorem dX9_place_6 : decode cX9_place 6 = .ok (.istore 6, 2) := by decide +kernel
theorem dX9_place_8 : decode cX9_place 8 = .ok (.iload 5, 2) := by decide +kernel
theorem dX9_place_10 : decode cX9_place 10 = .ok (.aload_n 0, 1) := by decide +kernel
theorem dX9_place_11 : decode cX9_place 11 = .ok (.getfield 35, 3) := by decide +kernel
theorem dX9_place_14 : decode cX9_place 14 = .ok (.iload_n 1, 1) := by decide +kernel
theorem dX9_place_15 : decode cX9_place 15 = .ok (.iload 6, 2) := by decide +kernel
theorem dX9_place_17 : decode cX9_place 17 = .ok (.invokevirtual 76, 3) := by decide +kernel
theorem dX9_place_20 : decode cX9_place 20 = .ok (.iadd, 1) := by decide +kernel
theorem dX9_place_21 : decode cX9_place 21 = .ok (.istore 7, 2) := by decide +kernel
theorem dX9_place_23 : decode cX9_place 23 = .ok (.iload 4, 2) := by decide +kernel
theorem dX9_place_25 : decode cX9_place 25 = .ok (.iload_n 2, 1) := by decide +kernel
theorem dX9_place_26 : decode cX9_place 26 = .ok (.iload_n 1, 1) := by decide +kernel
theorem dX9_place_27 : decode cX9_place 27 = .ok (.invokestatic 79, 3) := by decide +kernel
theorem dX9_place_30 : decode cX9_place 30 = .ok (.ishl, 1) := by decide +kernel
theorem dX9_place_31 : decode cX9_place 31 = .ok (.ior, 1) := by decide +kernel
theorem dX9_place_32 : decode cX9_place 32 = .ok (.istore 8, 2) := by decide +kernel
theorem dX9_place_34 : decode cX9_place 34 = .ok (.aload_n 0, 1) := by decide +kernel
theorem dX9_place_35 : decode cX9_place 35 = .ok (.getfield 18, 3) := by decide +kernel
theorem dX9_place_38 : decode cX9_place 38 = .ok (.iload_n 2, 1) := by decide +kernel
theorem dX9_place_39 : decode cX9_place 39 = .ok (.iload 6, 2) := by decide +kernel
theorem dX9_place_41 : decode cX9_place 41 = .ok (.iconst 1, 1) := by decide +kernel
theorem dX9_place_42 : decode cX9_place 42 = .ok (.iload_n 1, 1) := by decide +kernel
theorem dX9_place_43 : decode cX9_place 43 = .ok (.ishl, 1) := by decide +kernel
theorem dX9_place_44 : decode cX9_place 44 = .ok (.ior, 1) := by decide +kernel
theorem dX9_place_45 : decode cX9_place 45 = .ok (.iastore, 1) := by decide +kernel
theorem dX9_place_46 : decode cX9_place 46 = .ok (.aload_n 0, 1) := by decide +kernel
theorem dX9_place_47 : decode cX9_place 47 = .ok (.iload_n 1, 1) := by decide +kernel
theorem dX9_place_48 : decode cX9_place 48 = .ok (.iconst 1, 1) := by decide +kernel
theorem dX9_place_49 : decode cX9_place 49 = .ok (.iadd, 1) := by decide +kernel
theorem dX9_place_50 : decode cX9_place 50 = .ok (.iload_n 3, 1) := by decide +kernel
theorem dX9_place_51 : decode cX9_place 51 = .ok (.iload_n 2, 1) := by decide +kernel
theorem dX9_place_52 : decode cX9_place 52 = .ok (.iconst 1, 1) := by decide +kernel
theorem dX9_place_53 : decode cX9_place 53 = .ok (.iadd, 1) := by decide +kernel
theorem dX9_place_54 : decode cX9_place 54 = .ok (.invokestatic 83, 3) := by decide +kernel
theorem dX9_place_57 : decode cX9_place 57 = .ok (.iload 8, 2) := by decide +kernel
theorem dX9_place_59 : decode cX9_place 59 = .ok (.iload 7, 2) := by decide +kernel
theorem dX9_place_61 : decode cX9_place 61 = .ok (.invokevirtual 54, 3) := by decide +kernel
theorem dX9_place_64 : decode cX9_place 64 = .ok (.aload_n 0, 1) := by decide +kernel
theorem dX9_place_65 : decode cX9_place 65 = .ok (.getfield 18, 3) := by decide +kernel
theorem dX9_place_68 : decode cX9_place 68 = .ok (.iload_n 2, 1) := by decide +kernel
theorem dX9_place_69 : decode cX9_place 69 = .ok (.iload 6, 2) := by decide +kernel
theorem dX9_place_71 : decode cX9_place 71 = .ok (.iastore, 1) := by decide +kernel
theorem dX9_place_72 : decode cX9_place 72 = .ok (.return_, 1) := by decide +kernel
set_option maxRecDepth 20000 in
theorem ggX9_mayStand_X5_lawOf : GoodIn wsX9_mayStand wsX5_lawOf := goodIn_r _ [7, 8, 47, 48, 49, 50, 51, 52] (by decide +kernel) (by decide +kernel)
set_option maxRecDepth 20000 in
theorem gX9_mayStand_X5_lawOf : GoodIn wsX9_mayStand (wsV RX9 88 RX5 yX5_lawOf wsX5_lawOf) := goodIn_app (goodIn_of _ (by decide +kernel)) ggX9_mayStand_X5_lawOf
set_option maxRecDepth 20000 in
theorem ggX9_mayStand_J6_bitCount_0f7a4 : GoodIn wsX9_mayStand wsJ6_bitCount_0f7a4 := goodIn_r _ [12, 13, 14, 15] (by decide +kernel) (by decide +kernel)
set_option maxRecDepth 20000 in
theorem gX9_mayStand_J6_bitCount_0f7a4 : GoodIn wsX9_mayStand (va_wsS RX9 91 yJ6_bitCount_0f7a4 wsJ6_bitCount_0f7a4) := goodIn_app (goodIn_of _ (by decide +kernel)) ggX9_mayStand_J6_bitCount_0f7a4
set_option maxRecDepth 20000 in
theorem ggX9_mayStand_X5_mayCome : GoodIn wsX9_mayStand wsX5_mayCome := goodIn_r _ [19, 20, 21, 22, 23, 6, 24, 25, 26, 27, 28, 8, 29, 47, 48, 49, 50, 51, 52] (by decide +kernel) (by decide +kernel)
set_option maxRecDepth 20000 in
theorem gX9_mayStand_X5_mayCome : GoodIn wsX9_mayStand (wsV RX9 96 RX5 yX5_mayCome wsX5_mayCome) := goodIn_app (goodIn_of _ (by decide +kernel)) ggX9_mayStand_X5_mayCome
set_option maxRecDepth 20000 in
theorem ggX9_mayStand_X9_comesAcross : GoodIn wsX9_mayStand wsX9_comesAcross := goodIn_r _ [34, 2, 35, 36, 37, 33, 38, 39, 40, 41, 42, 43, 44, 45, 46] (by decide +kernel) (by decide +kernel)
set_option maxRecDepth 20000 in
theorem gX9_mayStand_X9_comesAcross : GoodIn wsX9_mayStand (wsV RX9 100 RX9 yX9_comesAcross wsX9_comesAcross) := goodIn_app (goodIn_of _ (by decide +kernel)) ggX9_mayStand_X9_comesAcross
theorem dX9_mayStand_0 : decode cX9_mayStand 0 = .ok (.aload_n 0, 1) := by decide +kernel
theorem dX9_mayStand_1 : decode cX9_mayStand 1 = .ok (.getfield 35, 3) := by decide +kernel
theorem dX9_mayStand_4 : decode cX9_mayStand 4 = .ok (.iconst 2, 1) := by decide +kernel
theorem dX9_mayStand_5 : decode cX9_mayStand 5 = .ok (.invokevirtual 88, 3) := by decide +kernel
theorem dX9_mayStand_8 : decode cX9_mayStand 8 = .ok (.istore 4, 2) := by decide +kernel
theorem dX9_mayStand_10 : decode cX9_mayStand 10 = .ok (.iload 4, 2) := by decide +kernel
theorem dX9_mayStand_12 : decode cX9_mayStand 12 = .ok (.ifCond .eq 19, 3) := by decide +kernel
theorem dX9_mayStand_15 : decode cX9_mayStand 15 = .ok (.aload_n 0, 1) := by decide +kernel
theorem dX9_mayStand_16 : decode cX9_mayStand 16 = .ok (.getfield 18, 3) := by decide +kernel
theorem dX9_mayStand_19 : decode cX9_mayStand 19 = .ok (.iload_n 2, 1) := by decide +kernel
theorem dX9_mayStand_20 : decode cX9_mayStand 20 = .ok (.iaload, 1) := by decide +kernel
theorem dX9_mayStand_21 : decode cX9_mayStand 21 = .ok (.invokestatic 91, 3) := by decide +kernel
theorem dX9_mayStand_24 : decode cX9_mayStand 24 = .ok (.iload 4, 2) := by decide +kernel
theorem dX9_mayStand_26 : decode cX9_mayStand 26 = .ok (.if_icmp .lt 5, 3) := by decide +kernel
theorem dX9_mayStand_29 : decode cX9_mayStand 29 = .ok (.iconst 0, 1) := by decide +kernel
theorem dX9_mayStand_30 : decode cX9_mayStand 30 = .ok (.ireturn, 1) := by decide +kernel
theorem dX9_mayStand_31 : decode cX9_mayStand 31 = .ok (.aload_n 0, 1) := by decide +kernel
theorem dX9_mayStand_32 : decode cX9_mayStand 32 = .ok (.getfield 35, 3) := by decide +kernel
theorem dX9_mayStand_35 : decode cX9_mayStand 35 = .ok (.iload_n 1, 1) := by decide +kernel
theorem dX9_mayStand_36 : decode cX9_mayStand 36 = .ok (.aload_n 0, 1) := by decide +kernel
theorem dX9_mayStand_37 : decode cX9_mayStand 37 = .ok (.getfield 18, 3) := by decide +kernel
theorem dX9_mayStand_40 : decode cX9_mayStand 40 = .ok (.iload_n 2, 1) := by decide +kernel
theorem dX9_mayStand_41 : decode cX9_mayStand 41 = .ok (.iaload, 1) := by decide +kernel
theorem dX9_mayStand_42 : decode cX9_mayStand 42 = .ok (.invokevirtual 96, 3) := by decide +kernel
theorem dX9_mayStand_45 : decode cX9_mayStand 45 = .ok (.ifCond .ne 5, 3) := by decide +kernel
theorem dX9_mayStand_48 : decode cX9_mayStand 48 = .ok (.iconst 0, 1) := by decide +kernel
theorem dX9_mayStand_49 : decode cX9_mayStand 49 = .ok (.ireturn, 1) := by decide +kernel
theorem dX9_mayStand_50 : decode cX9_mayStand 50 = .ok (.aload_n 0, 1) := by decide +kernel
theorem dX9_mayStand_51 : decode cX9_mayStand 51 = .ok (.getfield 35, 3) := by decide +kernel
theorem dX9_mayStand_54 : decode cX9_mayStand 54 = .ok (.iconst 4, 1) := by decide +kernel
theorem dX9_mayStand_55 : decode cX9_mayStand 55 = .ok (.invokevirtual 88, 3) := by decide +kernel
theorem dX9_mayStand_58 : decode cX9_mayStand 58 = .ok (.ifCond .eq 12, 3) := by decide +kernel
theorem dX9_mayStand_61 : decode cX9_mayStand 61 = .ok (.aload_n 0, 1) := by decide +kernel
theorem dX9_mayStand_62 : decode cX9_mayStand 62 = .ok (.iload_n 2, 1) := by decide +kernel
theorem dX9_mayStand_63 : decode cX9_mayStand 63 = .ok (.iload_n 3, 1) := by decide +kernel
theorem dX9_mayStand_64 : decode cX9_mayStand 64 = .ok (.invokevirtual 100, 3) := by decide +kernel
theorem dX9_mayStand_67 : decode cX9_mayStand 67 = .ok (.ifCond .ne 7, 3) := by decide +kernel
theorem dX9_mayStand_70 : decode cX9_mayStand 70 = .ok (.iconst 1, 1) := by decide +kernel
theorem dX9_mayStand_71 : decode cX9_mayStand 71 = .ok (.goto 4, 3) := by decide +kernel
theorem dX9_mayStand_74 : decode cX9_mayStand 74 = .ok (.iconst 0, 1) := by decide +kernel
theorem dX9_mayStand_75 : decode cX9_mayStand 75 = .ok (.ireturn, 1) := by decide +kernel
set_option maxRecDepth 20000 in
theorem ggX9_comesAcross_X9_isSurrounded : GoodIn wsX9_comesAcross wsX9_isSurrounded := goodIn_r _ [6, 1, 7, 8, 9, 10, 11, 12, 13, 14] (by decide +kernel) (by decide +kernel)
set_option maxRecDepth 20000 in
theorem gX9_comesAcross_X9_isSurrounded : GoodIn wsX9_comesAcross (wsV RX9 103 RX9 yX9_isSurrounded wsX9_isSurrounded) := goodIn_app (goodIn_of _ (by decide +kernel)) ggX9_comesAcross_X9_isSurrounded
theorem dX9_comesAcross_0 : decode cX9_comesAcross 0 = .ok (.iconst 0, 1) := by decide +kernel
theorem dX9_comesAcross_1 : decode cX9_comesAcross 1 = .ok (.istore_n 3, 1) := by decide +kernel
theorem dX9_comesAcross_2 : decode cX9_comesAcross 2 = .ok (.iload_n 3, 1) := by decide +kernel
theorem dX9_comesAcross_3 : decode cX9_comesAcross 3 = .ok (.bipush 8, 2) := by decide +kernel
theorem dX9_comesAcross_5 : decode cX9_comesAcross 5 = .ok (.if_icmp .ge 34, 3) := by decide +kernel
theorem dX9_comesAcross_8 : decode cX9_comesAcross 8 = .ok (.aload_n 0, 1) := by decide +kernel
theorem dX9_comesAcross_9 : decode cX9_comesAcross 9 = .ok (.getfield 18, 3) := by decide +kernel
theorem dX9_comesAcross_12 : decode cX9_comesAcross 12 = .ok (.iload_n 1, 1) := by decide +kernel
theorem dX9_comesAcross_13 : decode cX9_comesAcross 13 = .ok (.iaload, 1) := by decide +kernel
theorem dX9_comesAcross_14 : decode cX9_comesAcross 14 = .ok (.iconst 1, 1) := by decide +kernel
theorem dX9_comesAcross_15 : decode cX9_comesAcross 15 = .ok (.iload_n 3, 1) := by decide +kernel
theorem dX9_comesAcross_16 : decode cX9_comesAcross 16 = .ok (.ishl, 1) := by decide +kernel
theorem dX9_comesAcross_17 : decode cX9_comesAcross 17 = .ok (.iand, 1) := by decide +kernel
theorem dX9_comesAcross_18 : decode cX9_comesAcross 18 = .ok (.ifCond .eq 15, 3) := by decide +kernel
theorem dX9_comesAcross_21 : decode cX9_comesAcross 21 = .ok (.aload_n 0, 1) := by decide +kernel
theorem dX9_comesAcross_22 : decode cX9_comesAcross 22 = .ok (.iload_n 3, 1) := by decide +kernel
theorem dX9_comesAcross_23 : decode cX9_comesAcross 23 = .ok (.iload_n 1, 1) := by decide +kernel
theorem dX9_comesAcross_24 : decode cX9_comesAcross 24 = .ok (.iload_n 2, 1) := by decide +kernel
theorem dX9_comesAcross_25 : decode cX9_comesAcross 25 = .ok (.invokevirtual 103, 3) := by decide +kernel
theorem dX9_comesAcross_28 : decode cX9_comesAcross 28 = .ok (.ifCond .eq 5, 3) := by decide +kernel
theorem dX9_comesAcross_31 : decode cX9_comesAcross 31 = .ok (.iconst 1, 1) := by decide +kernel
theorem dX9_comesAcross_32 : decode cX9_comesAcross 32 = .ok (.ireturn, 1) := by decide +kernel
theorem dX9_comesAcross_33 : decode cX9_comesAcross 33 = .ok (.iinc 3 1, 3) := by decide +kernel
theorem dX9_comesAcross_36 : decode cX9_comesAcross 36 = .ok (.goto (-34), 3) := by decide +kernel
theorem dX9_comesAcross_39 : decode cX9_comesAcross 39 = .ok (.iconst 0, 1) := by decide +kernel
theorem dX9_comesAcross_40 : decode cX9_comesAcross 40 = .ok (.ireturn, 1) := by decide +kernel
theorem dX9_isSurrounded_0 : decode cX9_isSurrounded 0 = .ok (.iconst 1, 1) := by decide +kernel
theorem dX9_isSurrounded_1 : decode cX9_isSurrounded 1 = .ok (.iload_n 1, 1) := by decide +kernel
theorem dX9_isSurrounded_2 : decode cX9_isSurrounded 2 = .ok (.ishl, 1) := by decide +kernel
theorem dX9_isSurrounded_3 : decode cX9_isSurrounded 3 = .ok (.iconst 1, 1) := by decide +kernel
theorem dX9_isSurrounded_4 : decode cX9_isSurrounded 4 = .ok (.isub, 1) := by decide +kernel
theorem dX9_isSurrounded_5 : decode cX9_isSurrounded 5 = .ok (.istore 4, 2) := by decide +kernel
theorem dX9_isSurrounded_7 : decode cX9_isSurrounded 7 = .ok (.iconst 0, 1) := by decide +kernel
theorem dX9_isSurrounded_8 : decode cX9_isSurrounded 8 = .ok (.istore 5, 2) := by decide +kernel
theorem dX9_isSurrounded_10 : decode cX9_isSurrounded 10 = .ok (.iload 5, 2) := by decide +kernel
theorem dX9_isSurrounded_12 : decode cX9_isSurrounded 12 = .ok (.iload_n 3, 1) := by decide +kernel
theorem dX9_isSurrounded_13 : decode cX9_isSurrounded 13 = .ok (.if_icmp .ge 52, 3) := by decide +kernel
theorem dX9_isSurrounded_16 : decode cX9_isSurrounded 16 = .ok (.iload 5, 2) := by decide +kernel
theorem dX9_isSurrounded_18 : decode cX9_isSurrounded 18 = .ok (.bipush 8, 2) := by decide +kernel
theorem dX9_isSurrounded_20 : decode cX9_isSurrounded 20 = .ok (.if_icmp .ge 45, 3) := by decide +kernel
theorem dX9_isSurrounded_23 : decode cX9_isSurrounded 23 = .ok (.iload 5, 2) := by decide +kernel
theorem dX9_isSurrounded_25 : decode cX9_isSurrounded 25 = .ok (.iload_n 2, 1) := by decide +kernel
theorem dX9_isSurrounded_26 : decode cX9_isSurrounded 26 = .ok (.if_icmp .eq 33, 3) := by decide +kernel
theorem dX9_isSurrounded_29 : decode cX9_isSurrounded 29 = .ok (.aload_n 0, 1) := by decide +kernel
theorem dX9_isSurrounded_30 : decode cX9_isSurrounded 30 = .ok (.getfield 18, 3) := by decide +kernel
theorem dX9_isSurrounded_33 : decode cX9_isSurrounded 33 = .ok (.iload 5, 2) := by decide +kernel
theorem dX9_isSurrounded_35 : decode cX9_isSurrounded 35 = .ok (.iaload, 1) := by decide +kernel
theorem dX9_isSurrounded_36 : decode cX9_isSurrounded 36 = .ok (.iload 4, 2) := by decide +kernel
theorem dX9_isSurrounded_38 : decode cX9_isSurrounded 38 = .ok (.iand, 1) := by decide +kernel
theorem dX9_isSurrounded_39 : decode cX9_isSurrounded 39 = .ok (.ifCond .eq 20, 3) := by decide +kernel
theorem dX9_isSurrounded_42 : decode cX9_isSurrounded 42 = .ok (.aload_n 0, 1) := by decide +kernel
theorem dX9_isSurrounded_43 : decode cX9_isSurrounded 43 = .ok (.getfield 18, 3) := by decide +kernel
theorem dX9_isSurrounded_46 : decode cX9_isSurrounded 46 = .ok (.iload 5, 2) := by decide +kernel
theorem dX9_isSurrounded_48 : decode cX9_isSurrounded 48 = .ok (.iaload, 1) := by decide +kernel
theorem dX9_isSurrounded_49 : decode cX9_isSurrounded 49 = .ok (.iload 4, 2) := by decide +kernel
theorem dX9_isSurrounded_51 : decode cX9_isSurrounded 51 = .ok (.iconst (-1), 1) := by decide +kernel
theorem dX9_isSurrounded_52 : decode cX9_isSurrounded 52 = .ok (.ixor, 1) := by decide +kernel
theorem dX9_isSurrounded_53 : decode cX9_isSurrounded 53 = .ok (.iand, 1) := by decide +kernel
theorem dX9_isSurrounded_54 : decode cX9_isSurrounded 54 = .ok (.ifCond .eq 5, 3) := by decide +kernel
theorem dX9_isSurrounded_57 : decode cX9_isSurrounded 57 = .ok (.iconst 1, 1) := by decide +kernel
theorem dX9_isSurrounded_58 : decode cX9_isSurrounded 58 = .ok (.ireturn, 1) := by decide +kernel
theorem dX9_isSurrounded_59 : decode cX9_isSurrounded 59 = .ok (.iinc 5 1, 3) := by decide +kernel
theorem dX9_isSurrounded_62 : decode cX9_isSurrounded 62 = .ok (.goto (-52), 3) := by decide +kernel
theorem dX9_isSurrounded_65 : decode cX9_isSurrounded 65 = .ok (.iconst 0, 1) := by decide +kernel
theorem dX9_isSurrounded_66 : decode cX9_isSurrounded 66 = .ok (.ireturn, 1) := by decide +kernel
set_option maxRecDepth 20000 in
theorem ggX9_accept_X9_areLawful : GoodIn wsX9_accept wsX9_areLawful := goodIn_r _ [10, 11, 12, 13, 14, 15, 16, 17, 18, 19, 20, 21, 22, 23, 24, 25, 26, 27, 28, 29, 30, 31, 32, 33, 34, 35, 36, 37, 38, 39] (by decide +kernel) (by decide +kernel)
set_option maxRecDepth 20000 in
theorem gX9_accept_X9_areLawful : GoodIn wsX9_accept (wsV RX9 106 RX9 yX9_areLawful wsX9_areLawful) := goodIn_app (goodIn_of _ (by decide +kernel)) ggX9_accept_X9_areLawful
theorem dX9_accept_0 : decode cX9_accept 0 = .ok (.aload_n 0, 1) := by decide +kernel
theorem dX9_accept_1 : decode cX9_accept 1 = .ok (.iload_n 1, 1) := by decide +kernel
theorem dX9_accept_2 : decode cX9_accept 2 = .ok (.invokevirtual 106, 3) := by decide +kernel
theorem dX9_accept_5 : decode cX9_accept 5 = .ok (.ifCond .eq 13, 3) := by decide +kernel
theorem dX9_accept_8 : decode cX9_accept 8 = .ok (.aload_n 0, 1) := by decide +kernel
theorem dX9_accept_9 : decode cX9_accept 9 = .ok (.getfield 25, 3) := by decide +kernel
theorem dX9_accept_12 : decode cX9_accept 12 = .ok (.sipush 4140, 3) := by decide +kernel
theorem dX9_accept_15 : decode cX9_accept 15 = .ok (.if_icmp .lt 4, 3) := by decide +kernel
theorem dX9_accept_18 : decode cX9_accept 18 = .ok (.return_, 1) := by decide +kernel
theorem dX9_accept_19 : decode cX9_accept 19 = .ok (.aload_n 0, 1) := by decide +kernel
theorem dX9_accept_20 : decode cX9_accept 20 = .ok (.getfield 25, 3) := by decide +kernel
theorem dX9_accept_23 : decode cX9_accept 23 = .ok (.ifCond .eq 11, 3) := by decide +kernel
theorem dX9_accept_26 : decode cX9_accept 26 = .ok (.iload_n 3, 1) := by decide +kernel
theorem dX9_accept_27 : decode cX9_accept 27 = .ok (.aload_n 0, 1) := by decide +kernel
theorem dX9_accept_28 : decode cX9_accept 28 = .ok (.getfield 29, 3) := by decide +kernel
theorem dX9_accept_31 : decode cX9_accept 31 = .ok (.if_icmp .le 13, 3) := by decide +kernel
theorem dX9_accept_34 : decode cX9_accept 34 = .ok (.aload_n 0, 1) := by decide +kernel
theorem dX9_accept_35 : decode cX9_accept 35 = .ok (.iload_n 3, 1) := by decide +kernel
theorem dX9_accept_36 : decode cX9_accept 36 = .ok (.putfield 29, 3) := by decide +kernel
theorem dX9_accept_39 : decode cX9_accept 39 = .ok (.aload_n 0, 1) := by decide +kernel
theorem dX9_accept_40 : decode cX9_accept 40 = .ok (.iload_n 2, 1) := by decide +kernel
theorem dX9_accept_41 : decode cX9_accept 41 = .ok (.putfield 32, 3) := by decide +kernel
theorem dX9_accept_44 : decode cX9_accept 44 = .ok (.aload_n 0, 1) := by decide +kernel
theorem dX9_accept_45 : decode cX9_accept 45 = .ok (.getfield 11, 3) := by decide +kernel
theorem dX9_accept_48 : decode cX9_accept 48 = .ok (.aload_n 0, 1) := by decide +kernel
theorem dX9_accept_49 : decode cX9_accept 49 = .ok (.getfield 25, 3) := by decide +kernel
theorem dX9_accept_52 : decode cX9_accept 52 = .ok (.iload_n 2, 1) := by decide +kernel
theorem dX9_accept_53 : decode cX9_accept 53 = .ok (.iastore, 1) := by decide +kernel
theorem dX9_accept_54 : decode cX9_accept 54 = .ok (.aload_n 0, 1) := by decide +kernel
theorem dX9_accept_55 : decode cX9_accept 55 = .ok (.dup, 1) := by decide +kernel
theorem dX9_accept_56 : decode cX9_accept 56 = .ok (.getfield 25, 3) := by decide +kernel
theorem dX9_accept_59 : decode cX9_accept 59 = .ok (.iconst 1, 1) := by decide +kernel
theorem dX9_accept_60 : decode cX9_accept 60 = .ok (.iadd, 1) := by decide +kernel
theorem dX9_accept_61 : decode cX9_accept 61 = .ok (.putfield 25, 3) := by decide +kernel
theorem dX9_accept_64 : decode cX9_accept 64 = .ok (.iload_n 1, 1) := by decide +kernel
theorem dX9_accept_65 : decode cX9_accept 65 = .ok (.aload_n 0, 1) := by decide +kernel
theorem dX9_accept_66 : decode cX9_accept 66 = .ok (.getfield 15, 3) := by decide +kernel
theorem dX9_accept_69 : decode cX9_accept 69 = .ok (.arraylength, 1) := by decide +kernel
theorem dX9_accept_70 : decode cX9_accept 70 = .ok (.if_icmp .ge 13, 3) := by decide +kernel
theorem dX9_accept_73 : decode cX9_accept 73 = .ok (.aload_n 0, 1) := by decide +kernel
theorem dX9_accept_74 : decode cX9_accept 74 = .ok (.getfield 15, 3) := by decide +kernel
theorem dX9_accept_77 : decode cX9_accept 77 = .ok (.iload_n 1, 1) := by decide +kernel
theorem dX9_accept_78 : decode cX9_accept 78 = .ok (.dup2, 1) := by decide +kernel
theorem dX9_accept_79 : decode cX9_accept 79 = .ok (.iaload, 1) := by decide +kernel
theorem dX9_accept_80 : decode cX9_accept 80 = .ok (.iconst 1, 1) := by decide +kernel
theorem dX9_accept_81 : decode cX9_accept 81 = .ok (.iadd, 1) := by decide +kernel
theorem dX9_accept_82 : decode cX9_accept 82 = .ok (.iastore, 1) := by decide +kernel
theorem dX9_accept_83 : decode cX9_accept 83 = .ok (.return_, 1) := by decide +kernel
set_option maxRecDepth 20000 in
theorem ggX9_areLawful_X5_lawOf : GoodIn wsX9_areLawful wsX5_lawOf := goodIn_r _ [7, 8, 24, 25, 26, 27, 28, 29] (by decide +kernel) (by decide +kernel)
set_option maxRecDepth 20000 in
theorem gX9_areLawful_X5_lawOf : GoodIn wsX9_areLawful (wsV RX9 88 RX5 yX5_lawOf wsX5_lawOf) := goodIn_app (goodIn_of _ (by decide +kernel)) ggX9_areLawful_X5_lawOf
set_option maxRecDepth 20000 in
theorem ggX9_areLawful_J6_bitCount_0f7a4 : GoodIn wsX9_areLawful wsJ6_bitCount_0f7a4 := goodIn_r _ [12, 13, 14, 15] (by decide +kernel) (by decide +kernel)
set_option maxRecDepth 20000 in
theorem gX9_areLawful_J6_bitCount_0f7a4 : GoodIn wsX9_areLawful (va_wsS RX9 91 yJ6_bitCount_0f7a4 wsJ6_bitCount_0f7a4) := goodIn_app (goodIn_of _ (by decide +kernel)) ggX9_areLawful_J6_bitCount_0f7a4
theorem dX9_areLawful_0 : decode cX9_areLawful 0 = .ok (.aload_n 0, 1) := by decide +kernel
theorem dX9_areLawful_1 : decode cX9_areLawful 1 = .ok (.getfield 35, 3) := by decide +kernel
theorem dX9_areLawful_4 : decode cX9_areLawful 4 = .ok (.iconst 0, 1) := by decide +kernel
theorem dX9_areLawful_5 : decode cX9_areLawful 5 = .ok (.invokevirtual 88, 3) := by decide +kernel
theorem dX9_areLawful_8 : decode cX9_areLawful 8 = .ok (.istore_n 2, 1) := by decide +kernel
theorem dX9_areLawful_9 : decode cX9_areLawful 9 = .ok (.iload_n 2, 1) := by decide +kernel
theorem dX9_areLawful_10 : decode cX9_areLawful 10 = .ok (.ifCond .eq 10, 3) := by decide +kernel
theorem dX9_areLawful_13 : decode cX9_areLawful 13 = .ok (.iload_n 2, 1) := by decide +kernel
theorem dX9_areLawful_14 : decode cX9_areLawful 14 = .ok (.iload_n 1, 1) := by decide +kernel
theorem dX9_areLawful_15 : decode cX9_areLawful 15 = .ok (.if_icmp .eq 5, 3) := by decide +kernel
theorem dX9_areLawful_18 : decode cX9_areLawful 18 = .ok (.iconst 0, 1) := by decide +kernel
theorem dX9_areLawful_19 : decode cX9_areLawful 19 = .ok (.ireturn, 1) := by decide +kernel
theorem dX9_areLawful_20 : decode cX9_areLawful 20 = .ok (.iconst 0, 1) := by decide +kernel
theorem dX9_areLawful_21 : decode cX9_areLawful 21 = .ok (.istore_n 3, 1) := by decide +kernel
theorem dX9_areLawful_22 : decode cX9_areLawful 22 = .ok (.iload_n 3, 1) := by decide +kernel
theorem dX9_areLawful_23 : decode cX9_areLawful 23 = .ok (.iload_n 1, 1) := by decide +kernel
theorem dX9_areLawful_24 : decode cX9_areLawful 24 = .ok (.if_icmp .ge 37, 3) := by decide +kernel
theorem dX9_areLawful_27 : decode cX9_areLawful 27 = .ok (.iload_n 3, 1) := by decide +kernel
theorem dX9_areLawful_28 : decode cX9_areLawful 28 = .ok (.bipush 8, 2) := by decide +kernel
theorem dX9_areLawful_30 : decode cX9_areLawful 30 = .ok (.if_icmp .ge 31, 3) := by decide +kernel
theorem dX9_areLawful_33 : decode cX9_areLawful 33 = .ok (.aload_n 0, 1) := by decide +kernel
theorem dX9_areLawful_34 : decode cX9_areLawful 34 = .ok (.getfield 18, 3) := by decide +kernel
theorem dX9_areLawful_37 : decode cX9_areLawful 37 = .ok (.iload_n 3, 1) := by decide +kernel
theorem dX9_areLawful_38 : decode cX9_areLawful 38 = .ok (.iaload, 1) := by decide +kernel
theorem dX9_areLawful_39 : decode cX9_areLawful 39 = .ok (.invokestatic 91, 3) := by decide +kernel
theorem dX9_areLawful_42 : decode cX9_areLawful 42 = .ok (.aload_n 0, 1) := by decide +kernel
theorem dX9_areLawful_43 : decode cX9_areLawful 43 = .ok (.getfield 35, 3) := by decide +kernel
theorem dX9_areLawful_46 : decode cX9_areLawful 46 = .ok (.iconst 1, 1) := by decide +kernel
theorem dX9_areLawful_47 : decode cX9_areLawful 47 = .ok (.invokevirtual 88, 3) := by decide +kernel
