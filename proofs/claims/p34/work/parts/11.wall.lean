/-! walls: what is asked of them -/
theorem dX6_firstOf_0 : decode cX6_firstOf 0 = .ok (.iconst 0, 1) := by decide +kernel
theorem dX6_firstOf_1 : decode cX6_firstOf 1 = .ok (.istore_n 2, 1) := by decide +kernel
theorem dX6_firstOf_2 : decode cX6_firstOf 2 = .ok (.iload_n 2, 1) := by decide +kernel
theorem dX6_firstOf_3 : decode cX6_firstOf 3 = .ok (.aload_n 0, 1) := by decide +kernel
theorem dX6_firstOf_4 : decode cX6_firstOf 4 = .ok (.getfield 18, 3) := by decide +kernel
theorem dX6_firstOf_7 : decode cX6_firstOf 7 = .ok (.if_icmp .ge 20, 3) := by decide +kernel
theorem dX6_firstOf_27 : decode cX6_firstOf 27 = .ok (.iconst (-1), 1) := by decide +kernel
theorem dX6_firstOf_28 : decode cX6_firstOf 28 = .ok (.ireturn, 1) := by decide +kernel
theorem dX6_firstOf_10 : decode cX6_firstOf 10 = .ok (.iload_n 1, 1) := by decide +kernel
theorem dX6_firstOf_11 : decode cX6_firstOf 11 = .ok (.iload_n 2, 1) := by decide +kernel
theorem dX6_firstOf_12 : decode cX6_firstOf 12 = .ok (.ishr, 1) := by decide +kernel
theorem dX6_firstOf_13 : decode cX6_firstOf 13 = .ok (.iconst 1, 1) := by decide +kernel
theorem dX6_firstOf_14 : decode cX6_firstOf 14 = .ok (.iand, 1) := by decide +kernel
theorem dX6_firstOf_15 : decode cX6_firstOf 15 = .ok (.iconst 1, 1) := by decide +kernel
theorem dX6_firstOf_16 : decode cX6_firstOf 16 = .ok (.if_icmp .ne 5, 3) := by decide +kernel
theorem dX6_firstOf_21 : decode cX6_firstOf 21 = .ok (.iinc 2 1, 3) := by decide +kernel
theorem dX6_firstOf_24 : decode cX6_firstOf 24 = .ok (.goto (-22), 3) := by decide +kernel
theorem dX6_firstOf_19 : decode cX6_firstOf 19 = .ok (.iload_n 2, 1) := by decide +kernel
theorem dX6_firstOf_20 : decode cX6_firstOf 20 = .ok (.ireturn, 1) := by decide +kernel
theorem dX6_allows_0 : decode cX6_allows 0 = .ok (.aload_n 0, 1) := by decide +kernel
theorem dX6_allows_1 : decode cX6_allows 1 = .ok (.iload_n 1, 1) := by decide +kernel
set_option maxRecDepth 20000 in
theorem ggX6_allows_X6_firstOf : GoodIn wsX6_allows wsX6_firstOf := goodIn_r _ [8, 9, 10, 11, 12] (by decide +kernel) (by decide +kernel)
set_option maxRecDepth 20000 in
theorem gX6_allows_X6_firstOf : GoodIn wsX6_allows (wsV RX6 62 RX6 yX6_firstOf wsX6_firstOf) := goodIn_app (goodIn_of _ (by decide +kernel)) ggX6_allows_X6_firstOf
theorem dX6_allows_2 : decode cX6_allows 2 = .ok (.invokevirtual 62, 3) := by decide +kernel
theorem dX6_allows_5 : decode cX6_allows 5 = .ok (.istore_n 2, 1) := by decide +kernel
theorem dX6_allows_6 : decode cX6_allows 6 = .ok (.iload_n 2, 1) := by decide +kernel
theorem dX6_allows_7 : decode cX6_allows 7 = .ok (.ifCond .ge 10, 3) := by decide +kernel
theorem dX6_allows_17 : decode cX6_allows 17 = .ok (.aload_n 0, 1) := by decide +kernel
theorem dX6_allows_18 : decode cX6_allows 18 = .ok (.getfield 11, 3) := by decide +kernel
theorem dX6_allows_21 : decode cX6_allows 21 = .ok (.iload_n 2, 1) := by decide +kernel
theorem dX6_allows_22 : decode cX6_allows 22 = .ok (.aaload, 1) := by decide +kernel
theorem dX6_allows_23 : decode cX6_allows 23 = .ok (.getfield 66, 3) := by decide +kernel
theorem dX6_allows_26 : decode cX6_allows 26 = .ok (.iconst 1, 1) := by decide +kernel
theorem dX6_allows_27 : decode cX6_allows 27 = .ok (.if_icmp .ne 7, 3) := by decide +kernel
theorem dX6_allows_34 : decode cX6_allows 34 = .ok (.iconst 0, 1) := by decide +kernel
theorem dX6_allows_35 : decode cX6_allows 35 = .ok (.ireturn, 1) := by decide +kernel
theorem dX6_allows_30 : decode cX6_allows 30 = .ok (.iconst 1, 1) := by decide +kernel
theorem dX6_allows_31 : decode cX6_allows 31 = .ok (.goto 4, 3) := by decide +kernel
theorem dX6_allows_10 : decode cX6_allows 10 = .ok (.aload_n 0, 1) := by decide +kernel
theorem dX6_allows_11 : decode cX6_allows 11 = .ok (.getfield 34, 3) := by decide +kernel
theorem dX6_allows_14 : decode cX6_allows 14 = .ok (.goto 21, 3) := by decide +kernel
theorem dX6_isSettled_0 : decode cX6_isSettled 0 = .ok (.aload_n 0, 1) := by decide +kernel
theorem dX6_isSettled_1 : decode cX6_isSettled 1 = .ok (.iload_n 2, 1) := by decide +kernel
set_option maxRecDepth 20000 in
theorem ggX6_isSettled_X6_firstOf : GoodIn wsX6_isSettled wsX6_firstOf := goodIn_r _ [6, 7, 15, 16, 17] (by decide +kernel) (by decide +kernel)
set_option maxRecDepth 20000 in
theorem gX6_isSettled_X6_firstOf : GoodIn wsX6_isSettled (wsV RX6 62 RX6 yX6_firstOf wsX6_firstOf) := goodIn_app (goodIn_of _ (by decide +kernel)) ggX6_isSettled_X6_firstOf
theorem dX6_isSettled_2 : decode cX6_isSettled 2 = .ok (.invokevirtual 62, 3) := by decide +kernel
theorem dX6_isSettled_5 : decode cX6_isSettled 5 = .ok (.istore_n 3, 1) := by decide +kernel
theorem dX6_isSettled_6 : decode cX6_isSettled 6 = .ok (.iload_n 3, 1) := by decide +kernel
theorem dX6_isSettled_7 : decode cX6_isSettled 7 = .ok (.ifCond .lt 16, 3) := by decide +kernel
theorem dX6_isSettled_23 : decode cX6_isSettled 23 = .ok (.iconst 1, 1) := by decide +kernel
theorem dX6_isSettled_24 : decode cX6_isSettled 24 = .ok (.goto 4, 3) := by decide +kernel
theorem dX6_isSettled_28 : decode cX6_isSettled 28 = .ok (.ireturn, 1) := by decide +kernel
theorem dX6_isSettled_10 : decode cX6_isSettled 10 = .ok (.aload_n 0, 1) := by decide +kernel
theorem dX6_isSettled_11 : decode cX6_isSettled 11 = .ok (.getfield 11, 3) := by decide +kernel
theorem dX6_isSettled_14 : decode cX6_isSettled 14 = .ok (.iload_n 3, 1) := by decide +kernel
theorem dX6_isSettled_15 : decode cX6_isSettled 15 = .ok (.aaload, 1) := by decide +kernel
theorem dX6_isSettled_16 : decode cX6_isSettled 16 = .ok (.iload_n 1, 1) := by decide +kernel
set_option maxRecDepth 20000 in
theorem ggX6_isSettled_X3_isWholeFrom : GoodIn wsX6_isSettled wsX3_isWholeFrom := goodIn_r _ [12, 13, 14, 18, 19, 20, 21] (by decide +kernel) (by decide +kernel)
set_option maxRecDepth 20000 in
theorem gX6_isSettled_X3_isWholeFrom : GoodIn wsX6_isSettled (wsV RX6 69 RX3 yX3_isWholeFrom wsX3_isWholeFrom) := goodIn_app (goodIn_of _ (by decide +kernel)) ggX6_isSettled_X3_isWholeFrom
theorem dX6_isSettled_17 : decode cX6_isSettled 17 = .ok (.invokevirtual 69, 3) := by decide +kernel
theorem dX6_isSettled_20 : decode cX6_isSettled 20 = .ok (.ifCond .eq 7, 3) := by decide +kernel
theorem dX6_isSettled_27 : decode cX6_isSettled 27 = .ok (.iconst 0, 1) := by decide +kernel
theorem dX6_deciders_0 : decode cX6_deciders 0 = .ok (.iconst 0, 1) := by decide +kernel
theorem dX6_deciders_1 : decode cX6_deciders 1 = .ok (.istore_n 1, 1) := by decide +kernel
theorem dX6_deciders_2 : decode cX6_deciders 2 = .ok (.iconst 0, 1) := by decide +kernel
theorem dX6_deciders_3 : decode cX6_deciders 3 = .ok (.istore_n 2, 1) := by decide +kernel
theorem dX6_deciders_4 : decode cX6_deciders 4 = .ok (.iload_n 2, 1) := by decide +kernel
theorem dX6_deciders_5 : decode cX6_deciders 5 = .ok (.aload_n 0, 1) := by decide +kernel
theorem dX6_deciders_6 : decode cX6_deciders 6 = .ok (.getfield 18, 3) := by decide +kernel
theorem dX6_deciders_9 : decode cX6_deciders 9 = .ok (.if_icmp .ge 27, 3) := by decide +kernel
theorem dX6_deciders_36 : decode cX6_deciders 36 = .ok (.iload_n 1, 1) := by decide +kernel
theorem dX6_deciders_37 : decode cX6_deciders 37 = .ok (.ireturn, 1) := by decide +kernel
theorem dX6_deciders_12 : decode cX6_deciders 12 = .ok (.aload_n 0, 1) := by decide +kernel
theorem dX6_deciders_13 : decode cX6_deciders 13 = .ok (.getfield 11, 3) := by decide +kernel
theorem dX6_deciders_16 : decode cX6_deciders 16 = .ok (.iload_n 2, 1) := by decide +kernel
theorem dX6_deciders_17 : decode cX6_deciders 17 = .ok (.aaload, 1) := by decide +kernel
set_option maxRecDepth 20000 in
theorem ggX6_deciders_X3_isNote : GoodIn wsX6_deciders wsX3_isNote := goodIn_r _ [7, 8, 12, 13, 14, 15] (by decide +kernel) (by decide +kernel)
set_option maxRecDepth 20000 in
theorem gX6_deciders_X3_isNote : GoodIn wsX6_deciders (wsV RX6 38 RX3 yX3_isNote wsX3_isNote) := goodIn_app (goodIn_of _ (by decide +kernel)) ggX6_deciders_X3_isNote
theorem dX6_deciders_18 : decode cX6_deciders 18 = .ok (.invokevirtual 38, 3) := by decide +kernel
theorem dX6_deciders_21 : decode cX6_deciders 21 = .ok (.ifCond .ne 9, 3) := by decide +kernel
theorem dX6_deciders_30 : decode cX6_deciders 30 = .ok (.iinc 2 1, 3) := by decide +kernel
theorem dX6_deciders_33 : decode cX6_deciders 33 = .ok (.goto (-29), 3) := by decide +kernel
theorem dX6_deciders_24 : decode cX6_deciders 24 = .ok (.iload_n 1, 1) := by decide +kernel
theorem dX6_deciders_25 : decode cX6_deciders 25 = .ok (.iconst 1, 1) := by decide +kernel
theorem dX6_deciders_26 : decode cX6_deciders 26 = .ok (.iload_n 2, 1) := by decide +kernel
theorem dX6_deciders_27 : decode cX6_deciders 27 = .ok (.ishl, 1) := by decide +kernel
theorem dX6_deciders_28 : decode cX6_deciders 28 = .ok (.ior, 1) := by decide +kernel
theorem dX6_deciders_29 : decode cX6_deciders 29 = .ok (.istore_n 1, 1) := by decide +kernel
theorem dX6_having_0 : decode cX6_having 0 = .ok (.iconst 0, 1) := by decide +kernel
theorem dX6_having_1 : decode cX6_having 1 = .ok (.istore_n 3, 1) := by decide +kernel
theorem dX6_having_2 : decode cX6_having 2 = .ok (.iconst 0, 1) := by decide +kernel
theorem dX6_having_3 : decode cX6_having 3 = .ok (.istore 4, 2) := by decide +kernel
theorem dX6_having_5 : decode cX6_having 5 = .ok (.iload 4, 2) := by decide +kernel
theorem dX6_having_7 : decode cX6_having 7 = .ok (.aload_n 0, 1) := by decide +kernel
theorem dX6_having_8 : decode cX6_having 8 = .ok (.getfield 18, 3) := by decide +kernel
theorem dX6_having_11 : decode cX6_having 11 = .ok (.if_icmp .ge 31, 3) := by decide +kernel
theorem dX6_having_42 : decode cX6_having 42 = .ok (.iload_n 3, 1) := by decide +kernel
theorem dX6_having_43 : decode cX6_having 43 = .ok (.ireturn, 1) := by decide +kernel
theorem dX6_having_14 : decode cX6_having 14 = .ok (.aload_n 0, 1) := by decide +kernel
theorem dX6_having_15 : decode cX6_having 15 = .ok (.getfield 11, 3) := by decide +kernel
theorem dX6_having_18 : decode cX6_having 18 = .ok (.iload 4, 2) := by decide +kernel
theorem dX6_having_20 : decode cX6_having 20 = .ok (.aaload, 1) := by decide +kernel
theorem dX6_having_21 : decode cX6_having 21 = .ok (.iload_n 1, 1) := by decide +kernel
theorem dX6_having_22 : decode cX6_having 22 = .ok (.iload_n 2, 1) := by decide +kernel
set_option maxRecDepth 20000 in
theorem ggX6_having_X3_has : GoodIn wsX6_having wsX3_has := goodIn_r _ [7, 8, 9, 13, 14, 15, 16] (by decide +kernel) (by decide +kernel)
set_option maxRecDepth 20000 in
theorem gX6_having_X3_has : GoodIn wsX6_having (wsV RX6 42 RX3 yX3_has wsX3_has) := goodIn_app (goodIn_of _ (by decide +kernel)) ggX6_having_X3_has
theorem dX6_having_23 : decode cX6_having 23 = .ok (.invokevirtual 42, 3) := by decide +kernel
theorem dX6_having_26 : decode cX6_having 26 = .ok (.ifCond .eq 10, 3) := by decide +kernel
theorem dX6_having_36 : decode cX6_having 36 = .ok (.iinc 4 1, 3) := by decide +kernel
theorem dX6_having_39 : decode cX6_having 39 = .ok (.goto (-34), 3) := by decide +kernel
theorem dX6_having_29 : decode cX6_having 29 = .ok (.iload_n 3, 1) := by decide +kernel
theorem dX6_having_30 : decode cX6_having 30 = .ok (.iconst 1, 1) := by decide +kernel
theorem dX6_having_31 : decode cX6_having 31 = .ok (.iload 4, 2) := by decide +kernel
theorem dX6_having_33 : decode cX6_having 33 = .ok (.ishl, 1) := by decide +kernel
theorem dX6_having_34 : decode cX6_having 34 = .ok (.ior, 1) := by decide +kernel
theorem dX6_having_35 : decode cX6_having 35 = .ok (.istore_n 3, 1) := by decide +kernel
theorem dX6_nextCut_0 : decode cX6_nextCut 0 = .ok (.getstatic 46, 3) := by decide +kernel
theorem dX6_nextCut_3 : decode cX6_nextCut 3 = .ok (.iload_n 1, 1) := by decide +kernel
theorem dX6_nextCut_4 : decode cX6_nextCut 4 = .ok (.iaload, 1) := by decide +kernel
theorem dX6_nextCut_5 : decode cX6_nextCut 5 = .ok (.istore_n 3, 1) := by decide +kernel
theorem dX6_nextCut_6 : decode cX6_nextCut 6 = .ok (.iconst 0, 1) := by decide +kernel
theorem dX6_nextCut_7 : decode cX6_nextCut 7 = .ok (.istore 4, 2) := by decide +kernel
theorem dX6_nextCut_9 : decode cX6_nextCut 9 = .ok (.iload 4, 2) := by decide +kernel
theorem dX6_nextCut_11 : decode cX6_nextCut 11 = .ok (.aload_n 0, 1) := by decide +kernel
theorem dX6_nextCut_12 : decode cX6_nextCut 12 = .ok (.getfield 18, 3) := by decide +kernel
theorem dX6_nextCut_15 : decode cX6_nextCut 15 = .ok (.if_icmp .ge 77, 3) := by decide +kernel
theorem dX6_nextCut_92 : decode cX6_nextCut 92 = .ok (.iload_n 3, 1) := by decide +kernel
theorem dX6_nextCut_93 : decode cX6_nextCut 93 = .ok (.ireturn, 1) := by decide +kernel
theorem dX6_nextCut_18 : decode cX6_nextCut 18 = .ok (.aload_n 0, 1) := by decide +kernel
theorem dX6_nextCut_19 : decode cX6_nextCut 19 = .ok (.getfield 11, 3) := by decide +kernel
theorem dX6_nextCut_22 : decode cX6_nextCut 22 = .ok (.iload 4, 2) := by decide +kernel
theorem dX6_nextCut_24 : decode cX6_nextCut 24 = .ok (.aaload, 1) := by decide +kernel
theorem dX6_nextCut_25 : decode cX6_nextCut 25 = .ok (.getfield 50, 3) := by decide +kernel
theorem dX6_nextCut_28 : decode cX6_nextCut 28 = .ok (.iload_n 1, 1) := by decide +kernel
theorem dX6_nextCut_29 : decode cX6_nextCut 29 = .ok (.iaload, 1) := by decide +kernel
theorem dX6_nextCut_30 : decode cX6_nextCut 30 = .ok (.iload_n 2, 1) := by decide +kernel
theorem dX6_nextCut_31 : decode cX6_nextCut 31 = .ok (.if_icmp .le 20, 3) := by decide +kernel
theorem dX6_nextCut_51 : decode cX6_nextCut 51 = .ok (.aload_n 0, 1) := by decide +kernel
theorem dX6_nextCut_52 : decode cX6_nextCut 52 = .ok (.getfield 11, 3) := by decide +kernel
theorem dX6_nextCut_55 : decode cX6_nextCut 55 = .ok (.iload 4, 2) := by decide +kernel
theorem dX6_nextCut_57 : decode cX6_nextCut 57 = .ok (.aaload, 1) := by decide +kernel
theorem dX6_nextCut_58 : decode cX6_nextCut 58 = .ok (.getfield 59, 3) := by decide +kernel
theorem dX6_nextCut_61 : decode cX6_nextCut 61 = .ok (.iload_n 1, 1) := by decide +kernel
theorem dX6_nextCut_62 : decode cX6_nextCut 62 = .ok (.iaload, 1) := by decide +kernel
theorem dX6_nextCut_63 : decode cX6_nextCut 63 = .ok (.iload_n 2, 1) := by decide +kernel
theorem dX6_nextCut_64 : decode cX6_nextCut 64 = .ok (.if_icmp .lt 22, 3) := by decide +kernel
theorem dX6_nextCut_86 : decode cX6_nextCut 86 = .ok (.iinc 4 1, 3) := by decide +kernel
theorem dX6_nextCut_89 : decode cX6_nextCut 89 = .ok (.goto (-80), 3) := by decide +kernel
theorem dX6_nextCut_67 : decode cX6_nextCut 67 = .ok (.iload_n 3, 1) := by decide +kernel
theorem dX6_nextCut_68 : decode cX6_nextCut 68 = .ok (.aload_n 0, 1) := by decide +kernel
theorem dX6_nextCut_69 : decode cX6_nextCut 69 = .ok (.getfield 11, 3) := by decide +kernel
theorem dX6_nextCut_72 : decode cX6_nextCut 72 = .ok (.iload 4, 2) := by decide +kernel
theorem dX6_nextCut_74 : decode cX6_nextCut 74 = .ok (.aaload, 1) := by decide +kernel
theorem dX6_nextCut_75 : decode cX6_nextCut 75 = .ok (.getfield 59, 3) := by decide +kernel
theorem dX6_nextCut_78 : decode cX6_nextCut 78 = .ok (.iload_n 1, 1) := by decide +kernel
theorem dX6_nextCut_79 : decode cX6_nextCut 79 = .ok (.iaload, 1) := by decide +kernel
theorem dX6_nextCut_80 : decode cX6_nextCut 80 = .ok (.iconst 1, 1) := by decide +kernel
theorem dX6_nextCut_81 : decode cX6_nextCut 81 = .ok (.iadd, 1) := by decide +kernel
theorem dX6_nextCut_82 : decode cX6_nextCut 82 = .ok (.invokestatic 53, 3) := by decide +kernel
theorem dX6_nextCut_85 : decode cX6_nextCut 85 = .ok (.istore_n 3, 1) := by decide +kernel
theorem dX6_nextCut_34 : decode cX6_nextCut 34 = .ok (.iload_n 3, 1) := by decide +kernel
theorem dX6_nextCut_35 : decode cX6_nextCut 35 = .ok (.aload_n 0, 1) := by decide +kernel
theorem dX6_nextCut_36 : decode cX6_nextCut 36 = .ok (.getfield 11, 3) := by decide +kernel
theorem dX6_nextCut_39 : decode cX6_nextCut 39 = .ok (.iload 4, 2) := by decide +kernel
theorem dX6_nextCut_41 : decode cX6_nextCut 41 = .ok (.aaload, 1) := by decide +kernel
theorem dX6_nextCut_42 : decode cX6_nextCut 42 = .ok (.getfield 50, 3) := by decide +kernel
theorem dX6_nextCut_45 : decode cX6_nextCut 45 = .ok (.iload_n 1, 1) := by decide +kernel
theorem dX6_nextCut_46 : decode cX6_nextCut 46 = .ok (.iaload, 1) := by decide +kernel
theorem dX6_nextCut_47 : decode cX6_nextCut 47 = .ok (.invokestatic 53, 3) := by decide +kernel
theorem dX6_nextCut_50 : decode cX6_nextCut 50 = .ok (.istore_n 3, 1) := by decide +kernel
theorem dX6_firstCover_0 : decode cX6_firstCover 0 = .ok (.iconst 0, 1) := by decide +kernel
theorem dX6_firstCover_1 : decode cX6_firstCover 1 = .ok (.istore_n 2, 1) := by decide +kernel
theorem dX6_firstCover_2 : decode cX6_firstCover 2 = .ok (.iload_n 2, 1) := by decide +kernel
theorem dX6_firstCover_3 : decode cX6_firstCover 3 = .ok (.iload_n 1, 1) := by decide +kernel
theorem dX6_firstCover_4 : decode cX6_firstCover 4 = .ok (.if_icmp .ge 41, 3) := by decide +kernel
theorem dX6_firstCover_45 : decode cX6_firstCover 45 = .ok (.iconst (-1), 1) := by decide +kernel
theorem dX6_firstCover_46 : decode cX6_firstCover 46 = .ok (.ireturn, 1) := by decide +kernel
theorem dX6_firstCover_7 : decode cX6_firstCover 7 = .ok (.aload_n 0, 1) := by decide +kernel
theorem dX6_firstCover_8 : decode cX6_firstCover 8 = .ok (.getfield 11, 3) := by decide +kernel
theorem dX6_firstCover_11 : decode cX6_firstCover 11 = .ok (.iload_n 2, 1) := by decide +kernel
theorem dX6_firstCover_12 : decode cX6_firstCover 12 = .ok (.aaload, 1) := by decide +kernel
set_option maxRecDepth 20000 in
theorem ggX6_firstCover_X3_isNote : GoodIn wsX6_firstCover wsX3_isNote := goodIn_r _ [6, 7, 17, 18, 19, 20] (by decide +kernel) (by decide +kernel)
set_option maxRecDepth 20000 in
theorem gX6_firstCover_X3_isNote : GoodIn wsX6_firstCover (wsV RX6 38 RX3 yX3_isNote wsX3_isNote) := goodIn_app (goodIn_of _ (by decide +kernel)) ggX6_firstCover_X3_isNote
theorem dX6_firstCover_13 : decode cX6_firstCover 13 = .ok (.invokevirtual 38, 3) := by decide +kernel
theorem dX6_firstCover_16 : decode cX6_firstCover 16 = .ok (.ifCond .ne 23, 3) := by decide +kernel
theorem dX6_firstCover_39 : decode cX6_firstCover 39 = .ok (.iinc 2 1, 3) := by decide +kernel
theorem dX6_firstCover_42 : decode cX6_firstCover 42 = .ok (.goto (-40), 3) := by decide +kernel
theorem dX6_firstCover_19 : decode cX6_firstCover 19 = .ok (.aload_n 0, 1) := by decide +kernel
theorem dX6_firstCover_20 : decode cX6_firstCover 20 = .ok (.getfield 11, 3) := by decide +kernel
theorem dX6_firstCover_23 : decode cX6_firstCover 23 = .ok (.iload_n 2, 1) := by decide +kernel
theorem dX6_firstCover_24 : decode cX6_firstCover 24 = .ok (.aaload, 1) := by decide +kernel
theorem dX6_firstCover_25 : decode cX6_firstCover 25 = .ok (.aload_n 0, 1) := by decide +kernel
theorem dX6_firstCover_26 : decode cX6_firstCover 26 = .ok (.getfield 11, 3) := by decide +kernel
theorem dX6_firstCover_29 : decode cX6_firstCover 29 = .ok (.iload_n 1, 1) := by decide +kernel
theorem dX6_firstCover_30 : decode cX6_firstCover 30 = .ok (.aaload, 1) := by decide +kernel
set_option maxRecDepth 20000 in
theorem ggX6_firstCover_X3_covers : GoodIn wsX6_firstCover wsX3_covers := goodIn_r _ [11, 12, 13, 17, 18, 19, 20] (by decide +kernel) (by decide +kernel)
set_option maxRecDepth 20000 in
theorem gX6_firstCover_X3_covers : GoodIn wsX6_firstCover (wsV RX6 73 RX3 yX3_covers wsX3_covers) := goodIn_app (goodIn_of _ (by decide +kernel)) ggX6_firstCover_X3_covers
theorem dX6_firstCover_31 : decode cX6_firstCover 31 = .ok (.invokevirtual 73, 3) := by decide +kernel
theorem dX6_firstCover_34 : decode cX6_firstCover 34 = .ok (.ifCond .eq 5, 3) := by decide +kernel
theorem dX6_firstCover_37 : decode cX6_firstCover 37 = .ok (.iload_n 2, 1) := by decide +kernel
theorem dX6_firstCover_38 : decode cX6_firstCover 38 = .ok (.ireturn, 1) := by decide +kernel
set_option maxHeartbeats 4000000 in
set_option maxRecDepth 100000 in
/-- firstOf -/
theorem c_X6_firstOf (l : Launch) (G : zG) (ad : Nat → Nat) (X : Nat → Nat → Int) (a : Nat) (u : Nat) (hV : zV X) (hW : zIsW a) (hu : u < 256) : zR l G yX6_firstOf wsX6_firstOf { frames := 0, cells := 0, slots := 0, locals := 0 } (zpic G ad X) [.ref (ad a), .int (zi (u : Int))] (zq G ad X (fun w => -1 ≤ w ∧ w < 8 ∧ zIsF (zN X a) u w)) 0 0 := by
  refine zR_of (cc := cX6_firstOf) (maxL := 3) (rt := (some .int)) (by decide) rfl (Nat.le_of_ble_eq_true rfl) ?_
  intro p e s m below meth c A ls hx hb hml hr hts hown hlocks hin0 hA hE hP hD hS hl
  have hl : lv_has ls 3 [(0, .ref (ad a)), (1, .int (zi (u : Int)))] := hl
  have hown : s.vm.findClass RX6 = some m.cls := hown
  have hn := hV.n hW
  have hw6 : ∀ w ∈ u_ws RX6 TX6 3, w ∈ wsX6_firstOf := by decide +kernel
  have hf18 := hts (.fieldLink RX6 18 "Nettle$Wall" "count" "I") (by decide +kernel)
  refine lv_iconst (v := zi 0) hx hb dX6_firstOf_0 rfl ?_
  refine lv_istore_n (lv' := [(2, .int (zi 0)), (0, .ref (ad a)), (1, .int (zi (u : Int)))]) hx hb dX6_firstOf_1 rfl hl (by decide) rfl (fun ls hl => ?_)
  refine zloop1 (fun (k : Nat) => 8 - k) (fun (k : Nat) (H : Heap) (locs : List Loc) (ls : Array Slot) => va_P G.1 vwCl (zpic G ad X) H ∧ va_D A (zpic G ad X) ∧ va_S A s.heap H locs ∧ lv_has ls 3 [(2, .int (zi (k : Int))), (1, .int (zi (u : Int))), (0, .ref (ad a))] ∧ (k ≤ zN X a) ∧ (∀ j : Nat, j < k → u.testBit j = false)) ?_ 0 ⟨hP, hD, hS, lv_sub hl [0, 2, 1] rfl, (by omega), (fun j h1 => by omega)⟩
  intro k ih H locs ls ⟨hP, hD, hS, hl, hk, hw⟩
  refine lv_iload_n hx hb dX6_firstOf_2 rfl (lv_at hl 0 rfl) ?_
  refine lv_aload_n hx hb dX6_firstOf_3 rfl (lv_at hl 2 rfl) ?_
  refine va_get (D := G.1) (ci := 6) (v := .int (zi (X a 1))) (C := RX6) (T := TX6) (N := 3) hx hb hts hw6 hown hE.1 hP a (p_w hW) rfl 1 (by decide) hf18 (fun _ h9 => h9) rfl dX6_firstOf_4 ?_
  refine zc_ge (tgt := 27) hx hb dX6_firstOf_7 (by decide) (by omega) (by omega) (fun h7 => ?_) (fun h7 => ?_)
  · refine lv_iconst (v := zi (-1)) hx hb dX6_firstOf_27 rfl ?_
    exact zend_i hx hb hr hlocks hP hD hS (Nat.le_of_ble_eq_true rfl) (Nat.le_of_ble_eq_true rfl) dX6_firstOf_28 ⟨_, rfl, ⟨by omega, by omega, Or.inr ⟨rfl, fun j h => hw j (by omega)⟩⟩, rfl⟩
  · have hbt := zbit_le u k
    refine lv_iload_n hx hb dX6_firstOf_10 rfl (lv_at hl 1 rfl) ?_
    refine lv_iload_n hx hb dX6_firstOf_11 rfl (lv_at hl 0 rfl) ?_
    refine lv_ishr hx hb dX6_firstOf_12 (zti (v := zi ((u / 2 ^ k : Nat) : Int)) (zi_shr hu (by omega)) ?_)
    refine lv_iconst (v := zi 1) hx hb dX6_firstOf_13 rfl ?_
    refine lv_iand hx hb dX6_firstOf_14 (zti (v := zi ((zbit u k : Nat) : Int)) (zi_and1 _ _) ?_)
    refine lv_iconst (v := zi 1) hx hb dX6_firstOf_15 rfl ?_
    refine zc_ne (tgt := 21) hx hb dX6_firstOf_16 (by decide) (by omega) (by decide) (fun h16 => ?_) (fun h16 => ?_)
    · refine lv_iinc (v := zi ((k : Int) + 1)) (lv' := [(2, .int (zi ((k : Int) + 1))), (1, .int (zi (u : Int))), (0, .ref (ad a))]) hx hb dX6_firstOf_21 hl (k := 0) rfl (zi_add _ _) (by decide) rfl (fun ls hl => ?_)
      refine lv_goto (tgt := 2) hx hb dX6_firstOf_24 (by decide) ?_
      exact ih (k + 1) (by omega) H locs ls ⟨hP, hD, hS, lv_sub hl [0, 1, 2] rfl, (by omega), (fun j h1 => by by_cases hk : j < k; exact hw j hk; have hjk : j = k := (by omega); rw [hjk]; exact Bool.eq_false_iff.mpr (fun hb => by have := (zbit_iff u k).mpr hb; omega))⟩
    · refine lv_iload_n hx hb dX6_firstOf_19 rfl (lv_at hl 0 rfl) ?_
      exact zend_i hx hb hr hlocks hP hD hS (Nat.le_of_ble_eq_true rfl) (Nat.le_of_ble_eq_true rfl) dX6_firstOf_20 ⟨_, rfl, ⟨by omega, by omega, Or.inl ⟨k, rfl, by omega, (zbit_iff u k).mp (by omega), hw⟩⟩, rfl⟩

set_option maxHeartbeats 4000000 in
set_option maxRecDepth 100000 in
/-- allows -/
theorem c_X6_allows (l : Launch) (G : zG) (ad : Nat → Nat) (X : Nat → Nat → Int) (a : Nat) (u : Nat) (hV : zV X) (hW : zIsW a) (hu : u < 256) : zR l G yX6_allows wsX6_allows { frames := 1, cells := 0, slots := 0, locals := 22 } (zpic G ad X) [.ref (ad a), .int (zi (u : Int))] (zq G ad X (fun w => (w = 1 ∧ zAl X a u) ∨ (w = 0 ∧ ¬ zAl X a u))) 0 0 := by
  refine zR_of (cc := cX6_allows) (maxL := 3) (rt := (some .boolean)) (by decide) rfl (Nat.le_of_ble_eq_true rfl) ?_
  intro p e s m below meth c A ls hx hb hml hr hts hown hlocks hin0 hA hE hP hD hS hl
  have hl : lv_has ls 3 [(0, .ref (ad a)), (1, .int (zi (u : Int)))] := hl
  have hown : s.vm.findClass RX6 = some m.cls := hown
  have hn := hV.n hW
  have hlw := (hV.wok hW).2.1
  have hw6 : ∀ w ∈ u_ws RX6 TX6 3, w ∈ wsX6_allows := by decide +kernel
  have hf11 := hts (.fieldLink RX6 11 "Nettle$Wall" "rows" "[LNettle$Rule;") (by decide +kernel)
  have hw3 : ∀ w ∈ u_ws RX3 TX3 4, w ∈ wsX6_allows := by decide +kernel
  have hf66 := hts (.fieldLink RX6 66 "Nettle$Rule" "verdict" "I") (by decide +kernel)
  have hf34 := hts (.fieldLink RX6 34 "Nettle$Wall" "isLastAllow" "Z") (by decide +kernel)
  refine lv_aload_n hx hb dX6_allows_0 rfl (lv_at hl 0 rfl) ?_
  refine lv_iload_n hx hb dX6_allows_1 rfl (lv_at hl 1 rfl) ?_
  refine zcall (wr := []) (va_runV (As := [.int (zi (u : Int))]) (rest := []) ⟨hx, hb, hml, hown, hts⟩ (c_X6_firstOf l G ad X a u hV hW (by omega) s.heap.size) (cwV 1 hts gX6_allows_X6_firstOf rfl rfl rfl (by decide +kernel) ⟨Nat.le_of_ble_eq_true rfl, Nat.le_of_ble_eq_true rfl⟩) (zPreV (wr := []) (wc := zpic G ad X) (q0 := a) (ci := 6) (q := (RX6, TX6, 3)) hP hD hE hS hA rfl (p_w hW)) rfl rfl hl.1 rfl (lv_room (Nat.le_of_ble_eq_true rfl)) dX6_allows_2 ⟨Nat.le_of_ble_eq_true rfl, Nat.le_of_ble_eq_true rfl⟩) hP hD hS hA (fun _ _ H locs hf hP hD hS => ?_)
  obtain ⟨v1, rfl, hv1, rfl⟩ := hf
  have hP : va_P G.1 vwCl (zpic G ad X) H := hP
  have hD : va_D A (zpic G ad X) := hD
  refine W.eq (g2 := F0 m 5 ls [.int (zi v1)]) rfl ?_
  refine lv_istore_n (lv' := [(2, .int (zi v1)), (0, .ref (ad a)), (1, .int (zi (u : Int)))]) hx hb dX6_allows_5 rfl hl (by decide) rfl (fun ls hl => ?_)
  refine lv_iload_n hx hb dX6_allows_6 rfl (lv_at hl 0 rfl) ?_
  refine z0_ge (tgt := 17) hx hb dX6_allows_7 (by decide) (by omega) (fun h7 => ?_) (fun h7 => ?_)
  · obtain ⟨k, rfl, hk⟩ : ∃ k : Nat, v1 = (k : Int) ∧ zFi (zN X a) u k := by rcases hv1.2.2 with h | h; exact h; omega
    have hk1 := hk.1
    have hr4 := hV.r4 (hV.isR hW (show k < 8 by omega))
    refine lv_aload_n hx hb dX6_allows_17 rfl (lv_at hl 1 rfl) ?_
    refine va_get (D := G.1) (ci := 6) (v := .ref (ad (a + 1))) (C := RX6) (T := TX6) (N := 3) hx hb hts hw6 hown hE.1 hP a (p_w hW) rfl 0 (by decide) hf11 (fun _ h9 => h9) rfl dX6_allows_18 ?_
    refine lv_iload_n hx hb dX6_allows_21 rfl (lv_at hl 0 rfl) ?_
    refine zqld hx hb hE hP hW k rfl (by omega) dX6_allows_22 ?_
    have hR1 : zIsR (zr X a k) := hV.isR hW (by omega)
    refine va_get (D := G.1) (ci := 3) (v := .int (zi (X (zr X a k) 0))) (C := RX3) (T := TX3) (N := 4) hx hb hts hw3 hown hE.1 hP (zr X a k) (p_r hR1) rfl 0 (by decide) hf66 (fun _ h9 => h9) rfl dX6_allows_23 ?_
    refine lv_iconst (v := zi 1) hx hb dX6_allows_26 rfl ?_
    refine zc_ne (tgt := 34) hx hb dX6_allows_27 (by decide) (by omega) (by decide) (fun h27 => ?_) (fun h27 => ?_)
    · refine lv_iconst (v := zi 0) hx hb dX6_allows_34 rfl ?_
      exact zend_z hx hb hr hlocks (by decide +kernel) hP hD hS (Nat.le_of_ble_eq_true rfl) (Nat.le_of_ble_eq_true rfl) dX6_allows_35 ⟨_, rfl, (by rw [zAl_fi hk]; omega), rfl⟩
    · refine lv_iconst (v := zi 1) hx hb dX6_allows_30 rfl ?_
      refine lv_goto (tgt := 35) hx hb dX6_allows_31 (by decide) ?_
      exact zend_z hx hb hr hlocks (by decide +kernel) hP hD hS (Nat.le_of_ble_eq_true rfl) (Nat.le_of_ble_eq_true rfl) dX6_allows_35 ⟨_, rfl, (by rw [zAl_fi hk]; omega), rfl⟩
  · have hno : zNo (zN X a) u := by rcases hv1.2.2 with ⟨k, h, -⟩ | h; omega; exact h.2
    refine lv_aload_n hx hb dX6_allows_10 rfl (lv_at hl 1 rfl) ?_
    refine va_get (D := G.1) (ci := 6) (v := .int (zi (X a 2))) (C := RX6) (T := TX6) (N := 3) hx hb hts hw6 hown hE.1 hP a (p_w hW) rfl 2 (by decide) hf34 (fun _ h9 => h9) rfl dX6_allows_11 ?_
    refine lv_goto (tgt := 35) hx hb dX6_allows_14 (by decide) ?_
    exact zend_z hx hb hr hlocks (zbool hlw) hP hD hS (Nat.le_of_ble_eq_true rfl) (Nat.le_of_ble_eq_true rfl) dX6_allows_35 ⟨_, rfl, (by rw [zAl_no hno]; omega), rfl⟩

set_option maxHeartbeats 4000000 in
set_option maxRecDepth 100000 in
/-- isSettled -/
theorem c_X6_isSettled (l : Launch) (G : zG) (ad : Nat → Nat) (X : Nat → Nat → Int) (a : Nat) (f : Nat) (u : Nat) (hV : zV X) (hW : zIsW a) (hf : f ≤ 4) (hu : u < 256) : zR l G yX6_isSettled wsX6_isSettled { frames := 1, cells := 0, slots := 0, locals := 22 } (zpic G ad X) [.ref (ad a), .int (zi (f : Int)), .int (zi (u : Int))] (zq G ad X (fun w => (w = 1 ∧ zSe X a f u) ∨ (w = 0 ∧ ¬ zSe X a f u))) 0 0 := by
  refine zR_of (cc := cX6_isSettled) (maxL := 4) (rt := (some .boolean)) (by decide) rfl (Nat.le_of_ble_eq_true rfl) ?_
  intro p e s m below meth c A ls hx hb hml hr hts hown hlocks hin0 hA hE hP hD hS hl
  have hl : lv_has ls 4 [(0, .ref (ad a)), (1, .int (zi (f : Int))), (2, .int (zi (u : Int)))] := hl
  have hown : s.vm.findClass RX6 = some m.cls := hown
  have hn := hV.n hW
  have hw6 : ∀ w ∈ u_ws RX6 TX6 3, w ∈ wsX6_isSettled := by decide +kernel
  have hf11 := hts (.fieldLink RX6 11 "Nettle$Wall" "rows" "[LNettle$Rule;") (by decide +kernel)
  refine lv_aload_n hx hb dX6_isSettled_0 rfl (lv_at hl 0 rfl) ?_
  refine lv_iload_n hx hb dX6_isSettled_1 rfl (lv_at hl 2 rfl) ?_
  refine zcall (wr := []) (va_runV (As := [.int (zi (u : Int))]) (rest := []) ⟨hx, hb, hml, hown, hts⟩ (c_X6_firstOf l G ad X a u hV hW (by omega) s.heap.size) (cwV 1 hts gX6_isSettled_X6_firstOf rfl rfl rfl (by decide +kernel) ⟨Nat.le_of_ble_eq_true rfl, Nat.le_of_ble_eq_true rfl⟩) (zPreV (wr := []) (wc := zpic G ad X) (q0 := a) (ci := 6) (q := (RX6, TX6, 3)) hP hD hE hS hA rfl (p_w hW)) rfl rfl hl.1 rfl (lv_room (Nat.le_of_ble_eq_true rfl)) dX6_isSettled_2 ⟨Nat.le_of_ble_eq_true rfl, Nat.le_of_ble_eq_true rfl⟩) hP hD hS hA (fun _ _ H locs hf hP hD hS => ?_)
  obtain ⟨v1, rfl, hv1, rfl⟩ := hf
  have hP : va_P G.1 vwCl (zpic G ad X) H := hP
  have hD : va_D A (zpic G ad X) := hD
  refine W.eq (g2 := F0 m 5 ls [.int (zi v1)]) rfl ?_
  refine lv_istore_n (lv' := [(3, .int (zi v1)), (0, .ref (ad a)), (1, .int (zi (f : Int))), (2, .int (zi (u : Int)))]) hx hb dX6_isSettled_5 rfl hl (by decide) rfl (fun ls hl => ?_)
  refine lv_iload_n hx hb dX6_isSettled_6 rfl (lv_at hl 0 rfl) ?_
  refine z0_lt (tgt := 23) hx hb dX6_isSettled_7 (by decide) (by omega) (fun h7 => ?_) (fun h7 => ?_)
  · have hno : zNo (zN X a) u := by rcases hv1.2.2 with ⟨k, h, -⟩ | h; omega; exact h.2
    refine lv_iconst (v := zi 1) hx hb dX6_isSettled_23 rfl ?_
    refine lv_goto (tgt := 28) hx hb dX6_isSettled_24 (by decide) ?_
    exact zend_z hx hb hr hlocks (by decide +kernel) hP hD hS (Nat.le_of_ble_eq_true rfl) (Nat.le_of_ble_eq_true rfl) dX6_isSettled_28 ⟨_, rfl, (Or.inl ⟨rfl, Or.inl hno⟩), rfl⟩
  · obtain ⟨k, rfl, hk⟩ : ∃ k : Nat, v1 = (k : Int) ∧ zFi (zN X a) u k := by rcases hv1.2.2 with h | h; exact h; omega
    have hk1 := hk.1
    have hr4 := hV.r4 (hV.isR hW (show k < 8 by omega))
    refine lv_aload_n hx hb dX6_isSettled_10 rfl (lv_at hl 1 rfl) ?_
    refine va_get (D := G.1) (ci := 6) (v := .ref (ad (a + 1))) (C := RX6) (T := TX6) (N := 3) hx hb hts hw6 hown hE.1 hP a (p_w hW) rfl 0 (by decide) hf11 (fun _ h9 => h9) rfl dX6_isSettled_11 ?_
    refine lv_iload_n hx hb dX6_isSettled_14 rfl (lv_at hl 0 rfl) ?_
    refine zqld hx hb hE hP hW k rfl (by omega) dX6_isSettled_15 ?_
    have hR1 : zIsR (zr X a k) := hV.isR hW (by omega)
    refine lv_iload_n hx hb dX6_isSettled_16 rfl (lv_at hl 2 rfl) ?_
    refine zcall (wr := []) (va_runV (As := [.int (zi (f : Int))]) (rest := []) ⟨hx, hb, hml, hown, hts⟩ (c_X3_isWholeFrom l G ad X (zr X a k) f hV hR1 (by omega) H.size) (cwV 1 hts gX6_isSettled_X3_isWholeFrom rfl rfl rfl (by decide +kernel) ⟨Nat.le_of_ble_eq_true rfl, Nat.le_of_ble_eq_true rfl⟩) (zPreV (wr := []) (wc := zpic G ad X) (q0 := (zr X a k)) (ci := 3) (q := (RX3, TX3, 4)) hP hD hE hS hA rfl (p_r hR1)) rfl rfl hl.1 rfl (lv_room (Nat.le_of_ble_eq_true rfl)) dX6_isSettled_17 ⟨Nat.le_of_ble_eq_true rfl, Nat.le_of_ble_eq_true rfl⟩) hP hD hS hA (fun _ _ H locs hf hP hD hS => ?_)
    obtain ⟨v2, rfl, hv2, rfl⟩ := hf
    have hP : va_P G.1 vwCl (zpic G ad X) H := hP
    have hD : va_D A (zpic G ad X) := hD
    refine W.eq (g2 := F0 m 20 ls [.int (zi v2)]) rfl ?_
    refine z0_eq (tgt := 27) hx hb dX6_isSettled_20 (by decide) (by omega) (fun h20 => ?_) (fun h20 => ?_)
    · refine lv_iconst (v := zi 0) hx hb dX6_isSettled_27 rfl ?_
      exact zend_z hx hb hr hlocks (by decide +kernel) hP hD hS (Nat.le_of_ble_eq_true rfl) (Nat.le_of_ble_eq_true rfl) dX6_isSettled_28 ⟨_, rfl, (Or.inr ⟨rfl, fun q => by rcases hv2 with h | h; omega; exact h.2 ((zSe_fi hk).mp q)⟩), rfl⟩
    · refine lv_iconst (v := zi 1) hx hb dX6_isSettled_23 rfl ?_
      refine lv_goto (tgt := 28) hx hb dX6_isSettled_24 (by decide) ?_
      exact zend_z hx hb hr hlocks (by decide +kernel) hP hD hS (Nat.le_of_ble_eq_true rfl) (Nat.le_of_ble_eq_true rfl) dX6_isSettled_28 ⟨_, rfl, (Or.inl ⟨rfl, (zSe_fi hk).mpr (by rcases hv2 with h | h; exact h.2; omega)⟩), rfl⟩

set_option maxHeartbeats 4000000 in
set_option maxRecDepth 100000 in
/-- deciders -/
theorem c_X6_deciders (l : Launch) (G : zG) (ad : Nat → Nat) (X : Nat → Nat → Int) (a : Nat) (hV : zV X) (hW : zIsW a) : zR l G yX6_deciders wsX6_deciders { frames := 1, cells := 0, slots := 0, locals := 20 } (zpic G ad X) [.ref (ad a)] (zq G ad X (fun w => w = (zDec X a : Int))) 0 0 := by
  refine zR_of (cc := cX6_deciders) (maxL := 3) (rt := (some .int)) (by decide) rfl (Nat.le_of_ble_eq_true rfl) ?_
  intro p e s m below meth c A ls hx hb hml hr hts hown hlocks hin0 hA hE hP hD hS hl
  have hl : lv_has ls 3 [(0, .ref (ad a))] := hl
  have hown : s.vm.findClass RX6 = some m.cls := hown
  have hn := hV.n hW
  have hw6 : ∀ w ∈ u_ws RX6 TX6 3, w ∈ wsX6_deciders := by decide +kernel
  have hf18 := hts (.fieldLink RX6 18 "Nettle$Wall" "count" "I") (by decide +kernel)
  have hf11 := hts (.fieldLink RX6 11 "Nettle$Wall" "rows" "[LNettle$Rule;") (by decide +kernel)
  refine lv_iconst (v := zi 0) hx hb dX6_deciders_0 rfl ?_
  refine lv_istore_n (lv' := [(1, .int (zi 0)), (0, .ref (ad a))]) hx hb dX6_deciders_1 rfl hl (by decide) rfl (fun ls hl => ?_)
  refine lv_iconst (v := zi 0) hx hb dX6_deciders_2 rfl ?_
  refine lv_istore_n (lv' := [(2, .int (zi 0)), (1, .int (zi 0)), (0, .ref (ad a))]) hx hb dX6_deciders_3 rfl hl (by decide) rfl (fun ls hl => ?_)
  refine zloop1 (fun (k : Nat) => 8 - k) (fun (k : Nat) (H : Heap) (locs : List Loc) (ls : Array Slot) => va_P G.1 vwCl (zpic G ad X) H ∧ va_D A (zpic G ad X) ∧ va_S A s.heap H locs ∧ lv_has ls 3 [(2, .int (zi (k : Int))), (1, .int (zi (zSet k (zPd X a) : Int))), (0, .ref (ad a))] ∧ (k ≤ zN X a)) ?_ 0 ⟨hP, hD, hS, lv_sub hl [0, 1, 2] rfl, (by omega)⟩
  intro k ih H locs ls ⟨hP, hD, hS, hl, hk⟩
  refine lv_iload_n hx hb dX6_deciders_4 rfl (lv_at hl 0 rfl) ?_
  refine lv_aload_n hx hb dX6_deciders_5 rfl (lv_at hl 2 rfl) ?_
  refine va_get (D := G.1) (ci := 6) (v := .int (zi (X a 1))) (C := RX6) (T := TX6) (N := 3) hx hb hts hw6 hown hE.1 hP a (p_w hW) rfl 1 (by decide) hf18 (fun _ h9 => h9) rfl dX6_deciders_6 ?_
  refine zc_ge (tgt := 36) hx hb dX6_deciders_9 (by decide) (by omega) (by omega) (fun h9 => ?_) (fun h9 => ?_)
  · refine lv_iload_n hx hb dX6_deciders_36 rfl (lv_at hl 1 rfl) ?_
    exact zend_i hx hb hr hlocks hP hD hS (Nat.le_of_ble_eq_true rfl) (Nat.le_of_ble_eq_true rfl) dX6_deciders_37 ⟨_, rfl, (by have hkn : k = zN X a := (by omega); rw [hkn]; rfl), rfl⟩
  · refine lv_aload_n hx hb dX6_deciders_12 rfl (lv_at hl 2 rfl) ?_
    refine va_get (D := G.1) (ci := 6) (v := .ref (ad (a + 1))) (C := RX6) (T := TX6) (N := 3) hx hb hts hw6 hown hE.1 hP a (p_w hW) rfl 0 (by decide) hf11 (fun _ h9 => h9) rfl dX6_deciders_13 ?_
    refine lv_iload_n hx hb dX6_deciders_16 rfl (lv_at hl 0 rfl) ?_
    refine zqld hx hb hE hP hW k rfl (by omega) dX6_deciders_17 ?_
    have hR1 : zIsR (zr X a k) := hV.isR hW (by omega)
    refine zcall (wr := []) (va_runV (As := []) (rest := []) ⟨hx, hb, hml, hown, hts⟩ (c_X3_isNote l G ad X (zr X a k) hV hR1 H.size) (cwV 0 hts gX6_deciders_X3_isNote rfl rfl rfl (by decide +kernel) ⟨Nat.le_of_ble_eq_true rfl, Nat.le_of_ble_eq_true rfl⟩) (zPreV (wr := []) (wc := zpic G ad X) (q0 := (zr X a k)) (ci := 3) (q := (RX3, TX3, 4)) hP hD hE hS hA rfl (p_r hR1)) rfl rfl hl.1 rfl (lv_room (Nat.le_of_ble_eq_true rfl)) dX6_deciders_18 ⟨Nat.le_of_ble_eq_true rfl, Nat.le_of_ble_eq_true rfl⟩) hP hD hS hA (fun _ _ H locs hf hP hD hS => ?_)
    obtain ⟨v1, rfl, hv1, rfl⟩ := hf
    have hP : va_P G.1 vwCl (zpic G ad X) H := hP
    have hD : va_D A (zpic G ad X) := hD
    refine W.eq (g2 := F0 m 21 ls [.int (zi v1)]) rfl ?_
    refine z0_ne (tgt := 30) hx hb dX6_deciders_21 (by decide) (by omega) (fun h21 => ?_) (fun h21 => ?_)
    · refine lv_iinc (v := zi ((k : Int) + 1)) (lv' := [(2, .int (zi ((k : Int) + 1))), (1, .int (zi (zSet k (zPd X a) : Int))), (0, .ref (ad a))]) hx hb dX6_deciders_30 hl (k := 0) rfl (zi_add _ _) (by decide) rfl (fun ls hl => ?_)
      refine lv_goto (tgt := 4) hx hb dX6_deciders_33 (by decide) ?_
      have e9 : zSet (k + 1) (zPd X a) = zSet k (zPd X a) := zSet_no (by unfold zPd; rw [decide_eq_true_iff]; omega)
      rw [← e9] at hl
      exact ih (k + 1) (by omega) H locs ls ⟨hP, hD, hS, lv_sub hl [0, 1, 2] rfl, (by omega)⟩
    · refine lv_iload_n hx hb dX6_deciders_24 rfl (lv_at hl 1 rfl) ?_
      refine lv_iconst (v := zi 1) hx hb dX6_deciders_25 rfl ?_
      refine lv_iload_n hx hb dX6_deciders_26 rfl (lv_at hl 0 rfl) ?_
      refine lv_ishl hx hb dX6_deciders_27 (zti (v := zi ((2 ^ k : Nat) : Int)) (zi_shl1 (by omega)) ?_)
      refine lv_ior hx hb dX6_deciders_28 (zti (v := zi ((zSet k (zPd X a) ||| 2 ^ k : Nat) : Int)) (zi_or _ _) ?_)
      refine lv_istore_n (lv' := [(1, .int (zi ((zSet k (zPd X a) ||| 2 ^ k : Nat) : Int))), (2, .int (zi (k : Int))), (0, .ref (ad a))]) hx hb dX6_deciders_29 rfl hl (by decide) rfl (fun ls hl => ?_)
      refine lv_iinc (v := zi ((k : Int) + 1)) (lv' := [(2, .int (zi ((k : Int) + 1))), (1, .int (zi ((zSet k (zPd X a) ||| 2 ^ k : Nat) : Int))), (0, .ref (ad a))]) hx hb dX6_deciders_30 hl (k := 1) rfl (zi_add _ _) (by decide) rfl (fun ls hl => ?_)
      refine lv_goto (tgt := 4) hx hb dX6_deciders_33 (by decide) ?_
      have e9 : zSet (k + 1) (zPd X a) = zSet k (zPd X a) ||| 2 ^ k := zSet_yes (by unfold zPd; rw [decide_eq_true_iff]; omega)
      rw [← e9] at hl
      exact ih (k + 1) (by omega) H locs ls ⟨hP, hD, hS, lv_sub hl [0, 1, 2] rfl, (by omega)⟩

set_option maxHeartbeats 4000000 in
set_option maxRecDepth 100000 in
/-- having -/
theorem c_X6_having (l : Launch) (G : zG) (ad : Nat → Nat) (X : Nat → Nat → Int) (a : Nat) (f : Nat) (v : Int) (hV : zV X) (hW : zIsW a) (hf : f < 4) (hv : -2147483648 ≤ v ∧ v ≤ 2147483647) : zR l G yX6_having wsX6_having { frames := 1, cells := 0, slots := 0, locals := 22 } (zpic G ad X) [.ref (ad a), .int (zi (f : Int)), .int (zi v)] (zq G ad X (fun w => w = (zHav X a f v : Int))) 0 0 := by
  refine zR_of (cc := cX6_having) (maxL := 5) (rt := (some .int)) (by decide) rfl (Nat.le_of_ble_eq_true rfl) ?_
  intro p e s m below meth c A ls hx hb hml hr hts hown hlocks hin0 hA hE hP hD hS hl
  have hl : lv_has ls 5 [(0, .ref (ad a)), (1, .int (zi (f : Int))), (2, .int (zi v))] := hl
  have hown : s.vm.findClass RX6 = some m.cls := hown
  have hn := hV.n hW
  have hw6 : ∀ w ∈ u_ws RX6 TX6 3, w ∈ wsX6_having := by decide +kernel
  have hf18 := hts (.fieldLink RX6 18 "Nettle$Wall" "count" "I") (by decide +kernel)
  have hf11 := hts (.fieldLink RX6 11 "Nettle$Wall" "rows" "[LNettle$Rule;") (by decide +kernel)
  refine lv_iconst (v := zi 0) hx hb dX6_having_0 rfl ?_
  refine lv_istore_n (lv' := [(3, .int (zi 0)), (0, .ref (ad a)), (1, .int (zi (f : Int))), (2, .int (zi v))]) hx hb dX6_having_1 rfl hl (by decide) rfl (fun ls hl => ?_)
  refine lv_iconst (v := zi 0) hx hb dX6_having_2 rfl ?_
  refine lv_istore (lv' := [(4, .int (zi 0)), (3, .int (zi 0)), (0, .ref (ad a)), (1, .int (zi (f : Int))), (2, .int (zi v))]) hx hb dX6_having_3 hl (by decide) rfl (fun ls hl => ?_)
  refine zloop1 (fun (k : Nat) => 8 - k) (fun (k : Nat) (H : Heap) (locs : List Loc) (ls : Array Slot) => va_P G.1 vwCl (zpic G ad X) H ∧ va_D A (zpic G ad X) ∧ va_S A s.heap H locs ∧ lv_has ls 5 [(4, .int (zi (k : Int))), (3, .int (zi (zSet k (zPh X a f v) : Int))), (2, .int (zi v)), (1, .int (zi (f : Int))), (0, .ref (ad a))] ∧ (k ≤ zN X a)) ?_ 0 ⟨hP, hD, hS, lv_sub hl [0, 1, 4, 3, 2] rfl, (by omega)⟩
  intro k ih H locs ls ⟨hP, hD, hS, hl, hk⟩
  refine lv_iload hx hb dX6_having_5 (lv_at hl 0 rfl) ?_
  refine lv_aload_n hx hb dX6_having_7 rfl (lv_at hl 4 rfl) ?_
  refine va_get (D := G.1) (ci := 6) (v := .int (zi (X a 1))) (C := RX6) (T := TX6) (N := 3) hx hb hts hw6 hown hE.1 hP a (p_w hW) rfl 1 (by decide) hf18 (fun _ h9 => h9) rfl dX6_having_8 ?_
  refine zc_ge (tgt := 42) hx hb dX6_having_11 (by decide) (by omega) (by omega) (fun h11 => ?_) (fun h11 => ?_)
  · refine lv_iload_n hx hb dX6_having_42 rfl (lv_at hl 1 rfl) ?_
    exact zend_i hx hb hr hlocks hP hD hS (Nat.le_of_ble_eq_true rfl) (Nat.le_of_ble_eq_true rfl) dX6_having_43 ⟨_, rfl, (by have hkn : k = zN X a := (by omega); rw [hkn]; rfl), rfl⟩
  · refine lv_aload_n hx hb dX6_having_14 rfl (lv_at hl 4 rfl) ?_
    refine va_get (D := G.1) (ci := 6) (v := .ref (ad (a + 1))) (C := RX6) (T := TX6) (N := 3) hx hb hts hw6 hown hE.1 hP a (p_w hW) rfl 0 (by decide) hf11 (fun _ h9 => h9) rfl dX6_having_15 ?_
    refine lv_iload hx hb dX6_having_18 (lv_at hl 0 rfl) ?_
    refine zqld hx hb hE hP hW k rfl (by omega) dX6_having_20 ?_
    have hR1 : zIsR (zr X a k) := hV.isR hW (by omega)
    refine lv_iload_n hx hb dX6_having_21 rfl (lv_at hl 3 rfl) ?_
    refine lv_iload_n hx hb dX6_having_22 rfl (lv_at hl 2 rfl) ?_
    refine zcall (wr := []) (va_runV (As := [.int (zi (f : Int)), .int (zi v)]) (rest := []) ⟨hx, hb, hml, hown, hts⟩ (c_X3_has l G ad X (zr X a k) f v hV hR1 (by omega) (by omega) H.size) (cwV 2 hts gX6_having_X3_has rfl rfl rfl (by decide +kernel) ⟨Nat.le_of_ble_eq_true rfl, Nat.le_of_ble_eq_true rfl⟩) (zPreV (wr := []) (wc := zpic G ad X) (q0 := (zr X a k)) (ci := 3) (q := (RX3, TX3, 4)) hP hD hE hS hA rfl (p_r hR1)) rfl rfl hl.1 rfl (lv_room (Nat.le_of_ble_eq_true rfl)) dX6_having_23 ⟨Nat.le_of_ble_eq_true rfl, Nat.le_of_ble_eq_true rfl⟩) hP hD hS hA (fun _ _ H locs hf hP hD hS => ?_)
    obtain ⟨v1, rfl, hv1, rfl⟩ := hf
    have hP : va_P G.1 vwCl (zpic G ad X) H := hP
    have hD : va_D A (zpic G ad X) := hD
    refine W.eq (g2 := F0 m 26 ls [.int (zi v1)]) rfl ?_
    refine z0_eq (tgt := 36) hx hb dX6_having_26 (by decide) (by omega) (fun h26 => ?_) (fun h26 => ?_)
    · refine lv_iinc (v := zi ((k : Int) + 1)) (lv' := [(4, .int (zi ((k : Int) + 1))), (3, .int (zi (zSet k (zPh X a f v) : Int))), (2, .int (zi v)), (1, .int (zi (f : Int))), (0, .ref (ad a))]) hx hb dX6_having_36 hl (k := 0) rfl (zi_add _ _) (by decide) rfl (fun ls hl => ?_)
      refine lv_goto (tgt := 5) hx hb dX6_having_39 (by decide) ?_
      have e9 : zSet (k + 1) (zPh X a f v) = zSet k (zPh X a f v) := zSet_no (by unfold zPh; rw [zHasB_iff]; omega)
      rw [← e9] at hl
      exact ih (k + 1) (by omega) H locs ls ⟨hP, hD, hS, lv_sub hl [0, 1, 2, 3, 4] rfl, (by omega)⟩
    · refine lv_iload_n hx hb dX6_having_29 rfl (lv_at hl 1 rfl) ?_
      refine lv_iconst (v := zi 1) hx hb dX6_having_30 rfl ?_
      refine lv_iload hx hb dX6_having_31 (lv_at hl 0 rfl) ?_
      refine lv_ishl hx hb dX6_having_33 (zti (v := zi ((2 ^ k : Nat) : Int)) (zi_shl1 (by omega)) ?_)
      refine lv_ior hx hb dX6_having_34 (zti (v := zi ((zSet k (zPh X a f v) ||| 2 ^ k : Nat) : Int)) (zi_or _ _) ?_)
      refine lv_istore_n (lv' := [(3, .int (zi ((zSet k (zPh X a f v) ||| 2 ^ k : Nat) : Int))), (4, .int (zi (k : Int))), (2, .int (zi v)), (1, .int (zi (f : Int))), (0, .ref (ad a))]) hx hb dX6_having_35 rfl hl (by decide) rfl (fun ls hl => ?_)
      refine lv_iinc (v := zi ((k : Int) + 1)) (lv' := [(4, .int (zi ((k : Int) + 1))), (3, .int (zi ((zSet k (zPh X a f v) ||| 2 ^ k : Nat) : Int))), (2, .int (zi v)), (1, .int (zi (f : Int))), (0, .ref (ad a))]) hx hb dX6_having_36 hl (k := 1) rfl (zi_add _ _) (by decide) rfl (fun ls hl => ?_)
      refine lv_goto (tgt := 5) hx hb dX6_having_39 (by decide) ?_
      have e9 : zSet (k + 1) (zPh X a f v) = zSet k (zPh X a f v) ||| 2 ^ k := zSet_yes (by unfold zPh; rw [zHasB_iff]; omega)
      rw [← e9] at hl
      exact ih (k + 1) (by omega) H locs ls ⟨hP, hD, hS, lv_sub hl [0, 1, 2, 3, 4] rfl, (by omega)⟩

set_option maxHeartbeats 4000000 in
set_option maxRecDepth 100000 in
/-- nextCut -/
theorem c_X6_nextCut (l : Launch) (G : zG) (ad : Nat → Nat) (X : Nat → Nat → Int) (a : Nat) (f : Nat) (v : Int) (hV : zV X) (hW : zIsW a) (hf : f < 4) (hv : 0 ≤ v ∧ v < zS f) : zR l G yX6_nextCut wsX6_nextCut { frames := 1, cells := 0, slots := 0, locals := 13 } (zpic G ad X) [.ref (ad a), .int (zi (f : Int)), .int (zi v)] (zq G ad X (fun w => v < w ∧ w ≤ zS f ∧ (∀ j : Nat, j < zN X a → (v < X (zr X a j + 1) f → w ≤ X (zr X a j + 1) f) ∧ (v ≤ X (zr X a j + 2) f → w ≤ X (zr X a j + 2) f + 1)) ∧ zCutAt X a f (zN X a) w)) 0 0 := by
  refine zR_of (cc := cX6_nextCut) (maxL := 5) (rt := (some .int)) (by decide) rfl (Nat.le_of_ble_eq_true rfl) ?_
  intro p e s m below meth c A ls hx hb hml hr hts hown hlocks hin0 hA hE hP hD hS hl
  have hl : lv_has ls 5 [(0, .ref (ad a)), (1, .int (zi (f : Int))), (2, .int (zi v))] := hl
  have hown : s.vm.findClass RX6 = some m.cls := hown
  have hn := hV.n hW
  have hsf := zS_le f
  have hw6 : ∀ w ∈ u_ws RX6 TX6 3, w ∈ wsX6_nextCut := by decide +kernel
  have hf18 := hts (.fieldLink RX6 18 "Nettle$Wall" "count" "I") (by decide +kernel)
  have hf11 := hts (.fieldLink RX6 11 "Nettle$Wall" "rows" "[LNettle$Rule;") (by decide +kernel)
  have hw3 : ∀ w ∈ u_ws RX3 TX3 4, w ∈ wsX6_nextCut := by decide +kernel
  have hf50 := hts (.fieldLink RX6 50 "Nettle$Rule" "lows" "[I") (by decide +kernel)
  have hf59 := hts (.fieldLink RX6 59 "Nettle$Rule" "highs" "[I") (by decide +kernel)
  have hmamin := hts (.code Lib.Math.min.name Lib.Math.min.code 2 (some .int)) (by decide +kernel)
  have hml53 := hts (.methodLink RX6 53 Lib.Math.min.name) (by decide +kernel)
  have hstmin := hts (.static Lib.Math.min.name) (by decide +kernel)
  have hiniMath := hts (.initialized "java/lang/Math") (by decide +kernel)
  refine va_getsN hx hb hE.2.1.1 hS hown (va_Nw.use rfl hE.2.2.2.1.2.2.2.2.2.1) (fun _ h9 => h9) dX6_nextCut_0 ?_
  refine lv_iload_n hx hb dX6_nextCut_3 rfl (lv_at hl 1 rfl) ?_
  refine zsz_ld hx hb hE hS f rfl (by omega) dX6_nextCut_4 ?_
  refine lv_istore_n (lv' := [(3, .int (zi (zS f))), (0, .ref (ad a)), (1, .int (zi (f : Int))), (2, .int (zi v))]) hx hb dX6_nextCut_5 rfl hl (by decide) rfl (fun ls hl => ?_)
  refine lv_iconst (v := zi 0) hx hb dX6_nextCut_6 rfl ?_
  refine lv_istore (lv' := [(4, .int (zi 0)), (3, .int (zi (zS f))), (0, .ref (ad a)), (1, .int (zi (f : Int))), (2, .int (zi v))]) hx hb dX6_nextCut_7 hl (by decide) rfl (fun ls hl => ?_)
  refine zloop2 (fun (k : Nat) (t : Int) => 8 - k) (fun (k : Nat) (t : Int) (H : Heap) (locs : List Loc) (ls : Array Slot) => va_P G.1 vwCl (zpic G ad X) H ∧ va_D A (zpic G ad X) ∧ va_S A s.heap H locs ∧ lv_has ls 5 [(4, .int (zi (k : Int))), (3, .int (zi t)), (2, .int (zi v)), (1, .int (zi (f : Int))), (0, .ref (ad a))] ∧ (k ≤ zN X a) ∧ (v < t ∧ t ≤ zS f) ∧ (∀ j : Nat, j < k → (v < X (zr X a j + 1) f → t ≤ X (zr X a j + 1) f) ∧ (v ≤ X (zr X a j + 2) f → t ≤ X (zr X a j + 2) f + 1)) ∧ (zCutAt X a f k t)) ?_ 0 (zS f) ⟨hP, hD, hS, lv_sub hl [0, 1, 4, 3, 2] rfl, (by omega), (by omega), (fun j h1 => by omega), (Or.inl rfl)⟩
  intro k t ih H locs ls ⟨hP, hD, hS, hl, hk, ht, hw, he⟩
  refine lv_iload hx hb dX6_nextCut_9 (lv_at hl 0 rfl) ?_
  refine lv_aload_n hx hb dX6_nextCut_11 rfl (lv_at hl 4 rfl) ?_
  refine va_get (D := G.1) (ci := 6) (v := .int (zi (X a 1))) (C := RX6) (T := TX6) (N := 3) hx hb hts hw6 hown hE.1 hP a (p_w hW) rfl 1 (by decide) hf18 (fun _ h9 => h9) rfl dX6_nextCut_12 ?_
  refine zc_ge (tgt := 92) hx hb dX6_nextCut_15 (by decide) (by omega) (by omega) (fun h15 => ?_) (fun h15 => ?_)
  · refine lv_iload_n hx hb dX6_nextCut_92 rfl (lv_at hl 1 rfl) ?_
    exact zend_i hx hb hr hlocks hP hD hS (Nat.le_of_ble_eq_true rfl) (Nat.le_of_ble_eq_true rfl) dX6_nextCut_93 ⟨_, rfl, (by have hkn : k = zN X a := (by omega); rw [hkn] at hw he; exact ⟨ht.1, ht.2, hw, he⟩), rfl⟩
  · have hrf := hV.rf (hV.isR hW (show k < 8 by omega)) hf
    refine lv_aload_n hx hb dX6_nextCut_18 rfl (lv_at hl 4 rfl) ?_
    refine va_get (D := G.1) (ci := 6) (v := .ref (ad (a + 1))) (C := RX6) (T := TX6) (N := 3) hx hb hts hw6 hown hE.1 hP a (p_w hW) rfl 0 (by decide) hf11 (fun _ h9 => h9) rfl dX6_nextCut_19 ?_
    refine lv_iload hx hb dX6_nextCut_22 (lv_at hl 0 rfl) ?_
    refine zqld hx hb hE hP hW k rfl (by omega) dX6_nextCut_24 ?_
    have hR1 : zIsR (zr X a k) := hV.isR hW (by omega)
    refine va_get (D := G.1) (ci := 3) (v := .ref (ad ((zr X a k) + 1))) (C := RX3) (T := TX3) (N := 4) hx hb hts hw3 hown hE.1 hP (zr X a k) (p_r hR1) rfl 2 (by decide) hf50 (fun _ h9 => h9) rfl dX6_nextCut_25 ?_
    refine lv_iload_n hx hb dX6_nextCut_28 rfl (lv_at hl 3 rfl) ?_
    refine zild hx hb hE hP ((zr X a k) + 1) 4 (a_l hR1) (by have := hR1.lt; omega) f rfl (by omega) (by decide) dX6_nextCut_29 ?_
    refine lv_iload_n hx hb dX6_nextCut_30 rfl (lv_at hl 2 rfl) ?_
    refine zc_le (tgt := 51) hx hb dX6_nextCut_31 (by decide) (by omega) (by omega) (fun h31 => ?_) (fun h31 => ?_)
    · refine lv_aload_n hx hb dX6_nextCut_51 rfl (lv_at hl 4 rfl) ?_
      refine va_get (D := G.1) (ci := 6) (v := .ref (ad (a + 1))) (C := RX6) (T := TX6) (N := 3) hx hb hts hw6 hown hE.1 hP a (p_w hW) rfl 0 (by decide) hf11 (fun _ h9 => h9) rfl dX6_nextCut_52 ?_
      refine lv_iload hx hb dX6_nextCut_55 (lv_at hl 0 rfl) ?_
      refine zqld hx hb hE hP hW k rfl (by omega) dX6_nextCut_57 ?_
      refine va_get (D := G.1) (ci := 3) (v := .ref (ad ((zr X a k) + 2))) (C := RX3) (T := TX3) (N := 4) hx hb hts hw3 hown hE.1 hP (zr X a k) (p_r hR1) rfl 3 (by decide) hf59 (fun _ h9 => h9) rfl dX6_nextCut_58 ?_
      refine lv_iload_n hx hb dX6_nextCut_61 rfl (lv_at hl 3 rfl) ?_
      refine zild hx hb hE hP ((zr X a k) + 2) 4 (a_h hR1) (by have := hR1.lt; omega) f rfl (by omega) (by decide) dX6_nextCut_62 ?_
      refine lv_iload_n hx hb dX6_nextCut_63 rfl (lv_at hl 2 rfl) ?_
      refine zc_lt (tgt := 86) hx hb dX6_nextCut_64 (by decide) (by omega) (by omega) (fun h64 => ?_) (fun h64 => ?_)
      · refine lv_iinc (v := zi ((k : Int) + 1)) (lv' := [(4, .int (zi ((k : Int) + 1))), (3, .int (zi t)), (2, .int (zi v)), (1, .int (zi (f : Int))), (0, .ref (ad a))]) hx hb dX6_nextCut_86 hl (k := 0) rfl (zi_add _ _) (by decide) rfl (fun ls hl => ?_)
        refine lv_goto (tgt := 9) hx hb dX6_nextCut_89 (by decide) ?_
        exact ih (k + 1) t (by omega) H locs ls ⟨hP, hD, hS, lv_sub hl [0, 1, 2, 3, 4] rfl, (by omega), (by omega), (fun j h1 => by by_cases hk2 : j < k; (have := hw j hk2; omega); have hjk : j = k := (by omega); rw [hjk]; omega), (zCutAt.succ he)⟩
      · refine lv_iload_n hx hb dX6_nextCut_67 rfl (lv_at hl 1 rfl) ?_
        refine lv_aload_n hx hb dX6_nextCut_68 rfl (lv_at hl 4 rfl) ?_
        refine va_get (D := G.1) (ci := 6) (v := .ref (ad (a + 1))) (C := RX6) (T := TX6) (N := 3) hx hb hts hw6 hown hE.1 hP a (p_w hW) rfl 0 (by decide) hf11 (fun _ h9 => h9) rfl dX6_nextCut_69 ?_
        refine lv_iload hx hb dX6_nextCut_72 (lv_at hl 0 rfl) ?_
        refine zqld hx hb hE hP hW k rfl (by omega) dX6_nextCut_74 ?_
        refine va_get (D := G.1) (ci := 3) (v := .ref (ad ((zr X a k) + 2))) (C := RX3) (T := TX3) (N := 4) hx hb hts hw3 hown hE.1 hP (zr X a k) (p_r hR1) rfl 3 (by decide) hf59 (fun _ h9 => h9) rfl dX6_nextCut_75 ?_
        refine lv_iload_n hx hb dX6_nextCut_78 rfl (lv_at hl 3 rfl) ?_
        refine zild hx hb hE hP ((zr X a k) + 2) 4 (a_h hR1) (by have := hR1.lt; omega) f rfl (by omega) (by decide) dX6_nextCut_79 ?_
        refine lv_iconst (v := zi 1) hx hb dX6_nextCut_80 rfl ?_
        refine lv_iadd hx hb dX6_nextCut_81 (zti (v := zi ((X ((zr X a k) + 2) f) + 1)) (zi_add _ _) ?_)
        refine va_mmin hx hb (hml.trans hl.1.symm) hown hml53 hstmin hiniMath hmamin (Nat.le_of_ble_eq_true rfl) (Nat.le_of_ble_eq_true rfl) (Nat.le_of_ble_eq_true rfl) (Nat.le_of_ble_eq_true rfl) dX6_nextCut_82 ?_
        refine zti (v := zi (min t ((X ((zr X a k) + 2) f) + 1))) (zi_min (by omega) (by omega)) ?_
        refine lv_istore_n (lv' := [(3, .int (zi (min t ((X ((zr X a k) + 2) f) + 1)))), (4, .int (zi (k : Int))), (2, .int (zi v)), (1, .int (zi (f : Int))), (0, .ref (ad a))]) hx hb dX6_nextCut_85 rfl hl (by decide) rfl (fun ls hl => ?_)
        refine lv_iinc (v := zi ((k : Int) + 1)) (lv' := [(4, .int (zi ((k : Int) + 1))), (3, .int (zi (min t ((X ((zr X a k) + 2) f) + 1)))), (2, .int (zi v)), (1, .int (zi (f : Int))), (0, .ref (ad a))]) hx hb dX6_nextCut_86 hl (k := 1) rfl (zi_add _ _) (by decide) rfl (fun ls hl => ?_)
        refine lv_goto (tgt := 9) hx hb dX6_nextCut_89 (by decide) ?_
        exact ih (k + 1) (min t ((X ((zr X a k) + 2) f) + 1)) (by omega) H locs ls ⟨hP, hD, hS, lv_sub hl [0, 1, 2, 3, 4] rfl, (by omega), (by omega), (fun j h1 => by by_cases hk2 : j < k; (have := hw j hk2; omega); have hjk : j = k := (by omega); rw [hjk]; omega), (zCutAt.min (zCutAt.succ he) (zCutAt.hi X a f k))⟩
    · refine lv_iload_n hx hb dX6_nextCut_34 rfl (lv_at hl 1 rfl) ?_
      refine lv_aload_n hx hb dX6_nextCut_35 rfl (lv_at hl 4 rfl) ?_
      refine va_get (D := G.1) (ci := 6) (v := .ref (ad (a + 1))) (C := RX6) (T := TX6) (N := 3) hx hb hts hw6 hown hE.1 hP a (p_w hW) rfl 0 (by decide) hf11 (fun _ h9 => h9) rfl dX6_nextCut_36 ?_
      refine lv_iload hx hb dX6_nextCut_39 (lv_at hl 0 rfl) ?_
      refine zqld hx hb hE hP hW k rfl (by omega) dX6_nextCut_41 ?_
      refine va_get (D := G.1) (ci := 3) (v := .ref (ad ((zr X a k) + 1))) (C := RX3) (T := TX3) (N := 4) hx hb hts hw3 hown hE.1 hP (zr X a k) (p_r hR1) rfl 2 (by decide) hf50 (fun _ h9 => h9) rfl dX6_nextCut_42 ?_
      refine lv_iload_n hx hb dX6_nextCut_45 rfl (lv_at hl 3 rfl) ?_
      refine zild hx hb hE hP ((zr X a k) + 1) 4 (a_l hR1) (by have := hR1.lt; omega) f rfl (by omega) (by decide) dX6_nextCut_46 ?_
      refine va_mmin hx hb (hml.trans hl.1.symm) hown hml53 hstmin hiniMath hmamin (Nat.le_of_ble_eq_true rfl) (Nat.le_of_ble_eq_true rfl) (Nat.le_of_ble_eq_true rfl) (Nat.le_of_ble_eq_true rfl) dX6_nextCut_47 ?_
      refine zti (v := zi (min t (X ((zr X a k) + 1) f))) (zi_min (by omega) (by omega)) ?_
      refine lv_istore_n (lv' := [(3, .int (zi (min t (X ((zr X a k) + 1) f)))), (4, .int (zi (k : Int))), (2, .int (zi v)), (1, .int (zi (f : Int))), (0, .ref (ad a))]) hx hb dX6_nextCut_50 rfl hl (by decide) rfl (fun ls hl => ?_)
      refine lv_aload_n hx hb dX6_nextCut_51 rfl (lv_at hl 4 rfl) ?_
      refine va_get (D := G.1) (ci := 6) (v := .ref (ad (a + 1))) (C := RX6) (T := TX6) (N := 3) hx hb hts hw6 hown hE.1 hP a (p_w hW) rfl 0 (by decide) hf11 (fun _ h9 => h9) rfl dX6_nextCut_52 ?_
      refine lv_iload hx hb dX6_nextCut_55 (lv_at hl 1 rfl) ?_
      refine zqld hx hb hE hP hW k rfl (by omega) dX6_nextCut_57 ?_
      refine va_get (D := G.1) (ci := 3) (v := .ref (ad ((zr X a k) + 2))) (C := RX3) (T := TX3) (N := 4) hx hb hts hw3 hown hE.1 hP (zr X a k) (p_r hR1) rfl 3 (by decide) hf59 (fun _ h9 => h9) rfl dX6_nextCut_58 ?_
      refine lv_iload_n hx hb dX6_nextCut_61 rfl (lv_at hl 3 rfl) ?_
      refine zild hx hb hE hP ((zr X a k) + 2) 4 (a_h hR1) (by have := hR1.lt; omega) f rfl (by omega) (by decide) dX6_nextCut_62 ?_
      refine lv_iload_n hx hb dX6_nextCut_63 rfl (lv_at hl 2 rfl) ?_
      refine zc_lt (tgt := 86) hx hb dX6_nextCut_64 (by decide) (by omega) (by omega) (fun h64 => ?_) (fun h64 => ?_)
      · refine lv_iinc (v := zi ((k : Int) + 1)) (lv' := [(4, .int (zi ((k : Int) + 1))), (3, .int (zi (min t (X ((zr X a k) + 1) f)))), (2, .int (zi v)), (1, .int (zi (f : Int))), (0, .ref (ad a))]) hx hb dX6_nextCut_86 hl (k := 1) rfl (zi_add _ _) (by decide) rfl (fun ls hl => ?_)
        refine lv_goto (tgt := 9) hx hb dX6_nextCut_89 (by decide) ?_
        exact ih (k + 1) (min t (X ((zr X a k) + 1) f)) (by omega) H locs ls ⟨hP, hD, hS, lv_sub hl [0, 1, 2, 3, 4] rfl, (by omega), (by omega), (fun j h1 => by by_cases hk2 : j < k; (have := hw j hk2; omega); have hjk : j = k := (by omega); rw [hjk]; omega), (zCutAt.min (zCutAt.succ he) (zCutAt.lo X a f k))⟩
      · refine lv_iload_n hx hb dX6_nextCut_67 rfl (lv_at hl 0 rfl) ?_
        refine lv_aload_n hx hb dX6_nextCut_68 rfl (lv_at hl 4 rfl) ?_
        refine va_get (D := G.1) (ci := 6) (v := .ref (ad (a + 1))) (C := RX6) (T := TX6) (N := 3) hx hb hts hw6 hown hE.1 hP a (p_w hW) rfl 0 (by decide) hf11 (fun _ h9 => h9) rfl dX6_nextCut_69 ?_
        refine lv_iload hx hb dX6_nextCut_72 (lv_at hl 1 rfl) ?_
        refine zqld hx hb hE hP hW k rfl (by omega) dX6_nextCut_74 ?_
        refine va_get (D := G.1) (ci := 3) (v := .ref (ad ((zr X a k) + 2))) (C := RX3) (T := TX3) (N := 4) hx hb hts hw3 hown hE.1 hP (zr X a k) (p_r hR1) rfl 3 (by decide) hf59 (fun _ h9 => h9) rfl dX6_nextCut_75 ?_
        refine lv_iload_n hx hb dX6_nextCut_78 rfl (lv_at hl 3 rfl) ?_
        refine zild hx hb hE hP ((zr X a k) + 2) 4 (a_h hR1) (by have := hR1.lt; omega) f rfl (by omega) (by decide) dX6_nextCut_79 ?_
        refine lv_iconst (v := zi 1) hx hb dX6_nextCut_80 rfl ?_
        refine lv_iadd hx hb dX6_nextCut_81 (zti (v := zi ((X ((zr X a k) + 2) f) + 1)) (zi_add _ _) ?_)
        refine va_mmin hx hb (hml.trans hl.1.symm) hown hml53 hstmin hiniMath hmamin (Nat.le_of_ble_eq_true rfl) (Nat.le_of_ble_eq_true rfl) (Nat.le_of_ble_eq_true rfl) (Nat.le_of_ble_eq_true rfl) dX6_nextCut_82 ?_
        refine zti (v := zi (min (min t (X ((zr X a k) + 1) f)) ((X ((zr X a k) + 2) f) + 1))) (zi_min (by omega) (by omega)) ?_
        refine lv_istore_n (lv' := [(3, .int (zi (min (min t (X ((zr X a k) + 1) f)) ((X ((zr X a k) + 2) f) + 1)))), (4, .int (zi (k : Int))), (2, .int (zi v)), (1, .int (zi (f : Int))), (0, .ref (ad a))]) hx hb dX6_nextCut_85 rfl hl (by decide) rfl (fun ls hl => ?_)
        refine lv_iinc (v := zi ((k : Int) + 1)) (lv' := [(4, .int (zi ((k : Int) + 1))), (3, .int (zi (min (min t (X ((zr X a k) + 1) f)) ((X ((zr X a k) + 2) f) + 1)))), (2, .int (zi v)), (1, .int (zi (f : Int))), (0, .ref (ad a))]) hx hb dX6_nextCut_86 hl (k := 1) rfl (zi_add _ _) (by decide) rfl (fun ls hl => ?_)
        refine lv_goto (tgt := 9) hx hb dX6_nextCut_89 (by decide) ?_
        exact ih (k + 1) (min (min t (X ((zr X a k) + 1) f)) ((X ((zr X a k) + 2) f) + 1)) (by omega) H locs ls ⟨hP, hD, hS, lv_sub hl [0, 1, 2, 3, 4] rfl, (by omega), (by omega), (fun j h1 => by by_cases hk2 : j < k; (have := hw j hk2; omega); have hjk : j = k := (by omega); rw [hjk]; omega), (zCutAt.min (zCutAt.min (zCutAt.succ he) (zCutAt.lo X a f k)) (zCutAt.hi X a f k))⟩

set_option maxHeartbeats 4000000 in
set_option maxRecDepth 100000 in
/-- firstCover -/
theorem c_X6_firstCover (l : Launch) (G : zG) (ad : Nat → Nat) (X : Nat → Nat → Int) (a : Nat) (q : Nat) (hV : zV X) (hW : zIsW a) (hq : q < 8) : zR l G yX6_firstCover wsX6_firstCover { frames := 1, cells := 0, slots := 0, locals := 22 } (zpic G ad X) [.ref (ad a), .int (zi (q : Int))] (zq G ad X (fun w => -1 ≤ w ∧ w < (q : Int) ∧ zIsC X a q w)) 0 0 := by
  refine zR_of (cc := cX6_firstCover) (maxL := 3) (rt := (some .int)) (by decide) rfl (Nat.le_of_ble_eq_true rfl) ?_
  intro p e s m below meth c A ls hx hb hml hr hts hown hlocks hin0 hA hE hP hD hS hl
  have hl : lv_has ls 3 [(0, .ref (ad a)), (1, .int (zi (q : Int)))] := hl
  have hown : s.vm.findClass RX6 = some m.cls := hown
  have hw6 : ∀ w ∈ u_ws RX6 TX6 3, w ∈ wsX6_firstCover := by decide +kernel
  have hf11 := hts (.fieldLink RX6 11 "Nettle$Wall" "rows" "[LNettle$Rule;") (by decide +kernel)
  refine lv_iconst (v := zi 0) hx hb dX6_firstCover_0 rfl ?_
  refine lv_istore_n (lv' := [(2, .int (zi 0)), (0, .ref (ad a)), (1, .int (zi (q : Int)))]) hx hb dX6_firstCover_1 rfl hl (by decide) rfl (fun ls hl => ?_)
  refine zloop1 (fun (k : Nat) => 8 - k) (fun (k : Nat) (H : Heap) (locs : List Loc) (ls : Array Slot) => va_P G.1 vwCl (zpic G ad X) H ∧ va_D A (zpic G ad X) ∧ va_S A s.heap H locs ∧ lv_has ls 3 [(2, .int (zi (k : Int))), (1, .int (zi (q : Int))), (0, .ref (ad a))] ∧ (k ≤ q) ∧ (∀ j : Nat, j < k → ¬ zCvr X a q j)) ?_ 0 ⟨hP, hD, hS, lv_sub hl [0, 2, 1] rfl, (by omega), (fun j h1 => by omega)⟩
  intro k ih H locs ls ⟨hP, hD, hS, hl, hk, hw⟩
  refine lv_iload_n hx hb dX6_firstCover_2 rfl (lv_at hl 0 rfl) ?_
  refine lv_iload_n hx hb dX6_firstCover_3 rfl (lv_at hl 1 rfl) ?_
  refine zc_ge (tgt := 45) hx hb dX6_firstCover_4 (by decide) (by omega) (by omega) (fun h4 => ?_) (fun h4 => ?_)
  · refine lv_iconst (v := zi (-1)) hx hb dX6_firstCover_45 rfl ?_
    exact zend_i hx hb hr hlocks hP hD hS (Nat.le_of_ble_eq_true rfl) (Nat.le_of_ble_eq_true rfl) dX6_firstCover_46 ⟨_, rfl, ⟨by omega, by omega, Or.inr ⟨rfl, fun j h => hw j (by omega)⟩⟩, rfl⟩
  · refine lv_aload_n hx hb dX6_firstCover_7 rfl (lv_at hl 2 rfl) ?_
    refine va_get (D := G.1) (ci := 6) (v := .ref (ad (a + 1))) (C := RX6) (T := TX6) (N := 3) hx hb hts hw6 hown hE.1 hP a (p_w hW) rfl 0 (by decide) hf11 (fun _ h9 => h9) rfl dX6_firstCover_8 ?_
    refine lv_iload_n hx hb dX6_firstCover_11 rfl (lv_at hl 0 rfl) ?_
    refine zqld hx hb hE hP hW k rfl (by omega) dX6_firstCover_12 ?_
    have hR1 : zIsR (zr X a k) := hV.isR hW (by omega)
    refine zcall (wr := []) (va_runV (As := []) (rest := []) ⟨hx, hb, hml, hown, hts⟩ (c_X3_isNote l G ad X (zr X a k) hV hR1 H.size) (cwV 0 hts gX6_firstCover_X3_isNote rfl rfl rfl (by decide +kernel) ⟨Nat.le_of_ble_eq_true rfl, Nat.le_of_ble_eq_true rfl⟩) (zPreV (wr := []) (wc := zpic G ad X) (q0 := (zr X a k)) (ci := 3) (q := (RX3, TX3, 4)) hP hD hE hS hA rfl (p_r hR1)) rfl rfl hl.1 rfl (lv_room (Nat.le_of_ble_eq_true rfl)) dX6_firstCover_13 ⟨Nat.le_of_ble_eq_true rfl, Nat.le_of_ble_eq_true rfl⟩) hP hD hS hA (fun _ _ H locs hf hP hD hS => ?_)
    obtain ⟨v1, rfl, hv1, rfl⟩ := hf
    have hP : va_P G.1 vwCl (zpic G ad X) H := hP
    have hD : va_D A (zpic G ad X) := hD
    refine W.eq (g2 := F0 m 16 ls [.int (zi v1)]) rfl ?_
    refine z0_ne (tgt := 39) hx hb dX6_firstCover_16 (by decide) (by omega) (fun h16 => ?_) (fun h16 => ?_)
    · refine lv_iinc (v := zi ((k : Int) + 1)) (lv' := [(2, .int (zi ((k : Int) + 1))), (1, .int (zi (q : Int))), (0, .ref (ad a))]) hx hb dX6_firstCover_39 hl (k := 0) rfl (zi_add _ _) (by decide) rfl (fun ls hl => ?_)
      refine lv_goto (tgt := 2) hx hb dX6_firstCover_42 (by decide) ?_
      exact ih (k + 1) (by omega) H locs ls ⟨hP, hD, hS, lv_sub hl [0, 1, 2] rfl, (by omega), (fun j h1 => by by_cases hk : j < k; exact hw j hk; have hjk : j = k := (by omega); rw [hjk]; exact fun z => by have := z.1; omega)⟩
    · refine lv_aload_n hx hb dX6_firstCover_19 rfl (lv_at hl 2 rfl) ?_
      refine va_get (D := G.1) (ci := 6) (v := .ref (ad (a + 1))) (C := RX6) (T := TX6) (N := 3) hx hb hts hw6 hown hE.1 hP a (p_w hW) rfl 0 (by decide) hf11 (fun _ h9 => h9) rfl dX6_firstCover_20 ?_
      refine lv_iload_n hx hb dX6_firstCover_23 rfl (lv_at hl 0 rfl) ?_
      refine zqld hx hb hE hP hW k rfl (by omega) dX6_firstCover_24 ?_
      refine lv_aload_n hx hb dX6_firstCover_25 rfl (lv_at hl 2 rfl) ?_
      refine va_get (D := G.1) (ci := 6) (v := .ref (ad (a + 1))) (C := RX6) (T := TX6) (N := 3) hx hb hts hw6 hown hE.1 hP a (p_w hW) rfl 0 (by decide) hf11 (fun _ h9 => h9) rfl dX6_firstCover_26 ?_
      refine lv_iload_n hx hb dX6_firstCover_29 rfl (lv_at hl 1 rfl) ?_
      refine zqld hx hb hE hP hW q rfl (by omega) dX6_firstCover_30 ?_
      have hR2 : zIsR (zr X a q) := hV.isR hW (by omega)
      refine zcall (wr := []) (va_runV (As := [.ref (ad (zr X a q))]) (rest := []) ⟨hx, hb, hml, hown, hts⟩ (c_X3_covers l G ad X (zr X a k) (zr X a q) hV hR1 hR2 H.size) (cwV 1 hts gX6_firstCover_X3_covers rfl rfl rfl (by decide +kernel) ⟨Nat.le_of_ble_eq_true rfl, Nat.le_of_ble_eq_true rfl⟩) (zPreV (wr := []) (wc := zpic G ad X) (q0 := (zr X a k)) (ci := 3) (q := (RX3, TX3, 4)) hP hD hE hS hA rfl (p_r hR1)) rfl rfl hl.1 rfl (lv_room (Nat.le_of_ble_eq_true rfl)) dX6_firstCover_31 ⟨Nat.le_of_ble_eq_true rfl, Nat.le_of_ble_eq_true rfl⟩) hP hD hS hA (fun _ _ H locs hf hP hD hS => ?_)
      obtain ⟨v2, rfl, hv2, rfl⟩ := hf
      have hP : va_P G.1 vwCl (zpic G ad X) H := hP
      have hD : va_D A (zpic G ad X) := hD
      refine W.eq (g2 := F0 m 34 ls [.int (zi v2)]) rfl ?_
      refine z0_eq (tgt := 39) hx hb dX6_firstCover_34 (by decide) (by omega) (fun h34 => ?_) (fun h34 => ?_)
      · refine lv_iinc (v := zi ((k : Int) + 1)) (lv' := [(2, .int (zi ((k : Int) + 1))), (1, .int (zi (q : Int))), (0, .ref (ad a))]) hx hb dX6_firstCover_39 hl (k := 0) rfl (zi_add _ _) (by decide) rfl (fun ls hl => ?_)
        refine lv_goto (tgt := 2) hx hb dX6_firstCover_42 (by decide) ?_
        exact ih (k + 1) (by omega) H locs ls ⟨hP, hD, hS, lv_sub hl [0, 1, 2] rfl, (by omega), (fun j h1 => by by_cases hk : j < k; exact hw j hk; have hjk : j = k := (by omega); rw [hjk]; exact fun z => by rcases hv2 with h | h; omega; exact h.2 z.2)⟩
      · refine lv_iload_n hx hb dX6_firstCover_37 rfl (lv_at hl 0 rfl) ?_
        exact zend_i hx hb hr hlocks hP hD hS (Nat.le_of_ble_eq_true rfl) (Nat.le_of_ble_eq_true rfl) dX6_firstCover_38 ⟨_, rfl, ⟨by omega, by omega, Or.inl ⟨k, rfl, ⟨by omega, by rcases hv2 with h | h; exact h.2; omega⟩, hw⟩⟩, rfl⟩
