/-! the TREE is made, and asked -/
theorem dX5_refresh_0 : decode cX5_refresh 0 = .ok (.aload_n 0, 1) := by decide +kernel
theorem dX5_refresh_1 : decode cX5_refresh 1 = .ok (.getfield 29, 3) := by decide +kernel
theorem dX5_refresh_4 : decode cX5_refresh 4 = .ok (.ifCond .eq 4, 3) := by decide +kernel
theorem dX5_refresh_8 : decode cX5_refresh 8 = .ok (.aload_n 0, 1) := by decide +kernel
theorem dX5_refresh_9 : decode cX5_refresh 9 = .ok (.iconst 0, 1) := by decide +kernel
theorem dX5_refresh_10 : decode cX5_refresh 10 = .ok (.putfield 33, 3) := by decide +kernel
theorem dX5_refresh_13 : decode cX5_refresh 13 = .ok (.iconst 0, 1) := by decide +kernel
theorem dX5_refresh_14 : decode cX5_refresh 14 = .ok (.istore_n 1, 1) := by decide +kernel
theorem dX5_refresh_15 : decode cX5_refresh 15 = .ok (.iload_n 1, 1) := by decide +kernel
theorem dX5_refresh_16 : decode cX5_refresh 16 = .ok (.sipush 1024, 3) := by decide +kernel
theorem dX5_refresh_19 : decode cX5_refresh 19 = .ok (.if_icmp .ge 16, 3) := by decide +kernel
theorem dX5_refresh_35 : decode cX5_refresh 35 = .ok (.aload_n 0, 1) := by decide +kernel
theorem dX5_refresh_36 : decode cX5_refresh 36 = .ok (.iconst 0, 1) := by decide +kernel
theorem dX5_refresh_37 : decode cX5_refresh 37 = .ok (.aload_n 0, 1) := by decide +kernel
theorem dX5_refresh_38 : decode cX5_refresh 38 = .ok (.getfield 21, 3) := by decide +kernel
set_option maxRecDepth 20000 in
theorem ggX5_refresh_X6_deciders : GoodIn wsX5_refresh wsX6_deciders := goodIn_r _ [9, 10, 11, 12, 13, 14, 15, 16, 17, 60, 61, 62, 63, 64, 65, 66] (by decide +kernel) (by decide +kernel)
set_option maxRecDepth 20000 in
theorem gX5_refresh_X6_deciders : GoodIn wsX5_refresh (wsV RX5 37 RX6 yX6_deciders wsX6_deciders) := goodIn_app (goodIn_of _ (by decide +kernel)) ggX5_refresh_X6_deciders
theorem dX5_refresh_41 : decode cX5_refresh 41 = .ok (.invokevirtual 37, 3) := by decide +kernel
set_option maxRecDepth 20000 in
theorem ggX5_refresh_X5_find : GoodIn wsX5_refresh wsX5_find := goodIn_r _ [21, 4, 3, 2, 22, 23, 24, 25, 26, 27, 28, 8, 29, 11, 30, 31, 32, 33, 10, 34, 35, 36, 15, 37, 38, 39, 40, 41, 42, 43, 44, 45, 46, 18, 19, 20, 47, 48, 49, 50, 51, 52, 53, 54, 55, 56, 57, 58, 59, 67, 68, 69, 70, 71, 72, 60, 61, 62, 63, 64, 65, 66] (by decide +kernel) (by decide +kernel)
set_option maxRecDepth 20000 in
theorem gX5_refresh_X5_find : GoodIn wsX5_refresh (va_wsS RX5 43 yX5_find wsX5_find) := goodIn_app (goodIn_of _ (by decide +kernel)) ggX5_refresh_X5_find
theorem dX5_refresh_44 : decode cX5_refresh 44 = .ok (.invokestatic 43, 3) := by decide +kernel
theorem dX5_refresh_47 : decode cX5_refresh 47 = .ok (.pop, 1) := by decide +kernel
theorem dX5_refresh_48 : decode cX5_refresh 48 = .ok (.aload_n 0, 1) := by decide +kernel
theorem dX5_refresh_49 : decode cX5_refresh 49 = .ok (.iconst 1, 1) := by decide +kernel
theorem dX5_refresh_50 : decode cX5_refresh 50 = .ok (.putfield 29, 3) := by decide +kernel
theorem dX5_refresh_53 : decode cX5_refresh 53 = .ok (.return_, 1) := by decide +kernel
theorem dX5_refresh_22 : decode cX5_refresh 22 = .ok (.aload_n 0, 1) := by decide +kernel
theorem dX5_refresh_23 : decode cX5_refresh 23 = .ok (.getfield 9, 3) := by decide +kernel
theorem dX5_refresh_26 : decode cX5_refresh 26 = .ok (.iload_n 1, 1) := by decide +kernel
theorem dX5_refresh_27 : decode cX5_refresh 27 = .ok (.iconst (-1), 1) := by decide +kernel
theorem dX5_refresh_28 : decode cX5_refresh 28 = .ok (.iastore, 1) := by decide +kernel
theorem dX5_refresh_29 : decode cX5_refresh 29 = .ok (.iinc 1 1, 3) := by decide +kernel
theorem dX5_refresh_32 : decode cX5_refresh 32 = .ok (.goto (-17), 3) := by decide +kernel
theorem dX5_refresh_7 : decode cX5_refresh 7 = .ok (.return_, 1) := by decide +kernel
theorem dX5_fieldOf_0 : decode cX5_fieldOf 0 = .ok (.aload_n 0, 1) := by decide +kernel
theorem dX5_fieldOf_1 : decode cX5_fieldOf 1 = .ok (.getfield 15, 3) := by decide +kernel
theorem dX5_fieldOf_4 : decode cX5_fieldOf 4 = .ok (.iload_n 1, 1) := by decide +kernel
theorem dX5_fieldOf_5 : decode cX5_fieldOf 5 = .ok (.iaload, 1) := by decide +kernel
theorem dX5_fieldOf_6 : decode cX5_fieldOf 6 = .ok (.sipush 256, 3) := by decide +kernel
theorem dX5_fieldOf_9 : decode cX5_fieldOf 9 = .ok (.idiv, 1) := by decide +kernel
theorem dX5_fieldOf_10 : decode cX5_fieldOf 10 = .ok (.ireturn, 1) := by decide +kernel
theorem dX5_setOf_0 : decode cX5_setOf 0 = .ok (.aload_n 0, 1) := by decide +kernel
theorem dX5_setOf_1 : decode cX5_setOf 1 = .ok (.getfield 15, 3) := by decide +kernel
theorem dX5_setOf_4 : decode cX5_setOf 4 = .ok (.iload_n 1, 1) := by decide +kernel
theorem dX5_setOf_5 : decode cX5_setOf 5 = .ok (.iaload, 1) := by decide +kernel
theorem dX5_setOf_6 : decode cX5_setOf 6 = .ok (.sipush 256, 3) := by decide +kernel
theorem dX5_setOf_9 : decode cX5_setOf 9 = .ok (.irem, 1) := by decide +kernel
theorem dX5_setOf_10 : decode cX5_setOf 10 = .ok (.ireturn, 1) := by decide +kernel
theorem dX5_pieceCount_0 : decode cX5_pieceCount 0 = .ok (.iconst 0, 1) := by decide +kernel
theorem dX5_pieceCount_1 : decode cX5_pieceCount 1 = .ok (.istore_n 2, 1) := by decide +kernel
theorem dX5_pieceCount_2 : decode cX5_pieceCount 2 = .ok (.iconst 0, 1) := by decide +kernel
theorem dX5_pieceCount_3 : decode cX5_pieceCount 3 = .ok (.istore_n 3, 1) := by decide +kernel
theorem dX5_pieceCount_4 : decode cX5_pieceCount 4 = .ok (.iload_n 3, 1) := by decide +kernel
theorem dX5_pieceCount_5 : decode cX5_pieceCount 5 = .ok (.aload_n 0, 1) := by decide +kernel
theorem dX5_pieceCount_6 : decode cX5_pieceCount 6 = .ok (.getfield 25, 3) := by decide +kernel
theorem dX5_pieceCount_9 : decode cX5_pieceCount 9 = .ok (.getfield 58, 3) := by decide +kernel
theorem dX5_pieceCount_12 : decode cX5_pieceCount 12 = .ok (.aload_n 0, 1) := by decide +kernel
theorem dX5_pieceCount_13 : decode cX5_pieceCount 13 = .ok (.iload_n 1, 1) := by decide +kernel
set_option maxRecDepth 20000 in
theorem ggX5_pieceCount_X5_fieldOf : GoodIn wsX5_pieceCount wsX5_fieldOf := goodIn_r _ [7, 8, 23, 24, 25, 26, 27, 28, 29] (by decide +kernel) (by decide +kernel)
set_option maxRecDepth 20000 in
theorem gX5_pieceCount_X5_fieldOf : GoodIn wsX5_pieceCount (wsV RX5 70 RX5 yX5_fieldOf wsX5_fieldOf) := goodIn_app (goodIn_of _ (by decide +kernel)) ggX5_pieceCount_X5_fieldOf
theorem dX5_pieceCount_14 : decode cX5_pieceCount 14 = .ok (.invokevirtual 70, 3) := by decide +kernel
theorem dX5_pieceCount_17 : decode cX5_pieceCount 17 = .ok (.iaload, 1) := by decide +kernel
theorem dX5_pieceCount_18 : decode cX5_pieceCount 18 = .ok (.if_icmp .ge 33, 3) := by decide +kernel
theorem dX5_pieceCount_51 : decode cX5_pieceCount 51 = .ok (.iload_n 2, 1) := by decide +kernel
theorem dX5_pieceCount_52 : decode cX5_pieceCount 52 = .ok (.ireturn, 1) := by decide +kernel
theorem dX5_pieceCount_21 : decode cX5_pieceCount 21 = .ok (.aload_n 0, 1) := by decide +kernel
theorem dX5_pieceCount_22 : decode cX5_pieceCount 22 = .ok (.getfield 25, 3) := by decide +kernel
theorem dX5_pieceCount_25 : decode cX5_pieceCount 25 = .ok (.aload_n 0, 1) := by decide +kernel
theorem dX5_pieceCount_26 : decode cX5_pieceCount 26 = .ok (.iload_n 1, 1) := by decide +kernel
theorem dX5_pieceCount_27 : decode cX5_pieceCount 27 = .ok (.invokevirtual 70, 3) := by decide +kernel
theorem dX5_pieceCount_30 : decode cX5_pieceCount 30 = .ok (.iload_n 3, 1) := by decide +kernel
theorem dX5_pieceCount_31 : decode cX5_pieceCount 31 = .ok (.aload_n 0, 1) := by decide +kernel
theorem dX5_pieceCount_32 : decode cX5_pieceCount 32 = .ok (.iload_n 1, 1) := by decide +kernel
set_option maxRecDepth 20000 in
theorem ggX5_pieceCount_X5_setOf : GoodIn wsX5_pieceCount wsX5_setOf := goodIn_r _ [12, 8, 23, 24, 25, 26, 27, 28, 29] (by decide +kernel) (by decide +kernel)
set_option maxRecDepth 20000 in
theorem gX5_pieceCount_X5_setOf : GoodIn wsX5_pieceCount (wsV RX5 73 RX5 yX5_setOf wsX5_setOf) := goodIn_app (goodIn_of _ (by decide +kernel)) ggX5_pieceCount_X5_setOf
theorem dX5_pieceCount_33 : decode cX5_pieceCount 33 = .ok (.invokevirtual 73, 3) := by decide +kernel
set_option maxRecDepth 20000 in
theorem ggX5_pieceCount_X1_startsRun : GoodIn wsX5_pieceCount wsX1_startsRun := goodIn_r _ [17, 18, 19, 20, 16, 21, 22, 30, 31, 32, 33, 34, 35] (by decide +kernel) (by decide +kernel)
set_option maxRecDepth 20000 in
theorem gX5_pieceCount_X1_startsRun : GoodIn wsX5_pieceCount (wsV RX5 76 RX1 yX1_startsRun wsX1_startsRun) := goodIn_app (goodIn_of _ (by decide +kernel)) ggX5_pieceCount_X1_startsRun
theorem dX5_pieceCount_36 : decode cX5_pieceCount 36 = .ok (.invokevirtual 76, 3) := by decide +kernel
theorem dX5_pieceCount_39 : decode cX5_pieceCount 39 = .ok (.ifCond .eq 6, 3) := by decide +kernel
theorem dX5_pieceCount_45 : decode cX5_pieceCount 45 = .ok (.iinc 3 1, 3) := by decide +kernel
theorem dX5_pieceCount_48 : decode cX5_pieceCount 48 = .ok (.goto (-44), 3) := by decide +kernel
theorem dX5_pieceCount_42 : decode cX5_pieceCount 42 = .ok (.iinc 2 1, 3) := by decide +kernel
theorem dX5_segmentOf_0 : decode cX5_segmentOf 0 = .ok (.iconst 0, 1) := by decide +kernel
theorem dX5_segmentOf_1 : decode cX5_segmentOf 1 = .ok (.istore_n 3, 1) := by decide +kernel
theorem dX5_segmentOf_2 : decode cX5_segmentOf 2 = .ok (.iconst 0, 1) := by decide +kernel
theorem dX5_segmentOf_3 : decode cX5_segmentOf 3 = .ok (.istore 4, 2) := by decide +kernel
theorem dX5_segmentOf_5 : decode cX5_segmentOf 5 = .ok (.iload 4, 2) := by decide +kernel
theorem dX5_segmentOf_7 : decode cX5_segmentOf 7 = .ok (.aload_n 0, 1) := by decide +kernel
theorem dX5_segmentOf_8 : decode cX5_segmentOf 8 = .ok (.getfield 25, 3) := by decide +kernel
theorem dX5_segmentOf_11 : decode cX5_segmentOf 11 = .ok (.getfield 58, 3) := by decide +kernel
theorem dX5_segmentOf_14 : decode cX5_segmentOf 14 = .ok (.aload_n 0, 1) := by decide +kernel
theorem dX5_segmentOf_15 : decode cX5_segmentOf 15 = .ok (.iload_n 1, 1) := by decide +kernel
set_option maxRecDepth 20000 in
theorem ggX5_segmentOf_X5_fieldOf : GoodIn wsX5_segmentOf wsX5_fieldOf := goodIn_r _ [7, 8, 23, 24, 25, 26, 27, 28, 29] (by decide +kernel) (by decide +kernel)
set_option maxRecDepth 20000 in
theorem gX5_segmentOf_X5_fieldOf : GoodIn wsX5_segmentOf (wsV RX5 70 RX5 yX5_fieldOf wsX5_fieldOf) := goodIn_app (goodIn_of _ (by decide +kernel)) ggX5_segmentOf_X5_fieldOf
theorem dX5_segmentOf_16 : decode cX5_segmentOf 16 = .ok (.invokevirtual 70, 3) := by decide +kernel
theorem dX5_segmentOf_19 : decode cX5_segmentOf 19 = .ok (.iaload, 1) := by decide +kernel
theorem dX5_segmentOf_20 : decode cX5_segmentOf 20 = .ok (.if_icmp .ge 42, 3) := by decide +kernel
theorem dX5_segmentOf_62 : decode cX5_segmentOf 62 = .ok (.iconst (-1), 1) := by decide +kernel
theorem dX5_segmentOf_63 : decode cX5_segmentOf 63 = .ok (.ireturn, 1) := by decide +kernel
theorem dX5_segmentOf_23 : decode cX5_segmentOf 23 = .ok (.aload_n 0, 1) := by decide +kernel
theorem dX5_segmentOf_24 : decode cX5_segmentOf 24 = .ok (.getfield 25, 3) := by decide +kernel
theorem dX5_segmentOf_27 : decode cX5_segmentOf 27 = .ok (.aload_n 0, 1) := by decide +kernel
theorem dX5_segmentOf_28 : decode cX5_segmentOf 28 = .ok (.iload_n 1, 1) := by decide +kernel
theorem dX5_segmentOf_29 : decode cX5_segmentOf 29 = .ok (.invokevirtual 70, 3) := by decide +kernel
theorem dX5_segmentOf_32 : decode cX5_segmentOf 32 = .ok (.iload 4, 2) := by decide +kernel
theorem dX5_segmentOf_34 : decode cX5_segmentOf 34 = .ok (.aload_n 0, 1) := by decide +kernel
theorem dX5_segmentOf_35 : decode cX5_segmentOf 35 = .ok (.iload_n 1, 1) := by decide +kernel
set_option maxRecDepth 20000 in
theorem ggX5_segmentOf_X5_setOf : GoodIn wsX5_segmentOf wsX5_setOf := goodIn_r _ [12, 8, 23, 24, 25, 26, 27, 28, 29] (by decide +kernel) (by decide +kernel)
set_option maxRecDepth 20000 in
theorem gX5_segmentOf_X5_setOf : GoodIn wsX5_segmentOf (wsV RX5 73 RX5 yX5_setOf wsX5_setOf) := goodIn_app (goodIn_of _ (by decide +kernel)) ggX5_segmentOf_X5_setOf
theorem dX5_segmentOf_36 : decode cX5_segmentOf 36 = .ok (.invokevirtual 73, 3) := by decide +kernel
set_option maxRecDepth 20000 in
theorem ggX5_segmentOf_X1_startsRun : GoodIn wsX5_segmentOf wsX1_startsRun := goodIn_r _ [17, 18, 19, 20, 16, 21, 22, 30, 31, 32, 33, 34, 35] (by decide +kernel) (by decide +kernel)
set_option maxRecDepth 20000 in
theorem gX5_segmentOf_X1_startsRun : GoodIn wsX5_segmentOf (wsV RX5 76 RX1 yX1_startsRun wsX1_startsRun) := goodIn_app (goodIn_of _ (by decide +kernel)) ggX5_segmentOf_X1_startsRun
theorem dX5_segmentOf_39 : decode cX5_segmentOf 39 = .ok (.invokevirtual 76, 3) := by decide +kernel
theorem dX5_segmentOf_42 : decode cX5_segmentOf 42 = .ok (.ifCond .eq 14, 3) := by decide +kernel
theorem dX5_segmentOf_56 : decode cX5_segmentOf 56 = .ok (.iinc 4 1, 3) := by decide +kernel
theorem dX5_segmentOf_59 : decode cX5_segmentOf 59 = .ok (.goto (-54), 3) := by decide +kernel
theorem dX5_segmentOf_45 : decode cX5_segmentOf 45 = .ok (.iload_n 3, 1) := by decide +kernel
theorem dX5_segmentOf_46 : decode cX5_segmentOf 46 = .ok (.iload_n 2, 1) := by decide +kernel
theorem dX5_segmentOf_47 : decode cX5_segmentOf 47 = .ok (.if_icmp .ne 6, 3) := by decide +kernel
theorem dX5_segmentOf_53 : decode cX5_segmentOf 53 = .ok (.iinc 3 1, 3) := by decide +kernel
theorem dX5_segmentOf_50 : decode cX5_segmentOf 50 = .ok (.iload 4, 2) := by decide +kernel
theorem dX5_segmentOf_52 : decode cX5_segmentOf 52 = .ok (.ireturn, 1) := by decide +kernel
theorem dX5_leadOf_0 : decode cX5_leadOf 0 = .ok (.aload_n 0, 1) := by decide +kernel
theorem dX5_leadOf_1 : decode cX5_leadOf 1 = .ok (.iload_n 1, 1) := by decide +kernel
set_option maxRecDepth 20000 in
theorem ggX5_leadOf_X5_fieldOf : GoodIn wsX5_leadOf wsX5_fieldOf := goodIn_r _ [6, 7, 51, 52, 53, 54, 55, 56, 57] (by decide +kernel) (by decide +kernel)
set_option maxRecDepth 20000 in
theorem gX5_leadOf_X5_fieldOf : GoodIn wsX5_leadOf (wsV RX5 70 RX5 yX5_fieldOf wsX5_fieldOf) := goodIn_app (goodIn_of _ (by decide +kernel)) ggX5_leadOf_X5_fieldOf
theorem dX5_leadOf_2 : decode cX5_leadOf 2 = .ok (.invokevirtual 70, 3) := by decide +kernel
theorem dX5_leadOf_5 : decode cX5_leadOf 5 = .ok (.istore_n 3, 1) := by decide +kernel
theorem dX5_leadOf_6 : decode cX5_leadOf 6 = .ok (.aload_n 0, 1) := by decide +kernel
theorem dX5_leadOf_7 : decode cX5_leadOf 7 = .ok (.iload_n 3, 1) := by decide +kernel
theorem dX5_leadOf_8 : decode cX5_leadOf 8 = .ok (.iconst 1, 1) := by decide +kernel
theorem dX5_leadOf_9 : decode cX5_leadOf 9 = .ok (.iadd, 1) := by decide +kernel
theorem dX5_leadOf_10 : decode cX5_leadOf 10 = .ok (.aload_n 0, 1) := by decide +kernel
theorem dX5_leadOf_11 : decode cX5_leadOf 11 = .ok (.iload_n 1, 1) := by decide +kernel
set_option maxRecDepth 20000 in
theorem ggX5_leadOf_X5_setOf : GoodIn wsX5_leadOf wsX5_setOf := goodIn_r _ [11, 7, 51, 52, 53, 54, 55, 56, 57] (by decide +kernel) (by decide +kernel)
set_option maxRecDepth 20000 in
theorem gX5_leadOf_X5_setOf : GoodIn wsX5_leadOf (wsV RX5 73 RX5 yX5_setOf wsX5_setOf) := goodIn_app (goodIn_of _ (by decide +kernel)) ggX5_leadOf_X5_setOf
theorem dX5_leadOf_12 : decode cX5_leadOf 12 = .ok (.invokevirtual 73, 3) := by decide +kernel
theorem dX5_leadOf_15 : decode cX5_leadOf 15 = .ok (.aload_n 0, 1) := by decide +kernel
theorem dX5_leadOf_16 : decode cX5_leadOf 16 = .ok (.getfield 25, 3) := by decide +kernel
theorem dX5_leadOf_19 : decode cX5_leadOf 19 = .ok (.iload_n 3, 1) := by decide +kernel
theorem dX5_leadOf_20 : decode cX5_leadOf 20 = .ok (.iload_n 2, 1) := by decide +kernel
set_option maxRecDepth 20000 in
theorem ggX5_leadOf_X1_mask : GoodIn wsX5_leadOf wsX1_mask := goodIn_r _ [16, 17, 58, 59, 60, 61, 62, 63] (by decide +kernel) (by decide +kernel)
set_option maxRecDepth 20000 in
theorem gX5_leadOf_X1_mask : GoodIn wsX5_leadOf (wsV RX5 63 RX1 yX1_mask wsX1_mask) := goodIn_app (goodIn_of _ (by decide +kernel)) ggX5_leadOf_X1_mask
theorem dX5_leadOf_21 : decode cX5_leadOf 21 = .ok (.invokevirtual 63, 3) := by decide +kernel
theorem dX5_leadOf_24 : decode cX5_leadOf 24 = .ok (.iand, 1) := by decide +kernel
set_option maxRecDepth 20000 in
theorem ggX5_leadOf_X5_find : GoodIn wsX5_leadOf wsX5_find := goodIn_r _ [20, 21, 22, 23, 7, 1, 24, 25, 26, 27, 28, 29, 30, 31, 32, 33, 34, 35, 36, 37, 38, 39, 40, 41, 42, 43, 44, 12, 13, 14, 15, 16, 17, 18, 19, 5, 45, 46, 47, 48, 49, 50, 51, 52, 53, 54, 55, 56, 57, 58, 59, 60, 61, 62, 63, 64, 65, 66, 67, 68, 69, 70] (by decide +kernel) (by decide +kernel)
set_option maxRecDepth 20000 in
theorem gX5_leadOf_X5_find : GoodIn wsX5_leadOf (va_wsS RX5 43 yX5_find wsX5_find) := goodIn_app (goodIn_of _ (by decide +kernel)) ggX5_leadOf_X5_find
theorem dX5_leadOf_25 : decode cX5_leadOf 25 = .ok (.invokestatic 43, 3) := by decide +kernel
theorem dX5_leadOf_28 : decode cX5_leadOf 28 = .ok (.ireturn, 1) := by decide +kernel
theorem dX5_allSteps_0 : decode cX5_allSteps 0 = .ok (.aload_n 0, 1) := by decide +kernel
theorem dX5_allSteps_1 : decode cX5_allSteps 1 = .ok (.getfield 33, 3) := by decide +kernel
theorem dX5_allSteps_4 : decode cX5_allSteps 4 = .ok (.ifCond .ne 7, 3) := by decide +kernel
theorem dX5_allSteps_11 : decode cX5_allSteps 11 = .ok (.aload_n 0, 1) := by decide +kernel
theorem dX5_allSteps_12 : decode cX5_allSteps 12 = .ok (.getfield 18, 3) := by decide +kernel
theorem dX5_allSteps_15 : decode cX5_allSteps 15 = .ok (.iconst 0, 1) := by decide +kernel
theorem dX5_allSteps_16 : decode cX5_allSteps 16 = .ok (.iaload, 1) := by decide +kernel
theorem dX5_allSteps_17 : decode cX5_allSteps 17 = .ok (.ireturn, 1) := by decide +kernel
theorem dX5_allSteps_7 : decode cX5_allSteps 7 = .ok (.iconst 0, 1) := by decide +kernel
theorem dX5_allSteps_8 : decode cX5_allSteps 8 = .ok (.goto 9, 3) := by decide +kernel
theorem zTi.same {X Y Z : Nat → Nat → Int} {g : Nat} (h : zTi X Y g) (h5 : Z 61 5 = Y 61 5) (h2 : Z 62 = Y 62) (h3 : Z 63 = Y 63) (h4 : Z 64 = Y 64) : zTi X Z g := by
  obtain ⟨a, b, c, d, e⟩ := h
  have hclo : ∀ d : Nat, zClo X Z d ↔ zClo X Y d := fun d => by unfold zClo zCh; rw [h2]
  unfold zTi
  rw [h5, h2, h3, h4]
  exact ⟨by unfold zCo at a ⊢; rw [h5, h2]; exact a, b, c, d, fun k hk hq => by rw [hclo]; exact e k hk hq⟩
theorem zTv_of {X Y X1 : Nat → Nat → Int} {w : Int} (hV : zV X) (hW : zWc X Y) (h5 : Y 61 5 = 0) (hm : ∀ c : Nat, c < 1024 → Y 62 c = -1) (h : zFd 0 Y (zDec X 0) w X1) : zTv X (zw X1 61 6 1) := by
  have hd := zDec_lt hV (Or.inl rfl : zIsW 0)
  have e5 : zw X1 61 6 1 61 5 = X1 61 5 := zw_ne (show (5 : Nat) ≠ 6 by decide)
  have eo : ∀ c : Nat, c ≠ 61 → zw X1 61 6 1 c = X1 c := fun c hc => zw_cell hc
  obtain ⟨a1, a2, a3, a4⟩ := h
  refine ⟨((hW.ti hV).mp a1).same e5 (eo 62 (by omega)) (eo 63 (by omega)) (eo 64 (by omega)), ?_⟩
  rw [e5, eo 63 (by omega)]
  rcases a4 with ⟨b1, b2, b3, b4, b5⟩ | ⟨b1, b2, b3, b4, b5⟩
  · exact Or.inl ⟨(hW.1.lf hV _ _).mp b1, by rw [b5]; exact h5⟩
  · refine Or.inr ⟨fun q => b1 ((hW.1.lf hV _ _).mpr q), by omega, ?_⟩
    have hc := hm (0 * 256 + zDec X 0) (by omega)
    have hw : w = 0 := by
      rcases b5 with q | q
      · rw [hc] at q; omega
      · rw [q.2]; exact h5
    have h2 := a1.2.1 (0 * 256 + zDec X 0) (by omega)
    rw [b4, hw] at h2
    rcases h2 with q | q
    · omega
    · have q3 : X1 63 0 = ((0 * 256 + zDec X 0 : Nat) : Int) := q.2.2
      rw [q3]
      omega
/-- FIELD and set of a NODE -/
def zFo (X : Nat → Nat → Int) (k : Nat) : Nat := (X 63 k).toNat / 256
def zSo (X : Nat → Nat → Int) (k : Nat) : Nat := (X 63 k).toNat % 256
theorem zTv.node {X : Nat → Nat → Int} (h : zTv X X) {k : Nat} (hk : (k : Int) < X 61 5) : X 63 k = ((X 63 k).toNat : Int) ∧ (X 63 k).toNat < 1024 ∧ zFo X k < 4 ∧ zSo X k < 256 ∧ k < 1024 := by
  have h1 := h.1.2.2.1 k hk
  have h2 := h.1.cnt
  unfold zFo zSo
  omega
/-- how many runs begin ahead of a segment; the segment of a PIECE -/
noncomputable def zNr (X : Nat → Nat → Int) (f u : Nat) : Nat → Nat
  | 0 => 0
  | j + 1 => zNr X f u j + if zB (zSR X f j u) = true then 1 else 0
theorem zNr_yes {X : Nat → Nat → Int} {f u j : Nat} (h : zSR X f j u) : zNr X f u (j + 1) = zNr X f u j + 1 := by
  show zNr X f u j + (if zB (zSR X f j u) = true then 1 else 0) = _
  rw [if_pos (zB_iff.mpr h)]
theorem zNr_no {X : Nat → Nat → Int} {f u j : Nat} (h : ¬ zSR X f j u) : zNr X f u (j + 1) = zNr X f u j := by
  show zNr X f u j + (if zB (zSR X f j u) = true then 1 else 0) = _
  rw [if_neg (fun q => h (zB_iff.mp q)), Nat.add_zero]
theorem zNr_le (X : Nat → Nat → Int) (f u j : Nat) : zNr X f u j ≤ j := by
  induction j with
  | zero => exact Nat.le_refl 0
  | succ j ih =>
    by_cases h : zSR X f j u
    · rw [zNr_yes h]; omega
    · rw [zNr_no h]; omega
theorem zNr_mono (X : Nat → Nat → Int) (f u : Nat) {i j : Nat} (h : i ≤ j) : zNr X f u i ≤ zNr X f u j := by
  induction j with
  | zero => rw [show i = 0 by omega]; exact Nat.le_refl _
  | succ j ih =>
    by_cases e : i = j + 1
    · rw [e]; exact Nat.le_refl _
    · have h1 := ih (by omega)
      by_cases h2 : zSR X f j u
      · rw [zNr_yes h2]; omega
      · rw [zNr_no h2]; exact h1
/-- the piece i begins with the segment j -/
def zSg (X : Nat → Nat → Int) (f u i j : Nat) : Prop := j < zCn X f ∧ zSR X f j u ∧ zNr X f u j = i
theorem zSg.uniq {X : Nat → Nat → Int} {f u i j j' : Nat} (h : zSg X f u i j) (h' : zSg X f u i j') : j = j' := by
  rcases Nat.lt_trichotomy j j' with q | q | q
  · have h1 := zNr_mono X f u (show j + 1 ≤ j' from q)
    rw [zNr_yes h.2.1, h.2.2, h'.2.2] at h1
    omega
  · exact q
  · have h1 := zNr_mono X f u (show j' + 1 ≤ j from q)
    rw [zNr_yes h'.2.1, h.2.2, h'.2.2] at h1
    omega
theorem zSg.lt {X : Nat → Nat → Int} {f u i j : Nat} (h : zSg X f u i j) : i < zNr X f u (zCn X f) := by
  have h1 := zNr_mono X f u (show j + 1 ≤ zCn X f from h.1)
  rw [zNr_yes h.2.1, h.2.2] at h1
  omega
theorem zSg.ex {X : Nat → Nat → Int} {f u i : Nat} (h : i < zNr X f u (zCn X f)) : ∃ j : Nat, zSg X f u i j := by
  have key : ∀ n : Nat, n ≤ zCn X f → i < zNr X f u n → ∃ j : Nat, zSg X f u i j := by
    intro n
    induction n with
    | zero => intro _ hi; exact absurd hi (Nat.not_lt_zero _)
    | succ n ih =>
      intro hn hi
      by_cases h2 : zSR X f n u
      · rw [zNr_yes h2] at hi
        by_cases e : zNr X f u n = i
        · exact ⟨n, by omega, h2, e⟩
        · exact ih (by omega) (by omega)
      · rw [zNr_no h2] at hi
        exact ih (by omega) hi
  exact key _ (Nat.le_refl _) h
/-- to what it leads -/
def zLd (X : Nat → Nat → Int) (g u : Nat) (w : Int) : Prop := (zLf X g u ∧ zIsF (zN X 0) u (-2 - w) ∧ -10 < w ∧ w < 0) ∨ (¬ zLf X g u ∧ 0 ≤ w ∧ w < X 61 5 ∧ X 62 (g * 256 + u) = w)

set_option maxHeartbeats 4000000 in
set_option maxRecDepth 100000 in
/-- refresh -/
theorem c_X5_refresh (l : Launch) (G : zG) (ad : Nat → Nat) (X : Nat → Nat → Int) (hV : zV X) (hCs : zCs X) (hKt : X 61 6 = 0 ∨ (X 61 6 = 1 ∧ zTv X X)) : zR l G yX5_refresh wsX5_refresh { frames := 6, cells := 0, slots := 0, locals := 162 } (zpic G ad X) [.ref (ad 61)] (zv G ad (fun Y => (X 61 6 = 1 → Y = X) ∧ (∀ c : Nat, c ≠ 61 → c ≠ 62 → c ≠ 63 → c ≠ 64 → Y c = X c) ∧ Y 61 6 = 1 ∧ zTv X Y)) 0 0 := by
  refine zR_of (cc := cX5_refresh) (maxL := 2) (rt := none) (by decide) rfl (Nat.le_of_ble_eq_true rfl) ?_
  intro p e s m below meth c A ls hx hb hml hr hts hown hlocks hin0 hA hE hP hD hS hl
  have hl : lv_has ls 2 [(0, .ref (ad 61))] := hl
  have hown : s.vm.findClass RX5 = some m.cls := hown
  have ht01 : X 61 6 = 0 ∨ X 61 6 = 1 := hKt.elim Or.inl (fun q => Or.inr q.1)
  have hw5 : ∀ w ∈ u_ws RX5 TX5 7, w ∈ wsX5_refresh := by decide +kernel
  have hf29 := hts (.fieldLink RX5 29 "Nettle$Tree" "isFresh" "Z") (by decide +kernel)
  have hf33 := hts (.fieldLink RX5 33 "Nettle$Tree" "count" "I") (by decide +kernel)
  have hf21 := hts (.fieldLink RX5 21 "Nettle$Tree" "wall" "LNettle$Wall;") (by decide +kernel)
  have hf9 := hts (.fieldLink RX5 9 "Nettle$Tree" "numbers" "[I") (by decide +kernel)
  refine lv_aload_n hx hb dX5_refresh_0 rfl (lv_at hl 0 rfl) ?_
  refine va_get (D := G.1) (ci := 5) (v := .int (zi (X 61 6))) (C := RX5) (T := TX5) (N := 7) hx hb hts hw5 hown hE.1 hP 61 p_61 rfl 6 (by decide) hf29 (fun _ h9 => h9) rfl dX5_refresh_1 ?_
  refine z0_eq (tgt := 8) hx hb dX5_refresh_4 (by decide) (by omega) (fun h4 => ?_) (fun h4 => ?_)
  · refine lv_aload_n hx hb dX5_refresh_8 rfl (lv_at hl 0 rfl) ?_
    refine lv_iconst (v := zi 0) hx hb dX5_refresh_9 rfl ?_
    refine zput (C := RX5) (T := TX5) (N := 7) (ci := 5) (v := .int (zi 0)) (ty := tyX5 5) hx hb hts hw5 tyX5 tyX5_ok nmX5 hown hE hP hD hS 61 p_61 rfl 5 (by decide) hf33 (fun _ h9 => h9) rfl (by decide +kernel) rfl rfl (Nat.le_of_ble_eq_true rfl) (s_615 0) dX5_refresh_10 (fun H locs hP hD hS => ?_)
    refine lv_iconst (v := zi 0) hx hb dX5_refresh_13 rfl ?_
    refine lv_istore_n (lv' := [(1, .int (zi 0)), (0, .ref (ad 61))]) hx hb dX5_refresh_14 rfl hl (by decide) rfl (fun ls hl => ?_)
    refine zloop2 (fun (c : Nat) (Y : Nat → Nat → Int) => 1024 - c) (fun (c : Nat) (Y : Nat → Nat → Int) (H : Heap) (locs : List Loc) (ls : Array Slot) => va_P G.1 vwCl (zpic G ad Y) H ∧ va_D A (zpic G ad Y) ∧ va_S A s.heap H locs ∧ lv_has ls 2 [(1, .int (zi (c : Int))), (0, .ref (ad 61))] ∧ (c ≤ 1024) ∧ (∀ d : Nat, d ≠ 61 → d ≠ 62 → Y d = X d) ∧ (Y 61 5 = 0) ∧ (Y 61 6 = X 61 6) ∧ (∀ d : Nat, d < c → Y 62 d = -1)) ?_ 0 (zw X 61 5 0) ⟨hP, hD, hS, lv_sub hl [0, 1] rfl, (by omega), (fun d h1 h2 => zw_cell h1), (zw_at _ _ _ _), (zw_ne (show (6 : Nat) ≠ 5 by decide)), (fun d h1 => by omega)⟩
    intro c Y ih H locs ls ⟨hP, hD, hS, hl, hc, hyc, hy5, hy6, hm⟩
    have hwY : zWc X Y := ⟨fun c h9 => hyc c (by omega) (by omega), fun c h8 h9 => hyc c (by omega) (by omega)⟩
    have hVY : zV Y := hwY.1.v hV
    have hCY : zCs Y := hwY.cs hV hCs
    refine lv_iload_n hx hb dX5_refresh_15 rfl (lv_at hl 0 rfl) ?_
    refine lv_sipush (v := zi 1024) hx hb dX5_refresh_16 (by decide +kernel) ?_
    refine zc_ge (tgt := 35) hx hb dX5_refresh_19 (by decide) (by omega) (by decide) (fun h19 => ?_) (fun h19 => ?_)
    · refine lv_aload_n hx hb dX5_refresh_35 rfl (lv_at hl 1 rfl) ?_
      refine lv_iconst (v := zi 0) hx hb dX5_refresh_36 rfl ?_
      refine lv_aload_n hx hb dX5_refresh_37 rfl (lv_at hl 1 rfl) ?_
      refine va_get (D := G.1) (ci := 5) (v := .ref (ad 0)) (C := RX5) (T := TX5) (N := 7) hx hb hts hw5 hown hE.1 hP 61 p_61 rfl 0 (by decide) hf21 (fun _ h9 => h9) rfl dX5_refresh_38 ?_
      refine zcall (wr := []) (va_runV (As := []) (rest := [.int (zi 0), .ref (ad 61)]) ⟨hx, hb, hml, hown, hts⟩ (c_X6_deciders l G ad Y 0 hVY (Or.inl rfl) H.size) (cwV 0 hts gX5_refresh_X6_deciders rfl rfl rfl (by decide +kernel) ⟨Nat.le_of_ble_eq_true rfl, Nat.le_of_ble_eq_true rfl⟩) (zPreV (wr := []) (wc := zpic G ad Y) (q0 := 0) (ci := 6) (q := (RX6, TX6, 3)) hP hD hE hS hA rfl (p_w (Or.inl rfl))) rfl rfl hl.1 rfl (lv_room (Nat.le_of_ble_eq_true rfl)) dX5_refresh_41 ⟨Nat.le_of_ble_eq_true rfl, Nat.le_of_ble_eq_true rfl⟩) hP hD hS hA (fun _ _ H locs hf hP hD hS => ?_)
      obtain ⟨v1, rfl, hv1, rfl⟩ := hf
      have hP : va_P G.1 vwCl (zpic G ad Y) H := hP
      have hD : va_D A (zpic G ad Y) := hD
      refine W.eq (g2 := F0 m 44 ls [.int (zi v1), .int (zi 0), .ref (ad 61)]) rfl ?_
      rw [hwY.1.dec hV (Or.inl rfl : zIsW 0)] at hv1
      rw [hv1]
      refine zcall (wr := []) (va_runS (As := [.ref (ad 61), .int (zi 0), .int (zi (zDec X 0 : Int))]) (rest := []) ⟨hx, hb, hml, hown, hts⟩ (c_find0 l G ad Y (zDec X 0) hVY hCY (zDec_lt hV (Or.inl rfl : zIsW 0)) (by rw [hwY.1.dec hV (Or.inl rfl : zIsW 0)]; exact Nat.and_self _) (zTi_0 hy5 (fun d hd => hm d (by omega))) H.size) (va_cwS 3 hts gX5_refresh_X5_find rfl rfl rfl (by decide +kernel) ⟨Nat.le_of_ble_eq_true rfl, Nat.le_of_ble_eq_true rfl⟩) (zPre (wr := []) (wc := zpic G ad Y) (As := [.ref (ad 61), .int (zi 0), .int (zi (zDec X 0 : Int))]) hP hD hE hS hA).1 rfl rfl hl.1 rfl (lv_room (Nat.le_of_ble_eq_true rfl)) dX5_refresh_44 ⟨Nat.le_of_ble_eq_true rfl, Nat.le_of_ble_eq_true rfl⟩) hP hD hS hA (fun _ _ H locs hf hP hD hS => ?_)
      obtain ⟨v2, X1, rfl, hv2, rfl⟩ := hf
      have hP : va_P G.1 vwCl (zpic G ad X1) H := hP
      have hD : va_D A (zpic G ad X1) := hD
      refine W.eq (g2 := F0 m 47 ls [.int (zi v2)]) rfl ?_
      refine lv_pop hx hb dX5_refresh_47 rfl ?_
      refine lv_aload_n hx hb dX5_refresh_48 rfl (lv_at hl 1 rfl) ?_
      refine lv_iconst (v := zi 1) hx hb dX5_refresh_49 rfl ?_
      refine zput (C := RX5) (T := TX5) (N := 7) (ci := 5) (v := .int (zi 1)) (ty := tyX5 6) hx hb hts hw5 tyX5 tyX5_ok nmX5 hown hE hP hD hS 61 p_61 rfl 6 (by decide) hf29 (fun _ h9 => h9) rfl (by decide +kernel) rfl rfl (Nat.le_of_ble_eq_true rfl) (s_616 1) dX5_refresh_50 (fun H locs hP hD hS => ?_)
      exact zend_v hx hb hr hlocks hP hD hS (Nat.le_of_ble_eq_true rfl) (Nat.le_of_ble_eq_true rfl) dX5_refresh_53 ⟨_, rfl, ⟨fun h9 => by omega, fun d h1 h2 h3 h5 => by rw [zw_cell h1, hv2.2.1.2.2.2.1 d h1 h2 h3 h5]; exact hyc d h1 h2, zw_at _ _ _ _, zTv_of hV hwY hy5 (fun d hd => hm d (by omega)) hv2⟩, rfl⟩
    · refine lv_aload_n hx hb dX5_refresh_22 rfl (lv_at hl 1 rfl) ?_
      refine va_get (D := G.1) (ci := 5) (v := .ref (ad 62)) (C := RX5) (T := TX5) (N := 7) hx hb hts hw5 hown hE.1 hP 61 p_61 rfl 2 (by decide) hf9 (fun _ h9 => h9) rfl dX5_refresh_23 ?_
      refine lv_iload_n hx hb dX5_refresh_26 rfl (lv_at hl 0 rfl) ?_
      refine lv_iconst (v := zi (-1)) hx hb dX5_refresh_27 rfl ?_
      refine zist hx hb hE hP hD hS 62 1024 (fun _ => rfl) (by decide) c rfl (by omega) (by decide) dX5_refresh_28 (fun H locs hP hD hS => ?_)
      refine lv_iinc (v := zi ((c : Int) + 1)) (lv' := [(1, .int (zi ((c : Int) + 1))), (0, .ref (ad 61))]) hx hb dX5_refresh_29 hl (k := 0) rfl (zi_add _ _) (by decide) rfl (fun ls hl => ?_)
      refine lv_goto (tgt := 15) hx hb dX5_refresh_32 (by decide) ?_
      exact ih (c + 1) (zw Y 62 c (-1)) (by omega) H locs ls ⟨hP, hD, hS, lv_sub hl [0, 1] rfl, (by omega), (fun d h1 h2 => by rw [zw_cell h2]; exact hyc d h1 h2), (by rw [zw_cell (show (61 : Nat) ≠ 62 by decide)]; exact hy5), (by rw [zw_cell (show (61 : Nat) ≠ 62 by decide)]; exact hy6), (fun d h1 => by by_cases e9 : d = c; (rw [e9, zw_at]); (rw [zw_ne e9]; exact hm d (by omega)))⟩
  · exact zend_v hx hb hr hlocks hP hD hS (Nat.le_of_ble_eq_true rfl) (Nat.le_of_ble_eq_true rfl) dX5_refresh_7 ⟨_, rfl, (by rcases hKt with h | h; omega; exact ⟨fun _ => rfl, fun c _ _ _ _ => rfl, h.1, h.2⟩), rfl⟩

set_option maxHeartbeats 4000000 in
set_option maxRecDepth 100000 in
/-- find, where all is known -/
theorem c_findk (l : Launch) (G : zG) (ad : Nat → Nat) (X : Nat → Nat → Int) (g : Nat) (u : Nat) (hV : zV X) (hu : u < 256) (hTv : zTv X X) (hg : g ≤ 4) (hch : zCh X X g u) : zR l G yX5_find wsX5_find { frames := 2, cells := 0, slots := 0, locals := 45 } (zpic G ad X) [.ref (ad 61), .int (zi (g : Int)), .int (zi (u : Int))] (zq G ad X (fun w => zLd X g u w)) 0 0 := by
  refine zR_of (cc := cX5_find) (maxL := 9) (rt := (some .int)) (by decide) rfl (Nat.le_of_ble_eq_true rfl) ?_
  intro p e s m below meth c A ls hx hb hml hr hts hown hlocks hin0 hA hE hP hD hS hl
  have hl : lv_has ls 9 [(0, .ref (ad 61)), (1, .int (zi (g : Int))), (2, .int (zi (u : Int)))] := hl
  have hown : s.vm.findClass RX5 = some m.cls := hown
  have hw5 : ∀ w ∈ u_ws RX5 TX5 7, w ∈ wsX5_find := by decide +kernel
  have hf21 := hts (.fieldLink RX5 21 "Nettle$Tree" "wall" "LNettle$Wall;") (by decide +kernel)
  have hf9 := hts (.fieldLink RX5 9 "Nettle$Tree" "numbers" "[I") (by decide +kernel)
  refine lv_iload_n hx hb dX5_find_0 rfl (lv_at hl 1 rfl) ?_
  refine lv_iconst (v := zi 4) hx hb dX5_find_1 rfl ?_
  refine zc_ge (tgt := 17) hx hb dX5_find_2 (by decide) (by omega) (by decide) (fun h2 => ?_) (fun h2 => ?_)
  · refine lv_bipush (v := zi (-2)) hx hb dX5_find_17 (by decide +kernel) ?_
    refine lv_aload_n hx hb dX5_find_19 rfl (lv_at hl 0 rfl) ?_
    refine va_get (D := G.1) (ci := 5) (v := .ref (ad 0)) (C := RX5) (T := TX5) (N := 7) hx hb hts hw5 hown hE.1 hP 61 p_61 rfl 0 (by decide) hf21 (fun _ h9 => h9) rfl dX5_find_20 ?_
    refine lv_iload_n hx hb dX5_find_23 rfl (lv_at hl 2 rfl) ?_
    refine zcall (wr := []) (va_runV (As := [.int (zi (u : Int))]) (rest := [.int (zi (-2))]) ⟨hx, hb, hml, hown, hts⟩ (c_X6_firstOf l G ad X 0 u hV (Or.inl rfl) (by omega) s.heap.size) (cwV 1 hts gX5_find_X6_firstOf rfl rfl rfl (by decide +kernel) ⟨Nat.le_of_ble_eq_true rfl, Nat.le_of_ble_eq_true rfl⟩) (zPreV (wr := []) (wc := zpic G ad X) (q0 := 0) (ci := 6) (q := (RX6, TX6, 3)) hP hD hE hS hA rfl (p_w (Or.inl rfl))) rfl rfl hl.1 rfl (lv_room (Nat.le_of_ble_eq_true rfl)) dX5_find_24 ⟨Nat.le_of_ble_eq_true rfl, Nat.le_of_ble_eq_true rfl⟩) hP hD hS hA (fun _ _ H locs hf hP hD hS => ?_)
    obtain ⟨v1, rfl, hv1, rfl⟩ := hf
    have hP : va_P G.1 vwCl (zpic G ad X) H := hP
    have hD : va_D A (zpic G ad X) := hD
    refine W.eq (g2 := F0 m 27 ls [.int (zi v1), .int (zi (-2))]) rfl ?_
    refine lv_isub hx hb dX5_find_27 (zti (v := zi ((-2) - v1)) (zi_sub _ _) ?_)
    exact zend_i hx hb hr hlocks hP hD hS (Nat.le_of_ble_eq_true rfl) (Nat.le_of_ble_eq_true rfl) dX5_find_28 ⟨_, rfl, (Or.inl ⟨Or.inl (by omega), by rw [show -2 - ((-2) - v1) = v1 by omega]; exact hv1.2.2, by omega, by omega⟩), rfl⟩
  · refine lv_aload_n hx hb dX5_find_5 rfl (lv_at hl 0 rfl) ?_
    refine va_get (D := G.1) (ci := 5) (v := .ref (ad 0)) (C := RX5) (T := TX5) (N := 7) hx hb hts hw5 hown hE.1 hP 61 p_61 rfl 0 (by decide) hf21 (fun _ h9 => h9) rfl dX5_find_6 ?_
    refine lv_iload_n hx hb dX5_find_9 rfl (lv_at hl 1 rfl) ?_
    refine lv_iload_n hx hb dX5_find_10 rfl (lv_at hl 2 rfl) ?_
    refine zcall (wr := []) (va_runV (As := [.int (zi (g : Int)), .int (zi (u : Int))]) (rest := []) ⟨hx, hb, hml, hown, hts⟩ (c_X6_isSettled l G ad X 0 g u hV (Or.inl rfl) (by omega) (by omega) s.heap.size) (cwV 2 hts gX5_find_X6_isSettled rfl rfl rfl (by decide +kernel) ⟨Nat.le_of_ble_eq_true rfl, Nat.le_of_ble_eq_true rfl⟩) (zPreV (wr := []) (wc := zpic G ad X) (q0 := 0) (ci := 6) (q := (RX6, TX6, 3)) hP hD hE hS hA rfl (p_w (Or.inl rfl))) rfl rfl hl.1 rfl (lv_room (Nat.le_of_ble_eq_true rfl)) dX5_find_11 ⟨Nat.le_of_ble_eq_true rfl, Nat.le_of_ble_eq_true rfl⟩) hP hD hS hA (fun _ _ H locs hf hP hD hS => ?_)
    obtain ⟨v1, rfl, hv1, rfl⟩ := hf
    have hP : va_P G.1 vwCl (zpic G ad X) H := hP
    have hD : va_D A (zpic G ad X) := hD
    refine W.eq (g2 := F0 m 14 ls [.int (zi v1)]) rfl ?_
    refine z0_eq (tgt := 29) hx hb dX5_find_14 (by decide) (by omega) (fun h14 => ?_) (fun h14 => ?_)
    · have hnl : ¬ zLf X g u := fun q => by rcases hv1 with h | h; omega; rcases q with q | q; omega; exact h.2 q
      have hc2 : 0 ≤ X 62 (g * 256 + u) := by rcases hch with q | q; exact absurd q hnl; exact q
      have hc3 : X 62 (g * 256 + u) < 2147483648 := by have h9 := hTv.1.2.1 (g * 256 + u) (by omega); have h8 := hTv.1.cnt; omega
      refine lv_iload_n hx hb dX5_find_29 rfl (lv_at hl 1 rfl) ?_
      refine lv_sipush (v := zi 256) hx hb dX5_find_30 (by decide +kernel) ?_
      refine lv_imul hx hb dX5_find_33 (zti (v := zi ((g : Int) * 256)) (zi_mul _ _) ?_)
      refine lv_iload_n hx hb dX5_find_34 rfl (lv_at hl 2 rfl) ?_
      refine lv_iadd hx hb dX5_find_35 (zti (v := zi (((g : Int) * 256) + (u : Int))) (zi_add _ _) ?_)
      refine lv_istore_n (lv' := [(3, .int (zi (((g : Int) * 256) + (u : Int)))), (0, .ref (ad 61)), (1, .int (zi (g : Int))), (2, .int (zi (u : Int)))]) hx hb dX5_find_36 rfl hl (by decide) rfl (fun ls hl => ?_)
      refine lv_aload_n hx hb dX5_find_37 rfl (lv_at hl 1 rfl) ?_
      refine va_get (D := G.1) (ci := 5) (v := .ref (ad 62)) (C := RX5) (T := TX5) (N := 7) hx hb hts hw5 hown hE.1 hP 61 p_61 rfl 2 (by decide) hf9 (fun _ h9 => h9) rfl dX5_find_38 ?_
      refine lv_iload_n hx hb dX5_find_41 rfl (lv_at hl 0 rfl) ?_
      refine zild hx hb hE hP 62 1024 (fun _ => rfl) (by decide) (g * 256 + u) (by omega) (by omega) (by decide) dX5_find_42 ?_
      refine z0_lt (tgt := 53) hx hb dX5_find_43 (by decide) (by omega) (fun h9 => by exfalso; omega) (fun h43 => ?_)
      refine lv_aload_n hx hb dX5_find_46 rfl (lv_at hl 1 rfl) ?_
      refine va_get (D := G.1) (ci := 5) (v := .ref (ad 62)) (C := RX5) (T := TX5) (N := 7) hx hb hts hw5 hown hE.1 hP 61 p_61 rfl 2 (by decide) hf9 (fun _ h9 => h9) rfl dX5_find_47 ?_
      refine lv_iload_n hx hb dX5_find_50 rfl (lv_at hl 0 rfl) ?_
      refine zild hx hb hE hP 62 1024 (fun _ => rfl) (by decide) (g * 256 + u) (by omega) (by omega) (by decide) dX5_find_51 ?_
      exact zend_i hx hb hr hlocks hP hD hS (Nat.le_of_ble_eq_true rfl) (Nat.le_of_ble_eq_true rfl) dX5_find_52 ⟨_, rfl, (by have h9 : X 62 (g * 256 + u) = -1 ∨ (0 ≤ X 62 (g * 256 + u) ∧ X 62 (g * 256 + u) < X 61 5 ∧ X 63 (X 62 (g * 256 + u)).toNat = ((g * 256 + u) : Nat)) := hTv.1.2.1 (g * 256 + u) (by omega); exact Or.inr ⟨hnl, by omega, by omega, rfl⟩), rfl⟩
    · refine lv_bipush (v := zi (-2)) hx hb dX5_find_17 (by decide +kernel) ?_
      refine lv_aload_n hx hb dX5_find_19 rfl (lv_at hl 0 rfl) ?_
      refine va_get (D := G.1) (ci := 5) (v := .ref (ad 0)) (C := RX5) (T := TX5) (N := 7) hx hb hts hw5 hown hE.1 hP 61 p_61 rfl 0 (by decide) hf21 (fun _ h9 => h9) rfl dX5_find_20 ?_
      refine lv_iload_n hx hb dX5_find_23 rfl (lv_at hl 2 rfl) ?_
      refine zcall (wr := []) (va_runV (As := [.int (zi (u : Int))]) (rest := [.int (zi (-2))]) ⟨hx, hb, hml, hown, hts⟩ (c_X6_firstOf l G ad X 0 u hV (Or.inl rfl) (by omega) H.size) (cwV 1 hts gX5_find_X6_firstOf rfl rfl rfl (by decide +kernel) ⟨Nat.le_of_ble_eq_true rfl, Nat.le_of_ble_eq_true rfl⟩) (zPreV (wr := []) (wc := zpic G ad X) (q0 := 0) (ci := 6) (q := (RX6, TX6, 3)) hP hD hE hS hA rfl (p_w (Or.inl rfl))) rfl rfl hl.1 rfl (lv_room (Nat.le_of_ble_eq_true rfl)) dX5_find_24 ⟨Nat.le_of_ble_eq_true rfl, Nat.le_of_ble_eq_true rfl⟩) hP hD hS hA (fun _ _ H locs hf hP hD hS => ?_)
      obtain ⟨v2, rfl, hv2, rfl⟩ := hf
      have hP : va_P G.1 vwCl (zpic G ad X) H := hP
      have hD : va_D A (zpic G ad X) := hD
      refine W.eq (g2 := F0 m 27 ls [.int (zi v2), .int (zi (-2))]) rfl ?_
      refine lv_isub hx hb dX5_find_27 (zti (v := zi ((-2) - v2)) (zi_sub _ _) ?_)
      exact zend_i hx hb hr hlocks hP hD hS (Nat.le_of_ble_eq_true rfl) (Nat.le_of_ble_eq_true rfl) dX5_find_28 ⟨_, rfl, (Or.inl ⟨Or.inr (by rcases hv1 with h | h; exact h.2; omega), by rw [show -2 - ((-2) - v2) = v2 by omega]; exact hv2.2.2, by omega, by omega⟩), rfl⟩

set_option maxHeartbeats 4000000 in
set_option maxRecDepth 100000 in
/-- fieldOf -/
theorem c_X5_fieldOf (l : Launch) (G : zG) (ad : Nat → Nat) (X : Nat → Nat → Int) (k : Nat) (hTv : zTv X X) (hk : (k : Int) < X 61 5) : zR l G yX5_fieldOf wsX5_fieldOf { frames := 0, cells := 0, slots := 0, locals := 0 } (zpic G ad X) [.ref (ad 61), .int (zi (k : Int))] (zq G ad X (fun w => w = (zFo X k : Int))) 0 0 := by
  refine zR_of (cc := cX5_fieldOf) (maxL := 2) (rt := (some .int)) (by decide) rfl (Nat.le_of_ble_eq_true rfl) ?_
  intro p e s m below meth c A ls hx hb hml hr hts hown hlocks hin0 hA hE hP hD hS hl
  have hl : lv_has ls 2 [(0, .ref (ad 61)), (1, .int (zi (k : Int)))] := hl
  have hown : s.vm.findClass RX5 = some m.cls := hown
  have hnd := hTv.node hk
  have hw5 : ∀ w ∈ u_ws RX5 TX5 7, w ∈ wsX5_fieldOf := by decide +kernel
  have hf15 := hts (.fieldLink RX5 15 "Nettle$Tree" "codes" "[I") (by decide +kernel)
  refine lv_aload_n hx hb dX5_fieldOf_0 rfl (lv_at hl 0 rfl) ?_
  refine va_get (D := G.1) (ci := 5) (v := .ref (ad 63)) (C := RX5) (T := TX5) (N := 7) hx hb hts hw5 hown hE.1 hP 61 p_61 rfl 3 (by decide) hf15 (fun _ h9 => h9) rfl dX5_fieldOf_1 ?_
  refine lv_iload_n hx hb dX5_fieldOf_4 rfl (lv_at hl 1 rfl) ?_
  refine zild hx hb hE hP 63 1024 (fun _ => rfl) (by decide) k rfl (by omega) (by decide) dX5_fieldOf_5 ?_
  refine zti (v := zi ((X 63 k).toNat : Int)) (congrArg zi hnd.1) ?_
  refine lv_sipush (v := zi 256) hx hb dX5_fieldOf_6 (by decide +kernel) ?_
  refine lv_idiv hx hb dX5_fieldOf_9 (by decide +kernel) (zti (v := zi ((zFo X k : Nat) : Int)) (zi_div (a := (X 63 k).toNat) (b := 256) (by omega) (by omega) (by omega)) ?_)
  exact zend_i hx hb hr hlocks hP hD hS (Nat.le_of_ble_eq_true rfl) (Nat.le_of_ble_eq_true rfl) dX5_fieldOf_10 ⟨_, rfl, rfl, rfl⟩

set_option maxHeartbeats 4000000 in
set_option maxRecDepth 100000 in
/-- setOf -/
theorem c_X5_setOf (l : Launch) (G : zG) (ad : Nat → Nat) (X : Nat → Nat → Int) (k : Nat) (hTv : zTv X X) (hk : (k : Int) < X 61 5) : zR l G yX5_setOf wsX5_setOf { frames := 0, cells := 0, slots := 0, locals := 0 } (zpic G ad X) [.ref (ad 61), .int (zi (k : Int))] (zq G ad X (fun w => w = (zSo X k : Int))) 0 0 := by
  refine zR_of (cc := cX5_setOf) (maxL := 2) (rt := (some .int)) (by decide) rfl (Nat.le_of_ble_eq_true rfl) ?_
  intro p e s m below meth c A ls hx hb hml hr hts hown hlocks hin0 hA hE hP hD hS hl
  have hl : lv_has ls 2 [(0, .ref (ad 61)), (1, .int (zi (k : Int)))] := hl
  have hown : s.vm.findClass RX5 = some m.cls := hown
  have hnd := hTv.node hk
  have hw5 : ∀ w ∈ u_ws RX5 TX5 7, w ∈ wsX5_setOf := by decide +kernel
  have hf15 := hts (.fieldLink RX5 15 "Nettle$Tree" "codes" "[I") (by decide +kernel)
  refine lv_aload_n hx hb dX5_setOf_0 rfl (lv_at hl 0 rfl) ?_
  refine va_get (D := G.1) (ci := 5) (v := .ref (ad 63)) (C := RX5) (T := TX5) (N := 7) hx hb hts hw5 hown hE.1 hP 61 p_61 rfl 3 (by decide) hf15 (fun _ h9 => h9) rfl dX5_setOf_1 ?_
  refine lv_iload_n hx hb dX5_setOf_4 rfl (lv_at hl 1 rfl) ?_
  refine zild hx hb hE hP 63 1024 (fun _ => rfl) (by decide) k rfl (by omega) (by decide) dX5_setOf_5 ?_
  refine zti (v := zi ((X 63 k).toNat : Int)) (congrArg zi hnd.1) ?_
  refine lv_sipush (v := zi 256) hx hb dX5_setOf_6 (by decide +kernel) ?_
  refine lv_irem hx hb dX5_setOf_9 (by decide +kernel) (zti (v := zi ((zSo X k : Nat) : Int)) (zi_rem (a := (X 63 k).toNat) (b := 256) (by omega) (by omega) (by omega)) ?_)
  exact zend_i hx hb hr hlocks hP hD hS (Nat.le_of_ble_eq_true rfl) (Nat.le_of_ble_eq_true rfl) dX5_setOf_10 ⟨_, rfl, rfl, rfl⟩

set_option maxHeartbeats 4000000 in
set_option maxRecDepth 100000 in
/-- pieceCount -/
theorem c_X5_pieceCount (l : Launch) (G : zG) (ad : Nat → Nat) (X : Nat → Nat → Int) (k : Nat) (hV : zV X) (hCs : zCs X) (hTv : zTv X X) (hk : (k : Int) < X 61 5) : zR l G yX5_pieceCount wsX5_pieceCount { frames := 2, cells := 0, slots := 0, locals := 45 } (zpic G ad X) [.ref (ad 61), .int (zi (k : Int))] (zq G ad X (fun w => w = (zNr X (zFo X k) (zSo X k) (zCn X (zFo X k)) : Int))) 0 0 := by
  refine zR_of (cc := cX5_pieceCount) (maxL := 4) (rt := (some .int)) (by decide) rfl (Nat.le_of_ble_eq_true rfl) ?_
  intro p e s m below meth c A ls hx hb hml hr hts hown hlocks hin0 hA hE hP hD hS hl
  have hl : lv_has ls 4 [(0, .ref (ad 61)), (1, .int (zi (k : Int)))] := hl
  have hown : s.vm.findClass RX5 = some m.cls := hown
  have hnd := hTv.node hk
  have hcn := hCs.n hnd.2.2.1
  have hw5 : ∀ w ∈ u_ws RX5 TX5 7, w ∈ wsX5_pieceCount := by decide +kernel
  have hf25 := hts (.fieldLink RX5 25 "Nettle$Tree" "cuts" "LNettle$Cuts;") (by decide +kernel)
  have hw1 : ∀ w ∈ u_ws RX1 TX1 6, w ∈ wsX5_pieceCount := by decide +kernel
  have hf58 := hts (.fieldLink RX5 58 "Nettle$Cuts" "counts" "[I") (by decide +kernel)
  refine lv_iconst (v := zi 0) hx hb dX5_pieceCount_0 rfl ?_
  refine lv_istore_n (lv' := [(2, .int (zi 0)), (0, .ref (ad 61)), (1, .int (zi (k : Int)))]) hx hb dX5_pieceCount_1 rfl hl (by decide) rfl (fun ls hl => ?_)
  refine lv_iconst (v := zi 0) hx hb dX5_pieceCount_2 rfl ?_
  refine lv_istore_n (lv' := [(3, .int (zi 0)), (2, .int (zi 0)), (0, .ref (ad 61)), (1, .int (zi (k : Int)))]) hx hb dX5_pieceCount_3 rfl hl (by decide) rfl (fun ls hl => ?_)
  refine zloop2 (fun (j : Nat) (p : Int) => 33 - j) (fun (j : Nat) (p : Int) (H : Heap) (locs : List Loc) (ls : Array Slot) => va_P G.1 vwCl (zpic G ad X) H ∧ va_D A (zpic G ad X) ∧ va_S A s.heap H locs ∧ lv_has ls 4 [(3, .int (zi (j : Int))), (2, .int (zi p)), (1, .int (zi (k : Int))), (0, .ref (ad 61))] ∧ (j ≤ zCn X (zFo X k)) ∧ (p = (zNr X (zFo X k) (zSo X k) j : Int))) ?_ 0 0 ⟨hP, hD, hS, lv_sub hl [0, 1, 3, 2] rfl, (Nat.zero_le _), rfl⟩
  intro j p ih H locs ls ⟨hP, hD, hS, hl, hj, hp⟩
  refine lv_iload_n hx hb dX5_pieceCount_4 rfl (lv_at hl 0 rfl) ?_
  refine lv_aload_n hx hb dX5_pieceCount_5 rfl (lv_at hl 3 rfl) ?_
  refine va_get (D := G.1) (ci := 5) (v := .ref (ad 57)) (C := RX5) (T := TX5) (N := 7) hx hb hts hw5 hown hE.1 hP 61 p_61 rfl 1 (by decide) hf25 (fun _ h9 => h9) rfl dX5_pieceCount_6 ?_
  refine va_get (D := G.1) (ci := 1) (v := .ref (ad 58)) (C := RX1) (T := TX1) (N := 6) hx hb hts hw1 hown hE.1 hP 57 p_57 rfl 2 (by decide) hf58 (fun _ h9 => h9) rfl dX5_pieceCount_9 ?_
  refine lv_aload_n hx hb dX5_pieceCount_12 rfl (lv_at hl 3 rfl) ?_
  refine lv_iload_n hx hb dX5_pieceCount_13 rfl (lv_at hl 2 rfl) ?_
  refine zcall (wr := []) (va_runV (As := [.int (zi (k : Int))]) (rest := [.ref (ad 58), .int (zi (j : Int))]) ⟨hx, hb, hml, hown, hts⟩ (c_X5_fieldOf l G ad X k (by omega) (by omega) H.size) (cwV 1 hts gX5_pieceCount_X5_fieldOf rfl rfl rfl (by decide +kernel) ⟨Nat.le_of_ble_eq_true rfl, Nat.le_of_ble_eq_true rfl⟩) (zPreV (wr := []) (wc := zpic G ad X) (q0 := 61) (ci := 5) (q := (RX5, TX5, 7)) hP hD hE hS hA rfl p_61) rfl rfl hl.1 rfl (lv_room (Nat.le_of_ble_eq_true rfl)) dX5_pieceCount_14 ⟨Nat.le_of_ble_eq_true rfl, Nat.le_of_ble_eq_true rfl⟩) hP hD hS hA (fun _ _ H locs hf hP hD hS => ?_)
  obtain ⟨v1, rfl, hv1, rfl⟩ := hf
  have hP : va_P G.1 vwCl (zpic G ad X) H := hP
  have hD : va_D A (zpic G ad X) := hD
  refine W.eq (g2 := F0 m 17 ls [.int (zi v1), .ref (ad 58), .int (zi (j : Int))]) rfl ?_
  rw [hv1]
  refine zild hx hb hE hP 58 4 (fun _ => rfl) (by decide) (zFo X k) rfl (by omega) (by decide) dX5_pieceCount_17 ?_
  refine zc_ge (tgt := 51) hx hb dX5_pieceCount_18 (by decide) (by omega) (by omega) (fun h18 => ?_) (fun h18 => ?_)
  · refine lv_iload_n hx hb dX5_pieceCount_51 rfl (lv_at hl 1 rfl) ?_
    exact zend_i hx hb hr hlocks hP hD hS (Nat.le_of_ble_eq_true rfl) (Nat.le_of_ble_eq_true rfl) dX5_pieceCount_52 ⟨_, rfl, (by have hjn : j = zCn X (zFo X k) := (by omega); rw [hp, hjn]), rfl⟩
  · refine lv_aload_n hx hb dX5_pieceCount_21 rfl (lv_at hl 3 rfl) ?_
    refine va_get (D := G.1) (ci := 5) (v := .ref (ad 57)) (C := RX5) (T := TX5) (N := 7) hx hb hts hw5 hown hE.1 hP 61 p_61 rfl 1 (by decide) hf25 (fun _ h9 => h9) rfl dX5_pieceCount_22 ?_
    refine lv_aload_n hx hb dX5_pieceCount_25 rfl (lv_at hl 3 rfl) ?_
    refine lv_iload_n hx hb dX5_pieceCount_26 rfl (lv_at hl 2 rfl) ?_
    refine zcall (wr := []) (va_runV (As := [.int (zi (k : Int))]) (rest := [.ref (ad 57)]) ⟨hx, hb, hml, hown, hts⟩ (c_X5_fieldOf l G ad X k (by omega) (by omega) H.size) (cwV 1 hts gX5_pieceCount_X5_fieldOf rfl rfl rfl (by decide +kernel) ⟨Nat.le_of_ble_eq_true rfl, Nat.le_of_ble_eq_true rfl⟩) (zPreV (wr := []) (wc := zpic G ad X) (q0 := 61) (ci := 5) (q := (RX5, TX5, 7)) hP hD hE hS hA rfl p_61) rfl rfl hl.1 rfl (lv_room (Nat.le_of_ble_eq_true rfl)) dX5_pieceCount_27 ⟨Nat.le_of_ble_eq_true rfl, Nat.le_of_ble_eq_true rfl⟩) hP hD hS hA (fun _ _ H locs hf hP hD hS => ?_)
    obtain ⟨v2, rfl, hv2, rfl⟩ := hf
    have hP : va_P G.1 vwCl (zpic G ad X) H := hP
    have hD : va_D A (zpic G ad X) := hD
    refine W.eq (g2 := F0 m 30 ls [.int (zi v2), .ref (ad 57)]) rfl ?_
    rw [hv2]
    refine lv_iload_n hx hb dX5_pieceCount_30 rfl (lv_at hl 0 rfl) ?_
    refine lv_aload_n hx hb dX5_pieceCount_31 rfl (lv_at hl 3 rfl) ?_
    refine lv_iload_n hx hb dX5_pieceCount_32 rfl (lv_at hl 2 rfl) ?_
    refine zcall (wr := []) (va_runV (As := [.int (zi (k : Int))]) (rest := [.int (zi (j : Int)), .int (zi (zFo X k : Int)), .ref (ad 57)]) ⟨hx, hb, hml, hown, hts⟩ (c_X5_setOf l G ad X k (by omega) (by omega) H.size) (cwV 1 hts gX5_pieceCount_X5_setOf rfl rfl rfl (by decide +kernel) ⟨Nat.le_of_ble_eq_true rfl, Nat.le_of_ble_eq_true rfl⟩) (zPreV (wr := []) (wc := zpic G ad X) (q0 := 61) (ci := 5) (q := (RX5, TX5, 7)) hP hD hE hS hA rfl p_61) rfl rfl hl.1 rfl (lv_room (Nat.le_of_ble_eq_true rfl)) dX5_pieceCount_33 ⟨Nat.le_of_ble_eq_true rfl, Nat.le_of_ble_eq_true rfl⟩) hP hD hS hA (fun _ _ H locs hf hP hD hS => ?_)
    obtain ⟨v3, rfl, hv3, rfl⟩ := hf
    have hP : va_P G.1 vwCl (zpic G ad X) H := hP
    have hD : va_D A (zpic G ad X) := hD
    refine W.eq (g2 := F0 m 36 ls [.int (zi v3), .int (zi (j : Int)), .int (zi (zFo X k : Int)), .ref (ad 57)]) rfl ?_
    rw [hv3]
    refine zcall (wr := []) (va_runV (As := [.int (zi (zFo X k : Int)), .int (zi (j : Int)), .int (zi (zSo X k : Int))]) (rest := []) ⟨hx, hb, hml, hown, hts⟩ (c_X1_startsRun l G ad X (zFo X k) j (zSo X k) hV (by omega) (by omega) (by omega) (by omega) H.size) (cwV 3 hts gX5_pieceCount_X1_startsRun rfl rfl rfl (by decide +kernel) ⟨Nat.le_of_ble_eq_true rfl, Nat.le_of_ble_eq_true rfl⟩) (zPreV (wr := []) (wc := zpic G ad X) (q0 := 57) (ci := 1) (q := (RX1, TX1, 6)) hP hD hE hS hA rfl p_57) rfl rfl hl.1 rfl (lv_room (Nat.le_of_ble_eq_true rfl)) dX5_pieceCount_36 ⟨Nat.le_of_ble_eq_true rfl, Nat.le_of_ble_eq_true rfl⟩) hP hD hS hA (fun _ _ H locs hf hP hD hS => ?_)
    obtain ⟨v4, rfl, hv4, rfl⟩ := hf
    have hP : va_P G.1 vwCl (zpic G ad X) H := hP
    have hD : va_D A (zpic G ad X) := hD
    refine W.eq (g2 := F0 m 39 ls [.int (zi v4)]) rfl ?_
    refine z0_eq (tgt := 45) hx hb dX5_pieceCount_39 (by decide) (by omega) (fun h39 => ?_) (fun h39 => ?_)
    · refine lv_iinc (v := zi ((j : Int) + 1)) (lv' := [(3, .int (zi ((j : Int) + 1))), (2, .int (zi p)), (1, .int (zi (k : Int))), (0, .ref (ad 61))]) hx hb dX5_pieceCount_45 hl (k := 0) rfl (zi_add _ _) (by decide) rfl (fun ls hl => ?_)
      refine lv_goto (tgt := 4) hx hb dX5_pieceCount_48 (by decide) ?_
      exact ih (j + 1) p (by omega) H locs ls ⟨hP, hD, hS, lv_sub hl [0, 1, 2, 3] rfl, (by omega), (by rw [zNr_no (by rcases hv4 with h | h; omega; exact h.2)]; exact hp)⟩
    · refine lv_iinc (v := zi (p + 1)) (lv' := [(2, .int (zi (p + 1))), (3, .int (zi (j : Int))), (1, .int (zi (k : Int))), (0, .ref (ad 61))]) hx hb dX5_pieceCount_42 hl (k := 1) rfl (zi_add _ _) (by decide) rfl (fun ls hl => ?_)
      refine lv_iinc (v := zi ((j : Int) + 1)) (lv' := [(3, .int (zi ((j : Int) + 1))), (2, .int (zi (p + 1))), (1, .int (zi (k : Int))), (0, .ref (ad 61))]) hx hb dX5_pieceCount_45 hl (k := 1) rfl (zi_add _ _) (by decide) rfl (fun ls hl => ?_)
      refine lv_goto (tgt := 4) hx hb dX5_pieceCount_48 (by decide) ?_
      exact ih (j + 1) (p + 1) (by omega) H locs ls ⟨hP, hD, hS, lv_sub hl [0, 1, 2, 3] rfl, (by omega), (by rw [zNr_yes (by rcases hv4 with h | h; exact h.2; omega), hp]; rfl)⟩

set_option maxHeartbeats 4000000 in
set_option maxRecDepth 100000 in
/-- segmentOf -/
theorem c_X5_segmentOf (l : Launch) (G : zG) (ad : Nat → Nat) (X : Nat → Nat → Int) (k : Nat) (q : Nat) (hV : zV X) (hCs : zCs X) (hTv : zTv X X) (hk : (k : Int) < X 61 5) (hq : q < 2147483648) : zR l G yX5_segmentOf wsX5_segmentOf { frames := 2, cells := 0, slots := 0, locals := 45 } (zpic G ad X) [.ref (ad 61), .int (zi (k : Int)), .int (zi (q : Int))] (zq G ad X (fun w => (∃ j : Nat, w = (j : Int) ∧ zSg X (zFo X k) (zSo X k) q j) ∨ (w = -1 ∧ zNr X (zFo X k) (zSo X k) (zCn X (zFo X k)) ≤ q))) 0 0 := by
  refine zR_of (cc := cX5_segmentOf) (maxL := 5) (rt := (some .int)) (by decide) rfl (Nat.le_of_ble_eq_true rfl) ?_
  intro p e s m below meth c A ls hx hb hml hr hts hown hlocks hin0 hA hE hP hD hS hl
  have hl : lv_has ls 5 [(0, .ref (ad 61)), (1, .int (zi (k : Int))), (2, .int (zi (q : Int)))] := hl
  have hown : s.vm.findClass RX5 = some m.cls := hown
  have hnd := hTv.node hk
  have hcn := hCs.n hnd.2.2.1
  have hw5 : ∀ w ∈ u_ws RX5 TX5 7, w ∈ wsX5_segmentOf := by decide +kernel
  have hf25 := hts (.fieldLink RX5 25 "Nettle$Tree" "cuts" "LNettle$Cuts;") (by decide +kernel)
  have hw1 : ∀ w ∈ u_ws RX1 TX1 6, w ∈ wsX5_segmentOf := by decide +kernel
  have hf58 := hts (.fieldLink RX5 58 "Nettle$Cuts" "counts" "[I") (by decide +kernel)
  refine lv_iconst (v := zi 0) hx hb dX5_segmentOf_0 rfl ?_
  refine lv_istore_n (lv' := [(3, .int (zi 0)), (0, .ref (ad 61)), (1, .int (zi (k : Int))), (2, .int (zi (q : Int)))]) hx hb dX5_segmentOf_1 rfl hl (by decide) rfl (fun ls hl => ?_)
  refine lv_iconst (v := zi 0) hx hb dX5_segmentOf_2 rfl ?_
  refine lv_istore (lv' := [(4, .int (zi 0)), (3, .int (zi 0)), (0, .ref (ad 61)), (1, .int (zi (k : Int))), (2, .int (zi (q : Int)))]) hx hb dX5_segmentOf_3 hl (by decide) rfl (fun ls hl => ?_)
  refine zloop2 (fun (j : Nat) (p : Nat) => 33 - j) (fun (j : Nat) (p : Nat) (H : Heap) (locs : List Loc) (ls : Array Slot) => va_P G.1 vwCl (zpic G ad X) H ∧ va_D A (zpic G ad X) ∧ va_S A s.heap H locs ∧ lv_has ls 5 [(4, .int (zi (j : Int))), (3, .int (zi (p : Int))), (2, .int (zi (q : Int))), (1, .int (zi (k : Int))), (0, .ref (ad 61))] ∧ (j ≤ zCn X (zFo X k)) ∧ (p = zNr X (zFo X k) (zSo X k) j ∧ p ≤ q)) ?_ 0 0 ⟨hP, hD, hS, lv_sub hl [0, 1, 4, 3, 2] rfl, (Nat.zero_le _), ⟨rfl, Nat.zero_le _⟩⟩
  intro j p ih H locs ls ⟨hP, hD, hS, hl, hj, hp⟩
  refine lv_iload hx hb dX5_segmentOf_5 (lv_at hl 0 rfl) ?_
  refine lv_aload_n hx hb dX5_segmentOf_7 rfl (lv_at hl 4 rfl) ?_
  refine va_get (D := G.1) (ci := 5) (v := .ref (ad 57)) (C := RX5) (T := TX5) (N := 7) hx hb hts hw5 hown hE.1 hP 61 p_61 rfl 1 (by decide) hf25 (fun _ h9 => h9) rfl dX5_segmentOf_8 ?_
  refine va_get (D := G.1) (ci := 1) (v := .ref (ad 58)) (C := RX1) (T := TX1) (N := 6) hx hb hts hw1 hown hE.1 hP 57 p_57 rfl 2 (by decide) hf58 (fun _ h9 => h9) rfl dX5_segmentOf_11 ?_
  refine lv_aload_n hx hb dX5_segmentOf_14 rfl (lv_at hl 4 rfl) ?_
  refine lv_iload_n hx hb dX5_segmentOf_15 rfl (lv_at hl 3 rfl) ?_
  refine zcall (wr := []) (va_runV (As := [.int (zi (k : Int))]) (rest := [.ref (ad 58), .int (zi (j : Int))]) ⟨hx, hb, hml, hown, hts⟩ (c_X5_fieldOf l G ad X k (by omega) (by omega) H.size) (cwV 1 hts gX5_segmentOf_X5_fieldOf rfl rfl rfl (by decide +kernel) ⟨Nat.le_of_ble_eq_true rfl, Nat.le_of_ble_eq_true rfl⟩) (zPreV (wr := []) (wc := zpic G ad X) (q0 := 61) (ci := 5) (q := (RX5, TX5, 7)) hP hD hE hS hA rfl p_61) rfl rfl hl.1 rfl (lv_room (Nat.le_of_ble_eq_true rfl)) dX5_segmentOf_16 ⟨Nat.le_of_ble_eq_true rfl, Nat.le_of_ble_eq_true rfl⟩) hP hD hS hA (fun _ _ H locs hf hP hD hS => ?_)
  obtain ⟨v1, rfl, hv1, rfl⟩ := hf
  have hP : va_P G.1 vwCl (zpic G ad X) H := hP
  have hD : va_D A (zpic G ad X) := hD
  refine W.eq (g2 := F0 m 19 ls [.int (zi v1), .ref (ad 58), .int (zi (j : Int))]) rfl ?_
  rw [hv1]
  refine zild hx hb hE hP 58 4 (fun _ => rfl) (by decide) (zFo X k) rfl (by omega) (by decide) dX5_segmentOf_19 ?_
  refine zc_ge (tgt := 62) hx hb dX5_segmentOf_20 (by decide) (by omega) (by omega) (fun h20 => ?_) (fun h20 => ?_)
  · refine lv_iconst (v := zi (-1)) hx hb dX5_segmentOf_62 rfl ?_
    exact zend_i hx hb hr hlocks hP hD hS (Nat.le_of_ble_eq_true rfl) (Nat.le_of_ble_eq_true rfl) dX5_segmentOf_63 ⟨_, rfl, (Or.inr ⟨rfl, by have hjn : j = zCn X (zFo X k) := (by omega); rw [← hjn, ← hp.1]; exact hp.2⟩), rfl⟩
  · have hpj := zNr_le X (zFo X k) (zSo X k) j
    refine lv_aload_n hx hb dX5_segmentOf_23 rfl (lv_at hl 4 rfl) ?_
    refine va_get (D := G.1) (ci := 5) (v := .ref (ad 57)) (C := RX5) (T := TX5) (N := 7) hx hb hts hw5 hown hE.1 hP 61 p_61 rfl 1 (by decide) hf25 (fun _ h9 => h9) rfl dX5_segmentOf_24 ?_
    refine lv_aload_n hx hb dX5_segmentOf_27 rfl (lv_at hl 4 rfl) ?_
    refine lv_iload_n hx hb dX5_segmentOf_28 rfl (lv_at hl 3 rfl) ?_
    refine zcall (wr := []) (va_runV (As := [.int (zi (k : Int))]) (rest := [.ref (ad 57)]) ⟨hx, hb, hml, hown, hts⟩ (c_X5_fieldOf l G ad X k (by omega) (by omega) H.size) (cwV 1 hts gX5_segmentOf_X5_fieldOf rfl rfl rfl (by decide +kernel) ⟨Nat.le_of_ble_eq_true rfl, Nat.le_of_ble_eq_true rfl⟩) (zPreV (wr := []) (wc := zpic G ad X) (q0 := 61) (ci := 5) (q := (RX5, TX5, 7)) hP hD hE hS hA rfl p_61) rfl rfl hl.1 rfl (lv_room (Nat.le_of_ble_eq_true rfl)) dX5_segmentOf_29 ⟨Nat.le_of_ble_eq_true rfl, Nat.le_of_ble_eq_true rfl⟩) hP hD hS hA (fun _ _ H locs hf hP hD hS => ?_)
    obtain ⟨v2, rfl, hv2, rfl⟩ := hf
    have hP : va_P G.1 vwCl (zpic G ad X) H := hP
    have hD : va_D A (zpic G ad X) := hD
    refine W.eq (g2 := F0 m 32 ls [.int (zi v2), .ref (ad 57)]) rfl ?_
    rw [hv2]
    refine lv_iload hx hb dX5_segmentOf_32 (lv_at hl 0 rfl) ?_
    refine lv_aload_n hx hb dX5_segmentOf_34 rfl (lv_at hl 4 rfl) ?_
    refine lv_iload_n hx hb dX5_segmentOf_35 rfl (lv_at hl 3 rfl) ?_
    refine zcall (wr := []) (va_runV (As := [.int (zi (k : Int))]) (rest := [.int (zi (j : Int)), .int (zi (zFo X k : Int)), .ref (ad 57)]) ⟨hx, hb, hml, hown, hts⟩ (c_X5_setOf l G ad X k (by omega) (by omega) H.size) (cwV 1 hts gX5_segmentOf_X5_setOf rfl rfl rfl (by decide +kernel) ⟨Nat.le_of_ble_eq_true rfl, Nat.le_of_ble_eq_true rfl⟩) (zPreV (wr := []) (wc := zpic G ad X) (q0 := 61) (ci := 5) (q := (RX5, TX5, 7)) hP hD hE hS hA rfl p_61) rfl rfl hl.1 rfl (lv_room (Nat.le_of_ble_eq_true rfl)) dX5_segmentOf_36 ⟨Nat.le_of_ble_eq_true rfl, Nat.le_of_ble_eq_true rfl⟩) hP hD hS hA (fun _ _ H locs hf hP hD hS => ?_)
    obtain ⟨v3, rfl, hv3, rfl⟩ := hf
    have hP : va_P G.1 vwCl (zpic G ad X) H := hP
    have hD : va_D A (zpic G ad X) := hD
    refine W.eq (g2 := F0 m 39 ls [.int (zi v3), .int (zi (j : Int)), .int (zi (zFo X k : Int)), .ref (ad 57)]) rfl ?_
    rw [hv3]
    refine zcall (wr := []) (va_runV (As := [.int (zi (zFo X k : Int)), .int (zi (j : Int)), .int (zi (zSo X k : Int))]) (rest := []) ⟨hx, hb, hml, hown, hts⟩ (c_X1_startsRun l G ad X (zFo X k) j (zSo X k) hV (by omega) (by omega) (by omega) (by omega) H.size) (cwV 3 hts gX5_segmentOf_X1_startsRun rfl rfl rfl (by decide +kernel) ⟨Nat.le_of_ble_eq_true rfl, Nat.le_of_ble_eq_true rfl⟩) (zPreV (wr := []) (wc := zpic G ad X) (q0 := 57) (ci := 1) (q := (RX1, TX1, 6)) hP hD hE hS hA rfl p_57) rfl rfl hl.1 rfl (lv_room (Nat.le_of_ble_eq_true rfl)) dX5_segmentOf_39 ⟨Nat.le_of_ble_eq_true rfl, Nat.le_of_ble_eq_true rfl⟩) hP hD hS hA (fun _ _ H locs hf hP hD hS => ?_)
    obtain ⟨v4, rfl, hv4, rfl⟩ := hf
    have hP : va_P G.1 vwCl (zpic G ad X) H := hP
    have hD : va_D A (zpic G ad X) := hD
    refine W.eq (g2 := F0 m 42 ls [.int (zi v4)]) rfl ?_
    refine z0_eq (tgt := 56) hx hb dX5_segmentOf_42 (by decide) (by omega) (fun h42 => ?_) (fun h42 => ?_)
    · refine lv_iinc (v := zi ((j : Int) + 1)) (lv' := [(4, .int (zi ((j : Int) + 1))), (3, .int (zi (p : Int))), (2, .int (zi (q : Int))), (1, .int (zi (k : Int))), (0, .ref (ad 61))]) hx hb dX5_segmentOf_56 hl (k := 0) rfl (zi_add _ _) (by decide) rfl (fun ls hl => ?_)
      refine lv_goto (tgt := 5) hx hb dX5_segmentOf_59 (by decide) ?_
      exact ih (j + 1) p (by omega) H locs ls ⟨hP, hD, hS, lv_sub hl [0, 1, 2, 3, 4] rfl, (by omega), (by rw [zNr_no (by rcases hv4 with h | h; omega; exact h.2)]; exact hp)⟩
    · refine lv_iload_n hx hb dX5_segmentOf_45 rfl (lv_at hl 1 rfl) ?_
      refine lv_iload_n hx hb dX5_segmentOf_46 rfl (lv_at hl 2 rfl) ?_
      refine zc_ne (tgt := 53) hx hb dX5_segmentOf_47 (by decide) (by omega) (by omega) (fun h47 => ?_) (fun h47 => ?_)
      · refine lv_iinc (v := zi ((p : Int) + 1)) (lv' := [(3, .int (zi ((p : Int) + 1))), (4, .int (zi (j : Int))), (2, .int (zi (q : Int))), (1, .int (zi (k : Int))), (0, .ref (ad 61))]) hx hb dX5_segmentOf_53 hl (k := 1) rfl (zi_add _ _) (by decide) rfl (fun ls hl => ?_)
        refine lv_iinc (v := zi ((j : Int) + 1)) (lv' := [(4, .int (zi ((j : Int) + 1))), (3, .int (zi ((p : Int) + 1))), (2, .int (zi (q : Int))), (1, .int (zi (k : Int))), (0, .ref (ad 61))]) hx hb dX5_segmentOf_56 hl (k := 1) rfl (zi_add _ _) (by decide) rfl (fun ls hl => ?_)
        refine lv_goto (tgt := 5) hx hb dX5_segmentOf_59 (by decide) ?_
        exact ih (j + 1) (p + 1) (by omega) H locs ls ⟨hP, hD, hS, lv_sub hl [0, 1, 2, 3, 4] rfl, (by omega), (by rw [zNr_yes (by rcases hv4 with h | h; exact h.2; omega), hp.1]; omega)⟩
      · refine lv_iload hx hb dX5_segmentOf_50 (lv_at hl 0 rfl) ?_
        exact zend_i hx hb hr hlocks hP hD hS (Nat.le_of_ble_eq_true rfl) (Nat.le_of_ble_eq_true rfl) dX5_segmentOf_52 ⟨_, rfl, (Or.inl ⟨j, rfl, by omega, by rcases hv4 with h | h; exact h.2; omega, by omega⟩), rfl⟩

set_option maxHeartbeats 4000000 in
set_option maxRecDepth 100000 in
/-- leadOf -/
theorem c_X5_leadOf (l : Launch) (G : zG) (ad : Nat → Nat) (X : Nat → Nat → Int) (k : Nat) (j : Nat) (hV : zV X) (hCs : zCs X) (hTv : zTv X X) (hk : (k : Int) < X 61 5) (hj : j < zCn X (zFo X k)) : zR l G yX5_leadOf wsX5_leadOf { frames := 3, cells := 0, slots := 0, locals := 73 } (zpic G ad X) [.ref (ad 61), .int (zi (k : Int)), .int (zi (j : Int))] (zq G ad X (fun w => zLd X (zFo X k + 1) (zSo X k &&& zMa X (zFo X k) j) w)) 0 0 := by
  refine zR_of (cc := cX5_leadOf) (maxL := 4) (rt := (some .int)) (by decide) rfl (Nat.le_of_ble_eq_true rfl) ?_
  intro p e s m below meth c A ls hx hb hml hr hts hown hlocks hin0 hA hE hP hD hS hl
  have hl : lv_has ls 4 [(0, .ref (ad 61)), (1, .int (zi (k : Int))), (2, .int (zi (j : Int)))] := hl
  have hown : s.vm.findClass RX5 = some m.cls := hown
  have hnd := hTv.node hk
  have hcn := hCs.n hnd.2.2.1
  have hw5 : ∀ w ∈ u_ws RX5 TX5 7, w ∈ wsX5_leadOf := by decide +kernel
  have hf25 := hts (.fieldLink RX5 25 "Nettle$Tree" "cuts" "LNettle$Cuts;") (by decide +kernel)
  refine lv_aload_n hx hb dX5_leadOf_0 rfl (lv_at hl 0 rfl) ?_
  refine lv_iload_n hx hb dX5_leadOf_1 rfl (lv_at hl 1 rfl) ?_
  refine zcall (wr := []) (va_runV (As := [.int (zi (k : Int))]) (rest := []) ⟨hx, hb, hml, hown, hts⟩ (c_X5_fieldOf l G ad X k (by omega) (by omega) s.heap.size) (cwV 1 hts gX5_leadOf_X5_fieldOf rfl rfl rfl (by decide +kernel) ⟨Nat.le_of_ble_eq_true rfl, Nat.le_of_ble_eq_true rfl⟩) (zPreV (wr := []) (wc := zpic G ad X) (q0 := 61) (ci := 5) (q := (RX5, TX5, 7)) hP hD hE hS hA rfl p_61) rfl rfl hl.1 rfl (lv_room (Nat.le_of_ble_eq_true rfl)) dX5_leadOf_2 ⟨Nat.le_of_ble_eq_true rfl, Nat.le_of_ble_eq_true rfl⟩) hP hD hS hA (fun _ _ H locs hf hP hD hS => ?_)
  obtain ⟨v1, rfl, hv1, rfl⟩ := hf
  have hP : va_P G.1 vwCl (zpic G ad X) H := hP
  have hD : va_D A (zpic G ad X) := hD
  refine W.eq (g2 := F0 m 5 ls [.int (zi v1)]) rfl ?_
  rw [hv1]
  refine lv_istore_n (lv' := [(3, .int (zi (zFo X k : Int))), (0, .ref (ad 61)), (1, .int (zi (k : Int))), (2, .int (zi (j : Int)))]) hx hb dX5_leadOf_5 rfl hl (by decide) rfl (fun ls hl => ?_)
  refine lv_aload_n hx hb dX5_leadOf_6 rfl (lv_at hl 1 rfl) ?_
  refine lv_iload_n hx hb dX5_leadOf_7 rfl (lv_at hl 0 rfl) ?_
  refine lv_iconst (v := zi 1) hx hb dX5_leadOf_8 rfl ?_
  refine lv_iadd hx hb dX5_leadOf_9 (zti (v := zi ((zFo X k : Int) + 1)) (zi_add _ _) ?_)
  refine lv_aload_n hx hb dX5_leadOf_10 rfl (lv_at hl 1 rfl) ?_
  refine lv_iload_n hx hb dX5_leadOf_11 rfl (lv_at hl 2 rfl) ?_
  refine zcall (wr := []) (va_runV (As := [.int (zi (k : Int))]) (rest := [.int (zi ((zFo X k : Int) + 1)), .ref (ad 61)]) ⟨hx, hb, hml, hown, hts⟩ (c_X5_setOf l G ad X k (by omega) (by omega) H.size) (cwV 1 hts gX5_leadOf_X5_setOf rfl rfl rfl (by decide +kernel) ⟨Nat.le_of_ble_eq_true rfl, Nat.le_of_ble_eq_true rfl⟩) (zPreV (wr := []) (wc := zpic G ad X) (q0 := 61) (ci := 5) (q := (RX5, TX5, 7)) hP hD hE hS hA rfl p_61) rfl rfl hl.1 rfl (lv_room (Nat.le_of_ble_eq_true rfl)) dX5_leadOf_12 ⟨Nat.le_of_ble_eq_true rfl, Nat.le_of_ble_eq_true rfl⟩) hP hD hS hA (fun _ _ H locs hf hP hD hS => ?_)
  obtain ⟨v2, rfl, hv2, rfl⟩ := hf
  have hP : va_P G.1 vwCl (zpic G ad X) H := hP
  have hD : va_D A (zpic G ad X) := hD
  refine W.eq (g2 := F0 m 15 ls [.int (zi v2), .int (zi ((zFo X k : Int) + 1)), .ref (ad 61)]) rfl ?_
  rw [hv2]
  refine lv_aload_n hx hb dX5_leadOf_15 rfl (lv_at hl 1 rfl) ?_
  refine va_get (D := G.1) (ci := 5) (v := .ref (ad 57)) (C := RX5) (T := TX5) (N := 7) hx hb hts hw5 hown hE.1 hP 61 p_61 rfl 1 (by decide) hf25 (fun _ h9 => h9) rfl dX5_leadOf_16 ?_
  refine lv_iload_n hx hb dX5_leadOf_19 rfl (lv_at hl 0 rfl) ?_
  refine lv_iload_n hx hb dX5_leadOf_20 rfl (lv_at hl 3 rfl) ?_
  refine zcall (wr := []) (va_runV (As := [.int (zi (zFo X k : Int)), .int (zi (j : Int))]) (rest := [.int (zi (zSo X k : Int)), .int (zi ((zFo X k : Int) + 1)), .ref (ad 61)]) ⟨hx, hb, hml, hown, hts⟩ (c_X1_mask l G ad X (zFo X k) j (by omega) (by omega) (by omega) H.size) (cwV 2 hts gX5_leadOf_X1_mask rfl rfl rfl (by decide +kernel) ⟨Nat.le_of_ble_eq_true rfl, Nat.le_of_ble_eq_true rfl⟩) (zPreV (wr := []) (wc := zpic G ad X) (q0 := 57) (ci := 1) (q := (RX1, TX1, 6)) hP hD hE hS hA rfl p_57) rfl rfl hl.1 rfl (lv_room (Nat.le_of_ble_eq_true rfl)) dX5_leadOf_21 ⟨Nat.le_of_ble_eq_true rfl, Nat.le_of_ble_eq_true rfl⟩) hP hD hS hA (fun _ _ H locs hf hP hD hS => ?_)
  obtain ⟨v3, rfl, hv3, rfl⟩ := hf
  have hP : va_P G.1 vwCl (zpic G ad X) H := hP
  have hD : va_D A (zpic G ad X) := hD
  refine W.eq (g2 := F0 m 24 ls [.int (zi v3), .int (zi (zSo X k : Int)), .int (zi ((zFo X k : Int) + 1)), .ref (ad 61)]) rfl ?_
  rw [hv3]
  have hau : (zSo X k &&& zMa X (zFo X k) j) ≤ zSo X k := Nat.and_le_left
  refine lv_iand hx hb dX5_leadOf_24 (zti (v := zi ((zSo X k &&& zMa X (zFo X k) j : Nat) : Int)) (zi_and _ _) ?_)
  refine zcall (wr := []) (va_runS (As := [.ref (ad 61), .int (zi ((zFo X k : Int) + 1)), .int (zi ((zSo X k &&& zMa X (zFo X k) j : Nat) : Int))]) (rest := []) ⟨hx, hb, hml, hown, hts⟩ (c_findk l G ad X (zFo X k + 1) (zSo X k &&& zMa X (zFo X k) j : Nat) hV (by omega) (by omega) (by omega) ((hTv.1.2.2.2.2 k hk (by omega)).1 j hj) H.size) (va_cwS 3 hts gX5_leadOf_X5_find rfl rfl rfl (by decide +kernel) ⟨Nat.le_of_ble_eq_true rfl, Nat.le_of_ble_eq_true rfl⟩) (zPre (wr := []) (wc := zpic G ad X) (As := [.ref (ad 61), .int (zi ((zFo X k : Int) + 1)), .int (zi ((zSo X k &&& zMa X (zFo X k) j : Nat) : Int))]) hP hD hE hS hA).1 rfl rfl hl.1 rfl (lv_room (Nat.le_of_ble_eq_true rfl)) dX5_leadOf_25 ⟨Nat.le_of_ble_eq_true rfl, Nat.le_of_ble_eq_true rfl⟩) hP hD hS hA (fun _ _ H locs hf hP hD hS => ?_)
  obtain ⟨v4, rfl, hv4, rfl⟩ := hf
  have hP : va_P G.1 vwCl (zpic G ad X) H := hP
  have hD : va_D A (zpic G ad X) := hD
  refine W.eq (g2 := F0 m 28 ls [.int (zi v4)]) rfl ?_
  exact zend_i hx hb hr hlocks hP hD hS (Nat.le_of_ble_eq_true rfl) (Nat.le_of_ble_eq_true rfl) dX5_leadOf_28 ⟨_, rfl, hv4, rfl⟩

set_option maxHeartbeats 4000000 in
set_option maxRecDepth 100000 in
/-- allSteps -/
theorem c_X5_allSteps (l : Launch) (G : zG) (ad : Nat → Nat) (X : Nat → Nat → Int) (hTv : zTv X X) : zR l G yX5_allSteps wsX5_allSteps { frames := 0, cells := 0, slots := 0, locals := 0 } (zpic G ad X) [.ref (ad 61)] (zq G ad X (fun w => 0 ≤ w ∧ w ≤ 1073741824 ∧ w = if X 61 5 = 0 then 0 else X 64 0)) 0 0 := by
  refine zR_of (cc := cX5_allSteps) (maxL := 1) (rt := (some .int)) (by decide) rfl (Nat.le_of_ble_eq_true rfl) ?_
  intro p e s m below meth c A ls hx hb hml hr hts hown hlocks hin0 hA hE hP hD hS hl
  have hl : lv_has ls 1 [(0, .ref (ad 61))] := hl
  have hown : s.vm.findClass RX5 = some m.cls := hown
  have hcnt := hTv.1.cnt
  have hw5 : ∀ w ∈ u_ws RX5 TX5 7, w ∈ wsX5_allSteps := by decide +kernel
  have hf33 := hts (.fieldLink RX5 33 "Nettle$Tree" "count" "I") (by decide +kernel)
  have hf18 := hts (.fieldLink RX5 18 "Nettle$Tree" "sums" "[I") (by decide +kernel)
  refine lv_aload_n hx hb dX5_allSteps_0 rfl (lv_at hl 0 rfl) ?_
  refine va_get (D := G.1) (ci := 5) (v := .int (zi (X 61 5))) (C := RX5) (T := TX5) (N := 7) hx hb hts hw5 hown hE.1 hP 61 p_61 rfl 5 (by decide) hf33 (fun _ h9 => h9) rfl dX5_allSteps_1 ?_
  refine z0_ne (tgt := 11) hx hb dX5_allSteps_4 (by decide) (by omega) (fun h4 => ?_) (fun h4 => ?_)
  · refine lv_aload_n hx hb dX5_allSteps_11 rfl (lv_at hl 0 rfl) ?_
    refine va_get (D := G.1) (ci := 5) (v := .ref (ad 64)) (C := RX5) (T := TX5) (N := 7) hx hb hts hw5 hown hE.1 hP 61 p_61 rfl 4 (by decide) hf18 (fun _ h9 => h9) rfl dX5_allSteps_12 ?_
    refine lv_iconst (v := zi 0) hx hb dX5_allSteps_15 rfl ?_
    refine zild hx hb hE hP 64 1024 (fun _ => rfl) (by decide) 0 rfl (by decide) (by decide) dX5_allSteps_16 ?_
    exact zend_i hx hb hr hlocks hP hD hS (Nat.le_of_ble_eq_true rfl) (Nat.le_of_ble_eq_true rfl) dX5_allSteps_17 ⟨_, rfl, (by have h5 := hTv.1.2.2.1 0 (by omega); have h9 := (hTv.1.2.2.2.2 0 (by omega) (by omega)).2; have h8 := hTv.node (k := 0) (by omega); have h7 : ∀ g : Nat, zBS g ≤ 1073741824 := (fun g => by unfold zBS; split <;> omega); have h6 := h7 ((X 63 0).toNat / 256); rw [if_neg (by omega)]; exact ⟨h9.1, by omega, rfl⟩), rfl⟩
  · refine lv_iconst (v := zi 0) hx hb dX5_allSteps_7 rfl ?_
    refine lv_goto (tgt := 17) hx hb dX5_allSteps_8 (by decide) ?_
    exact zend_i hx hb hr hlocks hP hD hS (Nat.le_of_ble_eq_true rfl) (Nat.le_of_ble_eq_true rfl) dX5_allSteps_17 ⟨_, rfl, (by rw [if_pos (by omega)]; omega), rfl⟩
