/-! Nettle: what is asked of the TREE -/
theorem dX7_compiled_0 : decode cX7_compiled 0 = .ok (.aload_n 0, 1) := by decide +kernel
theorem dX7_compiled_1 : decode cX7_compiled 1 = .ok (.getfield 33, 3) := by decide +kernel
set_option maxRecDepth 20000 in
theorem ggX7_compiled_X1_refresh : GoodIn wsX7_compiled wsX1_refresh := goodIn_r _ [7, 8, 9, 10, 11, 6, 12, 13, 14, 15, 16, 17, 18, 19, 20, 21, 22, 23, 24, 25, 26, 27, 28, 29, 30, 31, 32, 33, 34, 35, 36, 37, 38, 39, 40, 41, 42, 97, 98, 99, 100, 101, 102, 103, 104, 105, 106, 107, 108, 109] (by decide +kernel) (by decide +kernel)
set_option maxRecDepth 20000 in
theorem gX7_compiled_X1_refresh : GoodIn wsX7_compiled (wsV RX7 380 RX1 yX1_refresh wsX1_refresh) := goodIn_app (goodIn_of _ (by decide +kernel)) ggX7_compiled_X1_refresh
theorem dX7_compiled_4 : decode cX7_compiled 4 = .ok (.invokevirtual 380, 3) := by decide +kernel
theorem dX7_compiled_7 : decode cX7_compiled 7 = .ok (.aload_n 0, 1) := by decide +kernel
theorem dX7_compiled_8 : decode cX7_compiled 8 = .ok (.getfield 42, 3) := by decide +kernel
set_option maxRecDepth 20000 in
theorem ggX7_compiled_X5_refresh : GoodIn wsX7_compiled wsX5_refresh := goodIn_r _ [47, 48, 49, 50, 51, 52, 53, 54, 25, 55, 27, 28, 56, 57, 58, 32, 59, 60, 61, 62, 46, 63, 64, 65, 66, 67, 68, 69, 70, 71, 72, 73, 74, 75, 76, 77, 78, 79, 34, 35, 80, 81, 82, 83, 6, 84, 14, 85, 86, 87, 88, 21, 13, 110, 111, 112, 113, 114, 115, 116, 103, 104, 105, 106, 107, 108, 109, 97, 98, 99, 100, 101, 102] (by decide +kernel) (by decide +kernel)
set_option maxRecDepth 20000 in
theorem gX7_compiled_X5_refresh : GoodIn wsX7_compiled (wsV RX7 381 RX5 yX5_refresh wsX5_refresh) := goodIn_app (goodIn_of _ (by decide +kernel)) ggX7_compiled_X5_refresh
theorem dX7_compiled_11 : decode cX7_compiled 11 = .ok (.invokevirtual 381, 3) := by decide +kernel
theorem dX7_compiled_14 : decode cX7_compiled 14 = .ok (.aload_n 0, 1) := by decide +kernel
theorem dX7_compiled_15 : decode cX7_compiled 15 = .ok (.getfield 42, 3) := by decide +kernel
theorem dX7_compiled_18 : decode cX7_compiled 18 = .ok (.areturn, 1) := by decide +kernel
theorem dX7_nodes_0 : decode cX7_nodes 0 = .ok (.aload_n 0, 1) := by decide +kernel
set_option maxRecDepth 20000 in
theorem ggX7_nodes_X7_compiled : GoodIn wsX7_nodes wsX7_compiled := goodIn_r _ [6, 7, 8, 9, 10, 11, 12, 13, 14, 15, 16, 17, 18, 19, 20, 21, 22, 23, 24, 25, 26, 27, 28, 29, 30, 31, 32, 33, 34, 35, 36, 37, 38, 39, 40, 41, 42, 43, 44, 45, 46, 47, 48, 49, 50, 51, 52, 53, 54, 55, 56, 57, 58, 59, 60, 61, 62, 63, 64, 65, 66, 67, 68, 69, 70, 71, 72, 73, 74, 75, 76, 77, 78, 79, 80, 81, 82, 83, 84, 85, 86, 87, 88, 89, 90, 91, 92, 93, 94, 102, 103, 104, 105, 106, 107, 108, 109, 110, 111, 112, 113, 114, 115, 116, 117, 118, 119, 120, 121, 122, 95, 96, 97, 98, 99, 100, 101] (by decide +kernel) (by decide +kernel)
set_option maxRecDepth 20000 in
theorem gX7_nodes_X7_compiled : GoodIn wsX7_nodes (wsV RX7 189 RX7 yX7_compiled wsX7_compiled) := goodIn_app (goodIn_of _ (by decide +kernel)) ggX7_nodes_X7_compiled
theorem dX7_nodes_1 : decode cX7_nodes 1 = .ok (.invokevirtual 189, 3) := by decide +kernel
theorem dX7_nodes_4 : decode cX7_nodes 4 = .ok (.getfield 193, 3) := by decide +kernel
theorem dX7_nodes_7 : decode cX7_nodes 7 = .ok (.ireturn, 1) := by decide +kernel
theorem dX7_ofNode_0 : decode cX7_ofNode 0 = .ok (.aload_n 0, 1) := by decide +kernel
set_option maxRecDepth 20000 in
theorem ggX7_ofNode_X7_compiled : GoodIn wsX7_ofNode wsX7_compiled := goodIn_r _ [5, 6, 7, 8, 9, 10, 11, 12, 13, 14, 15, 16, 17, 18, 19, 20, 21, 22, 23, 24, 25, 26, 27, 28, 29, 30, 31, 32, 33, 34, 35, 36, 37, 38, 39, 40, 41, 42, 43, 44, 45, 46, 47, 48, 49, 50, 51, 52, 53, 54, 55, 56, 57, 58, 59, 60, 61, 62, 63, 64, 65, 66, 67, 68, 69, 70, 71, 72, 73, 74, 75, 76, 77, 78, 79, 80, 81, 82, 83, 84, 85, 86, 87, 88, 89, 90, 91, 92, 93, 124, 125, 126, 127, 128, 129, 130, 131, 132, 133, 134, 135, 136, 137, 138, 139, 140, 141, 142, 143, 144, 145, 146, 147, 148, 149, 150, 151] (by decide +kernel) (by decide +kernel)
set_option maxRecDepth 20000 in
theorem gX7_ofNode_X7_compiled : GoodIn wsX7_ofNode (wsV RX7 189 RX7 yX7_compiled wsX7_compiled) := goodIn_app (goodIn_of _ (by decide +kernel)) ggX7_ofNode_X7_compiled
theorem dX7_ofNode_1 : decode cX7_ofNode 1 = .ok (.invokevirtual 189, 3) := by decide +kernel
theorem dX7_ofNode_4 : decode cX7_ofNode 4 = .ok (.astore_n 3, 1) := by decide +kernel
theorem dX7_ofNode_5 : decode cX7_ofNode 5 = .ok (.aload_n 3, 1) := by decide +kernel
theorem dX7_ofNode_6 : decode cX7_ofNode 6 = .ok (.iload_n 1, 1) := by decide +kernel
set_option maxRecDepth 20000 in
theorem ggX7_ofNode_X7_needNode : GoodIn wsX7_ofNode wsX7_needNode := goodIn_ca (goodIn_r _ [96, 97, 98, 99, 145, 146, 147, 148, 149, 150, 151] (by decide +kernel) (by decide +kernel)) (goodIn_sub (fun _ h => List.mem_cons_of_mem _ (List.mem_append_left _ (List.mem_append_right _ h))) (by decide +kernel))
set_option maxRecDepth 20000 in
theorem gX7_ofNode_X7_needNode : GoodIn wsX7_ofNode (va_wsS RX7 194 yX7_needNode wsX7_needNode) := goodIn_app (goodIn_of _ (by decide +kernel)) ggX7_ofNode_X7_needNode
theorem dX7_ofNode_7 : decode cX7_ofNode 7 = .ok (.invokestatic 194, 3) := by decide +kernel
theorem dX7_ofNode_10 : decode cX7_ofNode 10 = .ok (.iload_n 2, 1) := by decide +kernel
theorem dX7_ofNode_11 : decode cX7_ofNode 11 = .ok (.iconst 2, 1) := by decide +kernel
set_option maxRecDepth 20000 in
theorem ggX7_ofNode_X7_needWhat : GoodIn wsX7_ofNode wsX7_needWhat := goodIn_ca (goodIn_r _ [102, 103, 104] (by decide +kernel) (by decide +kernel)) (goodIn_sub (fun _ h => List.mem_cons_of_mem _ (List.mem_append_right _ h)) (by decide +kernel))
set_option maxRecDepth 20000 in
theorem gX7_ofNode_X7_needWhat : GoodIn wsX7_ofNode (va_wsS RX7 143 yX7_needWhat wsX7_needWhat) := goodIn_app (goodIn_of _ (by decide +kernel)) ggX7_ofNode_X7_needWhat
theorem dX7_ofNode_12 : decode cX7_ofNode 12 = .ok (.invokestatic 143, 3) := by decide +kernel
theorem dX7_ofNode_15 : decode cX7_ofNode 15 = .ok (.iload_n 2, 1) := by decide +kernel
theorem dX7_ofNode_16 : decode cX7_ofNode 16 = .ok (.ifCond .ne 9, 3) := by decide +kernel
theorem dX7_ofNode_25 : decode cX7_ofNode 25 = .ok (.iload_n 2, 1) := by decide +kernel
theorem dX7_ofNode_26 : decode cX7_ofNode 26 = .ok (.iconst 1, 1) := by decide +kernel
theorem dX7_ofNode_27 : decode cX7_ofNode 27 = .ok (.if_icmp .ne 11, 3) := by decide +kernel
theorem dX7_ofNode_38 : decode cX7_ofNode 38 = .ok (.aload_n 3, 1) := by decide +kernel
theorem dX7_ofNode_39 : decode cX7_ofNode 39 = .ok (.iload_n 1, 1) := by decide +kernel
set_option maxRecDepth 20000 in
theorem ggX7_ofNode_X5_pieceCount : GoodIn wsX7_ofNode wsX5_pieceCount := goodIn_r _ [116, 70, 71, 117, 106, 107, 51, 108, 69, 118, 110, 111, 112, 119, 120, 121, 11, 122, 123, 87, 88, 89, 19, 145, 146, 147, 148, 149, 150, 151, 132, 133, 134, 135, 136, 137] (by decide +kernel) (by decide +kernel)
set_option maxRecDepth 20000 in
theorem gX7_ofNode_X5_pieceCount : GoodIn wsX7_ofNode (wsV RX7 204 RX5 yX5_pieceCount wsX5_pieceCount) := goodIn_app (goodIn_of _ (by decide +kernel)) ggX7_ofNode_X5_pieceCount
theorem dX7_ofNode_40 : decode cX7_ofNode 40 = .ok (.invokevirtual 204, 3) := by decide +kernel
theorem dX7_ofNode_43 : decode cX7_ofNode 43 = .ok (.ireturn, 1) := by decide +kernel
theorem dX7_ofNode_30 : decode cX7_ofNode 30 = .ok (.aload_n 3, 1) := by decide +kernel
theorem dX7_ofNode_31 : decode cX7_ofNode 31 = .ok (.iload_n 1, 1) := by decide +kernel
set_option maxRecDepth 20000 in
theorem ggX7_ofNode_X5_setOf : GoodIn wsX7_ofNode wsX5_setOf := goodIn_r _ [112, 69, 145, 146, 147, 148, 149, 150, 151] (by decide +kernel) (by decide +kernel)
set_option maxRecDepth 20000 in
theorem gX7_ofNode_X5_setOf : GoodIn wsX7_ofNode (wsV RX7 201 RX5 yX5_setOf wsX5_setOf) := goodIn_app (goodIn_of _ (by decide +kernel)) ggX7_ofNode_X5_setOf
theorem dX7_ofNode_32 : decode cX7_ofNode 32 = .ok (.invokevirtual 201, 3) := by decide +kernel
theorem dX7_ofNode_35 : decode cX7_ofNode 35 = .ok (.goto 8, 3) := by decide +kernel
theorem dX7_ofNode_19 : decode cX7_ofNode 19 = .ok (.aload_n 3, 1) := by decide +kernel
theorem dX7_ofNode_20 : decode cX7_ofNode 20 = .ok (.iload_n 1, 1) := by decide +kernel
set_option maxRecDepth 20000 in
theorem ggX7_ofNode_X5_fieldOf : GoodIn wsX7_ofNode wsX5_fieldOf := goodIn_r _ [108, 69, 145, 146, 147, 148, 149, 150, 151] (by decide +kernel) (by decide +kernel)
set_option maxRecDepth 20000 in
theorem gX7_ofNode_X5_fieldOf : GoodIn wsX7_ofNode (wsV RX7 198 RX5 yX5_fieldOf wsX5_fieldOf) := goodIn_app (goodIn_of _ (by decide +kernel)) ggX7_ofNode_X5_fieldOf
theorem dX7_ofNode_21 : decode cX7_ofNode 21 = .ok (.invokevirtual 198, 3) := by decide +kernel
theorem dX7_ofNode_24 : decode cX7_ofNode 24 = .ok (.ireturn, 1) := by decide +kernel
theorem dX7_piece_0 : decode cX7_piece 0 = .ok (.aload_n 0, 1) := by decide +kernel
set_option maxRecDepth 20000 in
theorem ggX7_piece_X7_compiled : GoodIn wsX7_piece wsX7_compiled := goodIn_r _ [8, 3, 9, 10, 11, 12, 13, 14, 15, 16, 17, 18, 19, 20, 21, 22, 23, 24, 25, 26, 27, 28, 29, 30, 31, 32, 33, 34, 35, 36, 37, 38, 39, 40, 41, 42, 43, 44, 45, 46, 47, 48, 49, 50, 51, 52, 53, 54, 55, 56, 57, 58, 59, 60, 61, 62, 63, 64, 65, 66, 67, 68, 69, 70, 71, 72, 73, 74, 75, 76, 77, 78, 79, 80, 81, 82, 83, 84, 85, 86, 87, 88, 89, 90, 91, 92, 93, 94, 95, 135, 136, 137, 138, 139, 140, 141, 142, 143, 144, 145, 146, 147, 148, 149, 150, 151, 152, 153, 154, 155, 156, 157, 158, 159, 160, 161, 162] (by decide +kernel) (by decide +kernel)
set_option maxRecDepth 20000 in
theorem gX7_piece_X7_compiled : GoodIn wsX7_piece (wsV RX7 189 RX7 yX7_compiled wsX7_compiled) := goodIn_app (goodIn_of _ (by decide +kernel)) ggX7_piece_X7_compiled
theorem dX7_piece_1 : decode cX7_piece 1 = .ok (.invokevirtual 189, 3) := by decide +kernel
theorem dX7_piece_4 : decode cX7_piece 4 = .ok (.astore 4, 2) := by decide +kernel
theorem dX7_piece_6 : decode cX7_piece 6 = .ok (.aload 4, 2) := by decide +kernel
theorem dX7_piece_8 : decode cX7_piece 8 = .ok (.iload_n 1, 1) := by decide +kernel
set_option maxRecDepth 20000 in
theorem ggX7_piece_X7_needNode : GoodIn wsX7_piece wsX7_needNode := goodIn_ca (goodIn_r _ [98, 1, 2, 99, 156, 157, 158, 159, 160, 161, 162] (by decide +kernel) (by decide +kernel)) (goodIn_sub (fun _ h => List.mem_cons_of_mem _ (List.mem_append_left _ (List.mem_append_right _ h))) (by decide +kernel))
set_option maxRecDepth 20000 in
theorem gX7_piece_X7_needNode : GoodIn wsX7_piece (va_wsS RX7 194 yX7_needNode wsX7_needNode) := goodIn_app (goodIn_of _ (by decide +kernel)) ggX7_piece_X7_needNode
theorem dX7_piece_9 : decode cX7_piece 9 = .ok (.invokestatic 194, 3) := by decide +kernel
theorem dX7_piece_12 : decode cX7_piece 12 = .ok (.aload 4, 2) := by decide +kernel
theorem dX7_piece_14 : decode cX7_piece 14 = .ok (.iload_n 1, 1) := by decide +kernel
theorem dX7_piece_15 : decode cX7_piece 15 = .ok (.iload_n 2, 1) := by decide +kernel
set_option maxRecDepth 20000 in
theorem ggX7_piece_X5_segmentOf : GoodIn wsX7_piece wsX5_segmentOf := goodIn_r _ [103, 72, 73, 104, 105, 106, 53, 107, 71, 108, 109, 110, 111, 112, 113, 114, 13, 115, 116, 89, 90, 91, 21, 156, 157, 158, 159, 160, 161, 162, 143, 144, 145, 146, 147, 148] (by decide +kernel) (by decide +kernel)
set_option maxRecDepth 20000 in
theorem gX7_piece_X5_segmentOf : GoodIn wsX7_piece (wsV RX7 207 RX5 yX5_segmentOf wsX5_segmentOf) := goodIn_app (goodIn_of _ (by decide +kernel)) ggX7_piece_X5_segmentOf
theorem dX7_piece_16 : decode cX7_piece 16 = .ok (.invokevirtual 207, 3) := by decide +kernel
theorem dX7_piece_19 : decode cX7_piece 19 = .ok (.istore 5, 2) := by decide +kernel
theorem dX7_piece_21 : decode cX7_piece 21 = .ok (.iload 5, 2) := by decide +kernel
theorem dX7_piece_23 : decode cX7_piece 23 = .ok (.ifCond .ge 13, 3) := by decide +kernel
theorem dX7_piece_36 : decode cX7_piece 36 = .ok (.iload_n 3, 1) := by decide +kernel
theorem dX7_piece_37 : decode cX7_piece 37 = .ok (.iconst 2, 1) := by decide +kernel
set_option maxRecDepth 20000 in
theorem ggX7_piece_X7_needWhat : GoodIn wsX7_piece wsX7_needWhat := goodIn_ca (goodIn_r _ [119, 120, 121] (by decide +kernel) (by decide +kernel)) (goodIn_sub (fun _ h => List.mem_cons_of_mem _ (List.mem_append_right _ h)) (by decide +kernel))
set_option maxRecDepth 20000 in
theorem gX7_piece_X7_needWhat : GoodIn wsX7_piece (va_wsS RX7 143 yX7_needWhat wsX7_needWhat) := goodIn_app (goodIn_of _ (by decide +kernel)) ggX7_piece_X7_needWhat
theorem dX7_piece_38 : decode cX7_piece 38 = .ok (.invokestatic 143, 3) := by decide +kernel
theorem dX7_piece_41 : decode cX7_piece 41 = .ok (.aload 4, 2) := by decide +kernel
theorem dX7_piece_43 : decode cX7_piece 43 = .ok (.iload_n 1, 1) := by decide +kernel
set_option maxRecDepth 20000 in
theorem ggX7_piece_X5_fieldOf : GoodIn wsX7_piece wsX5_fieldOf := goodIn_r _ [107, 71, 156, 157, 158, 159, 160, 161, 162] (by decide +kernel) (by decide +kernel)
set_option maxRecDepth 20000 in
theorem gX7_piece_X5_fieldOf : GoodIn wsX7_piece (wsV RX7 198 RX5 yX5_fieldOf wsX5_fieldOf) := goodIn_app (goodIn_of _ (by decide +kernel)) ggX7_piece_X5_fieldOf
theorem dX7_piece_44 : decode cX7_piece 44 = .ok (.invokevirtual 198, 3) := by decide +kernel
theorem dX7_piece_47 : decode cX7_piece 47 = .ok (.istore 6, 2) := by decide +kernel
theorem dX7_piece_49 : decode cX7_piece 49 = .ok (.iload_n 3, 1) := by decide +kernel
theorem dX7_piece_50 : decode cX7_piece 50 = .ok (.ifCond .ne 15, 3) := by decide +kernel
theorem dX7_piece_65 : decode cX7_piece 65 = .ok (.iload_n 3, 1) := by decide +kernel
theorem dX7_piece_66 : decode cX7_piece 66 = .ok (.iconst 1, 1) := by decide +kernel
theorem dX7_piece_67 : decode cX7_piece 67 = .ok (.if_icmp .ne 23, 3) := by decide +kernel
theorem dX7_piece_90 : decode cX7_piece 90 = .ok (.aload 4, 2) := by decide +kernel
theorem dX7_piece_92 : decode cX7_piece 92 = .ok (.iload_n 1, 1) := by decide +kernel
theorem dX7_piece_93 : decode cX7_piece 93 = .ok (.iload 5, 2) := by decide +kernel
set_option maxRecDepth 20000 in
theorem ggX7_piece_X5_leadOf : GoodIn wsX7_piece wsX5_leadOf := goodIn_r _ [134, 72, 104, 105, 106, 53, 107, 71, 108, 109, 110, 111, 88, 89, 90, 13, 91, 21, 68, 69, 70, 58, 57, 56, 73, 74, 75, 76, 77, 32, 78, 35, 79, 80, 81, 82, 34, 83, 84, 85, 39, 86, 41, 42, 87, 92, 93, 94, 95, 28, 20, 156, 157, 158, 159, 160, 161, 162, 143, 144, 145, 146, 147, 148, 149, 150, 151, 152, 153, 154, 155] (by decide +kernel) (by decide +kernel)
set_option maxRecDepth 20000 in
theorem gX7_piece_X5_leadOf : GoodIn wsX7_piece (wsV RX7 220 RX5 yX5_leadOf wsX5_leadOf) := goodIn_app (goodIn_of _ (by decide +kernel)) ggX7_piece_X5_leadOf
theorem dX7_piece_95 : decode cX7_piece 95 = .ok (.invokevirtual 220, 3) := by decide +kernel
theorem dX7_piece_98 : decode cX7_piece 98 = .ok (.ireturn, 1) := by decide +kernel
theorem dX7_piece_70 : decode cX7_piece 70 = .ok (.aload_n 0, 1) := by decide +kernel
theorem dX7_piece_71 : decode cX7_piece 71 = .ok (.getfield 33, 3) := by decide +kernel
theorem dX7_piece_74 : decode cX7_piece 74 = .ok (.iload 6, 2) := by decide +kernel
theorem dX7_piece_76 : decode cX7_piece 76 = .ok (.iload 5, 2) := by decide +kernel
theorem dX7_piece_78 : decode cX7_piece 78 = .ok (.aload 4, 2) := by decide +kernel
theorem dX7_piece_80 : decode cX7_piece 80 = .ok (.iload_n 1, 1) := by decide +kernel
set_option maxRecDepth 20000 in
theorem ggX7_piece_X5_setOf : GoodIn wsX7_piece wsX5_setOf := goodIn_r _ [111, 71, 156, 157, 158, 159, 160, 161, 162] (by decide +kernel) (by decide +kernel)
set_option maxRecDepth 20000 in
theorem gX7_piece_X5_setOf : GoodIn wsX7_piece (wsV RX7 201 RX5 yX5_setOf wsX5_setOf) := goodIn_app (goodIn_of _ (by decide +kernel)) ggX7_piece_X5_setOf
theorem dX7_piece_81 : decode cX7_piece 81 = .ok (.invokevirtual 201, 3) := by decide +kernel
set_option maxRecDepth 20000 in
theorem ggX7_piece_X1_runEnd : GoodIn wsX7_piece wsX1_runEnd := goodIn_r _ [128, 28, 129, 113, 114, 13, 115, 116, 89, 90, 91, 21, 130, 93, 94, 95, 20, 143, 144, 145, 146, 147, 148] (by decide +kernel) (by decide +kernel)
set_option maxRecDepth 20000 in
theorem gX7_piece_X1_runEnd : GoodIn wsX7_piece (wsV RX7 216 RX1 yX1_runEnd wsX1_runEnd) := goodIn_app (goodIn_of _ (by decide +kernel)) ggX7_piece_X1_runEnd
theorem dX7_piece_84 : decode cX7_piece 84 = .ok (.invokevirtual 216, 3) := by decide +kernel
theorem dX7_piece_87 : decode cX7_piece 87 = .ok (.iconst 1, 1) := by decide +kernel
theorem dX7_piece_88 : decode cX7_piece 88 = .ok (.isub, 1) := by decide +kernel
theorem dX7_piece_89 : decode cX7_piece 89 = .ok (.ireturn, 1) := by decide +kernel
theorem dX7_piece_53 : decode cX7_piece 53 = .ok (.aload_n 0, 1) := by decide +kernel
theorem dX7_piece_54 : decode cX7_piece 54 = .ok (.getfield 33, 3) := by decide +kernel
theorem dX7_piece_57 : decode cX7_piece 57 = .ok (.iload 6, 2) := by decide +kernel
theorem dX7_piece_59 : decode cX7_piece 59 = .ok (.iload 5, 2) := by decide +kernel
set_option maxRecDepth 20000 in
theorem ggX7_piece_X1_start : GoodIn wsX7_piece wsX1_start := goodIn_r _ [95, 28, 20, 143, 144, 145, 146, 147, 148] (by decide +kernel) (by decide +kernel)
set_option maxRecDepth 20000 in
theorem gX7_piece_X1_start : GoodIn wsX7_piece (wsV RX7 213 RX1 yX1_start wsX1_start) := goodIn_app (goodIn_of _ (by decide +kernel)) ggX7_piece_X1_start
theorem dX7_piece_61 : decode cX7_piece 61 = .ok (.invokevirtual 213, 3) := by decide +kernel
theorem dX7_piece_64 : decode cX7_piece 64 = .ok (.ireturn, 1) := by decide +kernel
/-- cuts and TREE are made -/
def zKT (X : Nat → Nat → Int) : Prop := X 61 6 = 0 ∨ (X 61 6 = 1 ∧ X 57 5 = 1 ∧ zTv X X)
def zTf (X : Nat → Nat → Int) : Prop := X 61 6 = 1 ∧ X 57 5 = 1 ∧ zCs X ∧ zTv X X
def zTd (X Y : Nat → Nat → Int) : Prop := (X 61 6 = 1 → Y = X) ∧ (∀ c : Nat, c < 57 ∨ 61 ≤ c → c < 61 ∨ 64 < c → Y c = X c) ∧ (X 57 5 = 1 → ∀ c : Nat, 57 ≤ c → c ≤ 60 → Y c = X c) ∧ zTf Y
theorem zTd.we {X Y : Nat → Nat → Int} (h : zTd X Y) : zWe X Y := fun c hc => h.2.1 c (by omega) (by omega)
theorem zTd_of {X Y Z : Nat → Nat → Int} (hV : zV X) (hK : zKT X) (h : zCd X Y) (h2 : (Y 61 6 = 1 → Z = Y) ∧ (∀ c : Nat, c ≠ 61 → c ≠ 62 → c ≠ 63 → c ≠ 64 → Z c = Y c) ∧ Z 61 6 = 1 ∧ zTv Y Z) : zTd X Z := by
  have e61 : Y 61 = X 61 := h.2.1 61 (by omega) (by omega) (by omega) (by omega)
  have hwY : zWe X Y := h.we
  have hVY := hwY.v hV
  have hwc : zWc Y Z := ⟨fun c hc => h2.2.1 c (by omega) (by omega) (by omega) (by omega), fun c a b => h2.2.1 c (by omega) (by omega) (by omega) (by omega)⟩
  refine ⟨fun q => ?_, fun c q1 q2 => ?_, fun q c q1 q2 => ?_, h2.2.2.1, ?_, hwc.cs hVY h.2.2.2, ?_⟩
  · have h57 : X 57 5 = 1 := by rcases hK with z | z; (exact absurd z (by omega)); exact z.2.1
    rw [h2.1 (by rw [e61]; exact q), h.1 h57]
  · rw [h2.2.1 c (by omega) (by omega) (by omega) (by omega), h.2.1 c (by omega) (by omega) (by omega) (by omega)]
  · rw [h2.2.1 c (by omega) (by omega) (by omega) (by omega), h.1 q]
  · rw [h2.2.1 57 (by omega) (by omega) (by omega) (by omega)]; exact h.2.2.1
  · obtain ⟨a, b⟩ := h2.2.2.2
    refine ⟨(hwc.ti hVY).mpr a, ?_⟩
    rw [hwc.1.dec hVY (Or.inl rfl : zIsW 0)]
    rcases b with ⟨b1, b2⟩ | ⟨b1, b2⟩
    · exact Or.inl ⟨(hwc.1.lf hVY _ _).mpr b1, b2⟩
    · exact Or.inr ⟨fun q => b1 ((hwc.1.lf hVY _ _).mp q), b2⟩
theorem zTd.again {X : Nat → Nat → Int} {Y : Nat → Nat → Int} (h : zTf X) (h2 : zTd X Y) : Y = X := h2.1 h.1
/-- what is asked of a NODE -/
noncomputable def zOn (X : Nat → Nat → Int) (k t : Nat) : Int := if t = 0 then (zFo X k : Int) else if t = 1 then (zSo X k : Int) else (zNr X (zFo X k) (zSo X k) (zCn X (zFo X k)) : Int)
/-- what is asked of a PIECE -/
def zPc (X : Nat → Nat → Int) (k q t : Nat) (w : Int) : Prop := ∃ j : Nat, zSg X (zFo X k) (zSo X k) q j ∧ ((t = 0 ∧ w = zS0 X (zFo X k) j) ∨ (t = 1 ∧ ∃ e : Nat, zRE X (zFo X k) j (zSo X k) e ∧ w = zS0 X (zFo X k) e - 1) ∨ (t = 2 ∧ zLd X (zFo X k + 1) (zSo X k &&& zMa X (zFo X k) j) w))
theorem zIsF.uniq {n u : Nat} {w w' : Int} (h : zIsF n u w) (h' : zIsF n u w') : w = w' := by
  rcases h with ⟨k, e, h1⟩ | ⟨e, h1⟩ <;> rcases h' with ⟨k', e', h1'⟩ | ⟨e', h1'⟩
  · rw [e, e', h1.uniq h1']
  · exact (h1.no h1').elim
  · exact (h1'.no h1).elim
  · rw [e, e']
theorem zLd.uniq {X : Nat → Nat → Int} {g u : Nat} {w w' : Int} (h : zLd X g u w) (h' : zLd X g u w') : w = w' := by
  rcases h with ⟨a1, a2, a3⟩ | ⟨a1, a2, a3, a4⟩ <;> rcases h' with ⟨b1, b2, b3⟩ | ⟨b1, b2, b3, b4⟩
  · have e := a2.uniq b2
    omega
  · exact absurd a1 b1
  · exact absurd b1 a1
  · rw [← a4, ← b4]
theorem zPc.uniq {X : Nat → Nat → Int} {k q t : Nat} {w w' : Int} (h : zPc X k q t w) (h' : zPc X k q t w') : w = w' := by
  obtain ⟨j, h1, h2⟩ := h
  obtain ⟨j', h1', h2'⟩ := h'
  have e := h1.uniq h1'
  subst e
  rcases h2 with ⟨a, b⟩ | ⟨a, e1, b1, b2⟩ | ⟨a, b⟩ <;> rcases h2' with ⟨c, d⟩ | ⟨c, e2, d1, d2⟩ | ⟨c, d⟩
  · rw [b, d]
  · omega
  · omega
  · omega
  · rw [b2, d2, b1.uniq d1]
  · omega
  · omega
  · omega
  · exact b.uniq d
noncomputable def zPf (X : Nat → Nat → Int) (k q t : Nat) : Int := Classical.epsilon (zPc X k q t)
theorem zPc.f {X : Nat → Nat → Int} {k q t : Nat} {w : Int} (h : zPc X k q t w) : w = zPf X k q t := h.uniq (Classical.epsilon_spec ⟨w, h⟩)

set_option maxHeartbeats 4000000 in
set_option maxRecDepth 100000 in
/-- compiled -/
theorem c_X7_compiled (l : Launch) (G : zG) (ad : Nat → Nat) (X : Nat → Nat → Int) (hV : zV X) (hKc : zKC X) (hKt : zKT X) : zR l G yX7_compiled wsX7_compiled { frames := 7, cells := 0, slots := 0, locals := 183 } (zpic G ad X) [.ref (ad 52)] (za G ad 61 (fun Y => zTd X Y)) 0 0 := by
  refine zR_of (cc := cX7_compiled) (maxL := 1) (rt := (some (.object "Nettle$Tree"))) (by decide) rfl (Nat.le_of_ble_eq_true rfl) ?_
  intro p e s m below meth c A ls hx hb hml hr hts hown hlocks hin0 hA hE hP hD hS hl
  have hl : lv_has ls 1 [(0, .ref (ad 52))] := hl
  have hown : s.vm.findClass RX7 = some m.cls := hown
  have hw7 : ∀ w ∈ u_ws RX7 TX7 8, w ∈ wsX7_compiled := by decide +kernel
  have hf33 := hts (.fieldLink RX7 33 "Nettle" "cuts" "LNettle$Cuts;") (by decide +kernel)
  have hf42 := hts (.fieldLink RX7 42 "Nettle" "tree" "LNettle$Tree;") (by decide +kernel)
  refine lv_aload_n hx hb dX7_compiled_0 rfl (lv_at hl 0 rfl) ?_
  refine va_get (D := G.1) (ci := 7) (v := .ref (ad 57)) (C := RX7) (T := TX7) (N := 8) hx hb hts hw7 hown hE.1 hP 52 p_52 rfl 3 (by decide) hf33 (fun _ h9 => h9) rfl dX7_compiled_1 ?_
  refine zcall (wr := []) (va_runV (As := []) (rest := []) ⟨hx, hb, hml, hown, hts⟩ (c_X1_refresh l G ad X hV (by omega) s.heap.size) (cwV 0 hts gX7_compiled_X1_refresh rfl rfl rfl (by decide +kernel) ⟨Nat.le_of_ble_eq_true rfl, Nat.le_of_ble_eq_true rfl⟩) (zPreV (wr := []) (wc := zpic G ad X) (q0 := 57) (ci := 1) (q := (RX1, TX1, 6)) hP hD hE hS hA rfl p_57) rfl rfl hl.1 rfl (lv_room (Nat.le_of_ble_eq_true rfl)) dX7_compiled_4 ⟨Nat.le_of_ble_eq_true rfl, Nat.le_of_ble_eq_true rfl⟩) hP hD hS hA (fun _ _ H locs hf hP hD hS => ?_)
  obtain ⟨X1, rfl, hX1, rfl⟩ := hf
  have hP : va_P G.1 vwCl (zpic G ad X1) H := hP
  have hD : va_D A (zpic G ad X1) := hD
  refine W.eq (g2 := F0 m 7 ls []) rfl ?_
  have hw1 : zWe X X1 := hX1.we
  have hV1 : zV X1 := hw1.v hV
  have e61 : X1 61 = X 61 := hX1.2.1 61 (by omega) (by omega) (by omega) (by omega)
  have hK1 : X1 61 6 = 0 ∨ (X1 61 6 = 1 ∧ zTv X1 X1) := by rw [e61]; rcases hKt with h | h; exact Or.inl h; exact Or.inr ⟨h.1, by rw [hX1.1 h.2.1]; exact h.2.2⟩
  refine lv_aload_n hx hb dX7_compiled_7 rfl (lv_at hl 0 rfl) ?_
  refine va_get (D := G.1) (ci := 7) (v := .ref (ad 61)) (C := RX7) (T := TX7) (N := 8) hx hb hts hw7 hown hE.1 hP 52 p_52 rfl 4 (by decide) hf42 (fun _ h9 => h9) rfl dX7_compiled_8 ?_
  refine zcall (wr := []) (va_runV (As := []) (rest := []) ⟨hx, hb, hml, hown, hts⟩ (c_X5_refresh l G ad X1 hV1 hX1.2.2.2 hK1 H.size) (cwV 0 hts gX7_compiled_X5_refresh rfl rfl rfl (by decide +kernel) ⟨Nat.le_of_ble_eq_true rfl, Nat.le_of_ble_eq_true rfl⟩) (zPreV (wr := []) (wc := zpic G ad X1) (q0 := 61) (ci := 5) (q := (RX5, TX5, 7)) hP hD hE hS hA rfl p_61) rfl rfl hl.1 rfl (lv_room (Nat.le_of_ble_eq_true rfl)) dX7_compiled_11 ⟨Nat.le_of_ble_eq_true rfl, Nat.le_of_ble_eq_true rfl⟩) hP hD hS hA (fun _ _ H locs hf hP hD hS => ?_)
  obtain ⟨X2, rfl, hX2, rfl⟩ := hf
  have hP : va_P G.1 vwCl (zpic G ad X2) H := hP
  have hD : va_D A (zpic G ad X2) := hD
  refine W.eq (g2 := F0 m 14 ls []) rfl ?_
  refine lv_aload_n hx hb dX7_compiled_14 rfl (lv_at hl 0 rfl) ?_
  refine va_get (D := G.1) (ci := 7) (v := .ref (ad 61)) (C := RX7) (T := TX7) (N := 8) hx hb hts hw7 hown hE.1 hP 52 p_52 rfl 4 (by decide) hf42 (fun _ h9 => h9) rfl dX7_compiled_15 ?_
  exact zend_a hx hb hr hlocks (Or.inl ⟨_, rfl⟩) hP hD hS (Nat.le_of_ble_eq_true rfl) (Nat.le_of_ble_eq_true rfl) dX7_compiled_18 ⟨_, rfl, (zTd_of hV hKt hX1 hX2), rfl⟩

set_option maxHeartbeats 4000000 in
set_option maxRecDepth 100000 in
/-- nodes -/
theorem c_X7_nodes (l : Launch) (G : zG) (ad : Nat → Nat) (X : Nat → Nat → Int) (hV : zV X) (hKc : zKC X) (hKt : zKT X) : zR l G yX7_nodes wsX7_nodes { frames := 8, cells := 0, slots := 0, locals := 203 } (zpic G ad X) [.ref (ad 52)] (zu G ad (fun w Y => w = Y 61 5 ∧ zTd X Y)) 0 0 := by
  refine zR_of (cc := cX7_nodes) (maxL := 1) (rt := (some .int)) (by decide) rfl (Nat.le_of_ble_eq_true rfl) ?_
  intro p e s m below meth c A ls hx hb hml hr hts hown hlocks hin0 hA hE hP hD hS hl
  have hl : lv_has ls 1 [(0, .ref (ad 52))] := hl
  have hown : s.vm.findClass RX7 = some m.cls := hown
  have hw5 : ∀ w ∈ u_ws RX5 TX5 7, w ∈ wsX7_nodes := by decide +kernel
  have hf193 := hts (.fieldLink RX7 193 "Nettle$Tree" "count" "I") (by decide +kernel)
  refine lv_aload_n hx hb dX7_nodes_0 rfl (lv_at hl 0 rfl) ?_
  refine zcall (wr := []) (va_runV (As := []) (rest := []) ⟨hx, hb, hml, hown, hts⟩ (c_X7_compiled l G ad X hV (by omega) (by omega) s.heap.size) (cwV 0 hts gX7_nodes_X7_compiled rfl rfl rfl (by decide +kernel) ⟨Nat.le_of_ble_eq_true rfl, Nat.le_of_ble_eq_true rfl⟩) (zPreV (wr := []) (wc := zpic G ad X) (q0 := 52) (ci := 7) (q := (RX7, TX7, 8)) hP hD hE hS hA rfl p_52) rfl rfl hl.1 rfl (lv_room (Nat.le_of_ble_eq_true rfl)) dX7_nodes_1 ⟨Nat.le_of_ble_eq_true rfl, Nat.le_of_ble_eq_true rfl⟩) hP hD hS hA (fun _ _ H locs hf hP hD hS => ?_)
  obtain ⟨X1, rfl, hX1, rfl⟩ := hf
  have hP : va_P G.1 vwCl (zpic G ad X1) H := hP
  have hD : va_D A (zpic G ad X1) := hD
  refine W.eq (g2 := F0 m 4 ls [.ref (ad 61)]) rfl ?_
  refine va_get (D := G.1) (ci := 5) (v := .int (zi (X1 61 5))) (C := RX5) (T := TX5) (N := 7) hx hb hts hw5 hown hE.1 hP 61 p_61 rfl 5 (by decide) hf193 (fun _ h9 => h9) rfl dX7_nodes_4 ?_
  exact zend_i hx hb hr hlocks hP hD hS (Nat.le_of_ble_eq_true rfl) (Nat.le_of_ble_eq_true rfl) dX7_nodes_7 ⟨_, _, rfl, ⟨rfl, hX1⟩, rfl⟩

set_option maxHeartbeats 4000000 in
set_option maxRecDepth 100000 in
/-- ofNode -/
theorem c_X7_ofNode (l : Launch) (G : zG) (ad : Nat → Nat) (X : Nat → Nat → Int) (k : Nat) (t : Nat) (hV : zV X) (hTf : zTf X) (hk : (k : Int) < X 61 5) (ht : t ≤ 2) : zR l G yX7_ofNode wsX7_ofNode { frames := 8, cells := 0, slots := 0, locals := 203 } (zpic G ad X) [.ref (ad 52), .int (zi (k : Int)), .int (zi (t : Int))] (zq G ad X (fun w => w = zOn X k t)) 0 0 := by
  refine zR_of (cc := cX7_ofNode) (maxL := 4) (rt := (some .int)) (by decide) rfl (Nat.le_of_ble_eq_true rfl) ?_
  intro p e s m below meth c A ls hx hb hml hr hts hown hlocks hin0 hA hE hP hD hS hl
  have hl : lv_has ls 4 [(0, .ref (ad 52)), (1, .int (zi (k : Int))), (2, .int (zi (t : Int)))] := hl
  have hown : s.vm.findClass RX7 = some m.cls := hown
  have hnd := hTf.2.2.2.node hk
  have hcn := hTf.2.2.1.n hnd.2.2.1
  refine lv_aload_n hx hb dX7_ofNode_0 rfl (lv_at hl 0 rfl) ?_
  refine zcall (wr := []) (va_runV (As := []) (rest := []) ⟨hx, hb, hml, hown, hts⟩ (c_X7_compiled l G ad X hV (Or.inr ⟨hTf.2.1, hTf.2.2.1⟩) (Or.inr ⟨hTf.1, hTf.2.1, hTf.2.2.2⟩) s.heap.size) (cwV 0 hts gX7_ofNode_X7_compiled rfl rfl rfl (by decide +kernel) ⟨Nat.le_of_ble_eq_true rfl, Nat.le_of_ble_eq_true rfl⟩) (zPreV (wr := []) (wc := zpic G ad X) (q0 := 52) (ci := 7) (q := (RX7, TX7, 8)) hP hD hE hS hA rfl p_52) rfl rfl hl.1 rfl (lv_room (Nat.le_of_ble_eq_true rfl)) dX7_ofNode_1 ⟨Nat.le_of_ble_eq_true rfl, Nat.le_of_ble_eq_true rfl⟩) hP hD hS hA (fun _ _ H locs hf hP hD hS => ?_)
  obtain ⟨X1, rfl, hX1, rfl⟩ := hf
  have hP : va_P G.1 vwCl (zpic G ad X1) H := hP
  have hD : va_D A (zpic G ad X1) := hD
  refine W.eq (g2 := F0 m 4 ls [.ref (ad 61)]) rfl ?_
  have eX := zTd.again hTf hX1
  rw [eX] at hP hD
  refine lv_astore_n (lv' := [(3, .ref (ad 61)), (0, .ref (ad 52)), (1, .int (zi (k : Int))), (2, .int (zi (t : Int)))]) hx hb dX7_ofNode_4 rfl hl (by decide) rfl (fun ls hl => ?_)
  refine lv_aload_n hx hb dX7_ofNode_5 rfl (lv_at hl 0 rfl) ?_
  refine lv_iload_n hx hb dX7_ofNode_6 rfl (lv_at hl 2 rfl) ?_
  refine zcall (wr := []) (va_runS (As := [.ref (ad 61), .int (zi (k : Int))]) (rest := []) ⟨hx, hb, hml, hown, hts⟩ (c_X7_needNode l G ad X k ⟨hk, by have h9 := hTf.2.2.2.1.cnt; omega⟩ H.size) (va_cwS 2 hts gX7_ofNode_X7_needNode rfl rfl rfl (by decide +kernel) ⟨Nat.le_of_ble_eq_true rfl, Nat.le_of_ble_eq_true rfl⟩) (zPre (wr := []) (wc := zpic G ad X) (As := [.ref (ad 61), .int (zi (k : Int))]) hP hD hE hS hA).1 rfl rfl hl.1 rfl (lv_room (Nat.le_of_ble_eq_true rfl)) dX7_ofNode_7 ⟨Nat.le_of_ble_eq_true rfl, Nat.le_of_ble_eq_true rfl⟩) hP hD hS hA (fun _ _ H locs hf hP hD hS => ?_)
  obtain ⟨rfl, rfl⟩ := hf
  have hP : va_P G.1 vwCl (zpic G ad X) H := hP
  have hD : va_D A (zpic G ad X) := hD
  refine W.eq (g2 := F0 m 10 ls []) rfl ?_
  refine lv_iload_n hx hb dX7_ofNode_10 rfl (lv_at hl 3 rfl) ?_
  refine lv_iconst (v := zi 2) hx hb dX7_ofNode_11 rfl ?_
  refine zcall (wr := []) (va_runS (As := [.int (zi (t : Int)), .int (zi 2)]) (rest := []) ⟨hx, hb, hml, hown, hts⟩ (c_X7_needWhat l G ad X (t : Int) 2 (by omega) H.size) (va_cwS 2 hts gX7_ofNode_X7_needWhat rfl rfl rfl (by decide +kernel) ⟨Nat.le_of_ble_eq_true rfl, Nat.le_of_ble_eq_true rfl⟩) (zPre (wr := []) (wc := zpic G ad X) (As := [.int (zi (t : Int)), .int (zi 2)]) hP hD hE hS hA).1 rfl rfl hl.1 rfl (lv_room (Nat.le_of_ble_eq_true rfl)) dX7_ofNode_12 ⟨Nat.le_of_ble_eq_true rfl, Nat.le_of_ble_eq_true rfl⟩) hP hD hS hA (fun _ _ H locs hf hP hD hS => ?_)
  obtain ⟨rfl, rfl⟩ := hf
  have hP : va_P G.1 vwCl (zpic G ad X) H := hP
  have hD : va_D A (zpic G ad X) := hD
  refine W.eq (g2 := F0 m 15 ls []) rfl ?_
  refine lv_iload_n hx hb dX7_ofNode_15 rfl (lv_at hl 3 rfl) ?_
  refine z0_ne (tgt := 25) hx hb dX7_ofNode_16 (by decide) (by omega) (fun h16 => ?_) (fun h16 => ?_)
  · refine lv_iload_n hx hb dX7_ofNode_25 rfl (lv_at hl 3 rfl) ?_
    refine lv_iconst (v := zi 1) hx hb dX7_ofNode_26 rfl ?_
    refine zc_ne (tgt := 38) hx hb dX7_ofNode_27 (by decide) (by omega) (by decide) (fun h27 => ?_) (fun h27 => ?_)
    · refine lv_aload_n hx hb dX7_ofNode_38 rfl (lv_at hl 0 rfl) ?_
      refine lv_iload_n hx hb dX7_ofNode_39 rfl (lv_at hl 2 rfl) ?_
      refine zcall (wr := []) (va_runV (As := [.int (zi (k : Int))]) (rest := []) ⟨hx, hb, hml, hown, hts⟩ (c_X5_pieceCount l G ad X k hV hTf.2.2.1 hTf.2.2.2 (by omega) H.size) (cwV 1 hts gX7_ofNode_X5_pieceCount rfl rfl rfl (by decide +kernel) ⟨Nat.le_of_ble_eq_true rfl, Nat.le_of_ble_eq_true rfl⟩) (zPreV (wr := []) (wc := zpic G ad X) (q0 := 61) (ci := 5) (q := (RX5, TX5, 7)) hP hD hE hS hA rfl p_61) rfl rfl hl.1 rfl (lv_room (Nat.le_of_ble_eq_true rfl)) dX7_ofNode_40 ⟨Nat.le_of_ble_eq_true rfl, Nat.le_of_ble_eq_true rfl⟩) hP hD hS hA (fun _ _ H locs hf hP hD hS => ?_)
      obtain ⟨v1, rfl, hv1, rfl⟩ := hf
      have hP : va_P G.1 vwCl (zpic G ad X) H := hP
      have hD : va_D A (zpic G ad X) := hD
      refine W.eq (g2 := F0 m 43 ls [.int (zi v1)]) rfl ?_
      exact zend_i hx hb hr hlocks hP hD hS (Nat.le_of_ble_eq_true rfl) (Nat.le_of_ble_eq_true rfl) dX7_ofNode_43 ⟨_, rfl, (by unfold zOn; rw [if_neg (by omega), if_neg (by omega)]; exact hv1), rfl⟩
    · refine lv_aload_n hx hb dX7_ofNode_30 rfl (lv_at hl 0 rfl) ?_
      refine lv_iload_n hx hb dX7_ofNode_31 rfl (lv_at hl 2 rfl) ?_
      refine zcall (wr := []) (va_runV (As := [.int (zi (k : Int))]) (rest := []) ⟨hx, hb, hml, hown, hts⟩ (c_X5_setOf l G ad X k hTf.2.2.2 (by omega) H.size) (cwV 1 hts gX7_ofNode_X5_setOf rfl rfl rfl (by decide +kernel) ⟨Nat.le_of_ble_eq_true rfl, Nat.le_of_ble_eq_true rfl⟩) (zPreV (wr := []) (wc := zpic G ad X) (q0 := 61) (ci := 5) (q := (RX5, TX5, 7)) hP hD hE hS hA rfl p_61) rfl rfl hl.1 rfl (lv_room (Nat.le_of_ble_eq_true rfl)) dX7_ofNode_32 ⟨Nat.le_of_ble_eq_true rfl, Nat.le_of_ble_eq_true rfl⟩) hP hD hS hA (fun _ _ H locs hf hP hD hS => ?_)
      obtain ⟨v1, rfl, hv1, rfl⟩ := hf
      have hP : va_P G.1 vwCl (zpic G ad X) H := hP
      have hD : va_D A (zpic G ad X) := hD
      refine W.eq (g2 := F0 m 35 ls [.int (zi v1)]) rfl ?_
      refine lv_goto (tgt := 43) hx hb dX7_ofNode_35 (by decide) ?_
      exact zend_i hx hb hr hlocks hP hD hS (Nat.le_of_ble_eq_true rfl) (Nat.le_of_ble_eq_true rfl) dX7_ofNode_43 ⟨_, rfl, (by unfold zOn; rw [if_neg (by omega), if_pos (by omega)]; exact hv1), rfl⟩
  · refine lv_aload_n hx hb dX7_ofNode_19 rfl (lv_at hl 0 rfl) ?_
    refine lv_iload_n hx hb dX7_ofNode_20 rfl (lv_at hl 2 rfl) ?_
    refine zcall (wr := []) (va_runV (As := [.int (zi (k : Int))]) (rest := []) ⟨hx, hb, hml, hown, hts⟩ (c_X5_fieldOf l G ad X k hTf.2.2.2 (by omega) H.size) (cwV 1 hts gX7_ofNode_X5_fieldOf rfl rfl rfl (by decide +kernel) ⟨Nat.le_of_ble_eq_true rfl, Nat.le_of_ble_eq_true rfl⟩) (zPreV (wr := []) (wc := zpic G ad X) (q0 := 61) (ci := 5) (q := (RX5, TX5, 7)) hP hD hE hS hA rfl p_61) rfl rfl hl.1 rfl (lv_room (Nat.le_of_ble_eq_true rfl)) dX7_ofNode_21 ⟨Nat.le_of_ble_eq_true rfl, Nat.le_of_ble_eq_true rfl⟩) hP hD hS hA (fun _ _ H locs hf hP hD hS => ?_)
    obtain ⟨v1, rfl, hv1, rfl⟩ := hf
    have hP : va_P G.1 vwCl (zpic G ad X) H := hP
    have hD : va_D A (zpic G ad X) := hD
    refine W.eq (g2 := F0 m 24 ls [.int (zi v1)]) rfl ?_
    exact zend_i hx hb hr hlocks hP hD hS (Nat.le_of_ble_eq_true rfl) (Nat.le_of_ble_eq_true rfl) dX7_ofNode_24 ⟨_, rfl, (by unfold zOn; rw [if_pos (by omega)]; exact hv1), rfl⟩

set_option maxHeartbeats 4000000 in
set_option maxRecDepth 100000 in
/-- piece -/
theorem c_X7_piece (l : Launch) (G : zG) (ad : Nat → Nat) (X : Nat → Nat → Int) (k : Nat) (q : Nat) (t : Nat) (hV : zV X) (hTf : zTf X) (hk : (k : Int) < X 61 5) (hq : q < zNr X (zFo X k) (zSo X k) (zCn X (zFo X k))) (ht : t ≤ 2) : zR l G yX7_piece wsX7_piece { frames := 8, cells := 0, slots := 0, locals := 203 } (zpic G ad X) [.ref (ad 52), .int (zi (k : Int)), .int (zi (q : Int)), .int (zi (t : Int))] (zq G ad X (fun w => w = zPf X k q t)) 0 0 := by
  refine zR_of (cc := cX7_piece) (maxL := 7) (rt := (some .int)) (by decide) rfl (Nat.le_of_ble_eq_true rfl) ?_
  intro p e s m below meth c A ls hx hb hml hr hts hown hlocks hin0 hA hE hP hD hS hl
  have hl : lv_has ls 7 [(0, .ref (ad 52)), (1, .int (zi (k : Int))), (2, .int (zi (q : Int))), (3, .int (zi (t : Int)))] := hl
  have hown : s.vm.findClass RX7 = some m.cls := hown
  have hnd := hTf.2.2.2.node hk
  have hcn := hTf.2.2.1.n hnd.2.2.1
  have hle := zNr_le X (zFo X k) (zSo X k) (zCn X (zFo X k))
  have hw7 : ∀ w ∈ u_ws RX7 TX7 8, w ∈ wsX7_piece := by decide +kernel
  have hf33 := hts (.fieldLink RX7 33 "Nettle" "cuts" "LNettle$Cuts;") (by decide +kernel)
  refine lv_aload_n hx hb dX7_piece_0 rfl (lv_at hl 0 rfl) ?_
  refine zcall (wr := []) (va_runV (As := []) (rest := []) ⟨hx, hb, hml, hown, hts⟩ (c_X7_compiled l G ad X hV (Or.inr ⟨hTf.2.1, hTf.2.2.1⟩) (Or.inr ⟨hTf.1, hTf.2.1, hTf.2.2.2⟩) s.heap.size) (cwV 0 hts gX7_piece_X7_compiled rfl rfl rfl (by decide +kernel) ⟨Nat.le_of_ble_eq_true rfl, Nat.le_of_ble_eq_true rfl⟩) (zPreV (wr := []) (wc := zpic G ad X) (q0 := 52) (ci := 7) (q := (RX7, TX7, 8)) hP hD hE hS hA rfl p_52) rfl rfl hl.1 rfl (lv_room (Nat.le_of_ble_eq_true rfl)) dX7_piece_1 ⟨Nat.le_of_ble_eq_true rfl, Nat.le_of_ble_eq_true rfl⟩) hP hD hS hA (fun _ _ H locs hf hP hD hS => ?_)
  obtain ⟨X1, rfl, hX1, rfl⟩ := hf
  have hP : va_P G.1 vwCl (zpic G ad X1) H := hP
  have hD : va_D A (zpic G ad X1) := hD
  refine W.eq (g2 := F0 m 4 ls [.ref (ad 61)]) rfl ?_
  have eX := zTd.again hTf hX1
  rw [eX] at hP hD
  refine lv_astore (lv' := [(4, .ref (ad 61)), (0, .ref (ad 52)), (1, .int (zi (k : Int))), (2, .int (zi (q : Int))), (3, .int (zi (t : Int)))]) hx hb dX7_piece_4 hl (by decide) rfl (fun ls hl => ?_)
  refine lv_aload hx hb dX7_piece_6 (lv_at hl 0 rfl) ?_
  refine lv_iload_n hx hb dX7_piece_8 rfl (lv_at hl 2 rfl) ?_
  refine zcall (wr := []) (va_runS (As := [.ref (ad 61), .int (zi (k : Int))]) (rest := []) ⟨hx, hb, hml, hown, hts⟩ (c_X7_needNode l G ad X k ⟨hk, by have h9 := hTf.2.2.2.1.cnt; omega⟩ H.size) (va_cwS 2 hts gX7_piece_X7_needNode rfl rfl rfl (by decide +kernel) ⟨Nat.le_of_ble_eq_true rfl, Nat.le_of_ble_eq_true rfl⟩) (zPre (wr := []) (wc := zpic G ad X) (As := [.ref (ad 61), .int (zi (k : Int))]) hP hD hE hS hA).1 rfl rfl hl.1 rfl (lv_room (Nat.le_of_ble_eq_true rfl)) dX7_piece_9 ⟨Nat.le_of_ble_eq_true rfl, Nat.le_of_ble_eq_true rfl⟩) hP hD hS hA (fun _ _ H locs hf hP hD hS => ?_)
  obtain ⟨rfl, rfl⟩ := hf
  have hP : va_P G.1 vwCl (zpic G ad X) H := hP
  have hD : va_D A (zpic G ad X) := hD
  refine W.eq (g2 := F0 m 12 ls []) rfl ?_
  refine lv_aload hx hb dX7_piece_12 (lv_at hl 0 rfl) ?_
  refine lv_iload_n hx hb dX7_piece_14 rfl (lv_at hl 2 rfl) ?_
  refine lv_iload_n hx hb dX7_piece_15 rfl (lv_at hl 3 rfl) ?_
  refine zcall (wr := []) (va_runV (As := [.int (zi (k : Int)), .int (zi (q : Int))]) (rest := []) ⟨hx, hb, hml, hown, hts⟩ (c_X5_segmentOf l G ad X k q hV hTf.2.2.1 hTf.2.2.2 (by omega) (by omega) H.size) (cwV 2 hts gX7_piece_X5_segmentOf rfl rfl rfl (by decide +kernel) ⟨Nat.le_of_ble_eq_true rfl, Nat.le_of_ble_eq_true rfl⟩) (zPreV (wr := []) (wc := zpic G ad X) (q0 := 61) (ci := 5) (q := (RX5, TX5, 7)) hP hD hE hS hA rfl p_61) rfl rfl hl.1 rfl (lv_room (Nat.le_of_ble_eq_true rfl)) dX7_piece_16 ⟨Nat.le_of_ble_eq_true rfl, Nat.le_of_ble_eq_true rfl⟩) hP hD hS hA (fun _ _ H locs hf hP hD hS => ?_)
  obtain ⟨v1, rfl, hv1, rfl⟩ := hf
  have hP : va_P G.1 vwCl (zpic G ad X) H := hP
  have hD : va_D A (zpic G ad X) := hD
  refine W.eq (g2 := F0 m 19 ls [.int (zi v1)]) rfl ?_
  obtain ⟨j, rfl, hj⟩ : ∃ j : Nat, v1 = (j : Int) ∧ zSg X (zFo X k) (zSo X k) q j := by rcases hv1 with h | h; exact h; exact absurd h.2 (by omega)
  have hj1 := hj.1
  refine lv_istore (lv' := [(5, .int (zi (j : Int))), (4, .ref (ad 61)), (0, .ref (ad 52)), (1, .int (zi (k : Int))), (2, .int (zi (q : Int))), (3, .int (zi (t : Int)))]) hx hb dX7_piece_19 hl (by decide) rfl (fun ls hl => ?_)
  refine lv_iload hx hb dX7_piece_21 (lv_at hl 0 rfl) ?_
  refine z0_ge (tgt := 36) hx hb dX7_piece_23 (by decide) (by omega) (fun h23 => ?_) (fun h9 => by exfalso; omega)
  refine lv_iload_n hx hb dX7_piece_36 rfl (lv_at hl 5 rfl) ?_
  refine lv_iconst (v := zi 2) hx hb dX7_piece_37 rfl ?_
  refine zcall (wr := []) (va_runS (As := [.int (zi (t : Int)), .int (zi 2)]) (rest := []) ⟨hx, hb, hml, hown, hts⟩ (c_X7_needWhat l G ad X (t : Int) 2 (by omega) H.size) (va_cwS 2 hts gX7_piece_X7_needWhat rfl rfl rfl (by decide +kernel) ⟨Nat.le_of_ble_eq_true rfl, Nat.le_of_ble_eq_true rfl⟩) (zPre (wr := []) (wc := zpic G ad X) (As := [.int (zi (t : Int)), .int (zi 2)]) hP hD hE hS hA).1 rfl rfl hl.1 rfl (lv_room (Nat.le_of_ble_eq_true rfl)) dX7_piece_38 ⟨Nat.le_of_ble_eq_true rfl, Nat.le_of_ble_eq_true rfl⟩) hP hD hS hA (fun _ _ H locs hf hP hD hS => ?_)
  obtain ⟨rfl, rfl⟩ := hf
  have hP : va_P G.1 vwCl (zpic G ad X) H := hP
  have hD : va_D A (zpic G ad X) := hD
  refine W.eq (g2 := F0 m 41 ls []) rfl ?_
  refine lv_aload hx hb dX7_piece_41 (lv_at hl 1 rfl) ?_
  refine lv_iload_n hx hb dX7_piece_43 rfl (lv_at hl 3 rfl) ?_
  refine zcall (wr := []) (va_runV (As := [.int (zi (k : Int))]) (rest := []) ⟨hx, hb, hml, hown, hts⟩ (c_X5_fieldOf l G ad X k hTf.2.2.2 (by omega) H.size) (cwV 1 hts gX7_piece_X5_fieldOf rfl rfl rfl (by decide +kernel) ⟨Nat.le_of_ble_eq_true rfl, Nat.le_of_ble_eq_true rfl⟩) (zPreV (wr := []) (wc := zpic G ad X) (q0 := 61) (ci := 5) (q := (RX5, TX5, 7)) hP hD hE hS hA rfl p_61) rfl rfl hl.1 rfl (lv_room (Nat.le_of_ble_eq_true rfl)) dX7_piece_44 ⟨Nat.le_of_ble_eq_true rfl, Nat.le_of_ble_eq_true rfl⟩) hP hD hS hA (fun _ _ H locs hf hP hD hS => ?_)
  obtain ⟨v2, rfl, hv2, rfl⟩ := hf
  have hP : va_P G.1 vwCl (zpic G ad X) H := hP
  have hD : va_D A (zpic G ad X) := hD
  refine W.eq (g2 := F0 m 47 ls [.int (zi v2)]) rfl ?_
  rw [hv2]
  refine lv_istore (lv' := [(6, .int (zi (zFo X k : Int))), (5, .int (zi (j : Int))), (4, .ref (ad 61)), (0, .ref (ad 52)), (1, .int (zi (k : Int))), (2, .int (zi (q : Int))), (3, .int (zi (t : Int)))]) hx hb dX7_piece_47 hl (by decide) rfl (fun ls hl => ?_)
  refine lv_iload_n hx hb dX7_piece_49 rfl (lv_at hl 6 rfl) ?_
  refine z0_ne (tgt := 65) hx hb dX7_piece_50 (by decide) (by omega) (fun h50 => ?_) (fun h50 => ?_)
  · refine lv_iload_n hx hb dX7_piece_65 rfl (lv_at hl 6 rfl) ?_
    refine lv_iconst (v := zi 1) hx hb dX7_piece_66 rfl ?_
    refine zc_ne (tgt := 90) hx hb dX7_piece_67 (by decide) (by omega) (by decide) (fun h67 => ?_) (fun h67 => ?_)
    · refine lv_aload hx hb dX7_piece_90 (lv_at hl 2 rfl) ?_
      refine lv_iload_n hx hb dX7_piece_92 rfl (lv_at hl 4 rfl) ?_
      refine lv_iload hx hb dX7_piece_93 (lv_at hl 1 rfl) ?_
      refine zcall (wr := []) (va_runV (As := [.int (zi (k : Int)), .int (zi (j : Int))]) (rest := []) ⟨hx, hb, hml, hown, hts⟩ (c_X5_leadOf l G ad X k j hV hTf.2.2.1 hTf.2.2.2 (by omega) (by omega) H.size) (cwV 2 hts gX7_piece_X5_leadOf rfl rfl rfl (by decide +kernel) ⟨Nat.le_of_ble_eq_true rfl, Nat.le_of_ble_eq_true rfl⟩) (zPreV (wr := []) (wc := zpic G ad X) (q0 := 61) (ci := 5) (q := (RX5, TX5, 7)) hP hD hE hS hA rfl p_61) rfl rfl hl.1 rfl (lv_room (Nat.le_of_ble_eq_true rfl)) dX7_piece_95 ⟨Nat.le_of_ble_eq_true rfl, Nat.le_of_ble_eq_true rfl⟩) hP hD hS hA (fun _ _ H locs hf hP hD hS => ?_)
      obtain ⟨v3, rfl, hv3, rfl⟩ := hf
      have hP : va_P G.1 vwCl (zpic G ad X) H := hP
      have hD : va_D A (zpic G ad X) := hD
      refine W.eq (g2 := F0 m 98 ls [.int (zi v3)]) rfl ?_
      exact zend_i hx hb hr hlocks hP hD hS (Nat.le_of_ble_eq_true rfl) (Nat.le_of_ble_eq_true rfl) dX7_piece_98 ⟨_, rfl, (zPc.f ⟨j, hj, Or.inr (Or.inr ⟨by omega, hv3⟩)⟩), rfl⟩
    · refine lv_aload_n hx hb dX7_piece_70 rfl (lv_at hl 3 rfl) ?_
      refine va_get (D := G.1) (ci := 7) (v := .ref (ad 57)) (C := RX7) (T := TX7) (N := 8) hx hb hts hw7 hown hE.1 hP 52 p_52 rfl 3 (by decide) hf33 (fun _ h9 => h9) rfl dX7_piece_71 ?_
      refine lv_iload hx hb dX7_piece_74 (lv_at hl 0 rfl) ?_
      refine lv_iload hx hb dX7_piece_76 (lv_at hl 1 rfl) ?_
      refine lv_aload hx hb dX7_piece_78 (lv_at hl 2 rfl) ?_
      refine lv_iload_n hx hb dX7_piece_80 rfl (lv_at hl 4 rfl) ?_
      refine zcall (wr := []) (va_runV (As := [.int (zi (k : Int))]) (rest := [.int (zi (j : Int)), .int (zi (zFo X k : Int)), .ref (ad 57)]) ⟨hx, hb, hml, hown, hts⟩ (c_X5_setOf l G ad X k hTf.2.2.2 (by omega) H.size) (cwV 1 hts gX7_piece_X5_setOf rfl rfl rfl (by decide +kernel) ⟨Nat.le_of_ble_eq_true rfl, Nat.le_of_ble_eq_true rfl⟩) (zPreV (wr := []) (wc := zpic G ad X) (q0 := 61) (ci := 5) (q := (RX5, TX5, 7)) hP hD hE hS hA rfl p_61) rfl rfl hl.1 rfl (lv_room (Nat.le_of_ble_eq_true rfl)) dX7_piece_81 ⟨Nat.le_of_ble_eq_true rfl, Nat.le_of_ble_eq_true rfl⟩) hP hD hS hA (fun _ _ H locs hf hP hD hS => ?_)
      obtain ⟨v3, rfl, hv3, rfl⟩ := hf
      have hP : va_P G.1 vwCl (zpic G ad X) H := hP
      have hD : va_D A (zpic G ad X) := hD
      refine W.eq (g2 := F0 m 84 ls [.int (zi v3), .int (zi (j : Int)), .int (zi (zFo X k : Int)), .ref (ad 57)]) rfl ?_
      rw [hv3]
      refine zcall (wr := []) (va_runV (As := [.int (zi (zFo X k : Int)), .int (zi (j : Int)), .int (zi (zSo X k : Int))]) (rest := []) ⟨hx, hb, hml, hown, hts⟩ (c_X1_runEnd l G ad X (zFo X k) j (zSo X k) hV hTf.2.2.1 (by omega) (by omega) (by omega) H.size) (cwV 3 hts gX7_piece_X1_runEnd rfl rfl rfl (by decide +kernel) ⟨Nat.le_of_ble_eq_true rfl, Nat.le_of_ble_eq_true rfl⟩) (zPreV (wr := []) (wc := zpic G ad X) (q0 := 57) (ci := 1) (q := (RX1, TX1, 6)) hP hD hE hS hA rfl p_57) rfl rfl hl.1 rfl (lv_room (Nat.le_of_ble_eq_true rfl)) dX7_piece_84 ⟨Nat.le_of_ble_eq_true rfl, Nat.le_of_ble_eq_true rfl⟩) hP hD hS hA (fun _ _ H locs hf hP hD hS => ?_)
      obtain ⟨v4, rfl, hv4, rfl⟩ := hf
      have hP : va_P G.1 vwCl (zpic G ad X) H := hP
      have hD : va_D A (zpic G ad X) := hD
      refine W.eq (g2 := F0 m 87 ls [.int (zi v4)]) rfl ?_
      refine lv_iconst (v := zi 1) hx hb dX7_piece_87 rfl ?_
      refine lv_isub hx hb dX7_piece_88 (zti (v := zi (v4 - 1)) (zi_sub _ _) ?_)
      exact zend_i hx hb hr hlocks hP hD hS (Nat.le_of_ble_eq_true rfl) (Nat.le_of_ble_eq_true rfl) dX7_piece_89 ⟨_, rfl, (by obtain ⟨e, he, hew⟩ := hv4; exact zPc.f ⟨j, hj, Or.inr (Or.inl ⟨by omega, e, he, by rw [hew]⟩)⟩), rfl⟩
  · refine lv_aload_n hx hb dX7_piece_53 rfl (lv_at hl 3 rfl) ?_
    refine va_get (D := G.1) (ci := 7) (v := .ref (ad 57)) (C := RX7) (T := TX7) (N := 8) hx hb hts hw7 hown hE.1 hP 52 p_52 rfl 3 (by decide) hf33 (fun _ h9 => h9) rfl dX7_piece_54 ?_
    refine lv_iload hx hb dX7_piece_57 (lv_at hl 0 rfl) ?_
    refine lv_iload hx hb dX7_piece_59 (lv_at hl 1 rfl) ?_
    refine zcall (wr := []) (va_runV (As := [.int (zi (zFo X k : Int)), .int (zi (j : Int))]) (rest := []) ⟨hx, hb, hml, hown, hts⟩ (c_X1_start l G ad X (zFo X k) j hTf.2.2.1 (by omega) (by omega) H.size) (cwV 2 hts gX7_piece_X1_start rfl rfl rfl (by decide +kernel) ⟨Nat.le_of_ble_eq_true rfl, Nat.le_of_ble_eq_true rfl⟩) (zPreV (wr := []) (wc := zpic G ad X) (q0 := 57) (ci := 1) (q := (RX1, TX1, 6)) hP hD hE hS hA rfl p_57) rfl rfl hl.1 rfl (lv_room (Nat.le_of_ble_eq_true rfl)) dX7_piece_61 ⟨Nat.le_of_ble_eq_true rfl, Nat.le_of_ble_eq_true rfl⟩) hP hD hS hA (fun _ _ H locs hf hP hD hS => ?_)
    obtain ⟨v3, rfl, hv3, rfl⟩ := hf
    have hP : va_P G.1 vwCl (zpic G ad X) H := hP
    have hD : va_D A (zpic G ad X) := hD
    refine W.eq (g2 := F0 m 64 ls [.int (zi v3)]) rfl ?_
    exact zend_i hx hb hr hlocks hP hD hS (Nat.le_of_ble_eq_true rfl) (Nat.le_of_ble_eq_true rfl) dX7_piece_64 ⟨_, rfl, (zPc.f ⟨j, hj, Or.inl ⟨by omega, hv3⟩⟩), rfl⟩
