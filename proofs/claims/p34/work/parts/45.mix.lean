/-! Nettle: the checksum, its parts -/
theorem dX7_compared_0 : decode cX7_compared 0 = .ok (.aload_n 0, 1) := by decide +kernel
theorem dX7_compared_1 : decode cX7_compared 1 = .ok (.getfield 33, 3) := by decide +kernel
set_option maxRecDepth 20000 in
theorem ggX7_compared_X1_refresh : GoodIn wsX7_compared wsX1_refresh := goodIn_r _ [7, 8, 9, 10, 11, 6, 12, 13, 14, 15, 16, 17, 18, 19, 20, 21, 22, 23, 24, 25, 26, 27, 28, 29, 30, 31, 32, 33, 34, 35, 36, 37, 38, 39, 40, 41, 42, 121, 122, 123, 124, 125, 126, 127, 128, 129, 130, 131, 132, 133] (by decide +kernel) (by decide +kernel)
set_option maxRecDepth 20000 in
theorem gX7_compared_X1_refresh : GoodIn wsX7_compared (wsV RX7 380 RX1 yX1_refresh wsX1_refresh) := goodIn_app (goodIn_of _ (by decide +kernel)) ggX7_compared_X1_refresh
theorem dX7_compared_4 : decode cX7_compared 4 = .ok (.invokevirtual 380, 3) := by decide +kernel
theorem dX7_compared_7 : decode cX7_compared 7 = .ok (.aload_n 0, 1) := by decide +kernel
theorem dX7_compared_8 : decode cX7_compared 8 = .ok (.getfield 51, 3) := by decide +kernel
set_option maxRecDepth 20000 in
theorem ggX7_compared_X0_refresh : GoodIn wsX7_compared wsX0_refresh := goodIn_r _ [47, 48, 49, 50, 51, 52, 53, 54, 55, 25, 56, 27, 28, 57, 58, 59, 32, 60, 61, 62, 63, 46, 64, 65, 66, 67, 68, 69, 70, 71, 72, 73, 74, 75, 76, 77, 78, 79, 80, 81, 82, 83, 34, 35, 84, 85, 86, 87, 88, 89, 90, 91, 92, 93, 94, 95, 96, 6, 97, 98, 99, 100, 101, 14, 102, 103, 104, 105, 21, 13, 106, 107, 108, 109, 110, 111, 112, 134, 135, 136, 137, 138, 139, 140, 127, 128, 129, 130, 131, 132, 133, 121, 122, 123, 124, 125, 126] (by decide +kernel) (by decide +kernel)
set_option maxRecDepth 20000 in
theorem gX7_compared_X0_refresh : GoodIn wsX7_compared (wsV RX7 382 RX0 yX0_refresh wsX0_refresh) := goodIn_app (goodIn_of _ (by decide +kernel)) ggX7_compared_X0_refresh
theorem dX7_compared_11 : decode cX7_compared 11 = .ok (.invokevirtual 382, 3) := by decide +kernel
theorem dX7_compared_14 : decode cX7_compared 14 = .ok (.aload_n 0, 1) := by decide +kernel
theorem dX7_compared_15 : decode cX7_compared 15 = .ok (.getfield 51, 3) := by decide +kernel
theorem dX7_compared_18 : decode cX7_compared 18 = .ok (.areturn, 1) := by decide +kernel
theorem dX7_changed_0 : decode cX7_changed 0 = .ok (.aload_n 0, 1) := by decide +kernel
set_option maxRecDepth 20000 in
theorem ggX7_changed_X7_compared : GoodIn wsX7_changed wsX7_compared := goodIn_r _ [6, 7, 8, 9, 10, 11, 12, 13, 14, 15, 16, 17, 18, 19, 20, 21, 22, 23, 24, 25, 26, 27, 28, 29, 30, 31, 32, 33, 34, 35, 36, 37, 38, 39, 40, 41, 42, 43, 44, 45, 46, 47, 48, 49, 50, 51, 52, 53, 54, 55, 56, 57, 58, 59, 60, 61, 62, 63, 64, 65, 66, 67, 68, 69, 70, 71, 72, 73, 74, 75, 76, 77, 78, 79, 80, 81, 82, 83, 84, 85, 86, 87, 88, 89, 90, 91, 92, 93, 94, 95, 96, 97, 98, 99, 100, 101, 102, 103, 104, 105, 106, 107, 108, 109, 110, 111, 112, 113, 114, 115, 116, 117, 118, 126, 127, 128, 129, 130, 131, 132, 133, 134, 135, 136, 137, 138, 139, 140, 141, 142, 143, 144, 145, 146, 119, 120, 121, 122, 123, 124, 125] (by decide +kernel) (by decide +kernel)
set_option maxRecDepth 20000 in
theorem gX7_changed_X7_compared : GoodIn wsX7_changed (wsV RX7 279 RX7 yX7_compared wsX7_compared) := goodIn_app (goodIn_of _ (by decide +kernel)) ggX7_changed_X7_compared
theorem dX7_changed_1 : decode cX7_changed 1 = .ok (.invokevirtual 279, 3) := by decide +kernel
theorem dX7_changed_4 : decode cX7_changed 4 = .ok (.getfield 283, 3) := by decide +kernel
theorem dX7_changed_7 : decode cX7_changed 7 = .ok (.ireturn, 1) := by decide +kernel
theorem dX7_witness_0 : decode cX7_witness 0 = .ok (.iload_n 1, 1) := by decide +kernel
theorem dX7_witness_1 : decode cX7_witness 1 = .ok (.ifCond .lt 8, 3) := by decide +kernel
theorem dX7_witness_4 : decode cX7_witness 4 = .ok (.iload_n 1, 1) := by decide +kernel
theorem dX7_witness_5 : decode cX7_witness 5 = .ok (.iconst 4, 1) := by decide +kernel
theorem dX7_witness_6 : decode cX7_witness 6 = .ok (.if_icmp .lt 13, 3) := by decide +kernel
theorem dX7_witness_19 : decode cX7_witness 19 = .ok (.aload_n 0, 1) := by decide +kernel
set_option maxRecDepth 20000 in
theorem ggX7_witness_X7_compared : GoodIn wsX7_witness wsX7_compared := goodIn_r _ [8, 9, 10, 11, 12, 13, 14, 15, 16, 17, 18, 19, 20, 21, 22, 23, 24, 25, 26, 27, 28, 29, 30, 31, 32, 33, 34, 35, 36, 37, 38, 39, 40, 41, 42, 43, 44, 45, 46, 47, 48, 49, 50, 51, 52, 53, 54, 55, 56, 57, 58, 59, 60, 61, 62, 63, 64, 65, 66, 67, 68, 69, 70, 71, 72, 73, 74, 75, 76, 77, 78, 79, 80, 81, 82, 83, 84, 85, 86, 87, 88, 89, 90, 91, 92, 93, 94, 95, 96, 97, 98, 99, 100, 101, 102, 103, 104, 105, 106, 107, 108, 109, 110, 111, 112, 113, 114, 115, 116, 117, 118, 119, 120, 128, 129, 130, 131, 132, 133, 134, 135, 136, 137, 138, 139, 140, 141, 142, 143, 144, 145, 146, 147, 148, 121, 122, 123, 124, 125, 126, 127] (by decide +kernel) (by decide +kernel)
set_option maxRecDepth 20000 in
theorem gX7_witness_X7_compared : GoodIn wsX7_witness (wsV RX7 279 RX7 yX7_compared wsX7_compared) := goodIn_app (goodIn_of _ (by decide +kernel)) ggX7_witness_X7_compared
theorem dX7_witness_20 : decode cX7_witness 20 = .ok (.invokevirtual 279, 3) := by decide +kernel
theorem dX7_witness_23 : decode cX7_witness 23 = .ok (.getfield 286, 3) := by decide +kernel
theorem dX7_witness_26 : decode cX7_witness 26 = .ok (.iload_n 1, 1) := by decide +kernel
theorem dX7_witness_27 : decode cX7_witness 27 = .ok (.iaload, 1) := by decide +kernel
theorem dX7_witness_28 : decode cX7_witness 28 = .ok (.ireturn, 1) := by decide +kernel
theorem dX7_mix_0 : decode cX7_mix 0 = .ok (.lload_n 0, 1) := by decide +kernel
theorem dX7_mix_1 : decode cX7_mix 1 = .ok (.ldc2_w 329, 3) := by decide +kernel
theorem dX7_mix_4 : decode cX7_mix 4 = .ok (.lmul, 1) := by decide +kernel
theorem dX7_mix_5 : decode cX7_mix 5 = .ok (.iload_n 2, 1) := by decide +kernel
theorem dX7_mix_6 : decode cX7_mix 6 = .ok (.i2l, 1) := by decide +kernel
theorem dX7_mix_7 : decode cX7_mix 7 = .ok (.ladd, 1) := by decide +kernel
theorem dX7_mix_8 : decode cX7_mix 8 = .ok (.lreturn, 1) := by decide +kernel
theorem dX7_mixRule_0 : decode cX7_mixRule 0 = .ok (.lload_n 1, 1) := by decide +kernel
theorem dX7_mixRule_1 : decode cX7_mixRule 1 = .ok (.lstore 4, 2) := by decide +kernel
theorem dX7_mixRule_3 : decode cX7_mixRule 3 = .ok (.iconst 0, 1) := by decide +kernel
theorem dX7_mixRule_4 : decode cX7_mixRule 4 = .ok (.istore 6, 2) := by decide +kernel
theorem dX7_mixRule_6 : decode cX7_mixRule 6 = .ok (.iload 6, 2) := by decide +kernel
theorem dX7_mixRule_8 : decode cX7_mixRule 8 = .ok (.bipush 9, 2) := by decide +kernel
theorem dX7_mixRule_10 : decode cX7_mixRule 10 = .ok (.if_icmp .gt 23, 3) := by decide +kernel
theorem dX7_mixRule_33 : decode cX7_mixRule 33 = .ok (.lload 4, 2) := by decide +kernel
theorem dX7_mixRule_35 : decode cX7_mixRule 35 = .ok (.aload_n 0, 1) := by decide +kernel
theorem dX7_mixRule_36 : decode cX7_mixRule 36 = .ok (.iload_n 3, 1) := by decide +kernel
set_option maxRecDepth 20000 in
theorem ggX7_mixRule_X7_decides : GoodIn wsX7_mixRule wsX7_decides := goodIn_ca (goodIn_r _ [31, 12, 13, 14, 4, 15, 16, 17, 6, 18, 32, 33, 34, 35, 36, 37, 38, 39, 40, 41, 42, 43, 44, 45, 46, 47, 48, 49, 50, 51, 52, 53, 54, 55, 56, 57, 58, 59, 60, 61, 62, 63, 64, 65, 66, 67, 68, 69, 70, 71, 72, 73, 74, 75, 76, 77, 78, 79, 80, 81, 82, 83, 84, 85, 86, 87, 88, 89, 90, 134, 135, 136, 137, 138, 139, 140, 141, 142, 143, 144, 149, 150, 151, 152, 153, 145, 146, 147, 148] (by decide +kernel) (by decide +kernel)) (goodIn_sub (fun _ h => List.mem_cons_of_mem _ (List.mem_append_left _ (List.mem_append_right _ h))) (by decide +kernel))
set_option maxRecDepth 20000 in
theorem gX7_mixRule_X7_decides : GoodIn wsX7_mixRule (wsV RX7 334 RX7 yX7_decides wsX7_decides) := goodIn_app (goodIn_of _ (by decide +kernel)) ggX7_mixRule_X7_decides
theorem dX7_mixRule_37 : decode cX7_mixRule 37 = .ok (.invokevirtual 334, 3) := by decide +kernel
set_option maxRecDepth 20000 in
theorem ggX7_mixRule_X7_mix : GoodIn wsX7_mixRule wsX7_mix := goodIn_r _ [26, 27] (by decide +kernel) (by decide +kernel)
set_option maxRecDepth 20000 in
theorem gX7_mixRule_X7_mix : GoodIn wsX7_mixRule (va_wsS RX7 297 yX7_mix wsX7_mix) := goodIn_app (goodIn_of _ (by decide +kernel)) ggX7_mixRule_X7_mix
theorem dX7_mixRule_40 : decode cX7_mixRule 40 = .ok (.invokestatic 297, 3) := by decide +kernel
theorem dX7_mixRule_43 : decode cX7_mixRule 43 = .ok (.lstore 4, 2) := by decide +kernel
theorem dX7_mixRule_45 : decode cX7_mixRule 45 = .ok (.lload 4, 2) := by decide +kernel
theorem dX7_mixRule_47 : decode cX7_mixRule 47 = .ok (.aload_n 0, 1) := by decide +kernel
theorem dX7_mixRule_48 : decode cX7_mixRule 48 = .ok (.iload_n 3, 1) := by decide +kernel
set_option maxRecDepth 20000 in
theorem ggX7_mixRule_X7_state : GoodIn wsX7_mixRule wsX7_state := goodIn_ca (goodIn_r _ [94, 6, 7, 8, 12, 13, 14, 4, 15, 16, 17, 18, 32, 33, 34, 35, 36, 37, 38, 39, 40, 41, 42, 43, 44, 45, 46, 47, 48, 49, 50, 51, 52, 53, 54, 55, 56, 57, 58, 59, 60, 61, 62, 63, 64, 65, 66, 67, 68, 69, 70, 71, 72, 73, 74, 75, 95, 96, 97, 98, 99, 77, 78, 79, 80, 81, 82, 83, 84, 85, 86, 87, 88, 89, 90, 100, 101, 102, 103, 104, 105, 106, 107, 108, 109, 110, 111, 112, 113, 114, 115, 116, 117, 118, 119, 120, 121, 134, 135, 136, 137, 138, 139, 140, 141, 142, 143, 144, 145, 146, 147, 148, 149, 150, 151, 152, 153] (by decide +kernel) (by decide +kernel)) (goodIn_sub (fun _ h => List.mem_cons_of_mem _ (List.mem_append_left _ (List.mem_append_right _ h))) (by decide +kernel))
set_option maxRecDepth 20000 in
theorem gX7_mixRule_X7_state : GoodIn wsX7_mixRule (wsV RX7 337 RX7 yX7_state wsX7_state) := goodIn_app (goodIn_of _ (by decide +kernel)) ggX7_mixRule_X7_state
theorem dX7_mixRule_49 : decode cX7_mixRule 49 = .ok (.invokevirtual 337, 3) := by decide +kernel
theorem dX7_mixRule_52 : decode cX7_mixRule 52 = .ok (.invokestatic 297, 3) := by decide +kernel
theorem dX7_mixRule_55 : decode cX7_mixRule 55 = .ok (.lstore 4, 2) := by decide +kernel
theorem dX7_mixRule_57 : decode cX7_mixRule 57 = .ok (.lload 4, 2) := by decide +kernel
theorem dX7_mixRule_59 : decode cX7_mixRule 59 = .ok (.aload_n 0, 1) := by decide +kernel
theorem dX7_mixRule_60 : decode cX7_mixRule 60 = .ok (.iload_n 3, 1) := by decide +kernel
set_option maxRecDepth 20000 in
theorem ggX7_mixRule_X7_coveredBy : GoodIn wsX7_mixRule wsX7_coveredBy := goodIn_ca (goodIn_r _ [125, 6, 12, 13, 14, 4, 15, 16, 17, 18, 112, 113, 114, 69, 115, 84, 85, 86, 87, 88, 89, 90, 116, 117, 118, 119, 120, 121, 134, 135, 136, 137, 138, 139, 140, 141, 142, 143, 144, 145, 146, 147, 148] (by decide +kernel) (by decide +kernel)) (goodIn_sub (fun _ h => List.mem_cons_of_mem _ (List.mem_append_left _ (List.mem_append_right _ h))) (by decide +kernel))
set_option maxRecDepth 20000 in
theorem gX7_mixRule_X7_coveredBy : GoodIn wsX7_mixRule (wsV RX7 340 RX7 yX7_coveredBy wsX7_coveredBy) := goodIn_app (goodIn_of _ (by decide +kernel)) ggX7_mixRule_X7_coveredBy
theorem dX7_mixRule_61 : decode cX7_mixRule 61 = .ok (.invokevirtual 340, 3) := by decide +kernel
theorem dX7_mixRule_64 : decode cX7_mixRule 64 = .ok (.invokestatic 297, 3) := by decide +kernel
theorem dX7_mixRule_67 : decode cX7_mixRule 67 = .ok (.lstore 4, 2) := by decide +kernel
theorem dX7_mixRule_69 : decode cX7_mixRule 69 = .ok (.lload 4, 2) := by decide +kernel
theorem dX7_mixRule_71 : decode cX7_mixRule 71 = .ok (.aload_n 0, 1) := by decide +kernel
theorem dX7_mixRule_72 : decode cX7_mixRule 72 = .ok (.iload_n 3, 1) := by decide +kernel
set_option maxRecDepth 20000 in
theorem ggX7_mixRule_X7_allowedWithout : GoodIn wsX7_mixRule wsX7_allowedWithout := goodIn_ca (goodIn_r _ [129, 12, 13, 14, 4, 15, 16, 17, 6, 18, 32, 33, 34, 35, 36, 37, 38, 39, 40, 41, 42, 43, 44, 45, 46, 47, 48, 49, 50, 51, 52, 53, 54, 55, 56, 57, 58, 59, 60, 61, 62, 63, 64, 65, 66, 67, 68, 69, 70, 71, 72, 73, 74, 75, 130, 131, 132, 133, 80, 81, 82, 83, 84, 85, 86, 87, 88, 89, 90, 105, 106, 107, 108, 109, 110, 111, 134, 135, 136, 137, 138, 139, 140, 141, 142, 143, 144, 149, 150, 151, 152, 153, 145, 146, 147, 148] (by decide +kernel) (by decide +kernel)) (goodIn_sub (fun _ h => List.mem_cons_of_mem _ (List.mem_append_left _ (List.mem_append_right _ h))) (by decide +kernel))
set_option maxRecDepth 20000 in
theorem gX7_mixRule_X7_allowedWithout : GoodIn wsX7_mixRule (wsV RX7 343 RX7 yX7_allowedWithout wsX7_allowedWithout) := goodIn_app (goodIn_of _ (by decide +kernel)) ggX7_mixRule_X7_allowedWithout
theorem dX7_mixRule_73 : decode cX7_mixRule 73 = .ok (.invokevirtual 343, 3) := by decide +kernel
theorem dX7_mixRule_76 : decode cX7_mixRule 76 = .ok (.invokestatic 297, 3) := by decide +kernel
theorem dX7_mixRule_79 : decode cX7_mixRule 79 = .ok (.lreturn, 1) := by decide +kernel
theorem dX7_mixRule_13 : decode cX7_mixRule 13 = .ok (.lload 4, 2) := by decide +kernel
theorem dX7_mixRule_15 : decode cX7_mixRule 15 = .ok (.aload_n 0, 1) := by decide +kernel
theorem dX7_mixRule_16 : decode cX7_mixRule 16 = .ok (.iload_n 3, 1) := by decide +kernel
theorem dX7_mixRule_17 : decode cX7_mixRule 17 = .ok (.iload 6, 2) := by decide +kernel
set_option maxRecDepth 20000 in
theorem ggX7_mixRule_X7_ofRule : GoodIn wsX7_mixRule wsX7_ofRule := goodIn_ca (goodIn_ca (goodIn_r _ [5, 6, 7, 8, 9, 10, 11, 12, 13, 14, 4, 15, 16, 17, 18, 19, 20, 21, 22, 23, 134, 135, 136, 137, 138, 139, 140, 141, 142, 143, 144, 145, 146, 147, 148] (by decide +kernel) (by decide +kernel)) (goodIn_sub (fun _ h => List.mem_cons_of_mem _ (List.mem_append_left _ (List.mem_append_right _ h))) (by decide +kernel))) (goodIn_sub (fun _ h => List.mem_cons_of_mem _ (List.mem_append_right _ h)) (by decide +kernel))
set_option maxRecDepth 20000 in
theorem gX7_mixRule_X7_ofRule : GoodIn wsX7_mixRule (wsV RX7 331 RX7 yX7_ofRule wsX7_ofRule) := goodIn_app (goodIn_of _ (by decide +kernel)) ggX7_mixRule_X7_ofRule
theorem dX7_mixRule_19 : decode cX7_mixRule 19 = .ok (.invokevirtual 331, 3) := by decide +kernel
theorem dX7_mixRule_22 : decode cX7_mixRule 22 = .ok (.invokestatic 297, 3) := by decide +kernel
theorem dX7_mixRule_25 : decode cX7_mixRule 25 = .ok (.lstore 4, 2) := by decide +kernel
theorem dX7_mixRule_27 : decode cX7_mixRule 27 = .ok (.iinc 6 1, 3) := by decide +kernel
theorem dX7_mixRule_30 : decode cX7_mixRule 30 = .ok (.goto (-24), 3) := by decide +kernel
theorem dX7_mixNode_0 : decode cX7_mixNode 0 = .ok (.lload_n 1, 1) := by decide +kernel
theorem dX7_mixNode_1 : decode cX7_mixNode 1 = .ok (.lstore 4, 2) := by decide +kernel
theorem dX7_mixNode_3 : decode cX7_mixNode 3 = .ok (.iconst 0, 1) := by decide +kernel
theorem dX7_mixNode_4 : decode cX7_mixNode 4 = .ok (.istore 6, 2) := by decide +kernel
theorem dX7_mixNode_6 : decode cX7_mixNode 6 = .ok (.iload 6, 2) := by decide +kernel
theorem dX7_mixNode_8 : decode cX7_mixNode 8 = .ok (.iconst 2, 1) := by decide +kernel
theorem dX7_mixNode_9 : decode cX7_mixNode 9 = .ok (.if_icmp .gt 23, 3) := by decide +kernel
theorem dX7_mixNode_32 : decode cX7_mixNode 32 = .ok (.aload_n 0, 1) := by decide +kernel
set_option maxRecDepth 20000 in
theorem ggX7_mixNode_X7_compiled : GoodIn wsX7_mixNode wsX7_compiled := goodIn_r _ [9, 10, 11, 12, 13, 14, 15, 16, 17, 18, 19, 20, 21, 22, 23, 24, 25, 26, 27, 28, 29, 30, 31, 32, 33, 34, 35, 36, 37, 38, 39, 40, 41, 42, 43, 44, 45, 46, 47, 48, 49, 50, 51, 52, 53, 54, 55, 56, 57, 58, 59, 60, 61, 62, 63, 64, 65, 66, 67, 68, 69, 70, 71, 72, 73, 74, 75, 76, 77, 78, 79, 80, 81, 82, 83, 84, 85, 86, 87, 88, 89, 90, 91, 92, 93, 94, 95, 96, 97, 151, 152, 153, 154, 155, 156, 157, 158, 159, 160, 161, 162, 163, 164, 165, 166, 167, 168, 169, 170, 171, 172, 173, 174, 175, 176, 177, 178] (by decide +kernel) (by decide +kernel)
set_option maxRecDepth 20000 in
theorem gX7_mixNode_X7_compiled : GoodIn wsX7_mixNode (wsV RX7 189 RX7 yX7_compiled wsX7_compiled) := goodIn_app (goodIn_of _ (by decide +kernel)) ggX7_mixNode_X7_compiled
theorem dX7_mixNode_33 : decode cX7_mixNode 33 = .ok (.invokevirtual 189, 3) := by decide +kernel
theorem dX7_mixNode_36 : decode cX7_mixNode 36 = .ok (.iload_n 3, 1) := by decide +kernel
set_option maxRecDepth 20000 in
theorem ggX7_mixNode_X5_pieceCount : GoodIn wsX7_mixNode wsX5_pieceCount := goodIn_r _ [120, 74, 75, 121, 110, 111, 55, 112, 73, 122, 114, 115, 116, 123, 124, 125, 15, 126, 127, 91, 92, 93, 23, 172, 173, 174, 175, 176, 177, 178, 159, 160, 161, 162, 163, 164] (by decide +kernel) (by decide +kernel)
set_option maxRecDepth 20000 in
theorem gX7_mixNode_X5_pieceCount : GoodIn wsX7_mixNode (wsV RX7 204 RX5 yX5_pieceCount wsX5_pieceCount) := goodIn_app (goodIn_of _ (by decide +kernel)) ggX7_mixNode_X5_pieceCount
theorem dX7_mixNode_37 : decode cX7_mixNode 37 = .ok (.invokevirtual 204, 3) := by decide +kernel
theorem dX7_mixNode_40 : decode cX7_mixNode 40 = .ok (.istore 6, 2) := by decide +kernel
theorem dX7_mixNode_42 : decode cX7_mixNode 42 = .ok (.iconst 0, 1) := by decide +kernel
theorem dX7_mixNode_43 : decode cX7_mixNode 43 = .ok (.istore 7, 2) := by decide +kernel
theorem dX7_mixNode_45 : decode cX7_mixNode 45 = .ok (.iload 7, 2) := by decide +kernel
theorem dX7_mixNode_47 : decode cX7_mixNode 47 = .ok (.iload 6, 2) := by decide +kernel
theorem dX7_mixNode_49 : decode cX7_mixNode 49 = .ok (.if_icmp .ge 40, 3) := by decide +kernel
theorem dX7_mixNode_89 : decode cX7_mixNode 89 = .ok (.lload 4, 2) := by decide +kernel
theorem dX7_mixNode_91 : decode cX7_mixNode 91 = .ok (.lreturn, 1) := by decide +kernel
theorem dX7_mixNode_52 : decode cX7_mixNode 52 = .ok (.iconst 0, 1) := by decide +kernel
theorem dX7_mixNode_53 : decode cX7_mixNode 53 = .ok (.istore 8, 2) := by decide +kernel
theorem dX7_mixNode_55 : decode cX7_mixNode 55 = .ok (.iload 8, 2) := by decide +kernel
theorem dX7_mixNode_57 : decode cX7_mixNode 57 = .ok (.iconst 2, 1) := by decide +kernel
theorem dX7_mixNode_58 : decode cX7_mixNode 58 = .ok (.if_icmp .gt 25, 3) := by decide +kernel
theorem dX7_mixNode_83 : decode cX7_mixNode 83 = .ok (.iinc 7 1, 3) := by decide +kernel
theorem dX7_mixNode_86 : decode cX7_mixNode 86 = .ok (.goto (-41), 3) := by decide +kernel
theorem dX7_mixNode_61 : decode cX7_mixNode 61 = .ok (.lload 4, 2) := by decide +kernel
theorem dX7_mixNode_63 : decode cX7_mixNode 63 = .ok (.aload_n 0, 1) := by decide +kernel
theorem dX7_mixNode_64 : decode cX7_mixNode 64 = .ok (.iload_n 3, 1) := by decide +kernel
theorem dX7_mixNode_65 : decode cX7_mixNode 65 = .ok (.iload 7, 2) := by decide +kernel
theorem dX7_mixNode_67 : decode cX7_mixNode 67 = .ok (.iload 8, 2) := by decide +kernel
set_option maxRecDepth 20000 in
theorem ggX7_mixNode_X7_piece : GoodIn wsX7_mixNode wsX7_piece := goodIn_ca (goodIn_ca (goodIn_r _ [135, 101, 102, 10, 6, 7, 8, 4, 9, 11, 12, 13, 14, 15, 16, 17, 18, 19, 20, 21, 22, 23, 24, 25, 26, 27, 28, 29, 30, 31, 32, 33, 34, 35, 36, 37, 38, 39, 40, 41, 42, 43, 44, 45, 46, 47, 48, 49, 50, 51, 52, 53, 54, 55, 56, 57, 58, 59, 60, 61, 62, 63, 64, 65, 66, 67, 68, 69, 70, 71, 72, 73, 74, 75, 76, 77, 78, 79, 80, 81, 82, 83, 84, 85, 86, 87, 88, 89, 90, 91, 92, 93, 94, 95, 96, 97, 98, 99, 100, 103, 136, 137, 138, 139, 121, 110, 111, 112, 122, 114, 115, 116, 123, 124, 125, 126, 127, 104, 105, 106, 107, 108, 109, 140, 113, 141, 142, 143, 144, 145, 146, 147, 148, 149, 150, 151, 152, 153, 154, 155, 156, 157, 158, 159, 160, 161, 162, 163, 164, 165, 166, 167, 168, 169, 170, 171, 172, 173, 174, 175, 176, 177, 178] (by decide +kernel) (by decide +kernel)) (goodIn_sub (fun _ h => List.mem_cons_of_mem _ (List.mem_append_left _ (List.mem_append_right _ h))) (by decide +kernel))) (goodIn_sub (fun _ h => List.mem_cons_of_mem _ (List.mem_append_right _ h)) (by decide +kernel))
set_option maxRecDepth 20000 in
theorem gX7_mixNode_X7_piece : GoodIn wsX7_mixNode (wsV RX7 349 RX7 yX7_piece wsX7_piece) := goodIn_app (goodIn_of _ (by decide +kernel)) ggX7_mixNode_X7_piece
theorem dX7_mixNode_69 : decode cX7_mixNode 69 = .ok (.invokevirtual 349, 3) := by decide +kernel
set_option maxRecDepth 20000 in
theorem ggX7_mixNode_X7_mix : GoodIn wsX7_mixNode wsX7_mix := goodIn_r _ [130, 131] (by decide +kernel) (by decide +kernel)
set_option maxRecDepth 20000 in
theorem gX7_mixNode_X7_mix : GoodIn wsX7_mixNode (va_wsS RX7 297 yX7_mix wsX7_mix) := goodIn_app (goodIn_of _ (by decide +kernel)) ggX7_mixNode_X7_mix
theorem dX7_mixNode_72 : decode cX7_mixNode 72 = .ok (.invokestatic 297, 3) := by decide +kernel
theorem dX7_mixNode_75 : decode cX7_mixNode 75 = .ok (.lstore 4, 2) := by decide +kernel
theorem dX7_mixNode_77 : decode cX7_mixNode 77 = .ok (.iinc 8 1, 3) := by decide +kernel
theorem dX7_mixNode_80 : decode cX7_mixNode 80 = .ok (.goto (-25), 3) := by decide +kernel
theorem dX7_mixNode_12 : decode cX7_mixNode 12 = .ok (.lload 4, 2) := by decide +kernel
theorem dX7_mixNode_14 : decode cX7_mixNode 14 = .ok (.aload_n 0, 1) := by decide +kernel
theorem dX7_mixNode_15 : decode cX7_mixNode 15 = .ok (.iload_n 3, 1) := by decide +kernel
theorem dX7_mixNode_16 : decode cX7_mixNode 16 = .ok (.iload 6, 2) := by decide +kernel
set_option maxRecDepth 20000 in
theorem ggX7_mixNode_X7_ofNode : GoodIn wsX7_mixNode wsX7_ofNode := goodIn_ca (goodIn_ca (goodIn_r _ [5, 6, 7, 8, 4, 9, 10, 11, 12, 13, 14, 15, 16, 17, 18, 19, 20, 21, 22, 23, 24, 25, 26, 27, 28, 29, 30, 31, 32, 33, 34, 35, 36, 37, 38, 39, 40, 41, 42, 43, 44, 45, 46, 47, 48, 49, 50, 51, 52, 53, 54, 55, 56, 57, 58, 59, 60, 61, 62, 63, 64, 65, 66, 67, 68, 69, 70, 71, 72, 73, 74, 75, 76, 77, 78, 79, 80, 81, 82, 83, 84, 85, 86, 87, 88, 89, 90, 91, 92, 93, 94, 95, 96, 97, 98, 99, 100, 101, 102, 103, 104, 105, 106, 107, 108, 109, 110, 111, 112, 113, 114, 115, 116, 117, 118, 119, 120, 121, 122, 123, 124, 125, 126, 127, 151, 152, 153, 154, 155, 156, 157, 158, 159, 160, 161, 162, 163, 164, 165, 166, 167, 168, 169, 170, 171, 172, 173, 174, 175, 176, 177, 178] (by decide +kernel) (by decide +kernel)) (goodIn_sub (fun _ h => List.mem_cons_of_mem _ (List.mem_append_left _ (List.mem_append_right _ h))) (by decide +kernel))) (goodIn_sub (fun _ h => List.mem_cons_of_mem _ (List.mem_append_right _ h)) (by decide +kernel))
set_option maxRecDepth 20000 in
theorem gX7_mixNode_X7_ofNode : GoodIn wsX7_mixNode (wsV RX7 346 RX7 yX7_ofNode wsX7_ofNode) := goodIn_app (goodIn_of _ (by decide +kernel)) ggX7_mixNode_X7_ofNode
theorem dX7_mixNode_18 : decode cX7_mixNode 18 = .ok (.invokevirtual 346, 3) := by decide +kernel
theorem dX7_mixNode_21 : decode cX7_mixNode 21 = .ok (.invokestatic 297, 3) := by decide +kernel
theorem dX7_mixNode_24 : decode cX7_mixNode 24 = .ok (.lstore 4, 2) := by decide +kernel
theorem dX7_mixNode_26 : decode cX7_mixNode 26 = .ok (.iinc 6 1, 3) := by decide +kernel
theorem dX7_mixNode_29 : decode cX7_mixNode 29 = .ok (.goto (-23), 3) := by decide +kernel
theorem dX7_sent_0 : decode cX7_sent 0 = .ok (.iload_n 1, 1) := by decide +kernel
theorem dX7_sent_1 : decode cX7_sent 1 = .ok (.iconst 4, 1) := by decide +kernel
set_option maxRecDepth 20000 in
theorem ggX7_sent_X7_needWhat : GoodIn wsX7_sent wsX7_needWhat := goodIn_ca (goodIn_r _ [10, 11, 12] (by decide +kernel) (by decide +kernel)) (goodIn_sub (fun _ h => List.mem_cons_of_mem _ (List.mem_append_right _ h)) (by decide +kernel))
set_option maxRecDepth 20000 in
theorem gX7_sent_X7_needWhat : GoodIn wsX7_sent (va_wsS RX7 143 yX7_needWhat wsX7_needWhat) := goodIn_app (goodIn_of _ (by decide +kernel)) ggX7_sent_X7_needWhat
theorem dX7_sent_2 : decode cX7_sent 2 = .ok (.invokestatic 143, 3) := by decide +kernel
theorem dX7_sent_5 : decode cX7_sent 5 = .ok (.iload_n 1, 1) := by decide +kernel
theorem dX7_sent_6 : decode cX7_sent 6 = .ok (.tableswitch 62 0 3 #[30, 38, 46, 54], 30) := by decide +kernel
theorem dX7_sent_36 : decode cX7_sent 36 = .ok (.aload_n 0, 1) := by decide +kernel
theorem dX7_sent_37 : decode cX7_sent 37 = .ok (.getfield 58, 3) := by decide +kernel
theorem dX7_sent_40 : decode cX7_sent 40 = .ok (.getfield 255, 3) := by decide +kernel
theorem dX7_sent_43 : decode cX7_sent 43 = .ok (.ireturn, 1) := by decide +kernel
theorem dX7_sent_44 : decode cX7_sent 44 = .ok (.aload_n 0, 1) := by decide +kernel
theorem dX7_sent_45 : decode cX7_sent 45 = .ok (.getfield 58, 3) := by decide +kernel
theorem dX7_sent_48 : decode cX7_sent 48 = .ok (.getfield 258, 3) := by decide +kernel
theorem dX7_sent_51 : decode cX7_sent 51 = .ok (.ireturn, 1) := by decide +kernel
theorem dX7_sent_52 : decode cX7_sent 52 = .ok (.aload_n 0, 1) := by decide +kernel
theorem dX7_sent_53 : decode cX7_sent 53 = .ok (.getfield 58, 3) := by decide +kernel
theorem dX7_sent_56 : decode cX7_sent 56 = .ok (.getfield 261, 3) := by decide +kernel
theorem dX7_sent_59 : decode cX7_sent 59 = .ok (.ireturn, 1) := by decide +kernel
theorem dX7_sent_60 : decode cX7_sent 60 = .ok (.aload_n 0, 1) := by decide +kernel
theorem dX7_sent_61 : decode cX7_sent 61 = .ok (.getfield 58, 3) := by decide +kernel
theorem dX7_sent_64 : decode cX7_sent 64 = .ok (.getfield 264, 3) := by decide +kernel
theorem dX7_sent_67 : decode cX7_sent 67 = .ok (.ireturn, 1) := by decide +kernel
theorem dX7_sent_68 : decode cX7_sent 68 = .ok (.aload_n 0, 1) := by decide +kernel
theorem dX7_sent_69 : decode cX7_sent 69 = .ok (.getfield 58, 3) := by decide +kernel
theorem dX7_sent_72 : decode cX7_sent 72 = .ok (.getfield 267, 3) := by decide +kernel
theorem dX7_sent_75 : decode cX7_sent 75 = .ok (.ireturn, 1) := by decide +kernel
theorem dX7_mixLog_0 : decode cX7_mixLog 0 = .ok (.lload_n 1, 1) := by decide +kernel
theorem dX7_mixLog_1 : decode cX7_mixLog 1 = .ok (.lstore_n 3, 1) := by decide +kernel
theorem dX7_mixLog_2 : decode cX7_mixLog 2 = .ok (.iconst 0, 1) := by decide +kernel
theorem dX7_mixLog_3 : decode cX7_mixLog 3 = .ok (.istore 5, 2) := by decide +kernel
theorem dX7_mixLog_5 : decode cX7_mixLog 5 = .ok (.iload 5, 2) := by decide +kernel
theorem dX7_mixLog_7 : decode cX7_mixLog 7 = .ok (.iconst 4, 1) := by decide +kernel
theorem dX7_mixLog_8 : decode cX7_mixLog 8 = .ok (.if_icmp .gt 20, 3) := by decide +kernel
theorem dX7_mixLog_11 : decode cX7_mixLog 11 = .ok (.lload_n 3, 1) := by decide +kernel
theorem dX7_mixLog_12 : decode cX7_mixLog 12 = .ok (.aload_n 0, 1) := by decide +kernel
theorem dX7_mixLog_13 : decode cX7_mixLog 13 = .ok (.iload 5, 2) := by decide +kernel
set_option maxRecDepth 20000 in
theorem ggX7_mixLog_X7_sent : GoodIn wsX7_mixLog wsX7_sent := goodIn_ca (goodIn_r _ [7, 1, 8, 9, 10, 2, 11, 12, 13, 6, 14, 15, 16, 28, 29, 30, 31, 32, 33, 34, 35, 36, 37, 38, 39, 40, 41] (by decide +kernel) (by decide +kernel)) (goodIn_sub (fun _ h => List.mem_cons_of_mem _ (List.mem_append_left _ (List.mem_append_right _ h))) (by decide +kernel))
set_option maxRecDepth 20000 in
theorem gX7_mixLog_X7_sent : GoodIn wsX7_mixLog (wsV RX7 352 RX7 yX7_sent wsX7_sent) := goodIn_app (goodIn_of _ (by decide +kernel)) ggX7_mixLog_X7_sent
theorem dX7_mixLog_15 : decode cX7_mixLog 15 = .ok (.invokevirtual 352, 3) := by decide +kernel
set_option maxRecDepth 20000 in
theorem ggX7_mixLog_X7_mix : GoodIn wsX7_mixLog wsX7_mix := goodIn_r _ [19, 20] (by decide +kernel) (by decide +kernel)
set_option maxRecDepth 20000 in
theorem gX7_mixLog_X7_mix : GoodIn wsX7_mixLog (va_wsS RX7 297 yX7_mix wsX7_mix) := goodIn_app (goodIn_of _ (by decide +kernel)) ggX7_mixLog_X7_mix
theorem dX7_mixLog_18 : decode cX7_mixLog 18 = .ok (.invokestatic 297, 3) := by decide +kernel
theorem dX7_mixLog_21 : decode cX7_mixLog 21 = .ok (.lstore_n 3, 1) := by decide +kernel
theorem dX7_mixLog_22 : decode cX7_mixLog 22 = .ok (.iinc 5 1, 3) := by decide +kernel
theorem dX7_mixLog_25 : decode cX7_mixLog 25 = .ok (.goto (-20), 3) := by decide +kernel
theorem dX7_mixLog_28 : decode cX7_mixLog 28 = .ok (.iconst 0, 1) := by decide +kernel
theorem dX7_mixLog_29 : decode cX7_mixLog 29 = .ok (.istore 5, 2) := by decide +kernel
theorem dX7_mixLog_31 : decode cX7_mixLog 31 = .ok (.iload 5, 2) := by decide +kernel
theorem dX7_mixLog_33 : decode cX7_mixLog 33 = .ok (.aload_n 0, 1) := by decide +kernel
theorem dX7_mixLog_34 : decode cX7_mixLog 34 = .ok (.getfield 58, 3) := by decide +kernel
theorem dX7_mixLog_37 : decode cX7_mixLog 37 = .ok (.getfield 264, 3) := by decide +kernel
theorem dX7_mixLog_40 : decode cX7_mixLog 40 = .ok (.if_icmp .ge 37, 3) := by decide +kernel
theorem dX7_mixLog_77 : decode cX7_mixLog 77 = .ok (.lload_n 3, 1) := by decide +kernel
theorem dX7_mixLog_78 : decode cX7_mixLog 78 = .ok (.lreturn, 1) := by decide +kernel
/-- answers: a long, a double, nothing changed; a long, ints changed -/
def zl (G : zG) (ad : Nat → Nat) (X : Nat → Nat → Int) (P : Int64 → Prop) : Option Value → va_W → Prop := fun r w => ∃ v : Int64, r = some (.long v) ∧ P v ∧ w = zpic G ad X
def zd (G : zG) (ad : Nat → Nat) (X : Nat → Nat → Int) (P : UInt64 → Prop) : Option Value → va_W → Prop := fun r w => ∃ v : UInt64, r = some (.double v) ∧ P v ∧ w = zpic G ad X
def zL (G : zG) (ad : Nat → Nat) (P : Int64 → (Nat → Nat → Int) → Prop) : Option Value → va_W → Prop := fun r w => ∃ (v : Int64) (X' : Nat → Nat → Int), r = some (.long v) ∧ P v X' ∧ w = zpic G ad X'
/-- cuts and comparison are made -/
def zKM (X : Nat → Nat → Int) : Prop := X 65 6 = 0 ∨ (X 65 6 = 1 ∧ X 57 5 = 1 ∧ zCm X)
def zMf (X : Nat → Nat → Int) : Prop := X 65 6 = 1 ∧ X 57 5 = 1 ∧ zCs X ∧ zCm X
def zPd2 (X Y : Nat → Nat → Int) : Prop := (X 65 6 = 1 → Y = X) ∧ (∀ c : Nat, c < 57 ∨ 61 ≤ c → c ≠ 65 → c ≠ 66 → c ≠ 67 → Y c = X c) ∧ (X 57 5 = 1 → ∀ c : Nat, 57 ≤ c → c ≤ 60 → Y c = X c) ∧ zMf Y
theorem zPd2.we {X Y : Nat → Nat → Int} (h : zPd2 X Y) : zWe X Y := fun c hc => h.2.1 c (by omega) (by omega) (by omega) (by omega)
theorem zPd2_of {X Y Z : Nat → Nat → Int} (hV : zV X) (hK : zKM X) (h : zCd X Y) (h2 : zMd Y Z) : zPd2 X Z := by
  have e65 : Y 65 = X 65 := h.2.1 65 (by omega) (by omega) (by omega) (by omega)
  have hVY := h.we.v hV
  have hwc : zWc Y Z := ⟨fun c hc => h2.2.1 c (by omega) (by omega) (by omega), fun c a b => h2.2.1 c (by omega) (by omega) (by omega)⟩
  refine ⟨fun q => ?_, fun c q1 q2 q3 q4 => ?_, fun q c q1 q2 => ?_, h2.2.2.1, ?_, hwc.cs hVY h.2.2.2, h2.2.2.2⟩
  · have h57 : X 57 5 = 1 := by rcases hK with z | z; (exact absurd z (by omega)); exact z.2.1
    rw [h2.1 (by rw [e65]; exact q), h.1 h57]
  · rw [h2.2.1 c q2 q3 q4, h.2.1 c (by omega) (by omega) (by omega) (by omega)]
  · rw [h2.2.1 c (by omega) (by omega) (by omega), h.1 q]
  · rw [h2.2.1 57 (by omega) (by omega) (by omega)]; exact h.2.2.1
theorem zPd2.again {X Y : Nat → Nat → Int} (h : zMf X) (h2 : zPd2 X Y) : Y = X := h2.1 h.1
theorem zMf.km {X : Nat → Nat → Int} (h : zMf X) : zKM X := Or.inr ⟨h.1, h.2.1, h.2.2.2⟩
/-- mixing, many times -/
def zMix (d : Int64) (x : Int) : Int64 := d * 31 + (zi x).toInt64
def zIt (F : Nat → Int64 → Int64) (d : Int64) : Nat → Int64
  | 0 => d
  | n + 1 => F n (zIt F d n)
def zFld (f : Nat → Int) (d : Int64) (n : Nat) : Int64 := zIt (fun j e => zMix e (f j)) d n
theorem zIt_congr {F G : Nat → Int64 → Int64} {d : Int64} {n : Nat} (h : ∀ j : Nat, j < n → ∀ e : Int64, F j e = G j e) : zIt F d n = zIt G d n := by
  induction n with
  | zero => rfl
  | succ n ih =>
    show F n (zIt F d n) = G n (zIt G d n)
    rw [ih (fun j hj => h j (by omega)), h n (by omega)]
theorem zFld_congr {f g : Nat → Int} {d : Int64} {n : Nat} (h : ∀ j : Nat, j < n → f j = g j) : zFld f d n = zFld g d n := zIt_congr fun j hj e => by rw [h j hj]
noncomputable def zDR (X : Nat → Nat → Int) (q : Nat) (d : Int64) : Int64 := zMix (zMix (zMix (zMix (zFld (zOf X q) d 10) (zDc X q)) (zSt X q)) (zCvF X q)) (zAll X (255 - 2 ^ q))
noncomputable def zNp (X : Nat → Nat → Int) (k : Nat) : Nat := zNr X (zFo X k) (zSo X k) (zCn X (zFo X k))
noncomputable def zDN (X : Nat → Nat → Int) (k : Nat) (d : Int64) : Int64 := zIt (fun p e => zFld (zPf X k p) e 3) (zFld (zOn X k) d 3) (zNp X k)
/-- the PACKETS' log is empty -/
def zLg (X : Nat → Nat → Int) : Prop := X 68 1 = 0 ∧ X 68 2 = 0 ∧ X 68 3 = 0 ∧ X 68 4 = 0 ∧ X 68 5 = 0

set_option maxHeartbeats 4000000 in
set_option maxRecDepth 100000 in
/-- compared -/
theorem c_X7_compared (l : Launch) (G : zG) (ad : Nat → Nat) (X : Nat → Nat → Int) (hV : zV X) (hKc : zKC X) (hKm : zKM X) : zR l G yX7_compared wsX7_compared { frames := 9, cells := 0, slots := 0, locals := 224 } (zpic G ad X) [.ref (ad 52)] (za G ad 65 (fun Y => zPd2 X Y)) 0 0 := by
  refine zR_of (cc := cX7_compared) (maxL := 1) (rt := (some (.object "Nettle$Comparison"))) (by decide) rfl (Nat.le_of_ble_eq_true rfl) ?_
  intro p e s m below meth c A ls hx hb hml hr hts hown hlocks hin0 hA hE hP hD hS hl
  have hl : lv_has ls 1 [(0, .ref (ad 52))] := hl
  have hown : s.vm.findClass RX7 = some m.cls := hown
  have hw7 : ∀ w ∈ u_ws RX7 TX7 8, w ∈ wsX7_compared := by decide +kernel
  have hf33 := hts (.fieldLink RX7 33 "Nettle" "cuts" "LNettle$Cuts;") (by decide +kernel)
  have hf51 := hts (.fieldLink RX7 51 "Nettle" "comparison" "LNettle$Comparison;") (by decide +kernel)
  refine lv_aload_n hx hb dX7_compared_0 rfl (lv_at hl 0 rfl) ?_
  refine va_get (D := G.1) (ci := 7) (v := .ref (ad 57)) (C := RX7) (T := TX7) (N := 8) hx hb hts hw7 hown hE.1 hP 52 p_52 rfl 3 (by decide) hf33 (fun _ h9 => h9) rfl dX7_compared_1 ?_
  refine zcall (wr := []) (va_runV (As := []) (rest := []) ⟨hx, hb, hml, hown, hts⟩ (c_X1_refresh l G ad X hV (by omega) s.heap.size) (cwV 0 hts gX7_compared_X1_refresh rfl rfl rfl (by decide +kernel) ⟨Nat.le_of_ble_eq_true rfl, Nat.le_of_ble_eq_true rfl⟩) (zPreV (wr := []) (wc := zpic G ad X) (q0 := 57) (ci := 1) (q := (RX1, TX1, 6)) hP hD hE hS hA rfl p_57) rfl rfl hl.1 rfl (lv_room (Nat.le_of_ble_eq_true rfl)) dX7_compared_4 ⟨Nat.le_of_ble_eq_true rfl, Nat.le_of_ble_eq_true rfl⟩) hP hD hS hA (fun _ _ H locs hf hP hD hS => ?_)
  obtain ⟨X1, rfl, hX1, rfl⟩ := hf
  have hP : va_P G.1 vwCl (zpic G ad X1) H := hP
  have hD : va_D A (zpic G ad X1) := hD
  refine W.eq (g2 := F0 m 7 ls []) rfl ?_
  have hV1 : zV X1 := hX1.we.v hV
  have e65 : X1 65 = X 65 := hX1.2.1 65 (by omega) (by omega) (by omega) (by omega)
  have e66 : X1 66 = X 66 := hX1.2.1 66 (by omega) (by omega) (by omega) (by omega)
  have hK1 : X1 65 6 = 0 ∨ (X1 65 6 = 1 ∧ zCm X1) := by rw [e65]; rcases hKm with h | h; exact Or.inl h; exact Or.inr ⟨h.1, by unfold zCm; rw [e65, e66]; exact h.2.2⟩
  refine lv_aload_n hx hb dX7_compared_7 rfl (lv_at hl 0 rfl) ?_
  refine va_get (D := G.1) (ci := 7) (v := .ref (ad 65)) (C := RX7) (T := TX7) (N := 8) hx hb hts hw7 hown hE.1 hP 52 p_52 rfl 5 (by decide) hf51 (fun _ h9 => h9) rfl dX7_compared_8 ?_
  refine zcall (wr := []) (va_runV (As := []) (rest := []) ⟨hx, hb, hml, hown, hts⟩ (c_X0_refresh l G ad X1 hV1 hX1.2.2.2 hK1 H.size) (cwV 0 hts gX7_compared_X0_refresh rfl rfl rfl (by decide +kernel) ⟨Nat.le_of_ble_eq_true rfl, Nat.le_of_ble_eq_true rfl⟩) (zPreV (wr := []) (wc := zpic G ad X1) (q0 := 65) (ci := 0) (q := (RX0, TX0, 7)) hP hD hE hS hA rfl p_65) rfl rfl hl.1 rfl (lv_room (Nat.le_of_ble_eq_true rfl)) dX7_compared_11 ⟨Nat.le_of_ble_eq_true rfl, Nat.le_of_ble_eq_true rfl⟩) hP hD hS hA (fun _ _ H locs hf hP hD hS => ?_)
  obtain ⟨X2, rfl, hX2, rfl⟩ := hf
  have hP : va_P G.1 vwCl (zpic G ad X2) H := hP
  have hD : va_D A (zpic G ad X2) := hD
  refine W.eq (g2 := F0 m 14 ls []) rfl ?_
  refine lv_aload_n hx hb dX7_compared_14 rfl (lv_at hl 0 rfl) ?_
  refine va_get (D := G.1) (ci := 7) (v := .ref (ad 65)) (C := RX7) (T := TX7) (N := 8) hx hb hts hw7 hown hE.1 hP 52 p_52 rfl 5 (by decide) hf51 (fun _ h9 => h9) rfl dX7_compared_15 ?_
  exact zend_a hx hb hr hlocks (Or.inl ⟨_, rfl⟩) hP hD hS (Nat.le_of_ble_eq_true rfl) (Nat.le_of_ble_eq_true rfl) dX7_compared_18 ⟨_, rfl, (zPd2_of hV hKm hX1 hX2), rfl⟩

set_option maxHeartbeats 4000000 in
set_option maxRecDepth 100000 in
/-- changed -/
theorem c_X7_changed (l : Launch) (G : zG) (ad : Nat → Nat) (X : Nat → Nat → Int) (hV : zV X) (hKc : zKC X) (hKm : zKM X) : zR l G yX7_changed wsX7_changed { frames := 10, cells := 0, slots := 0, locals := 244 } (zpic G ad X) [.ref (ad 52)] (zu G ad (fun w Y => w = Y 65 5 ∧ zPd2 X Y)) 0 0 := by
  refine zR_of (cc := cX7_changed) (maxL := 1) (rt := (some .int)) (by decide) rfl (Nat.le_of_ble_eq_true rfl) ?_
  intro p e s m below meth c A ls hx hb hml hr hts hown hlocks hin0 hA hE hP hD hS hl
  have hl : lv_has ls 1 [(0, .ref (ad 52))] := hl
  have hown : s.vm.findClass RX7 = some m.cls := hown
  have hw0 : ∀ w ∈ u_ws RX0 TX0 7, w ∈ wsX7_changed := by decide +kernel
  have hf283 := hts (.fieldLink RX7 283 "Nettle$Comparison" "amount" "I") (by decide +kernel)
  refine lv_aload_n hx hb dX7_changed_0 rfl (lv_at hl 0 rfl) ?_
  refine zcall (wr := []) (va_runV (As := []) (rest := []) ⟨hx, hb, hml, hown, hts⟩ (c_X7_compared l G ad X hV (by omega) (by omega) s.heap.size) (cwV 0 hts gX7_changed_X7_compared rfl rfl rfl (by decide +kernel) ⟨Nat.le_of_ble_eq_true rfl, Nat.le_of_ble_eq_true rfl⟩) (zPreV (wr := []) (wc := zpic G ad X) (q0 := 52) (ci := 7) (q := (RX7, TX7, 8)) hP hD hE hS hA rfl p_52) rfl rfl hl.1 rfl (lv_room (Nat.le_of_ble_eq_true rfl)) dX7_changed_1 ⟨Nat.le_of_ble_eq_true rfl, Nat.le_of_ble_eq_true rfl⟩) hP hD hS hA (fun _ _ H locs hf hP hD hS => ?_)
  obtain ⟨X1, rfl, hX1, rfl⟩ := hf
  have hP : va_P G.1 vwCl (zpic G ad X1) H := hP
  have hD : va_D A (zpic G ad X1) := hD
  refine W.eq (g2 := F0 m 4 ls [.ref (ad 65)]) rfl ?_
  refine va_get (D := G.1) (ci := 0) (v := .int (zi (X1 65 5))) (C := RX0) (T := TX0) (N := 7) hx hb hts hw0 hown hE.1 hP 65 p_65 rfl 5 (by decide) hf283 (fun _ h9 => h9) rfl dX7_changed_4 ?_
  exact zend_i hx hb hr hlocks hP hD hS (Nat.le_of_ble_eq_true rfl) (Nat.le_of_ble_eq_true rfl) dX7_changed_7 ⟨_, _, rfl, ⟨rfl, hX1⟩, rfl⟩

set_option maxHeartbeats 4000000 in
set_option maxRecDepth 100000 in
/-- witness -/
theorem c_X7_witness (l : Launch) (G : zG) (ad : Nat → Nat) (X : Nat → Nat → Int) (f : Nat) (hV : zV X) (hKc : zKC X) (hKm : zKM X) (hf : f < 4) : zR l G yX7_witness wsX7_witness { frames := 10, cells := 0, slots := 0, locals := 244 } (zpic G ad X) [.ref (ad 52), .int (zi (f : Int))] (zu G ad (fun w Y => w = Y 66 f ∧ zPd2 X Y)) 0 0 := by
  refine zR_of (cc := cX7_witness) (maxL := 2) (rt := (some .int)) (by decide) rfl (Nat.le_of_ble_eq_true rfl) ?_
  intro p e s m below meth c A ls hx hb hml hr hts hown hlocks hin0 hA hE hP hD hS hl
  have hl : lv_has ls 2 [(0, .ref (ad 52)), (1, .int (zi (f : Int)))] := hl
  have hown : s.vm.findClass RX7 = some m.cls := hown
  have hw0 : ∀ w ∈ u_ws RX0 TX0 7, w ∈ wsX7_witness := by decide +kernel
  have hf286 := hts (.fieldLink RX7 286 "Nettle$Comparison" "first" "[I") (by decide +kernel)
  refine lv_iload_n hx hb dX7_witness_0 rfl (lv_at hl 1 rfl) ?_
  refine z0_lt (tgt := 9) hx hb dX7_witness_1 (by decide) (by omega) (fun h9 => by exfalso; omega) (fun h1 => ?_)
  refine lv_iload_n hx hb dX7_witness_4 rfl (lv_at hl 1 rfl) ?_
  refine lv_iconst (v := zi 4) hx hb dX7_witness_5 rfl ?_
  refine zc_lt (tgt := 19) hx hb dX7_witness_6 (by decide) (by omega) (by decide) (fun h6 => ?_) (fun h9 => by exfalso; omega)
  refine lv_aload_n hx hb dX7_witness_19 rfl (lv_at hl 0 rfl) ?_
  refine zcall (wr := []) (va_runV (As := []) (rest := []) ⟨hx, hb, hml, hown, hts⟩ (c_X7_compared l G ad X hV (by omega) (by omega) s.heap.size) (cwV 0 hts gX7_witness_X7_compared rfl rfl rfl (by decide +kernel) ⟨Nat.le_of_ble_eq_true rfl, Nat.le_of_ble_eq_true rfl⟩) (zPreV (wr := []) (wc := zpic G ad X) (q0 := 52) (ci := 7) (q := (RX7, TX7, 8)) hP hD hE hS hA rfl p_52) rfl rfl hl.1 rfl (lv_room (Nat.le_of_ble_eq_true rfl)) dX7_witness_20 ⟨Nat.le_of_ble_eq_true rfl, Nat.le_of_ble_eq_true rfl⟩) hP hD hS hA (fun _ _ H locs hf hP hD hS => ?_)
  obtain ⟨X1, rfl, hX1, rfl⟩ := hf
  have hP : va_P G.1 vwCl (zpic G ad X1) H := hP
  have hD : va_D A (zpic G ad X1) := hD
  refine W.eq (g2 := F0 m 23 ls [.ref (ad 65)]) rfl ?_
  refine va_get (D := G.1) (ci := 0) (v := .ref (ad 66)) (C := RX0) (T := TX0) (N := 7) hx hb hts hw0 hown hE.1 hP 65 p_65 rfl 3 (by decide) hf286 (fun _ h9 => h9) rfl dX7_witness_23 ?_
  refine lv_iload_n hx hb dX7_witness_26 rfl (lv_at hl 1 rfl) ?_
  refine zild hx hb hE hP 66 4 (fun _ => rfl) (by decide) f rfl (by omega) (by decide) dX7_witness_27 ?_
  exact zend_i hx hb hr hlocks hP hD hS (Nat.le_of_ble_eq_true rfl) (Nat.le_of_ble_eq_true rfl) dX7_witness_28 ⟨_, _, rfl, ⟨rfl, hX1⟩, rfl⟩

set_option maxHeartbeats 4000000 in
set_option maxRecDepth 100000 in
/-- mix -/
theorem c_X7_mix (l : Launch) (G : zG) (ad : Nat → Nat) (X : Nat → Nat → Int) (d : Int64) (x : Int) : zR l G yX7_mix wsX7_mix { frames := 0, cells := 0, slots := 0, locals := 0 } (zpic G ad X) [.long d, .int (zi x)] (zl G ad X (fun v => v = zMix d x)) 0 0 := by
  refine zR_of (cc := cX7_mix) (maxL := 3) (rt := (some .long)) (by decide) rfl (Nat.le_of_ble_eq_true rfl) ?_
  intro p e s m below meth c A ls hx hb hml hr hts hown hlocks hin0 hA hE hP hD hS hl
  have hl : lv_has ls 3 [(0, .long d), (2, .int (zi x))] := hl
  have hown : s.vm.findClass RX7 = some m.cls := hown
  have hc329 := hts (.constantLong RX7 329 (31)) (by decide +kernel)
  refine lv_lload_n hx hb dX7_mix_0 rfl (lv_at hl 0 rfl) ?_
  refine lv_ldc2 hx hb hown hc329 dX7_mix_1 ?_
  refine lv_lmul hx hb dX7_mix_4 ?_
  refine lv_iload_n hx hb dX7_mix_5 rfl (lv_at hl 1 rfl) ?_
  refine lv_i2l (v := (zi x).toInt64) hx hb dX7_mix_6 rfl ?_
  refine lv_ladd hx hb dX7_mix_7 ?_
  exact zend_l hx hb hr hlocks hP hD hS (Nat.le_of_ble_eq_true rfl) (Nat.le_of_ble_eq_true rfl) dX7_mix_8 ⟨_, rfl, rfl, rfl⟩

set_option maxHeartbeats 4000000 in
set_option maxRecDepth 100000 in
/-- mixRule -/
theorem c_X7_mixRule (l : Launch) (G : zG) (ad : Nat → Nat) (X : Nat → Nat → Int) (d : Int64) (q : Nat) (hV : zV X) (hKs : zKS X) (hq : q < zN X 0) : zR l G yX7_mixRule wsX7_mixRule { frames := 5, cells := 0, slots := 0, locals := 113 } (zpic G ad X) [.ref (ad 52), .long d, .int (zi (q : Int))] (zL G ad (fun v Y => v = zDR X q d ∧ zSd X Y)) 0 0 := by
  refine zR_of (cc := cX7_mixRule) (maxL := 7) (rt := (some .long)) (by decide) rfl (Nat.le_of_ble_eq_true rfl) ?_
  intro p e s m below meth c A ls hx hb hml hr hts hown hlocks hin0 hA hE hP hD hS hl
  have hl : lv_has ls 7 [(0, .ref (ad 52)), (1, .long d), (3, .int (zi (q : Int)))] := hl
  have hown : s.vm.findClass RX7 = some m.cls := hown
  have hn := hV.n (Or.inl rfl : zIsW 0)
  refine lv_lload_n hx hb dX7_mixRule_0 rfl (lv_at hl 1 rfl) ?_
  refine lv_lstore (lv' := [(4, .long d), (0, .ref (ad 52)), (1, .long d), (3, .int (zi (q : Int)))]) hx hb dX7_mixRule_1 hl (by decide) rfl (fun ls hl => ?_)
  refine lv_iconst (v := zi 0) hx hb dX7_mixRule_3 rfl ?_
  refine lv_istore (lv' := [(6, .int (zi 0)), (4, .long d), (0, .ref (ad 52)), (1, .long d), (3, .int (zi (q : Int)))]) hx hb dX7_mixRule_4 hl (by decide) rfl (fun ls hl => ?_)
  refine zloop2 (fun (t : Nat) (D : Int64) => 10 - t) (fun (t : Nat) (D : Int64) (H : Heap) (locs : List Loc) (ls : Array Slot) => va_P G.1 vwCl (zpic G ad X) H ∧ va_D A (zpic G ad X) ∧ va_S A s.heap H locs ∧ lv_has ls 7 [(6, .int (zi (t : Int))), (4, .long D), (3, .int (zi (q : Int))), (0, .ref (ad 52))] ∧ (t ≤ 10) ∧ (D = zFld (zOf X q) d t)) ?_ 0 d ⟨hP, hD, hS, lv_sub hl [0, 1, 4, 2] rfl, (by omega), rfl⟩
  intro t D ih H locs ls ⟨hP, hD, hS, hl, ht, hdd⟩
  refine lv_iload hx hb dX7_mixRule_6 (lv_at hl 0 rfl) ?_
  refine lv_bipush (v := zi 9) hx hb dX7_mixRule_8 (by decide +kernel) ?_
  refine zc_gt (tgt := 33) hx hb dX7_mixRule_10 (by decide) (by omega) (by decide) (fun h10 => ?_) (fun h10 => ?_)
  · refine lv_lload hx hb dX7_mixRule_33 (lv_at hl 1 rfl) ?_
    refine lv_aload_n hx hb dX7_mixRule_35 rfl (lv_at hl 3 rfl) ?_
    refine lv_iload_n hx hb dX7_mixRule_36 rfl (lv_at hl 2 rfl) ?_
    refine zcall (wr := []) (va_runV (As := [.int (zi (q : Int))]) (rest := [.long D]) ⟨hx, hb, hml, hown, hts⟩ (c_X7_decides l G ad X q hV (by omega) (by omega) H.size) (cwV 1 hts gX7_mixRule_X7_decides rfl rfl rfl (by decide +kernel) ⟨Nat.le_of_ble_eq_true rfl, Nat.le_of_ble_eq_true rfl⟩) (zPreV (wr := []) (wc := zpic G ad X) (q0 := 52) (ci := 7) (q := (RX7, TX7, 8)) hP hD hE hS hA rfl p_52) rfl rfl hl.1 rfl (lv_room (Nat.le_of_ble_eq_true rfl)) dX7_mixRule_37 ⟨Nat.le_of_ble_eq_true rfl, Nat.le_of_ble_eq_true rfl⟩) hP hD hS hA (fun _ _ H locs hf hP hD hS => ?_)
    obtain ⟨v1, X1, rfl, hv1, rfl⟩ := hf
    have hP : va_P G.1 vwCl (zpic G ad X1) H := hP
    have hD : va_D A (zpic G ad X1) := hD
    refine W.eq (g2 := F0 m 40 ls [.int (zi v1), .long D]) rfl ?_
    have hw1 : zWe X X1 := hv1.2.we
    have hV1 : zV X1 := hw1.v hV
    have hn1 : zN X1 0 = zN X 0 := hw1.n (Or.inl rfl : zIsW 0)
    have hk1 : zKS X1 := hv1.2.ks hV
    refine zcall (wr := []) (va_runS (As := [.long D, .int (zi v1)]) (rest := []) ⟨hx, hb, hml, hown, hts⟩ (c_X7_mix l G ad X1 D v1 H.size) (va_cwS 2 hts gX7_mixRule_X7_mix rfl rfl rfl (by decide +kernel) ⟨Nat.le_of_ble_eq_true rfl, Nat.le_of_ble_eq_true rfl⟩) (zPre (wr := []) (wc := zpic G ad X1) (As := [.long D, .int (zi v1)]) hP hD hE hS hA).1 rfl rfl hl.1 rfl (lv_room (Nat.le_of_ble_eq_true rfl)) dX7_mixRule_40 ⟨Nat.le_of_ble_eq_true rfl, Nat.le_of_ble_eq_true rfl⟩) hP hD hS hA (fun _ _ H locs hf hP hD hS => ?_)
    obtain ⟨v2, rfl, hv2, rfl⟩ := hf
    subst hv2
    have hP : va_P G.1 vwCl (zpic G ad X1) H := hP
    have hD : va_D A (zpic G ad X1) := hD
    refine W.eq (g2 := F0 m 43 ls [.long (zMix D v1)]) rfl ?_
    refine lv_lstore (lv' := [(4, .long (zMix D v1)), (6, .int (zi (t : Int))), (3, .int (zi (q : Int))), (0, .ref (ad 52))]) hx hb dX7_mixRule_43 hl (by decide) rfl (fun ls hl => ?_)
    refine lv_lload hx hb dX7_mixRule_45 (lv_at hl 0 rfl) ?_
    refine lv_aload_n hx hb dX7_mixRule_47 rfl (lv_at hl 3 rfl) ?_
    refine lv_iload_n hx hb dX7_mixRule_48 rfl (lv_at hl 2 rfl) ?_
    refine zcall (wr := []) (va_runV (As := [.int (zi (q : Int))]) (rest := [.long (zMix D v1)]) ⟨hx, hb, hml, hown, hts⟩ (c_X7_state l G ad X1 q hV1 hk1 (by omega) H.size) (cwV 1 hts gX7_mixRule_X7_state rfl rfl rfl (by decide +kernel) ⟨Nat.le_of_ble_eq_true rfl, Nat.le_of_ble_eq_true rfl⟩) (zPreV (wr := []) (wc := zpic G ad X1) (q0 := 52) (ci := 7) (q := (RX7, TX7, 8)) hP hD hE hS hA rfl p_52) rfl rfl hl.1 rfl (lv_room (Nat.le_of_ble_eq_true rfl)) dX7_mixRule_49 ⟨Nat.le_of_ble_eq_true rfl, Nat.le_of_ble_eq_true rfl⟩) hP hD hS hA (fun _ _ H locs hf hP hD hS => ?_)
    obtain ⟨v3, X2, rfl, hv3, rfl⟩ := hf
    have hP : va_P G.1 vwCl (zpic G ad X2) H := hP
    have hD : va_D A (zpic G ad X2) := hD
    refine W.eq (g2 := F0 m 52 ls [.int (zi v3), .long (zMix D v1)]) rfl ?_
    have eXv3 := hv1.2.again hv3.2
    rw [eXv3] at hP hD
    refine zcall (wr := []) (va_runS (As := [.long (zMix D v1), .int (zi v3)]) (rest := []) ⟨hx, hb, hml, hown, hts⟩ (c_X7_mix l G ad X1 (zMix D v1) v3 H.size) (va_cwS 2 hts gX7_mixRule_X7_mix rfl rfl rfl (by decide +kernel) ⟨Nat.le_of_ble_eq_true rfl, Nat.le_of_ble_eq_true rfl⟩) (zPre (wr := []) (wc := zpic G ad X1) (As := [.long (zMix D v1), .int (zi v3)]) hP hD hE hS hA).1 rfl rfl hl.1 rfl (lv_room (Nat.le_of_ble_eq_true rfl)) dX7_mixRule_52 ⟨Nat.le_of_ble_eq_true rfl, Nat.le_of_ble_eq_true rfl⟩) hP hD hS hA (fun _ _ H locs hf hP hD hS => ?_)
    obtain ⟨v4, rfl, hv4, rfl⟩ := hf
    subst hv4
    have hP : va_P G.1 vwCl (zpic G ad X1) H := hP
    have hD : va_D A (zpic G ad X1) := hD
    refine W.eq (g2 := F0 m 55 ls [.long (zMix (zMix D v1) v3)]) rfl ?_
    refine lv_lstore (lv' := [(4, .long (zMix (zMix D v1) v3)), (6, .int (zi (t : Int))), (3, .int (zi (q : Int))), (0, .ref (ad 52))]) hx hb dX7_mixRule_55 hl (by decide) rfl (fun ls hl => ?_)
    refine lv_lload hx hb dX7_mixRule_57 (lv_at hl 0 rfl) ?_
    refine lv_aload_n hx hb dX7_mixRule_59 rfl (lv_at hl 3 rfl) ?_
    refine lv_iload_n hx hb dX7_mixRule_60 rfl (lv_at hl 2 rfl) ?_
    refine zcall (wr := []) (va_runV (As := [.int (zi (q : Int))]) (rest := [.long (zMix (zMix D v1) v3)]) ⟨hx, hb, hml, hown, hts⟩ (c_X7_coveredBy l G ad X1 q hV1 (by omega) H.size) (cwV 1 hts gX7_mixRule_X7_coveredBy rfl rfl rfl (by decide +kernel) ⟨Nat.le_of_ble_eq_true rfl, Nat.le_of_ble_eq_true rfl⟩) (zPreV (wr := []) (wc := zpic G ad X1) (q0 := 52) (ci := 7) (q := (RX7, TX7, 8)) hP hD hE hS hA rfl p_52) rfl rfl hl.1 rfl (lv_room (Nat.le_of_ble_eq_true rfl)) dX7_mixRule_61 ⟨Nat.le_of_ble_eq_true rfl, Nat.le_of_ble_eq_true rfl⟩) hP hD hS hA (fun _ _ H locs hf hP hD hS => ?_)
    obtain ⟨v5, rfl, hv5, rfl⟩ := hf
    have hP : va_P G.1 vwCl (zpic G ad X1) H := hP
    have hD : va_D A (zpic G ad X1) := hD
    refine W.eq (g2 := F0 m 64 ls [.int (zi v5), .long (zMix (zMix D v1) v3)]) rfl ?_
    refine zcall (wr := []) (va_runS (As := [.long (zMix (zMix D v1) v3), .int (zi v5)]) (rest := []) ⟨hx, hb, hml, hown, hts⟩ (c_X7_mix l G ad X1 (zMix (zMix D v1) v3) v5 H.size) (va_cwS 2 hts gX7_mixRule_X7_mix rfl rfl rfl (by decide +kernel) ⟨Nat.le_of_ble_eq_true rfl, Nat.le_of_ble_eq_true rfl⟩) (zPre (wr := []) (wc := zpic G ad X1) (As := [.long (zMix (zMix D v1) v3), .int (zi v5)]) hP hD hE hS hA).1 rfl rfl hl.1 rfl (lv_room (Nat.le_of_ble_eq_true rfl)) dX7_mixRule_64 ⟨Nat.le_of_ble_eq_true rfl, Nat.le_of_ble_eq_true rfl⟩) hP hD hS hA (fun _ _ H locs hf hP hD hS => ?_)
    obtain ⟨v6, rfl, hv6, rfl⟩ := hf
    subst hv6
    have hP : va_P G.1 vwCl (zpic G ad X1) H := hP
    have hD : va_D A (zpic G ad X1) := hD
    refine W.eq (g2 := F0 m 67 ls [.long (zMix (zMix (zMix D v1) v3) v5)]) rfl ?_
    refine lv_lstore (lv' := [(4, .long (zMix (zMix (zMix D v1) v3) v5)), (6, .int (zi (t : Int))), (3, .int (zi (q : Int))), (0, .ref (ad 52))]) hx hb dX7_mixRule_67 hl (by decide) rfl (fun ls hl => ?_)
    refine lv_lload hx hb dX7_mixRule_69 (lv_at hl 0 rfl) ?_
    refine lv_aload_n hx hb dX7_mixRule_71 rfl (lv_at hl 3 rfl) ?_
    refine lv_iload_n hx hb dX7_mixRule_72 rfl (lv_at hl 2 rfl) ?_
    refine zcall (wr := []) (va_runV (As := [.int (zi (q : Int))]) (rest := [.long (zMix (zMix (zMix D v1) v3) v5)]) ⟨hx, hb, hml, hown, hts⟩ (c_X7_allowedWithout l G ad X1 q hV1 hk1 (by omega) H.size) (cwV 1 hts gX7_mixRule_X7_allowedWithout rfl rfl rfl (by decide +kernel) ⟨Nat.le_of_ble_eq_true rfl, Nat.le_of_ble_eq_true rfl⟩) (zPreV (wr := []) (wc := zpic G ad X1) (q0 := 52) (ci := 7) (q := (RX7, TX7, 8)) hP hD hE hS hA rfl p_52) rfl rfl hl.1 rfl (lv_room (Nat.le_of_ble_eq_true rfl)) dX7_mixRule_73 ⟨Nat.le_of_ble_eq_true rfl, Nat.le_of_ble_eq_true rfl⟩) hP hD hS hA (fun _ _ H locs hf hP hD hS => ?_)
    obtain ⟨v7, X3, rfl, hv7, rfl⟩ := hf
    have hP : va_P G.1 vwCl (zpic G ad X3) H := hP
    have hD : va_D A (zpic G ad X3) := hD
    refine W.eq (g2 := F0 m 76 ls [.int (zi v7), .long (zMix (zMix (zMix D v1) v3) v5)]) rfl ?_
    have eXv7 := hv1.2.again hv7.2
    rw [eXv7] at hP hD
    refine zcall (wr := []) (va_runS (As := [.long (zMix (zMix (zMix D v1) v3) v5), .int (zi v7)]) (rest := []) ⟨hx, hb, hml, hown, hts⟩ (c_X7_mix l G ad X1 (zMix (zMix (zMix D v1) v3) v5) v7 H.size) (va_cwS 2 hts gX7_mixRule_X7_mix rfl rfl rfl (by decide +kernel) ⟨Nat.le_of_ble_eq_true rfl, Nat.le_of_ble_eq_true rfl⟩) (zPre (wr := []) (wc := zpic G ad X1) (As := [.long (zMix (zMix (zMix D v1) v3) v5), .int (zi v7)]) hP hD hE hS hA).1 rfl rfl hl.1 rfl (lv_room (Nat.le_of_ble_eq_true rfl)) dX7_mixRule_76 ⟨Nat.le_of_ble_eq_true rfl, Nat.le_of_ble_eq_true rfl⟩) hP hD hS hA (fun _ _ H locs hf hP hD hS => ?_)
    obtain ⟨v8, rfl, hv8, rfl⟩ := hf
    subst hv8
    have hP : va_P G.1 vwCl (zpic G ad X1) H := hP
    have hD : va_D A (zpic G ad X1) := hD
    refine W.eq (g2 := F0 m 79 ls [.long (zMix (zMix (zMix (zMix D v1) v3) v5) v7)]) rfl ?_
    exact zend_l hx hb hr hlocks hP hD hS (Nat.le_of_ble_eq_true rfl) (Nat.le_of_ble_eq_true rfl) dX7_mixRule_79 ⟨_, _, rfl, ⟨by have ht10 : t = 10 := (by omega); unfold zDR; rw [hdd, ht10, hv1.1, hv3.1.trans (hw1.st hV (by omega)), ((hw1.isC hV (by omega) hv5.2.1).mp hv5.2.2).f hv5.2.1, hv7.1.trans (hw1.all hV _)], hv1.2⟩, rfl⟩
  · refine lv_lload hx hb dX7_mixRule_13 (lv_at hl 1 rfl) ?_
    refine lv_aload_n hx hb dX7_mixRule_15 rfl (lv_at hl 3 rfl) ?_
    refine lv_iload_n hx hb dX7_mixRule_16 rfl (lv_at hl 2 rfl) ?_
    refine lv_iload hx hb dX7_mixRule_17 (lv_at hl 0 rfl) ?_
    refine zcall (wr := []) (va_runV (As := [.int (zi (q : Int)), .int (zi (t : Int))]) (rest := [.long D]) ⟨hx, hb, hml, hown, hts⟩ (c_X7_ofRule l G ad X q t hV (by omega) (by omega) H.size) (cwV 2 hts gX7_mixRule_X7_ofRule rfl rfl rfl (by decide +kernel) ⟨Nat.le_of_ble_eq_true rfl, Nat.le_of_ble_eq_true rfl⟩) (zPreV (wr := []) (wc := zpic G ad X) (q0 := 52) (ci := 7) (q := (RX7, TX7, 8)) hP hD hE hS hA rfl p_52) rfl rfl hl.1 rfl (lv_room (Nat.le_of_ble_eq_true rfl)) dX7_mixRule_19 ⟨Nat.le_of_ble_eq_true rfl, Nat.le_of_ble_eq_true rfl⟩) hP hD hS hA (fun _ _ H locs hf hP hD hS => ?_)
    obtain ⟨v1, rfl, hv1, rfl⟩ := hf
    have hP : va_P G.1 vwCl (zpic G ad X) H := hP
    have hD : va_D A (zpic G ad X) := hD
    refine W.eq (g2 := F0 m 22 ls [.int (zi v1), .long D]) rfl ?_
    refine zcall (wr := []) (va_runS (As := [.long D, .int (zi v1)]) (rest := []) ⟨hx, hb, hml, hown, hts⟩ (c_X7_mix l G ad X D v1 H.size) (va_cwS 2 hts gX7_mixRule_X7_mix rfl rfl rfl (by decide +kernel) ⟨Nat.le_of_ble_eq_true rfl, Nat.le_of_ble_eq_true rfl⟩) (zPre (wr := []) (wc := zpic G ad X) (As := [.long D, .int (zi v1)]) hP hD hE hS hA).1 rfl rfl hl.1 rfl (lv_room (Nat.le_of_ble_eq_true rfl)) dX7_mixRule_22 ⟨Nat.le_of_ble_eq_true rfl, Nat.le_of_ble_eq_true rfl⟩) hP hD hS hA (fun _ _ H locs hf hP hD hS => ?_)
    obtain ⟨v2, rfl, hv2, rfl⟩ := hf
    subst hv2
    have hP : va_P G.1 vwCl (zpic G ad X) H := hP
    have hD : va_D A (zpic G ad X) := hD
    refine W.eq (g2 := F0 m 25 ls [.long (zMix D v1)]) rfl ?_
    refine lv_lstore (lv' := [(4, .long (zMix D v1)), (6, .int (zi (t : Int))), (3, .int (zi (q : Int))), (0, .ref (ad 52))]) hx hb dX7_mixRule_25 hl (by decide) rfl (fun ls hl => ?_)
    refine lv_iinc (v := zi ((t : Int) + 1)) (lv' := [(6, .int (zi ((t : Int) + 1))), (4, .long (zMix D v1)), (3, .int (zi (q : Int))), (0, .ref (ad 52))]) hx hb dX7_mixRule_27 hl (k := 1) rfl (zi_add _ _) (by decide) rfl (fun ls hl => ?_)
    refine lv_goto (tgt := 6) hx hb dX7_mixRule_30 (by decide) ?_
    exact ih (t + 1) (zMix D v1) (by omega) H locs ls ⟨hP, hD, hS, lv_sub hl [0, 1, 2, 3] rfl, (by omega), (by rw [hdd, hv1]; rfl)⟩

set_option maxHeartbeats 4000000 in
set_option maxRecDepth 100000 in
/-- mixNode -/
theorem c_X7_mixNode (l : Launch) (G : zG) (ad : Nat → Nat) (X : Nat → Nat → Int) (d : Int64) (k : Nat) (hV : zV X) (hTf : zTf X) (hk : (k : Int) < X 61 5) : zR l G yX7_mixNode wsX7_mixNode { frames := 9, cells := 0, slots := 0, locals := 229 } (zpic G ad X) [.ref (ad 52), .long d, .int (zi (k : Int))] (zl G ad X (fun v => v = zDN X k d)) 0 0 := by
  refine zR_of (cc := cX7_mixNode) (maxL := 9) (rt := (some .long)) (by decide) rfl (Nat.le_of_ble_eq_true rfl) ?_
  intro p e s m below meth c A ls hx hb hml hr hts hown hlocks hin0 hA hE hP hD hS hl
  have hl : lv_has ls 9 [(0, .ref (ad 52)), (1, .long d), (3, .int (zi (k : Int)))] := hl
  have hown : s.vm.findClass RX7 = some m.cls := hown
  have hnd := hTf.2.2.2.node hk
  have hcn := hTf.2.2.1.n hnd.2.2.1
  refine lv_lload_n hx hb dX7_mixNode_0 rfl (lv_at hl 1 rfl) ?_
  refine lv_lstore (lv' := [(4, .long d), (0, .ref (ad 52)), (1, .long d), (3, .int (zi (k : Int)))]) hx hb dX7_mixNode_1 hl (by decide) rfl (fun ls hl => ?_)
  refine lv_iconst (v := zi 0) hx hb dX7_mixNode_3 rfl ?_
  refine lv_istore (lv' := [(6, .int (zi 0)), (4, .long d), (0, .ref (ad 52)), (1, .long d), (3, .int (zi (k : Int)))]) hx hb dX7_mixNode_4 hl (by decide) rfl (fun ls hl => ?_)
  refine zloop2 (fun (t : Nat) (D : Int64) => 10 - t) (fun (t : Nat) (D : Int64) (H : Heap) (locs : List Loc) (ls : Array Slot) => va_P G.1 vwCl (zpic G ad X) H ∧ va_D A (zpic G ad X) ∧ va_S A s.heap H locs ∧ lv_has ls 9 [(6, .int (zi (t : Int))), (4, .long D), (3, .int (zi (k : Int))), (0, .ref (ad 52))] ∧ (t ≤ 3) ∧ (D = zFld (zOn X k) d t)) ?_ 0 d ⟨hP, hD, hS, lv_sub hl [0, 1, 4, 2] rfl, (by omega), rfl⟩
  intro t D ih H locs ls ⟨hP, hD, hS, hl, ht, hdd⟩
  refine lv_iload hx hb dX7_mixNode_6 (lv_at hl 0 rfl) ?_
  refine lv_iconst (v := zi 2) hx hb dX7_mixNode_8 rfl ?_
  refine zc_gt (tgt := 32) hx hb dX7_mixNode_9 (by decide) (by omega) (by decide) (fun h9 => ?_) (fun h9 => ?_)
  · refine lv_aload_n hx hb dX7_mixNode_32 rfl (lv_at hl 3 rfl) ?_
    refine zcall (wr := []) (va_runV (As := []) (rest := []) ⟨hx, hb, hml, hown, hts⟩ (c_X7_compiled l G ad X hV (Or.inr ⟨hTf.2.1, hTf.2.2.1⟩) (Or.inr ⟨hTf.1, hTf.2.1, hTf.2.2.2⟩) H.size) (cwV 0 hts gX7_mixNode_X7_compiled rfl rfl rfl (by decide +kernel) ⟨Nat.le_of_ble_eq_true rfl, Nat.le_of_ble_eq_true rfl⟩) (zPreV (wr := []) (wc := zpic G ad X) (q0 := 52) (ci := 7) (q := (RX7, TX7, 8)) hP hD hE hS hA rfl p_52) rfl rfl hl.1 rfl (lv_room (Nat.le_of_ble_eq_true rfl)) dX7_mixNode_33 ⟨Nat.le_of_ble_eq_true rfl, Nat.le_of_ble_eq_true rfl⟩) hP hD hS hA (fun _ _ H locs hf hP hD hS => ?_)
    obtain ⟨X1, rfl, hX1, rfl⟩ := hf
    have hP : va_P G.1 vwCl (zpic G ad X1) H := hP
    have hD : va_D A (zpic G ad X1) := hD
    refine W.eq (g2 := F0 m 36 ls [.ref (ad 61)]) rfl ?_
    have eX := zTd.again hTf hX1
    rw [eX] at hP hD
    refine lv_iload_n hx hb dX7_mixNode_36 rfl (lv_at hl 2 rfl) ?_
    refine zcall (wr := []) (va_runV (As := [.int (zi (k : Int))]) (rest := []) ⟨hx, hb, hml, hown, hts⟩ (c_X5_pieceCount l G ad X k hV hTf.2.2.1 hTf.2.2.2 (by omega) H.size) (cwV 1 hts gX7_mixNode_X5_pieceCount rfl rfl rfl (by decide +kernel) ⟨Nat.le_of_ble_eq_true rfl, Nat.le_of_ble_eq_true rfl⟩) (zPreV (wr := []) (wc := zpic G ad X) (q0 := 61) (ci := 5) (q := (RX5, TX5, 7)) hP hD hE hS hA rfl p_61) rfl rfl hl.1 rfl (lv_room (Nat.le_of_ble_eq_true rfl)) dX7_mixNode_37 ⟨Nat.le_of_ble_eq_true rfl, Nat.le_of_ble_eq_true rfl⟩) hP hD hS hA (fun _ _ H locs hf hP hD hS => ?_)
    obtain ⟨v1, rfl, hv1, rfl⟩ := hf
    have hP : va_P G.1 vwCl (zpic G ad X) H := hP
    have hD : va_D A (zpic G ad X) := hD
    refine W.eq (g2 := F0 m 40 ls [.int (zi v1)]) rfl ?_
    rw [hv1]
    have hnp : zNp X k = zNr X (zFo X k) (zSo X k) (zCn X (zFo X k)) := rfl
    have hnl := zNr_le X (zFo X k) (zSo X k) (zCn X (zFo X k))
    refine lv_istore (lv' := [(6, .int (zi (zNp X k : Int))), (4, .long D), (3, .int (zi (k : Int))), (0, .ref (ad 52))]) hx hb dX7_mixNode_40 hl (by decide) rfl (fun ls hl => ?_)
    refine lv_iconst (v := zi 0) hx hb dX7_mixNode_42 rfl ?_
    refine lv_istore (lv' := [(7, .int (zi 0)), (6, .int (zi (zNp X k : Int))), (4, .long D), (3, .int (zi (k : Int))), (0, .ref (ad 52))]) hx hb dX7_mixNode_43 hl (by decide) rfl (fun ls hl => ?_)
    refine zloop2 (fun (p : Nat) (E : Int64) => 40 - p) (fun (p : Nat) (E : Int64) (H : Heap) (locs : List Loc) (ls : Array Slot) => va_P G.1 vwCl (zpic G ad X) H ∧ va_D A (zpic G ad X) ∧ va_S A s.heap H locs ∧ lv_has ls 9 [(7, .int (zi (p : Int))), (6, .int (zi (zNp X k : Int))), (4, .long E), (3, .int (zi (k : Int))), (0, .ref (ad 52))] ∧ (p ≤ zNp X k) ∧ (E = zIt (fun p e => zFld (zPf X k p) e 3) (zFld (zOn X k) d 3) p)) ?_ 0 D ⟨hP, hD, hS, lv_sub hl [0, 1, 2, 3, 4] rfl, (Nat.zero_le _), (by have ht3 : t = 3 := (by omega); rw [hdd, ht3]; rfl)⟩
    intro p E ih45 H locs ls ⟨hP, hD, hS, hl, hp, hde⟩
    refine lv_iload hx hb dX7_mixNode_45 (lv_at hl 0 rfl) ?_
    refine lv_iload hx hb dX7_mixNode_47 (lv_at hl 1 rfl) ?_
    refine zc_ge (tgt := 89) hx hb dX7_mixNode_49 (by decide) (by omega) (by omega) (fun h49 => ?_) (fun h49 => ?_)
    · refine lv_lload hx hb dX7_mixNode_89 (lv_at hl 2 rfl) ?_
      exact zend_l hx hb hr hlocks hP hD hS (Nat.le_of_ble_eq_true rfl) (Nat.le_of_ble_eq_true rfl) dX7_mixNode_91 ⟨_, rfl, (by have hpn : p = zNp X k := (by unfold zNp; omega); rw [hde, hpn]; rfl), rfl⟩
    · refine lv_iconst (v := zi 0) hx hb dX7_mixNode_52 rfl ?_
      refine lv_istore (lv' := [(8, .int (zi 0)), (7, .int (zi (p : Int))), (6, .int (zi (zNp X k : Int))), (4, .long E), (3, .int (zi (k : Int))), (0, .ref (ad 52))]) hx hb dX7_mixNode_53 hl (by decide) rfl (fun ls hl => ?_)
      refine zloop2 (fun (r2 : Nat) (F : Int64) => 10 - r2) (fun (r2 : Nat) (F : Int64) (H : Heap) (locs : List Loc) (ls : Array Slot) => va_P G.1 vwCl (zpic G ad X) H ∧ va_D A (zpic G ad X) ∧ va_S A s.heap H locs ∧ lv_has ls 9 [(8, .int (zi (r2 : Int))), (7, .int (zi (p : Int))), (6, .int (zi (zNp X k : Int))), (4, .long F), (3, .int (zi (k : Int))), (0, .ref (ad 52))] ∧ (r2 ≤ 3) ∧ (F = zFld (zPf X k p) E r2)) ?_ 0 E ⟨hP, hD, hS, lv_sub hl [0, 1, 2, 3, 4, 5] rfl, (by omega), rfl⟩
      intro r2 F ih55 H locs ls ⟨hP, hD, hS, hl, hr2, hdf⟩
      refine lv_iload hx hb dX7_mixNode_55 (lv_at hl 0 rfl) ?_
      refine lv_iconst (v := zi 2) hx hb dX7_mixNode_57 rfl ?_
      refine zc_gt (tgt := 83) hx hb dX7_mixNode_58 (by decide) (by omega) (by decide) (fun h58 => ?_) (fun h58 => ?_)
      · refine lv_iinc (v := zi ((p : Int) + 1)) (lv' := [(7, .int (zi ((p : Int) + 1))), (8, .int (zi (r2 : Int))), (6, .int (zi (zNp X k : Int))), (4, .long F), (3, .int (zi (k : Int))), (0, .ref (ad 52))]) hx hb dX7_mixNode_83 hl (k := 1) rfl (zi_add _ _) (by decide) rfl (fun ls hl => ?_)
        refine lv_goto (tgt := 45) hx hb dX7_mixNode_86 (by decide) ?_
        exact ih45 (p + 1) F (by omega) H locs ls ⟨hP, hD, hS, lv_sub hl [0, 2, 3, 4, 5] rfl, (by omega), (by have hr3 : r2 = 3 := (by omega); rw [hdf, hr3, hde]; rfl)⟩
      · refine lv_lload hx hb dX7_mixNode_61 (lv_at hl 3 rfl) ?_
        refine lv_aload_n hx hb dX7_mixNode_63 rfl (lv_at hl 5 rfl) ?_
        refine lv_iload_n hx hb dX7_mixNode_64 rfl (lv_at hl 4 rfl) ?_
        refine lv_iload hx hb dX7_mixNode_65 (lv_at hl 1 rfl) ?_
        refine lv_iload hx hb dX7_mixNode_67 (lv_at hl 0 rfl) ?_
        refine zcall (wr := []) (va_runV (As := [.int (zi (k : Int)), .int (zi (p : Int)), .int (zi (r2 : Int))]) (rest := [.long F]) ⟨hx, hb, hml, hown, hts⟩ (c_X7_piece l G ad X k p r2 hV (by omega) (by omega) (by show p < zNp X k; omega) (by omega) H.size) (cwV 3 hts gX7_mixNode_X7_piece rfl rfl rfl (by decide +kernel) ⟨Nat.le_of_ble_eq_true rfl, Nat.le_of_ble_eq_true rfl⟩) (zPreV (wr := []) (wc := zpic G ad X) (q0 := 52) (ci := 7) (q := (RX7, TX7, 8)) hP hD hE hS hA rfl p_52) rfl rfl hl.1 rfl (lv_room (Nat.le_of_ble_eq_true rfl)) dX7_mixNode_69 ⟨Nat.le_of_ble_eq_true rfl, Nat.le_of_ble_eq_true rfl⟩) hP hD hS hA (fun _ _ H locs hf hP hD hS => ?_)
        obtain ⟨v2, rfl, hv2, rfl⟩ := hf
        have hP : va_P G.1 vwCl (zpic G ad X) H := hP
        have hD : va_D A (zpic G ad X) := hD
        refine W.eq (g2 := F0 m 72 ls [.int (zi v2), .long F]) rfl ?_
        refine zcall (wr := []) (va_runS (As := [.long F, .int (zi v2)]) (rest := []) ⟨hx, hb, hml, hown, hts⟩ (c_X7_mix l G ad X F v2 H.size) (va_cwS 2 hts gX7_mixNode_X7_mix rfl rfl rfl (by decide +kernel) ⟨Nat.le_of_ble_eq_true rfl, Nat.le_of_ble_eq_true rfl⟩) (zPre (wr := []) (wc := zpic G ad X) (As := [.long F, .int (zi v2)]) hP hD hE hS hA).1 rfl rfl hl.1 rfl (lv_room (Nat.le_of_ble_eq_true rfl)) dX7_mixNode_72 ⟨Nat.le_of_ble_eq_true rfl, Nat.le_of_ble_eq_true rfl⟩) hP hD hS hA (fun _ _ H locs hf hP hD hS => ?_)
        obtain ⟨v3, rfl, hv3, rfl⟩ := hf
        subst hv3
        have hP : va_P G.1 vwCl (zpic G ad X) H := hP
        have hD : va_D A (zpic G ad X) := hD
        refine W.eq (g2 := F0 m 75 ls [.long (zMix F v2)]) rfl ?_
        refine lv_lstore (lv' := [(4, .long (zMix F v2)), (8, .int (zi (r2 : Int))), (7, .int (zi (p : Int))), (6, .int (zi (zNp X k : Int))), (3, .int (zi (k : Int))), (0, .ref (ad 52))]) hx hb dX7_mixNode_75 hl (by decide) rfl (fun ls hl => ?_)
        refine lv_iinc (v := zi ((r2 : Int) + 1)) (lv' := [(8, .int (zi ((r2 : Int) + 1))), (4, .long (zMix F v2)), (7, .int (zi (p : Int))), (6, .int (zi (zNp X k : Int))), (3, .int (zi (k : Int))), (0, .ref (ad 52))]) hx hb dX7_mixNode_77 hl (k := 1) rfl (zi_add _ _) (by decide) rfl (fun ls hl => ?_)
        refine lv_goto (tgt := 55) hx hb dX7_mixNode_80 (by decide) ?_
        exact ih55 (r2 + 1) (zMix F v2) (by omega) H locs ls ⟨hP, hD, hS, lv_sub hl [0, 2, 3, 1, 4, 5] rfl, (by omega), (by rw [hdf, hv2]; rfl)⟩
  · refine lv_lload hx hb dX7_mixNode_12 (lv_at hl 1 rfl) ?_
    refine lv_aload_n hx hb dX7_mixNode_14 rfl (lv_at hl 3 rfl) ?_
    refine lv_iload_n hx hb dX7_mixNode_15 rfl (lv_at hl 2 rfl) ?_
    refine lv_iload hx hb dX7_mixNode_16 (lv_at hl 0 rfl) ?_
    refine zcall (wr := []) (va_runV (As := [.int (zi (k : Int)), .int (zi (t : Int))]) (rest := [.long D]) ⟨hx, hb, hml, hown, hts⟩ (c_X7_ofNode l G ad X k t hV (by omega) (by omega) (by omega) H.size) (cwV 2 hts gX7_mixNode_X7_ofNode rfl rfl rfl (by decide +kernel) ⟨Nat.le_of_ble_eq_true rfl, Nat.le_of_ble_eq_true rfl⟩) (zPreV (wr := []) (wc := zpic G ad X) (q0 := 52) (ci := 7) (q := (RX7, TX7, 8)) hP hD hE hS hA rfl p_52) rfl rfl hl.1 rfl (lv_room (Nat.le_of_ble_eq_true rfl)) dX7_mixNode_18 ⟨Nat.le_of_ble_eq_true rfl, Nat.le_of_ble_eq_true rfl⟩) hP hD hS hA (fun _ _ H locs hf hP hD hS => ?_)
    obtain ⟨v1, rfl, hv1, rfl⟩ := hf
    have hP : va_P G.1 vwCl (zpic G ad X) H := hP
    have hD : va_D A (zpic G ad X) := hD
    refine W.eq (g2 := F0 m 21 ls [.int (zi v1), .long D]) rfl ?_
    refine zcall (wr := []) (va_runS (As := [.long D, .int (zi v1)]) (rest := []) ⟨hx, hb, hml, hown, hts⟩ (c_X7_mix l G ad X D v1 H.size) (va_cwS 2 hts gX7_mixNode_X7_mix rfl rfl rfl (by decide +kernel) ⟨Nat.le_of_ble_eq_true rfl, Nat.le_of_ble_eq_true rfl⟩) (zPre (wr := []) (wc := zpic G ad X) (As := [.long D, .int (zi v1)]) hP hD hE hS hA).1 rfl rfl hl.1 rfl (lv_room (Nat.le_of_ble_eq_true rfl)) dX7_mixNode_21 ⟨Nat.le_of_ble_eq_true rfl, Nat.le_of_ble_eq_true rfl⟩) hP hD hS hA (fun _ _ H locs hf hP hD hS => ?_)
    obtain ⟨v2, rfl, hv2, rfl⟩ := hf
    subst hv2
    have hP : va_P G.1 vwCl (zpic G ad X) H := hP
    have hD : va_D A (zpic G ad X) := hD
    refine W.eq (g2 := F0 m 24 ls [.long (zMix D v1)]) rfl ?_
    refine lv_lstore (lv' := [(4, .long (zMix D v1)), (6, .int (zi (t : Int))), (3, .int (zi (k : Int))), (0, .ref (ad 52))]) hx hb dX7_mixNode_24 hl (by decide) rfl (fun ls hl => ?_)
    refine lv_iinc (v := zi ((t : Int) + 1)) (lv' := [(6, .int (zi ((t : Int) + 1))), (4, .long (zMix D v1)), (3, .int (zi (k : Int))), (0, .ref (ad 52))]) hx hb dX7_mixNode_26 hl (k := 1) rfl (zi_add _ _) (by decide) rfl (fun ls hl => ?_)
    refine lv_goto (tgt := 6) hx hb dX7_mixNode_29 (by decide) ?_
    exact ih (t + 1) (zMix D v1) (by omega) H locs ls ⟨hP, hD, hS, lv_sub hl [0, 1, 2, 3] rfl, (by omega), (by rw [hdd, hv1]; rfl)⟩

set_option maxHeartbeats 4000000 in
set_option maxRecDepth 100000 in
/-- sent -/
theorem c_sent0 (l : Launch) (G : zG) (ad : Nat → Nat) (X : Nat → Nat → Int) (hLg : zLg X) : zR l G yX7_sent wsX7_sent { frames := 1, cells := 0, slots := 0, locals := 21 } (zpic G ad X) [.ref (ad 52), .int (zi 0)] (zq G ad X (fun w => w = 0)) 0 0 := by
  refine zR_of (cc := cX7_sent) (maxL := 2) (rt := (some .int)) (by decide) rfl (Nat.le_of_ble_eq_true rfl) ?_
  intro p e s m below meth c A ls hx hb hml hr hts hown hlocks hin0 hA hE hP hD hS hl
  have hl : lv_has ls 2 [(0, .ref (ad 52)), (1, .int (zi 0))] := hl
  have hown : s.vm.findClass RX7 = some m.cls := hown
  have hw7 : ∀ w ∈ u_ws RX7 TX7 8, w ∈ wsX7_sent := by decide +kernel
  have hf58 := hts (.fieldLink RX7 58 "Nettle" "log" "LNettle$Log;") (by decide +kernel)
  have hw2 : ∀ w ∈ u_ws RX2 TX2 6, w ∈ wsX7_sent := by decide +kernel
  have hf255 := hts (.fieldLink RX7 255 "Nettle$Log" "all" "I") (by decide +kernel)
  refine lv_iload_n hx hb dX7_sent_0 rfl (lv_at hl 1 rfl) ?_
  refine lv_iconst (v := zi 4) hx hb dX7_sent_1 rfl ?_
  refine zcall (wr := []) (va_runS (As := [.int (zi 0), .int (zi 4)]) (rest := []) ⟨hx, hb, hml, hown, hts⟩ (c_X7_needWhat l G ad X 0 4 (by omega) s.heap.size) (va_cwS 2 hts gX7_sent_X7_needWhat rfl rfl rfl (by decide +kernel) ⟨Nat.le_of_ble_eq_true rfl, Nat.le_of_ble_eq_true rfl⟩) (zPre (wr := []) (wc := zpic G ad X) (As := [.int (zi 0), .int (zi 4)]) hP hD hE hS hA).1 rfl rfl hl.1 rfl (lv_room (Nat.le_of_ble_eq_true rfl)) dX7_sent_2 ⟨Nat.le_of_ble_eq_true rfl, Nat.le_of_ble_eq_true rfl⟩) hP hD hS hA (fun _ _ H locs hf hP hD hS => ?_)
  obtain ⟨rfl, rfl⟩ := hf
  have hP : va_P G.1 vwCl (zpic G ad X) H := hP
  have hD : va_D A (zpic G ad X) := hD
  refine W.eq (g2 := F0 m 5 ls []) rfl ?_
  refine lv_iload_n hx hb dX7_sent_5 rfl (lv_at hl 1 rfl) ?_
  refine lv_tableIn (tgt := 36) hx hb dX7_sent_6 (by decide) (by decide) rfl (by decide) ?_
  refine lv_aload_n hx hb dX7_sent_36 rfl (lv_at hl 0 rfl) ?_
  refine va_get (D := G.1) (ci := 7) (v := .ref (ad 68)) (C := RX7) (T := TX7) (N := 8) hx hb hts hw7 hown hE.1 hP 52 p_52 rfl 6 (by decide) hf58 (fun _ h9 => h9) rfl dX7_sent_37 ?_
  refine va_get (D := G.1) (ci := 2) (v := .int (zi (X 68 2))) (C := RX2) (T := TX2) (N := 6) hx hb hts hw2 hown hE.1 hP 68 p_68 rfl 2 (by decide) hf255 (fun _ h9 => h9) rfl dX7_sent_40 ?_
  exact zend_i hx hb hr hlocks hP hD hS (Nat.le_of_ble_eq_true rfl) (Nat.le_of_ble_eq_true rfl) dX7_sent_43 ⟨_, rfl, (by have h9 := hLg; unfold zLg at h9; omega), rfl⟩

set_option maxHeartbeats 4000000 in
set_option maxRecDepth 100000 in
/-- sent -/
theorem c_sent1 (l : Launch) (G : zG) (ad : Nat → Nat) (X : Nat → Nat → Int) (hLg : zLg X) : zR l G yX7_sent wsX7_sent { frames := 1, cells := 0, slots := 0, locals := 21 } (zpic G ad X) [.ref (ad 52), .int (zi 1)] (zq G ad X (fun w => w = 0)) 0 0 := by
  refine zR_of (cc := cX7_sent) (maxL := 2) (rt := (some .int)) (by decide) rfl (Nat.le_of_ble_eq_true rfl) ?_
  intro p e s m below meth c A ls hx hb hml hr hts hown hlocks hin0 hA hE hP hD hS hl
  have hl : lv_has ls 2 [(0, .ref (ad 52)), (1, .int (zi 1))] := hl
  have hown : s.vm.findClass RX7 = some m.cls := hown
  have hw7 : ∀ w ∈ u_ws RX7 TX7 8, w ∈ wsX7_sent := by decide +kernel
  have hf58 := hts (.fieldLink RX7 58 "Nettle" "log" "LNettle$Log;") (by decide +kernel)
  have hw2 : ∀ w ∈ u_ws RX2 TX2 6, w ∈ wsX7_sent := by decide +kernel
  have hf258 := hts (.fieldLink RX7 258 "Nettle$Log" "passed" "I") (by decide +kernel)
  refine lv_iload_n hx hb dX7_sent_0 rfl (lv_at hl 1 rfl) ?_
  refine lv_iconst (v := zi 4) hx hb dX7_sent_1 rfl ?_
  refine zcall (wr := []) (va_runS (As := [.int (zi 1), .int (zi 4)]) (rest := []) ⟨hx, hb, hml, hown, hts⟩ (c_X7_needWhat l G ad X 1 4 (by omega) s.heap.size) (va_cwS 2 hts gX7_sent_X7_needWhat rfl rfl rfl (by decide +kernel) ⟨Nat.le_of_ble_eq_true rfl, Nat.le_of_ble_eq_true rfl⟩) (zPre (wr := []) (wc := zpic G ad X) (As := [.int (zi 1), .int (zi 4)]) hP hD hE hS hA).1 rfl rfl hl.1 rfl (lv_room (Nat.le_of_ble_eq_true rfl)) dX7_sent_2 ⟨Nat.le_of_ble_eq_true rfl, Nat.le_of_ble_eq_true rfl⟩) hP hD hS hA (fun _ _ H locs hf hP hD hS => ?_)
  obtain ⟨rfl, rfl⟩ := hf
  have hP : va_P G.1 vwCl (zpic G ad X) H := hP
  have hD : va_D A (zpic G ad X) := hD
  refine W.eq (g2 := F0 m 5 ls []) rfl ?_
  refine lv_iload_n hx hb dX7_sent_5 rfl (lv_at hl 1 rfl) ?_
  refine lv_tableIn (tgt := 44) hx hb dX7_sent_6 (by decide) (by decide) rfl (by decide) ?_
  refine lv_aload_n hx hb dX7_sent_44 rfl (lv_at hl 0 rfl) ?_
  refine va_get (D := G.1) (ci := 7) (v := .ref (ad 68)) (C := RX7) (T := TX7) (N := 8) hx hb hts hw7 hown hE.1 hP 52 p_52 rfl 6 (by decide) hf58 (fun _ h9 => h9) rfl dX7_sent_45 ?_
  refine va_get (D := G.1) (ci := 2) (v := .int (zi (X 68 3))) (C := RX2) (T := TX2) (N := 6) hx hb hts hw2 hown hE.1 hP 68 p_68 rfl 3 (by decide) hf258 (fun _ h9 => h9) rfl dX7_sent_48 ?_
  exact zend_i hx hb hr hlocks hP hD hS (Nat.le_of_ble_eq_true rfl) (Nat.le_of_ble_eq_true rfl) dX7_sent_51 ⟨_, rfl, (by have h9 := hLg; unfold zLg at h9; omega), rfl⟩

set_option maxHeartbeats 4000000 in
set_option maxRecDepth 100000 in
/-- sent -/
theorem c_sent2 (l : Launch) (G : zG) (ad : Nat → Nat) (X : Nat → Nat → Int) (hLg : zLg X) : zR l G yX7_sent wsX7_sent { frames := 1, cells := 0, slots := 0, locals := 21 } (zpic G ad X) [.ref (ad 52), .int (zi 2)] (zq G ad X (fun w => w = 0)) 0 0 := by
  refine zR_of (cc := cX7_sent) (maxL := 2) (rt := (some .int)) (by decide) rfl (Nat.le_of_ble_eq_true rfl) ?_
  intro p e s m below meth c A ls hx hb hml hr hts hown hlocks hin0 hA hE hP hD hS hl
  have hl : lv_has ls 2 [(0, .ref (ad 52)), (1, .int (zi 2))] := hl
  have hown : s.vm.findClass RX7 = some m.cls := hown
  have hw7 : ∀ w ∈ u_ws RX7 TX7 8, w ∈ wsX7_sent := by decide +kernel
  have hf58 := hts (.fieldLink RX7 58 "Nettle" "log" "LNettle$Log;") (by decide +kernel)
  have hw2 : ∀ w ∈ u_ws RX2 TX2 6, w ∈ wsX7_sent := by decide +kernel
  have hf261 := hts (.fieldLink RX7 261 "Nettle$Log" "remembered" "I") (by decide +kernel)
  refine lv_iload_n hx hb dX7_sent_0 rfl (lv_at hl 1 rfl) ?_
  refine lv_iconst (v := zi 4) hx hb dX7_sent_1 rfl ?_
  refine zcall (wr := []) (va_runS (As := [.int (zi 2), .int (zi 4)]) (rest := []) ⟨hx, hb, hml, hown, hts⟩ (c_X7_needWhat l G ad X 2 4 (by omega) s.heap.size) (va_cwS 2 hts gX7_sent_X7_needWhat rfl rfl rfl (by decide +kernel) ⟨Nat.le_of_ble_eq_true rfl, Nat.le_of_ble_eq_true rfl⟩) (zPre (wr := []) (wc := zpic G ad X) (As := [.int (zi 2), .int (zi 4)]) hP hD hE hS hA).1 rfl rfl hl.1 rfl (lv_room (Nat.le_of_ble_eq_true rfl)) dX7_sent_2 ⟨Nat.le_of_ble_eq_true rfl, Nat.le_of_ble_eq_true rfl⟩) hP hD hS hA (fun _ _ H locs hf hP hD hS => ?_)
  obtain ⟨rfl, rfl⟩ := hf
  have hP : va_P G.1 vwCl (zpic G ad X) H := hP
  have hD : va_D A (zpic G ad X) := hD
  refine W.eq (g2 := F0 m 5 ls []) rfl ?_
  refine lv_iload_n hx hb dX7_sent_5 rfl (lv_at hl 1 rfl) ?_
  refine lv_tableIn (tgt := 52) hx hb dX7_sent_6 (by decide) (by decide) rfl (by decide) ?_
  refine lv_aload_n hx hb dX7_sent_52 rfl (lv_at hl 0 rfl) ?_
  refine va_get (D := G.1) (ci := 7) (v := .ref (ad 68)) (C := RX7) (T := TX7) (N := 8) hx hb hts hw7 hown hE.1 hP 52 p_52 rfl 6 (by decide) hf58 (fun _ h9 => h9) rfl dX7_sent_53 ?_
  refine va_get (D := G.1) (ci := 2) (v := .int (zi (X 68 4))) (C := RX2) (T := TX2) (N := 6) hx hb hts hw2 hown hE.1 hP 68 p_68 rfl 4 (by decide) hf261 (fun _ h9 => h9) rfl dX7_sent_56 ?_
  exact zend_i hx hb hr hlocks hP hD hS (Nat.le_of_ble_eq_true rfl) (Nat.le_of_ble_eq_true rfl) dX7_sent_59 ⟨_, rfl, (by have h9 := hLg; unfold zLg at h9; omega), rfl⟩

set_option maxHeartbeats 4000000 in
set_option maxRecDepth 100000 in
/-- sent -/
theorem c_sent3 (l : Launch) (G : zG) (ad : Nat → Nat) (X : Nat → Nat → Int) (hLg : zLg X) : zR l G yX7_sent wsX7_sent { frames := 1, cells := 0, slots := 0, locals := 21 } (zpic G ad X) [.ref (ad 52), .int (zi 3)] (zq G ad X (fun w => w = 0)) 0 0 := by
  refine zR_of (cc := cX7_sent) (maxL := 2) (rt := (some .int)) (by decide) rfl (Nat.le_of_ble_eq_true rfl) ?_
  intro p e s m below meth c A ls hx hb hml hr hts hown hlocks hin0 hA hE hP hD hS hl
  have hl : lv_has ls 2 [(0, .ref (ad 52)), (1, .int (zi 3))] := hl
  have hown : s.vm.findClass RX7 = some m.cls := hown
  have hw7 : ∀ w ∈ u_ws RX7 TX7 8, w ∈ wsX7_sent := by decide +kernel
  have hf58 := hts (.fieldLink RX7 58 "Nettle" "log" "LNettle$Log;") (by decide +kernel)
  have hw2 : ∀ w ∈ u_ws RX2 TX2 6, w ∈ wsX7_sent := by decide +kernel
  have hf264 := hts (.fieldLink RX7 264 "Nettle$Log" "size" "I") (by decide +kernel)
  refine lv_iload_n hx hb dX7_sent_0 rfl (lv_at hl 1 rfl) ?_
  refine lv_iconst (v := zi 4) hx hb dX7_sent_1 rfl ?_
  refine zcall (wr := []) (va_runS (As := [.int (zi 3), .int (zi 4)]) (rest := []) ⟨hx, hb, hml, hown, hts⟩ (c_X7_needWhat l G ad X 3 4 (by omega) s.heap.size) (va_cwS 2 hts gX7_sent_X7_needWhat rfl rfl rfl (by decide +kernel) ⟨Nat.le_of_ble_eq_true rfl, Nat.le_of_ble_eq_true rfl⟩) (zPre (wr := []) (wc := zpic G ad X) (As := [.int (zi 3), .int (zi 4)]) hP hD hE hS hA).1 rfl rfl hl.1 rfl (lv_room (Nat.le_of_ble_eq_true rfl)) dX7_sent_2 ⟨Nat.le_of_ble_eq_true rfl, Nat.le_of_ble_eq_true rfl⟩) hP hD hS hA (fun _ _ H locs hf hP hD hS => ?_)
  obtain ⟨rfl, rfl⟩ := hf
  have hP : va_P G.1 vwCl (zpic G ad X) H := hP
  have hD : va_D A (zpic G ad X) := hD
  refine W.eq (g2 := F0 m 5 ls []) rfl ?_
  refine lv_iload_n hx hb dX7_sent_5 rfl (lv_at hl 1 rfl) ?_
  refine lv_tableIn (tgt := 60) hx hb dX7_sent_6 (by decide) (by decide) rfl (by decide) ?_
  refine lv_aload_n hx hb dX7_sent_60 rfl (lv_at hl 0 rfl) ?_
  refine va_get (D := G.1) (ci := 7) (v := .ref (ad 68)) (C := RX7) (T := TX7) (N := 8) hx hb hts hw7 hown hE.1 hP 52 p_52 rfl 6 (by decide) hf58 (fun _ h9 => h9) rfl dX7_sent_61 ?_
  refine va_get (D := G.1) (ci := 2) (v := .int (zi (X 68 1))) (C := RX2) (T := TX2) (N := 6) hx hb hts hw2 hown hE.1 hP 68 p_68 rfl 1 (by decide) hf264 (fun _ h9 => h9) rfl dX7_sent_64 ?_
  exact zend_i hx hb hr hlocks hP hD hS (Nat.le_of_ble_eq_true rfl) (Nat.le_of_ble_eq_true rfl) dX7_sent_67 ⟨_, rfl, (by have h9 := hLg; unfold zLg at h9; omega), rfl⟩

set_option maxHeartbeats 4000000 in
set_option maxRecDepth 100000 in
/-- sent -/
theorem c_sent4 (l : Launch) (G : zG) (ad : Nat → Nat) (X : Nat → Nat → Int) (hLg : zLg X) : zR l G yX7_sent wsX7_sent { frames := 1, cells := 0, slots := 0, locals := 21 } (zpic G ad X) [.ref (ad 52), .int (zi 4)] (zq G ad X (fun w => w = 0)) 0 0 := by
  refine zR_of (cc := cX7_sent) (maxL := 2) (rt := (some .int)) (by decide) rfl (Nat.le_of_ble_eq_true rfl) ?_
  intro p e s m below meth c A ls hx hb hml hr hts hown hlocks hin0 hA hE hP hD hS hl
  have hl : lv_has ls 2 [(0, .ref (ad 52)), (1, .int (zi 4))] := hl
  have hown : s.vm.findClass RX7 = some m.cls := hown
  have hw7 : ∀ w ∈ u_ws RX7 TX7 8, w ∈ wsX7_sent := by decide +kernel
  have hf58 := hts (.fieldLink RX7 58 "Nettle" "log" "LNettle$Log;") (by decide +kernel)
  have hw2 : ∀ w ∈ u_ws RX2 TX2 6, w ∈ wsX7_sent := by decide +kernel
  have hf267 := hts (.fieldLink RX7 267 "Nettle$Log" "byLastWord" "I") (by decide +kernel)
  refine lv_iload_n hx hb dX7_sent_0 rfl (lv_at hl 1 rfl) ?_
  refine lv_iconst (v := zi 4) hx hb dX7_sent_1 rfl ?_
  refine zcall (wr := []) (va_runS (As := [.int (zi 4), .int (zi 4)]) (rest := []) ⟨hx, hb, hml, hown, hts⟩ (c_X7_needWhat l G ad X 4 4 (by omega) s.heap.size) (va_cwS 2 hts gX7_sent_X7_needWhat rfl rfl rfl (by decide +kernel) ⟨Nat.le_of_ble_eq_true rfl, Nat.le_of_ble_eq_true rfl⟩) (zPre (wr := []) (wc := zpic G ad X) (As := [.int (zi 4), .int (zi 4)]) hP hD hE hS hA).1 rfl rfl hl.1 rfl (lv_room (Nat.le_of_ble_eq_true rfl)) dX7_sent_2 ⟨Nat.le_of_ble_eq_true rfl, Nat.le_of_ble_eq_true rfl⟩) hP hD hS hA (fun _ _ H locs hf hP hD hS => ?_)
  obtain ⟨rfl, rfl⟩ := hf
  have hP : va_P G.1 vwCl (zpic G ad X) H := hP
  have hD : va_D A (zpic G ad X) := hD
  refine W.eq (g2 := F0 m 5 ls []) rfl ?_
  refine lv_iload_n hx hb dX7_sent_5 rfl (lv_at hl 1 rfl) ?_
  refine lv_tableOut (tgt := 68) hx hb dX7_sent_6 (by decide) (by decide) ?_
  refine lv_aload_n hx hb dX7_sent_68 rfl (lv_at hl 0 rfl) ?_
  refine va_get (D := G.1) (ci := 7) (v := .ref (ad 68)) (C := RX7) (T := TX7) (N := 8) hx hb hts hw7 hown hE.1 hP 52 p_52 rfl 6 (by decide) hf58 (fun _ h9 => h9) rfl dX7_sent_69 ?_
  refine va_get (D := G.1) (ci := 2) (v := .int (zi (X 68 5))) (C := RX2) (T := TX2) (N := 6) hx hb hts hw2 hown hE.1 hP 68 p_68 rfl 5 (by decide) hf267 (fun _ h9 => h9) rfl dX7_sent_72 ?_
  exact zend_i hx hb hr hlocks hP hD hS (Nat.le_of_ble_eq_true rfl) (Nat.le_of_ble_eq_true rfl) dX7_sent_75 ⟨_, rfl, (by have h9 := hLg; unfold zLg at h9; omega), rfl⟩

set_option maxHeartbeats 4000000 in
set_option maxRecDepth 100000 in
/-- mixLog -/
theorem c_X7_mixLog (l : Launch) (G : zG) (ad : Nat → Nat) (X : Nat → Nat → Int) (d : Int64) (hLg : zLg X) : zR l G yX7_mixLog wsX7_mixLog { frames := 2, cells := 0, slots := 0, locals := 42 } (zpic G ad X) [.ref (ad 52), .long d] (zl G ad X (fun v => v = zFld (fun _ => 0) d 5)) 0 0 := by
  refine zR_of (cc := cX7_mixLog) (maxL := 7) (rt := (some .long)) (by decide) rfl (Nat.le_of_ble_eq_true rfl) ?_
  intro p e s m below meth c A ls hx hb hml hr hts hown hlocks hin0 hA hE hP hD hS hl
  have hl : lv_has ls 7 [(0, .ref (ad 52)), (1, .long d)] := hl
  have hown : s.vm.findClass RX7 = some m.cls := hown
  have hlg9 := hLg
  unfold zLg at hlg9
  have hw7 : ∀ w ∈ u_ws RX7 TX7 8, w ∈ wsX7_mixLog := by decide +kernel
  have hf58 := hts (.fieldLink RX7 58 "Nettle" "log" "LNettle$Log;") (by decide +kernel)
  have hw2 : ∀ w ∈ u_ws RX2 TX2 6, w ∈ wsX7_mixLog := by decide +kernel
  have hf264 := hts (.fieldLink RX7 264 "Nettle$Log" "size" "I") (by decide +kernel)
  refine lv_lload_n hx hb dX7_mixLog_0 rfl (lv_at hl 1 rfl) ?_
  refine lv_lstore_n (lv' := [(3, .long d), (0, .ref (ad 52)), (1, .long d)]) hx hb dX7_mixLog_1 rfl hl (by decide) rfl (fun ls hl => ?_)
  refine lv_iconst (v := zi 0) hx hb dX7_mixLog_2 rfl ?_
  refine lv_istore (lv' := [(5, .int (zi 0)), (3, .long d), (0, .ref (ad 52)), (1, .long d)]) hx hb dX7_mixLog_3 hl (by decide) rfl (fun ls hl => ?_)
  refine lv_iload hx hb dX7_mixLog_5 (lv_at hl 0 rfl) ?_
  refine lv_iconst (v := zi 4) hx hb dX7_mixLog_7 rfl ?_
  refine zc_gt (tgt := 28) hx hb dX7_mixLog_8 (by decide) (by decide) (by decide) (fun h9 => absurd h9 (by decide)) (fun h8 => ?_)
  refine lv_lload_n hx hb dX7_mixLog_11 rfl (lv_at hl 1 rfl) ?_
  refine lv_aload_n hx hb dX7_mixLog_12 rfl (lv_at hl 2 rfl) ?_
  refine lv_iload hx hb dX7_mixLog_13 (lv_at hl 0 rfl) ?_
  refine zcall (wr := []) (va_runV (As := [.int (zi 0)]) (rest := [.long d]) ⟨hx, hb, hml, hown, hts⟩ (c_sent0 l G ad X (by omega) s.heap.size) (cwV 1 hts gX7_mixLog_X7_sent rfl rfl rfl (by decide +kernel) ⟨Nat.le_of_ble_eq_true rfl, Nat.le_of_ble_eq_true rfl⟩) (zPreV (wr := []) (wc := zpic G ad X) (q0 := 52) (ci := 7) (q := (RX7, TX7, 8)) hP hD hE hS hA rfl p_52) rfl rfl hl.1 rfl (lv_room (Nat.le_of_ble_eq_true rfl)) dX7_mixLog_15 ⟨Nat.le_of_ble_eq_true rfl, Nat.le_of_ble_eq_true rfl⟩) hP hD hS hA (fun _ _ H locs hf hP hD hS => ?_)
  obtain ⟨v1, rfl, hv1, rfl⟩ := hf
  have hP : va_P G.1 vwCl (zpic G ad X) H := hP
  have hD : va_D A (zpic G ad X) := hD
  refine W.eq (g2 := F0 m 18 ls [.int (zi v1), .long d]) rfl ?_
  refine zcall (wr := []) (va_runS (As := [.long d, .int (zi v1)]) (rest := []) ⟨hx, hb, hml, hown, hts⟩ (c_X7_mix l G ad X d v1 H.size) (va_cwS 2 hts gX7_mixLog_X7_mix rfl rfl rfl (by decide +kernel) ⟨Nat.le_of_ble_eq_true rfl, Nat.le_of_ble_eq_true rfl⟩) (zPre (wr := []) (wc := zpic G ad X) (As := [.long d, .int (zi v1)]) hP hD hE hS hA).1 rfl rfl hl.1 rfl (lv_room (Nat.le_of_ble_eq_true rfl)) dX7_mixLog_18 ⟨Nat.le_of_ble_eq_true rfl, Nat.le_of_ble_eq_true rfl⟩) hP hD hS hA (fun _ _ H locs hf hP hD hS => ?_)
  obtain ⟨v2, rfl, hv2, rfl⟩ := hf
  subst hv2
  have hP : va_P G.1 vwCl (zpic G ad X) H := hP
  have hD : va_D A (zpic G ad X) := hD
  refine W.eq (g2 := F0 m 21 ls [.long (zMix d v1)]) rfl ?_
  refine lv_lstore_n (lv' := [(3, .long (zMix d v1)), (5, .int (zi 0)), (0, .ref (ad 52)), (1, .long d)]) hx hb dX7_mixLog_21 rfl hl (by decide) rfl (fun ls hl => ?_)
  refine lv_iinc (v := zi 1) (lv' := [(5, .int (zi 1)), (3, .long (zMix d v1)), (0, .ref (ad 52)), (1, .long d)]) hx hb dX7_mixLog_22 hl (k := 1) rfl (zi_add _ _) (by decide) rfl (fun ls hl => ?_)
  refine lv_goto (tgt := 5) hx hb dX7_mixLog_25 (by decide) ?_
  refine lv_iload hx hb dX7_mixLog_5 (lv_at hl 0 rfl) ?_
  refine lv_iconst (v := zi 4) hx hb dX7_mixLog_7 rfl ?_
  refine zc_gt (tgt := 28) hx hb dX7_mixLog_8 (by decide) (by decide) (by decide) (fun h9 => absurd h9 (by decide)) (fun h8 => ?_)
  refine lv_lload_n hx hb dX7_mixLog_11 rfl (lv_at hl 1 rfl) ?_
  refine lv_aload_n hx hb dX7_mixLog_12 rfl (lv_at hl 2 rfl) ?_
  refine lv_iload hx hb dX7_mixLog_13 (lv_at hl 0 rfl) ?_
  refine zcall (wr := []) (va_runV (As := [.int (zi 1)]) (rest := [.long (zMix d v1)]) ⟨hx, hb, hml, hown, hts⟩ (c_sent1 l G ad X (by omega) H.size) (cwV 1 hts gX7_mixLog_X7_sent rfl rfl rfl (by decide +kernel) ⟨Nat.le_of_ble_eq_true rfl, Nat.le_of_ble_eq_true rfl⟩) (zPreV (wr := []) (wc := zpic G ad X) (q0 := 52) (ci := 7) (q := (RX7, TX7, 8)) hP hD hE hS hA rfl p_52) rfl rfl hl.1 rfl (lv_room (Nat.le_of_ble_eq_true rfl)) dX7_mixLog_15 ⟨Nat.le_of_ble_eq_true rfl, Nat.le_of_ble_eq_true rfl⟩) hP hD hS hA (fun _ _ H locs hf hP hD hS => ?_)
  obtain ⟨v3, rfl, hv3, rfl⟩ := hf
  have hP : va_P G.1 vwCl (zpic G ad X) H := hP
  have hD : va_D A (zpic G ad X) := hD
  refine W.eq (g2 := F0 m 18 ls [.int (zi v3), .long (zMix d v1)]) rfl ?_
  refine zcall (wr := []) (va_runS (As := [.long (zMix d v1), .int (zi v3)]) (rest := []) ⟨hx, hb, hml, hown, hts⟩ (c_X7_mix l G ad X (zMix d v1) v3 H.size) (va_cwS 2 hts gX7_mixLog_X7_mix rfl rfl rfl (by decide +kernel) ⟨Nat.le_of_ble_eq_true rfl, Nat.le_of_ble_eq_true rfl⟩) (zPre (wr := []) (wc := zpic G ad X) (As := [.long (zMix d v1), .int (zi v3)]) hP hD hE hS hA).1 rfl rfl hl.1 rfl (lv_room (Nat.le_of_ble_eq_true rfl)) dX7_mixLog_18 ⟨Nat.le_of_ble_eq_true rfl, Nat.le_of_ble_eq_true rfl⟩) hP hD hS hA (fun _ _ H locs hf hP hD hS => ?_)
  obtain ⟨v4, rfl, hv4, rfl⟩ := hf
  subst hv4
  have hP : va_P G.1 vwCl (zpic G ad X) H := hP
  have hD : va_D A (zpic G ad X) := hD
  refine W.eq (g2 := F0 m 21 ls [.long (zMix (zMix d v1) v3)]) rfl ?_
  refine lv_lstore_n (lv' := [(3, .long (zMix (zMix d v1) v3)), (5, .int (zi 1)), (0, .ref (ad 52)), (1, .long d)]) hx hb dX7_mixLog_21 rfl hl (by decide) rfl (fun ls hl => ?_)
  refine lv_iinc (v := zi 2) (lv' := [(5, .int (zi 2)), (3, .long (zMix (zMix d v1) v3)), (0, .ref (ad 52)), (1, .long d)]) hx hb dX7_mixLog_22 hl (k := 1) rfl (zi_add _ _) (by decide) rfl (fun ls hl => ?_)
  refine lv_goto (tgt := 5) hx hb dX7_mixLog_25 (by decide) ?_
  refine lv_iload hx hb dX7_mixLog_5 (lv_at hl 0 rfl) ?_
  refine lv_iconst (v := zi 4) hx hb dX7_mixLog_7 rfl ?_
  refine zc_gt (tgt := 28) hx hb dX7_mixLog_8 (by decide) (by decide) (by decide) (fun h9 => absurd h9 (by decide)) (fun h8 => ?_)
  refine lv_lload_n hx hb dX7_mixLog_11 rfl (lv_at hl 1 rfl) ?_
  refine lv_aload_n hx hb dX7_mixLog_12 rfl (lv_at hl 2 rfl) ?_
  refine lv_iload hx hb dX7_mixLog_13 (lv_at hl 0 rfl) ?_
  refine zcall (wr := []) (va_runV (As := [.int (zi 2)]) (rest := [.long (zMix (zMix d v1) v3)]) ⟨hx, hb, hml, hown, hts⟩ (c_sent2 l G ad X (by omega) H.size) (cwV 1 hts gX7_mixLog_X7_sent rfl rfl rfl (by decide +kernel) ⟨Nat.le_of_ble_eq_true rfl, Nat.le_of_ble_eq_true rfl⟩) (zPreV (wr := []) (wc := zpic G ad X) (q0 := 52) (ci := 7) (q := (RX7, TX7, 8)) hP hD hE hS hA rfl p_52) rfl rfl hl.1 rfl (lv_room (Nat.le_of_ble_eq_true rfl)) dX7_mixLog_15 ⟨Nat.le_of_ble_eq_true rfl, Nat.le_of_ble_eq_true rfl⟩) hP hD hS hA (fun _ _ H locs hf hP hD hS => ?_)
  obtain ⟨v5, rfl, hv5, rfl⟩ := hf
  have hP : va_P G.1 vwCl (zpic G ad X) H := hP
  have hD : va_D A (zpic G ad X) := hD
  refine W.eq (g2 := F0 m 18 ls [.int (zi v5), .long (zMix (zMix d v1) v3)]) rfl ?_
  refine zcall (wr := []) (va_runS (As := [.long (zMix (zMix d v1) v3), .int (zi v5)]) (rest := []) ⟨hx, hb, hml, hown, hts⟩ (c_X7_mix l G ad X (zMix (zMix d v1) v3) v5 H.size) (va_cwS 2 hts gX7_mixLog_X7_mix rfl rfl rfl (by decide +kernel) ⟨Nat.le_of_ble_eq_true rfl, Nat.le_of_ble_eq_true rfl⟩) (zPre (wr := []) (wc := zpic G ad X) (As := [.long (zMix (zMix d v1) v3), .int (zi v5)]) hP hD hE hS hA).1 rfl rfl hl.1 rfl (lv_room (Nat.le_of_ble_eq_true rfl)) dX7_mixLog_18 ⟨Nat.le_of_ble_eq_true rfl, Nat.le_of_ble_eq_true rfl⟩) hP hD hS hA (fun _ _ H locs hf hP hD hS => ?_)
  obtain ⟨v6, rfl, hv6, rfl⟩ := hf
  subst hv6
  have hP : va_P G.1 vwCl (zpic G ad X) H := hP
  have hD : va_D A (zpic G ad X) := hD
  refine W.eq (g2 := F0 m 21 ls [.long (zMix (zMix (zMix d v1) v3) v5)]) rfl ?_
  refine lv_lstore_n (lv' := [(3, .long (zMix (zMix (zMix d v1) v3) v5)), (5, .int (zi 2)), (0, .ref (ad 52)), (1, .long d)]) hx hb dX7_mixLog_21 rfl hl (by decide) rfl (fun ls hl => ?_)
  refine lv_iinc (v := zi 3) (lv' := [(5, .int (zi 3)), (3, .long (zMix (zMix (zMix d v1) v3) v5)), (0, .ref (ad 52)), (1, .long d)]) hx hb dX7_mixLog_22 hl (k := 1) rfl (zi_add _ _) (by decide) rfl (fun ls hl => ?_)
  refine lv_goto (tgt := 5) hx hb dX7_mixLog_25 (by decide) ?_
  refine lv_iload hx hb dX7_mixLog_5 (lv_at hl 0 rfl) ?_
  refine lv_iconst (v := zi 4) hx hb dX7_mixLog_7 rfl ?_
  refine zc_gt (tgt := 28) hx hb dX7_mixLog_8 (by decide) (by decide) (by decide) (fun h9 => absurd h9 (by decide)) (fun h8 => ?_)
  refine lv_lload_n hx hb dX7_mixLog_11 rfl (lv_at hl 1 rfl) ?_
  refine lv_aload_n hx hb dX7_mixLog_12 rfl (lv_at hl 2 rfl) ?_
  refine lv_iload hx hb dX7_mixLog_13 (lv_at hl 0 rfl) ?_
  refine zcall (wr := []) (va_runV (As := [.int (zi 3)]) (rest := [.long (zMix (zMix (zMix d v1) v3) v5)]) ⟨hx, hb, hml, hown, hts⟩ (c_sent3 l G ad X (by omega) H.size) (cwV 1 hts gX7_mixLog_X7_sent rfl rfl rfl (by decide +kernel) ⟨Nat.le_of_ble_eq_true rfl, Nat.le_of_ble_eq_true rfl⟩) (zPreV (wr := []) (wc := zpic G ad X) (q0 := 52) (ci := 7) (q := (RX7, TX7, 8)) hP hD hE hS hA rfl p_52) rfl rfl hl.1 rfl (lv_room (Nat.le_of_ble_eq_true rfl)) dX7_mixLog_15 ⟨Nat.le_of_ble_eq_true rfl, Nat.le_of_ble_eq_true rfl⟩) hP hD hS hA (fun _ _ H locs hf hP hD hS => ?_)
  obtain ⟨v7, rfl, hv7, rfl⟩ := hf
  have hP : va_P G.1 vwCl (zpic G ad X) H := hP
  have hD : va_D A (zpic G ad X) := hD
  refine W.eq (g2 := F0 m 18 ls [.int (zi v7), .long (zMix (zMix (zMix d v1) v3) v5)]) rfl ?_
  refine zcall (wr := []) (va_runS (As := [.long (zMix (zMix (zMix d v1) v3) v5), .int (zi v7)]) (rest := []) ⟨hx, hb, hml, hown, hts⟩ (c_X7_mix l G ad X (zMix (zMix (zMix d v1) v3) v5) v7 H.size) (va_cwS 2 hts gX7_mixLog_X7_mix rfl rfl rfl (by decide +kernel) ⟨Nat.le_of_ble_eq_true rfl, Nat.le_of_ble_eq_true rfl⟩) (zPre (wr := []) (wc := zpic G ad X) (As := [.long (zMix (zMix (zMix d v1) v3) v5), .int (zi v7)]) hP hD hE hS hA).1 rfl rfl hl.1 rfl (lv_room (Nat.le_of_ble_eq_true rfl)) dX7_mixLog_18 ⟨Nat.le_of_ble_eq_true rfl, Nat.le_of_ble_eq_true rfl⟩) hP hD hS hA (fun _ _ H locs hf hP hD hS => ?_)
  obtain ⟨v8, rfl, hv8, rfl⟩ := hf
  subst hv8
  have hP : va_P G.1 vwCl (zpic G ad X) H := hP
  have hD : va_D A (zpic G ad X) := hD
  refine W.eq (g2 := F0 m 21 ls [.long (zMix (zMix (zMix (zMix d v1) v3) v5) v7)]) rfl ?_
  refine lv_lstore_n (lv' := [(3, .long (zMix (zMix (zMix (zMix d v1) v3) v5) v7)), (5, .int (zi 3)), (0, .ref (ad 52)), (1, .long d)]) hx hb dX7_mixLog_21 rfl hl (by decide) rfl (fun ls hl => ?_)
  refine lv_iinc (v := zi 4) (lv' := [(5, .int (zi 4)), (3, .long (zMix (zMix (zMix (zMix d v1) v3) v5) v7)), (0, .ref (ad 52)), (1, .long d)]) hx hb dX7_mixLog_22 hl (k := 1) rfl (zi_add _ _) (by decide) rfl (fun ls hl => ?_)
  refine lv_goto (tgt := 5) hx hb dX7_mixLog_25 (by decide) ?_
  refine lv_iload hx hb dX7_mixLog_5 (lv_at hl 0 rfl) ?_
  refine lv_iconst (v := zi 4) hx hb dX7_mixLog_7 rfl ?_
  refine zc_gt (tgt := 28) hx hb dX7_mixLog_8 (by decide) (by decide) (by decide) (fun h9 => absurd h9 (by decide)) (fun h8 => ?_)
  refine lv_lload_n hx hb dX7_mixLog_11 rfl (lv_at hl 1 rfl) ?_
  refine lv_aload_n hx hb dX7_mixLog_12 rfl (lv_at hl 2 rfl) ?_
  refine lv_iload hx hb dX7_mixLog_13 (lv_at hl 0 rfl) ?_
  refine zcall (wr := []) (va_runV (As := [.int (zi 4)]) (rest := [.long (zMix (zMix (zMix (zMix d v1) v3) v5) v7)]) ⟨hx, hb, hml, hown, hts⟩ (c_sent4 l G ad X (by omega) H.size) (cwV 1 hts gX7_mixLog_X7_sent rfl rfl rfl (by decide +kernel) ⟨Nat.le_of_ble_eq_true rfl, Nat.le_of_ble_eq_true rfl⟩) (zPreV (wr := []) (wc := zpic G ad X) (q0 := 52) (ci := 7) (q := (RX7, TX7, 8)) hP hD hE hS hA rfl p_52) rfl rfl hl.1 rfl (lv_room (Nat.le_of_ble_eq_true rfl)) dX7_mixLog_15 ⟨Nat.le_of_ble_eq_true rfl, Nat.le_of_ble_eq_true rfl⟩) hP hD hS hA (fun _ _ H locs hf hP hD hS => ?_)
  obtain ⟨v9, rfl, hv9, rfl⟩ := hf
  have hP : va_P G.1 vwCl (zpic G ad X) H := hP
  have hD : va_D A (zpic G ad X) := hD
  refine W.eq (g2 := F0 m 18 ls [.int (zi v9), .long (zMix (zMix (zMix (zMix d v1) v3) v5) v7)]) rfl ?_
  refine zcall (wr := []) (va_runS (As := [.long (zMix (zMix (zMix (zMix d v1) v3) v5) v7), .int (zi v9)]) (rest := []) ⟨hx, hb, hml, hown, hts⟩ (c_X7_mix l G ad X (zMix (zMix (zMix (zMix d v1) v3) v5) v7) v9 H.size) (va_cwS 2 hts gX7_mixLog_X7_mix rfl rfl rfl (by decide +kernel) ⟨Nat.le_of_ble_eq_true rfl, Nat.le_of_ble_eq_true rfl⟩) (zPre (wr := []) (wc := zpic G ad X) (As := [.long (zMix (zMix (zMix (zMix d v1) v3) v5) v7), .int (zi v9)]) hP hD hE hS hA).1 rfl rfl hl.1 rfl (lv_room (Nat.le_of_ble_eq_true rfl)) dX7_mixLog_18 ⟨Nat.le_of_ble_eq_true rfl, Nat.le_of_ble_eq_true rfl⟩) hP hD hS hA (fun _ _ H locs hf hP hD hS => ?_)
  obtain ⟨v10, rfl, hv10, rfl⟩ := hf
  subst hv10
  have hP : va_P G.1 vwCl (zpic G ad X) H := hP
  have hD : va_D A (zpic G ad X) := hD
  refine W.eq (g2 := F0 m 21 ls [.long (zMix (zMix (zMix (zMix (zMix d v1) v3) v5) v7) v9)]) rfl ?_
  refine lv_lstore_n (lv' := [(3, .long (zMix (zMix (zMix (zMix (zMix d v1) v3) v5) v7) v9)), (5, .int (zi 4)), (0, .ref (ad 52)), (1, .long d)]) hx hb dX7_mixLog_21 rfl hl (by decide) rfl (fun ls hl => ?_)
  refine lv_iinc (v := zi 5) (lv' := [(5, .int (zi 5)), (3, .long (zMix (zMix (zMix (zMix (zMix d v1) v3) v5) v7) v9)), (0, .ref (ad 52)), (1, .long d)]) hx hb dX7_mixLog_22 hl (k := 1) rfl (zi_add _ _) (by decide) rfl (fun ls hl => ?_)
  refine lv_goto (tgt := 5) hx hb dX7_mixLog_25 (by decide) ?_
  refine lv_iload hx hb dX7_mixLog_5 (lv_at hl 0 rfl) ?_
  refine lv_iconst (v := zi 4) hx hb dX7_mixLog_7 rfl ?_
  refine zc_gt (tgt := 28) hx hb dX7_mixLog_8 (by decide) (by decide) (by decide) (fun h8 => ?_) (fun h9 => absurd h9 (by decide))
  refine lv_iconst (v := zi 0) hx hb dX7_mixLog_28 rfl ?_
  refine lv_istore (lv' := [(5, .int (zi 0)), (3, .long (zMix (zMix (zMix (zMix (zMix d v1) v3) v5) v7) v9)), (0, .ref (ad 52)), (1, .long d)]) hx hb dX7_mixLog_29 hl (by decide) rfl (fun ls hl => ?_)
  refine lv_iload hx hb dX7_mixLog_31 (lv_at hl 0 rfl) ?_
  refine lv_aload_n hx hb dX7_mixLog_33 rfl (lv_at hl 2 rfl) ?_
  refine va_get (D := G.1) (ci := 7) (v := .ref (ad 68)) (C := RX7) (T := TX7) (N := 8) hx hb hts hw7 hown hE.1 hP 52 p_52 rfl 6 (by decide) hf58 (fun _ h9 => h9) rfl dX7_mixLog_34 ?_
  refine va_get (D := G.1) (ci := 2) (v := .int (zi (X 68 1))) (C := RX2) (T := TX2) (N := 6) hx hb hts hw2 hown hE.1 hP 68 p_68 rfl 1 (by decide) hf264 (fun _ h9 => h9) rfl dX7_mixLog_37 ?_
  refine zc_ge (tgt := 77) hx hb dX7_mixLog_40 (by decide) (by decide) (by omega) (fun h40 => ?_) (fun h9 => by exfalso; omega)
  refine lv_lload_n hx hb dX7_mixLog_77 rfl (lv_at hl 1 rfl) ?_
  exact zend_l hx hb hr hlocks hP hD hS (Nat.le_of_ble_eq_true rfl) (Nat.le_of_ble_eq_true rfl) dX7_mixLog_78 ⟨_, rfl, (by rw [hv1, hv3, hv5, hv7, hv9]; rfl), rfl⟩
