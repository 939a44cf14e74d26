/-! the reference: packets, the copy -/
theorem dX9_deciderNow_0 : decode cX9_deciderNow 0 = .ok (.iconst 0, 1) := by decide +kernel
theorem dX9_deciderNow_1 : decode cX9_deciderNow 1 = .ok (.istore_n 2, 1) := by decide +kernel
theorem dX9_deciderNow_2 : decode cX9_deciderNow 2 = .ok (.iload_n 2, 1) := by decide +kernel
theorem dX9_deciderNow_3 : decode cX9_deciderNow 3 = .ok (.aload_n 0, 1) := by decide +kernel
theorem dX9_deciderNow_4 : decode cX9_deciderNow 4 = .ok (.getfield 10, 3) := by decide +kernel
theorem dX9_deciderNow_7 : decode cX9_deciderNow 7 = .ok (.getfield 83, 3) := by decide +kernel
theorem dX9_deciderNow_10 : decode cX9_deciderNow 10 = .ok (.if_icmp .ge 36, 3) := by decide +kernel
theorem dX9_deciderNow_46 : decode cX9_deciderNow 46 = .ok (.iconst (-1), 1) := by decide +kernel
theorem dX9_deciderNow_47 : decode cX9_deciderNow 47 = .ok (.ireturn, 1) := by decide +kernel
theorem dX9_decider_0 : decode cX9_decider 0 = .ok (.iconst 4, 1) := by decide +kernel
theorem dX9_decider_1 : decode cX9_decider 1 = .ok (.newarray .int, 2) := by decide +kernel
theorem dX9_decider_3 : decode cX9_decider 3 = .ok (.dup, 1) := by decide +kernel
theorem dX9_decider_4 : decode cX9_decider 4 = .ok (.iconst 0, 1) := by decide +kernel
theorem dX9_decider_5 : decode cX9_decider 5 = .ok (.iload_n 1, 1) := by decide +kernel
theorem dX9_decider_6 : decode cX9_decider 6 = .ok (.iastore, 1) := by decide +kernel
theorem dX9_decider_7 : decode cX9_decider 7 = .ok (.dup, 1) := by decide +kernel
theorem dX9_decider_8 : decode cX9_decider 8 = .ok (.iconst 1, 1) := by decide +kernel
theorem dX9_decider_9 : decode cX9_decider 9 = .ok (.iload_n 2, 1) := by decide +kernel
theorem dX9_decider_10 : decode cX9_decider 10 = .ok (.iastore, 1) := by decide +kernel
theorem dX9_decider_11 : decode cX9_decider 11 = .ok (.dup, 1) := by decide +kernel
theorem dX9_decider_12 : decode cX9_decider 12 = .ok (.iconst 2, 1) := by decide +kernel
theorem dX9_decider_13 : decode cX9_decider 13 = .ok (.iload_n 3, 1) := by decide +kernel
theorem dX9_decider_14 : decode cX9_decider 14 = .ok (.iastore, 1) := by decide +kernel
theorem dX9_decider_15 : decode cX9_decider 15 = .ok (.dup, 1) := by decide +kernel
theorem dX9_decider_16 : decode cX9_decider 16 = .ok (.iconst 3, 1) := by decide +kernel
theorem dX9_decider_17 : decode cX9_decider 17 = .ok (.iload 4, 2) := by decide +kernel
theorem dX9_decider_19 : decode cX9_decider 19 = .ok (.iastore, 1) := by decide +kernel
theorem dX9_decider_20 : decode cX9_decider 20 = .ok (.astore 5, 2) := by decide +kernel
theorem dX9_decider_22 : decode cX9_decider 22 = .ok (.aload_n 0, 1) := by decide +kernel
theorem dX9_decider_23 : decode cX9_decider 23 = .ok (.aload 5, 2) := by decide +kernel
set_option maxRecDepth 20000 in
theorem ggX9_decider_X9_isPacket : GoodIn wsX9_decider wsX9_isPacket := goodIn_r _ [6, 7, 8, 9, 5, 10, 11, 12, 13, 28, 29, 30, 31, 32, 33, 34, 35, 36, 37, 38] (by decide +kernel) (by decide +kernel)
set_option maxRecDepth 20000 in
theorem gX9_decider_X9_isPacket : GoodIn wsX9_decider (wsV RX9 178 RX9 yX9_isPacket wsX9_isPacket) := goodIn_app (goodIn_of _ (by decide +kernel)) ggX9_decider_X9_isPacket
theorem dX9_decider_25 : decode cX9_decider 25 = .ok (.invokevirtual 178, 3) := by decide +kernel
theorem dX9_decider_28 : decode cX9_decider 28 = .ok (.ifCond .eq 12, 3) := by decide +kernel
theorem dX9_decider_31 : decode cX9_decider 31 = .ok (.aload_n 0, 1) := by decide +kernel
theorem dX9_decider_32 : decode cX9_decider 32 = .ok (.aload 5, 2) := by decide +kernel
set_option maxRecDepth 20000 in
theorem ggX9_decider_X9_deciderNow : GoodIn wsX9_decider wsX9_deciderNow := goodIn_r _ [17, 18, 19, 20, 21, 22, 23, 24, 25, 26, 27, 12, 5, 13, 28, 29, 30, 31, 32, 33, 34, 35, 36, 37, 38, 39, 40, 41, 42, 43, 44] (by decide +kernel) (by decide +kernel)
set_option maxRecDepth 20000 in
theorem gX9_decider_X9_deciderNow : GoodIn wsX9_decider (wsV RX9 182 RX9 yX9_deciderNow wsX9_deciderNow) := goodIn_app (goodIn_of _ (by decide +kernel)) ggX9_decider_X9_deciderNow
theorem dX9_decider_34 : decode cX9_decider 34 = .ok (.invokevirtual 182, 3) := by decide +kernel
theorem dX9_decider_37 : decode cX9_decider 37 = .ok (.goto 4, 3) := by decide +kernel
theorem dX9_decider_41 : decode cX9_decider 41 = .ok (.ireturn, 1) := by decide +kernel
theorem dX9_decider_40 : decode cX9_decider 40 = .ok (.iconst 0, 1) := by decide +kernel
theorem dX9_steps_0 : decode cX9_steps 0 = .ok (.iconst 4, 1) := by decide +kernel
theorem dX9_steps_1 : decode cX9_steps 1 = .ok (.newarray .int, 2) := by decide +kernel
theorem dX9_steps_3 : decode cX9_steps 3 = .ok (.dup, 1) := by decide +kernel
theorem dX9_steps_4 : decode cX9_steps 4 = .ok (.iconst 0, 1) := by decide +kernel
theorem dX9_steps_5 : decode cX9_steps 5 = .ok (.iload_n 1, 1) := by decide +kernel
theorem dX9_steps_6 : decode cX9_steps 6 = .ok (.iastore, 1) := by decide +kernel
theorem dX9_steps_7 : decode cX9_steps 7 = .ok (.dup, 1) := by decide +kernel
theorem dX9_steps_8 : decode cX9_steps 8 = .ok (.iconst 1, 1) := by decide +kernel
theorem dX9_steps_9 : decode cX9_steps 9 = .ok (.iload_n 2, 1) := by decide +kernel
theorem dX9_steps_10 : decode cX9_steps 10 = .ok (.iastore, 1) := by decide +kernel
theorem dX9_steps_11 : decode cX9_steps 11 = .ok (.dup, 1) := by decide +kernel
theorem dX9_steps_12 : decode cX9_steps 12 = .ok (.iconst 2, 1) := by decide +kernel
theorem dX9_steps_13 : decode cX9_steps 13 = .ok (.iload_n 3, 1) := by decide +kernel
theorem dX9_steps_14 : decode cX9_steps 14 = .ok (.iastore, 1) := by decide +kernel
theorem dX9_steps_15 : decode cX9_steps 15 = .ok (.dup, 1) := by decide +kernel
theorem dX9_steps_16 : decode cX9_steps 16 = .ok (.iconst 3, 1) := by decide +kernel
theorem dX9_steps_17 : decode cX9_steps 17 = .ok (.iload 4, 2) := by decide +kernel
theorem dX9_steps_19 : decode cX9_steps 19 = .ok (.iastore, 1) := by decide +kernel
theorem dX9_steps_20 : decode cX9_steps 20 = .ok (.astore 5, 2) := by decide +kernel
theorem dX9_steps_22 : decode cX9_steps 22 = .ok (.aload_n 0, 1) := by decide +kernel
theorem dX9_steps_23 : decode cX9_steps 23 = .ok (.aload 5, 2) := by decide +kernel
set_option maxRecDepth 20000 in
theorem ggX9_steps_X9_isPacket : GoodIn wsX9_steps wsX9_isPacket := goodIn_r _ [7, 8, 9, 10, 6, 11, 12, 13, 14, 39, 40, 41, 42, 43, 44, 45, 46, 47, 48, 49] (by decide +kernel) (by decide +kernel)
set_option maxRecDepth 20000 in
theorem gX9_steps_X9_isPacket : GoodIn wsX9_steps (wsV RX9 178 RX9 yX9_isPacket wsX9_isPacket) := goodIn_app (goodIn_of _ (by decide +kernel)) ggX9_steps_X9_isPacket
theorem dX9_steps_25 : decode cX9_steps 25 = .ok (.invokevirtual 178, 3) := by decide +kernel
theorem dX9_steps_28 : decode cX9_steps 28 = .ok (.ifCond .ne 5, 3) := by decide +kernel
theorem dX9_steps_33 : decode cX9_steps 33 = .ok (.aload_n 0, 1) := by decide +kernel
theorem dX9_steps_34 : decode cX9_steps 34 = .ok (.getfield 10, 3) := by decide +kernel
set_option maxRecDepth 20000 in
theorem ggX9_steps_X8_all : GoodIn wsX9_steps wsX8_all := goodIn_r _ [19, 20, 21, 22, 23, 18, 24, 25, 50, 51, 52, 53, 54, 55] (by decide +kernel) (by decide +kernel)
set_option maxRecDepth 20000 in
theorem gX9_steps_X8_all : GoodIn wsX9_steps (wsV RX9 151 RX8 yX8_all wsX8_all) := goodIn_app (goodIn_of _ (by decide +kernel)) ggX9_steps_X8_all
theorem dX9_steps_37 : decode cX9_steps 37 = .ok (.invokevirtual 151, 3) := by decide +kernel
theorem dX9_steps_40 : decode cX9_steps 40 = .ok (.istore 6, 2) := by decide +kernel
theorem dX9_steps_42 : decode cX9_steps 42 = .ok (.iconst 0, 1) := by decide +kernel
theorem dX9_steps_43 : decode cX9_steps 43 = .ok (.istore 7, 2) := by decide +kernel
theorem dX9_steps_45 : decode cX9_steps 45 = .ok (.aload_n 0, 1) := by decide +kernel
theorem dX9_steps_46 : decode cX9_steps 46 = .ok (.getfield 10, 3) := by decide +kernel
theorem dX9_steps_49 : decode cX9_steps 49 = .ok (.iload 7, 2) := by decide +kernel
theorem dX9_steps_51 : decode cX9_steps 51 = .ok (.iload 6, 2) := by decide +kernel
set_option maxRecDepth 20000 in
theorem ggX9_steps_X8_isLed : GoodIn wsX9_steps wsX8_isLed := goodIn_r _ [29, 30, 31, 32, 33, 18, 34, 10, 6, 11, 50, 51, 52, 53, 54, 55] (by decide +kernel) (by decide +kernel)
set_option maxRecDepth 20000 in
theorem gX9_steps_X8_isLed : GoodIn wsX9_steps (wsV RX9 46 RX8 yX8_isLed wsX8_isLed) := goodIn_app (goodIn_of _ (by decide +kernel)) ggX9_steps_X8_isLed
theorem dX9_steps_53 : decode cX9_steps 53 = .ok (.invokevirtual 46, 3) := by decide +kernel
theorem dX9_steps_56 : decode cX9_steps 56 = .ok (.ifCond .ne 27, 3) := by decide +kernel
theorem dX9_steps_83 : decode cX9_steps 83 = .ok (.iload 7, 2) := by decide +kernel
theorem dX9_steps_85 : decode cX9_steps 85 = .ok (.ireturn, 1) := by decide +kernel
theorem dX9_steps_31 : decode cX9_steps 31 = .ok (.iconst 0, 1) := by decide +kernel
theorem dX9_steps_32 : decode cX9_steps 32 = .ok (.ireturn, 1) := by decide +kernel
theorem dX9_placeOf_0 : decode cX9_placeOf 0 = .ok (.iconst 0, 1) := by decide +kernel
theorem dX9_placeOf_1 : decode cX9_placeOf 1 = .ok (.istore 4, 2) := by decide +kernel
theorem dX9_placeOf_3 : decode cX9_placeOf 3 = .ok (.iload 4, 2) := by decide +kernel
theorem dX9_placeOf_5 : decode cX9_placeOf 5 = .ok (.aload_n 0, 1) := by decide +kernel
theorem dX9_placeOf_6 : decode cX9_placeOf 6 = .ok (.getfield 205, 3) := by decide +kernel
theorem dX9_placeOf_9 : decode cX9_placeOf 9 = .ok (.if_icmp .ge 55, 3) := by decide +kernel
theorem dX9_placeOf_64 : decode cX9_placeOf 64 = .ok (.iconst (-1), 1) := by decide +kernel
theorem dX9_placeOf_65 : decode cX9_placeOf 65 = .ok (.ireturn, 1) := by decide +kernel
theorem dX9_send_0 : decode cX9_send 0 = .ok (.iconst 4, 1) := by decide +kernel
theorem dX9_send_1 : decode cX9_send 1 = .ok (.newarray .int, 2) := by decide +kernel
theorem dX9_send_3 : decode cX9_send 3 = .ok (.dup, 1) := by decide +kernel
theorem dX9_send_4 : decode cX9_send 4 = .ok (.iconst 0, 1) := by decide +kernel
theorem dX9_send_5 : decode cX9_send 5 = .ok (.iload_n 1, 1) := by decide +kernel
theorem dX9_send_6 : decode cX9_send 6 = .ok (.iastore, 1) := by decide +kernel
theorem dX9_send_7 : decode cX9_send 7 = .ok (.dup, 1) := by decide +kernel
theorem dX9_send_8 : decode cX9_send 8 = .ok (.iconst 1, 1) := by decide +kernel
theorem dX9_send_9 : decode cX9_send 9 = .ok (.iload_n 2, 1) := by decide +kernel
theorem dX9_send_10 : decode cX9_send 10 = .ok (.iastore, 1) := by decide +kernel
theorem dX9_send_11 : decode cX9_send 11 = .ok (.dup, 1) := by decide +kernel
theorem dX9_send_12 : decode cX9_send 12 = .ok (.iconst 2, 1) := by decide +kernel
theorem dX9_send_13 : decode cX9_send 13 = .ok (.iload_n 3, 1) := by decide +kernel
theorem dX9_send_14 : decode cX9_send 14 = .ok (.iastore, 1) := by decide +kernel
theorem dX9_send_15 : decode cX9_send 15 = .ok (.dup, 1) := by decide +kernel
theorem dX9_send_16 : decode cX9_send 16 = .ok (.iconst 3, 1) := by decide +kernel
theorem dX9_send_17 : decode cX9_send 17 = .ok (.iload 4, 2) := by decide +kernel
theorem dX9_send_19 : decode cX9_send 19 = .ok (.iastore, 1) := by decide +kernel
theorem dX9_send_20 : decode cX9_send 20 = .ok (.astore 5, 2) := by decide +kernel
theorem dX9_send_22 : decode cX9_send 22 = .ok (.aload_n 0, 1) := by decide +kernel
theorem dX9_send_23 : decode cX9_send 23 = .ok (.aload 5, 2) := by decide +kernel
set_option maxRecDepth 20000 in
theorem ggX9_send_X9_isPacket : GoodIn wsX9_send wsX9_isPacket := goodIn_r _ [12, 13, 14, 15, 11, 16, 17, 18, 19, 49, 50, 51, 52, 53, 54, 55, 56, 57, 58, 59] (by decide +kernel) (by decide +kernel)
set_option maxRecDepth 20000 in
theorem gX9_send_X9_isPacket : GoodIn wsX9_send (wsV RX9 178 RX9 yX9_isPacket wsX9_isPacket) := goodIn_app (goodIn_of _ (by decide +kernel)) ggX9_send_X9_isPacket
theorem dX9_send_25 : decode cX9_send 25 = .ok (.invokevirtual 178, 3) := by decide +kernel
theorem dX9_send_28 : decode cX9_send 28 = .ok (.ifCond .ne 5, 3) := by decide +kernel
theorem dX9_send_33 : decode cX9_send 33 = .ok (.aload_n 0, 1) := by decide +kernel
theorem dX9_send_34 : decode cX9_send 34 = .ok (.getfield 26, 3) := by decide +kernel
theorem dX9_send_37 : decode cX9_send 37 = .ok (.iconst 0, 1) := by decide +kernel
theorem dX9_send_38 : decode cX9_send 38 = .ok (.dup2, 1) := by decide +kernel
theorem dX9_send_39 : decode cX9_send 39 = .ok (.iaload, 1) := by decide +kernel
theorem dX9_send_40 : decode cX9_send 40 = .ok (.iconst 1, 1) := by decide +kernel
theorem dX9_send_41 : decode cX9_send 41 = .ok (.iadd, 1) := by decide +kernel
theorem dX9_send_42 : decode cX9_send 42 = .ok (.iastore, 1) := by decide +kernel
theorem dX9_send_43 : decode cX9_send 43 = .ok (.iload 4, 2) := by decide +kernel
theorem dX9_send_45 : decode cX9_send 45 = .ok (.iconst 1, 1) := by decide +kernel
theorem dX9_send_46 : decode cX9_send 46 = .ok (.if_icmp .ne 36, 3) := by decide +kernel
theorem dX9_send_49 : decode cX9_send 49 = .ok (.aload_n 0, 1) := by decide +kernel
theorem dX9_send_50 : decode cX9_send 50 = .ok (.iload_n 2, 1) := by decide +kernel
theorem dX9_send_51 : decode cX9_send 51 = .ok (.iload_n 1, 1) := by decide +kernel
theorem dX9_send_52 : decode cX9_send 52 = .ok (.iload_n 3, 1) := by decide +kernel
set_option maxRecDepth 20000 in
theorem ggX9_send_X9_placeOf : GoodIn wsX9_send wsX9_placeOf := goodIn_r _ [23, 24, 25, 49, 50, 51, 52, 53, 54, 55, 56, 57, 58, 59] (by decide +kernel) (by decide +kernel)
set_option maxRecDepth 20000 in
theorem gX9_send_X9_placeOf : GoodIn wsX9_send (wsV RX9 208 RX9 yX9_placeOf wsX9_placeOf) := goodIn_app (goodIn_of _ (by decide +kernel)) ggX9_send_X9_placeOf
theorem dX9_send_53 : decode cX9_send 53 = .ok (.invokevirtual 208, 3) := by decide +kernel
theorem dX9_send_56 : decode cX9_send 56 = .ok (.iconst (-1), 1) := by decide +kernel
theorem dX9_send_57 : decode cX9_send 57 = .ok (.if_icmp .eq 25, 3) := by decide +kernel
theorem dX9_send_82 : decode cX9_send 82 = .ok (.aload_n 0, 1) := by decide +kernel
theorem dX9_send_83 : decode cX9_send 83 = .ok (.aload 5, 2) := by decide +kernel
set_option maxRecDepth 20000 in
theorem ggX9_send_X9_deciderNow : GoodIn wsX9_send wsX9_deciderNow := goodIn_r _ [29, 3, 4, 5, 30, 31, 32, 33, 34, 35, 36, 18, 11, 19, 49, 50, 51, 52, 53, 54, 55, 56, 57, 58, 59, 60, 61, 62, 63, 64, 65] (by decide +kernel) (by decide +kernel)
set_option maxRecDepth 20000 in
theorem gX9_send_X9_deciderNow : GoodIn wsX9_send (wsV RX9 182 RX9 yX9_deciderNow wsX9_deciderNow) := goodIn_app (goodIn_of _ (by decide +kernel)) ggX9_send_X9_deciderNow
theorem dX9_send_85 : decode cX9_send 85 = .ok (.invokevirtual 182, 3) := by decide +kernel
theorem dX9_send_88 : decode cX9_send 88 = .ok (.istore 6, 2) := by decide +kernel
theorem dX9_send_90 : decode cX9_send 90 = .ok (.iconst 0, 1) := by decide +kernel
theorem dX9_send_91 : decode cX9_send 91 = .ok (.istore 7, 2) := by decide +kernel
theorem dX9_send_93 : decode cX9_send 93 = .ok (.iload 7, 2) := by decide +kernel
theorem dX9_send_95 : decode cX9_send 95 = .ok (.iload 6, 2) := by decide +kernel
theorem dX9_send_97 : decode cX9_send 97 = .ok (.iconst (-1), 1) := by decide +kernel
theorem dX9_send_98 : decode cX9_send 98 = .ok (.if_icmp .ne 13, 3) := by decide +kernel
theorem dX9_send_101 : decode cX9_send 101 = .ok (.aload_n 0, 1) := by decide +kernel
theorem dX9_send_102 : decode cX9_send 102 = .ok (.getfield 10, 3) := by decide +kernel
theorem dX9_send_105 : decode cX9_send 105 = .ok (.getfield 83, 3) := by decide +kernel
theorem dX9_send_108 : decode cX9_send 108 = .ok (.goto 5, 3) := by decide +kernel
theorem dX9_send_113 : decode cX9_send 113 = .ok (.if_icmp .ge 48, 3) := by decide +kernel
theorem dX9_send_161 : decode cX9_send 161 = .ok (.iload 6, 2) := by decide +kernel
theorem dX9_send_163 : decode cX9_send 163 = .ok (.iconst (-1), 1) := by decide +kernel
theorem dX9_send_164 : decode cX9_send 164 = .ok (.if_icmp .ne 16, 3) := by decide +kernel
theorem dX9_send_167 : decode cX9_send 167 = .ok (.aload_n 0, 1) := by decide +kernel
theorem dX9_send_168 : decode cX9_send 168 = .ok (.getfield 26, 3) := by decide +kernel
theorem dX9_send_171 : decode cX9_send 171 = .ok (.iconst 4, 1) := by decide +kernel
theorem dX9_send_172 : decode cX9_send 172 = .ok (.dup2, 1) := by decide +kernel
theorem dX9_send_173 : decode cX9_send 173 = .ok (.iaload, 1) := by decide +kernel
theorem dX9_send_174 : decode cX9_send 174 = .ok (.iconst 1, 1) := by decide +kernel
theorem dX9_send_175 : decode cX9_send 175 = .ok (.iadd, 1) := by decide +kernel
theorem dX9_send_176 : decode cX9_send 176 = .ok (.iastore, 1) := by decide +kernel
theorem dX9_send_177 : decode cX9_send 177 = .ok (.goto 14, 3) := by decide +kernel
theorem dX9_send_191 : decode cX9_send 191 = .ok (.iload 6, 2) := by decide +kernel
theorem dX9_send_193 : decode cX9_send 193 = .ok (.iconst (-1), 1) := by decide +kernel
theorem dX9_send_194 : decode cX9_send 194 = .ok (.if_icmp .ne 13, 3) := by decide +kernel
theorem dX9_send_197 : decode cX9_send 197 = .ok (.aload_n 0, 1) := by decide +kernel
theorem dX9_send_198 : decode cX9_send 198 = .ok (.getfield 10, 3) := by decide +kernel
theorem dX9_send_201 : decode cX9_send 201 = .ok (.getfield 136, 3) := by decide +kernel
theorem dX9_send_204 : decode cX9_send 204 = .ok (.goto 13, 3) := by decide +kernel
theorem dX9_send_217 : decode cX9_send 217 = .ok (.iconst 1, 1) := by decide +kernel
theorem dX9_send_218 : decode cX9_send 218 = .ok (.if_icmp .ne 7, 3) := by decide +kernel
theorem dX9_send_225 : decode cX9_send 225 = .ok (.iconst 0, 1) := by decide +kernel
theorem dX9_send_226 : decode cX9_send 226 = .ok (.istore 7, 2) := by decide +kernel
theorem dX9_send_228 : decode cX9_send 228 = .ok (.iload 7, 2) := by decide +kernel
theorem dX9_send_230 : decode cX9_send 230 = .ok (.ifCond .ne 5, 3) := by decide +kernel
theorem dX9_send_233 : decode cX9_send 233 = .ok (.iconst 0, 1) := by decide +kernel
theorem dX9_send_234 : decode cX9_send 234 = .ok (.ireturn, 1) := by decide +kernel
theorem dX9_send_31 : decode cX9_send 31 = .ok (.iconst 0, 1) := by decide +kernel
theorem dX9_send_32 : decode cX9_send 32 = .ok (.ireturn, 1) := by decide +kernel
theorem dX9_sentNow_0 : decode cX9_sentNow 0 = .ok (.iload_n 1, 1) := by decide +kernel
theorem dX9_sentNow_1 : decode cX9_sentNow 1 = .ok (.iconst 3, 1) := by decide +kernel
theorem dX9_sentNow_2 : decode cX9_sentNow 2 = .ok (.if_icmp .ne 10, 3) := by decide +kernel
theorem dX9_sentNow_12 : decode cX9_sentNow 12 = .ok (.aload_n 0, 1) := by decide +kernel
theorem dX9_sentNow_13 : decode cX9_sentNow 13 = .ok (.getfield 26, 3) := by decide +kernel
theorem dX9_sentNow_16 : decode cX9_sentNow 16 = .ok (.iload_n 1, 1) := by decide +kernel
theorem dX9_sentNow_17 : decode cX9_sentNow 17 = .ok (.iaload, 1) := by decide +kernel
theorem dX9_sentNow_18 : decode cX9_sentNow 18 = .ok (.ireturn, 1) := by decide +kernel
theorem dX9_sent_0 : decode cX9_sent 0 = .ok (.aload_n 0, 1) := by decide +kernel
theorem dX9_sent_1 : decode cX9_sent 1 = .ok (.iconst 0, 1) := by decide +kernel
theorem dX9_sent_2 : decode cX9_sent 2 = .ok (.putfield 40, 3) := by decide +kernel
theorem dX9_sent_5 : decode cX9_sent 5 = .ok (.iload_n 1, 1) := by decide +kernel
theorem dX9_sent_6 : decode cX9_sent 6 = .ok (.iconst 0, 1) := by decide +kernel
theorem dX9_sent_7 : decode cX9_sent 7 = .ok (.iconst 4, 1) := by decide +kernel
set_option maxRecDepth 20000 in
theorem ggX9_sent_X9_isIn : GoodIn wsX9_sent wsX9_isIn := goodIn_r _ [5] (by decide +kernel) (by decide +kernel)
set_option maxRecDepth 20000 in
theorem gX9_sent_X9_isIn : GoodIn wsX9_sent (va_wsS RX9 86 yX9_isIn wsX9_isIn) := goodIn_app (goodIn_of _ (by decide +kernel)) ggX9_sent_X9_isIn
theorem dX9_sent_8 : decode cX9_sent 8 = .ok (.invokestatic 86, 3) := by decide +kernel
theorem dX9_sent_11 : decode cX9_sent 11 = .ok (.ifCond .eq 11, 3) := by decide +kernel
theorem dX9_sent_14 : decode cX9_sent 14 = .ok (.aload_n 0, 1) := by decide +kernel
theorem dX9_sent_15 : decode cX9_sent 15 = .ok (.iload_n 1, 1) := by decide +kernel
set_option maxRecDepth 20000 in
theorem ggX9_sent_X9_sentNow : GoodIn wsX9_sent wsX9_sentNow := goodIn_r _ [9, 10, 11, 16, 17, 18, 19, 20, 21, 22, 23, 24, 25, 26] (by decide +kernel) (by decide +kernel)
set_option maxRecDepth 20000 in
theorem gX9_sent_X9_sentNow : GoodIn wsX9_sent (wsV RX9 218 RX9 yX9_sentNow wsX9_sentNow) := goodIn_app (goodIn_of _ (by decide +kernel)) ggX9_sent_X9_sentNow
theorem dX9_sent_16 : decode cX9_sent 16 = .ok (.invokevirtual 218, 3) := by decide +kernel
theorem dX9_sent_19 : decode cX9_sent 19 = .ok (.goto 8, 3) := by decide +kernel
theorem dX9_sent_27 : decode cX9_sent 27 = .ok (.ireturn, 1) := by decide +kernel
theorem dX9_sentNow_5 : decode cX9_sentNow 5 = .ok (.aload_n 0, 1) := by decide +kernel
theorem dX9_sentNow_6 : decode cX9_sentNow 6 = .ok (.getfield 205, 3) := by decide +kernel
theorem dX9_sentNow_9 : decode cX9_sentNow 9 = .ok (.goto 9, 3) := by decide +kernel
theorem dX9_sent_22 : decode cX9_sent 22 = .ok (.aload_n 0, 1) := by decide +kernel
theorem dX9_sent_23 : decode cX9_sent 23 = .ok (.iconst 1, 1) := by decide +kernel
set_option maxRecDepth 20000 in
theorem ggX9_sent_X9_no : GoodIn wsX9_sent wsX9_no := goodIn_r _ [15, 1, 16, 17, 18, 19, 20, 21, 22, 23, 24, 25, 26] (by decide +kernel) (by decide +kernel)
set_option maxRecDepth 20000 in
theorem gX9_sent_X9_no : GoodIn wsX9_sent (wsV RX9 90 RX9 yX9_no wsX9_no) := goodIn_app (goodIn_of _ (by decide +kernel)) ggX9_sent_X9_no
theorem dX9_sent_24 : decode cX9_sent 24 = .ok (.invokevirtual 90, 3) := by decide +kernel
theorem dX9_kept_0 : decode cX9_kept 0 = .ok (.aload_n 0, 1) := by decide +kernel
theorem dX9_kept_1 : decode cX9_kept 1 = .ok (.iconst 0, 1) := by decide +kernel
theorem dX9_kept_2 : decode cX9_kept 2 = .ok (.putfield 40, 3) := by decide +kernel
theorem dX9_kept_5 : decode cX9_kept 5 = .ok (.iload_n 1, 1) := by decide +kernel
theorem dX9_kept_6 : decode cX9_kept 6 = .ok (.iconst 0, 1) := by decide +kernel
theorem dX9_kept_7 : decode cX9_kept 7 = .ok (.aload_n 0, 1) := by decide +kernel
theorem dX9_kept_8 : decode cX9_kept 8 = .ok (.getfield 205, 3) := by decide +kernel
theorem dX9_kept_11 : decode cX9_kept 11 = .ok (.iconst 1, 1) := by decide +kernel
theorem dX9_kept_12 : decode cX9_kept 12 = .ok (.isub, 1) := by decide +kernel
set_option maxRecDepth 20000 in
theorem ggX9_kept_X9_isIn : GoodIn wsX9_kept wsX9_isIn := goodIn_r _ [7] (by decide +kernel) (by decide +kernel)
set_option maxRecDepth 20000 in
theorem gX9_kept_X9_isIn : GoodIn wsX9_kept (va_wsS RX9 86 yX9_isIn wsX9_isIn) := goodIn_app (goodIn_of _ (by decide +kernel)) ggX9_kept_X9_isIn
theorem dX9_kept_13 : decode cX9_kept 13 = .ok (.invokestatic 86, 3) := by decide +kernel
theorem dX9_kept_16 : decode cX9_kept 16 = .ok (.ifCond .ne 9, 3) := by decide +kernel
theorem dX9_kept_19 : decode cX9_kept 19 = .ok (.aload_n 0, 1) := by decide +kernel
theorem dX9_kept_20 : decode cX9_kept 20 = .ok (.iconst 1, 1) := by decide +kernel
set_option maxRecDepth 20000 in
theorem ggX9_kept_X9_no : GoodIn wsX9_kept wsX9_no := goodIn_r _ [11, 1, 12, 13, 14, 15, 16, 17, 18, 19, 20, 21, 22] (by decide +kernel) (by decide +kernel)
set_option maxRecDepth 20000 in
theorem gX9_kept_X9_no : GoodIn wsX9_kept (wsV RX9 90 RX9 yX9_no wsX9_no) := goodIn_app (goodIn_of _ (by decide +kernel)) ggX9_kept_X9_no
theorem dX9_kept_21 : decode cX9_kept 21 = .ok (.invokevirtual 90, 3) := by decide +kernel
theorem dX9_kept_24 : decode cX9_kept 24 = .ok (.ireturn, 1) := by decide +kernel
theorem dX9_forget_0 : decode cX9_forget 0 = .ok (.aload_n 0, 1) := by decide +kernel
theorem dX9_forget_1 : decode cX9_forget 1 = .ok (.getfield 205, 3) := by decide +kernel
theorem dX9_forget_4 : decode cX9_forget 4 = .ok (.istore_n 1, 1) := by decide +kernel
theorem dX9_forget_5 : decode cX9_forget 5 = .ok (.aload_n 0, 1) := by decide +kernel
theorem dX9_forget_6 : decode cX9_forget 6 = .ok (.iconst 0, 1) := by decide +kernel
theorem dX9_forget_7 : decode cX9_forget 7 = .ok (.putfield 205, 3) := by decide +kernel
theorem dX9_forget_10 : decode cX9_forget 10 = .ok (.aload_n 0, 1) := by decide +kernel
theorem dX9_forget_11 : decode cX9_forget 11 = .ok (.iload_n 1, 1) := by decide +kernel
set_option maxRecDepth 20000 in
theorem ggX9_forget_X9_ok : GoodIn wsX9_forget wsX9_ok := goodIn_r _ [6, 7, 8, 9, 10, 11, 12, 13, 14, 15, 16, 17, 18] (by decide +kernel) (by decide +kernel)
set_option maxRecDepth 20000 in
theorem gX9_forget_X9_ok : GoodIn wsX9_forget (wsV RX9 142 RX9 yX9_ok wsX9_ok) := goodIn_app (goodIn_of _ (by decide +kernel)) ggX9_forget_X9_ok
theorem dX9_forget_12 : decode cX9_forget 12 = .ok (.invokevirtual 142, 3) := by decide +kernel
theorem dX9_forget_15 : decode cX9_forget 15 = .ok (.ireturn, 1) := by decide +kernel
theorem dX9_copy_0 : decode cX9_copy 0 = .ok (.aload_n 0, 1) := by decide +kernel
theorem dX9_copy_1 : decode cX9_copy 1 = .ok (.aload_n 0, 1) := by decide +kernel
theorem dX9_copy_2 : decode cX9_copy 2 = .ok (.getfield 10, 3) := by decide +kernel
set_option maxRecDepth 20000 in
theorem ggX9_copy_X8_copied : GoodIn wsX9_copy wsX8_copied := goodIn_r _ [8, 9, 10, 7, 11, 12, 13, 14, 15, 16, 17, 18, 19, 20, 21, 22, 23, 24, 25, 26, 27, 28, 29, 30, 31, 49, 50, 51, 52, 53, 54] (by decide +kernel) (by decide +kernel)
set_option maxRecDepth 20000 in
theorem gX9_copy_X8_copied : GoodIn wsX9_copy (wsV RX9 106 RX8 yX8_copied wsX8_copied) := goodIn_app (goodIn_of _ (by decide +kernel)) ggX9_copy_X8_copied
theorem dX9_copy_5 : decode cX9_copy 5 = .ok (.invokevirtual 106, 3) := by decide +kernel
theorem dX9_copy_8 : decode cX9_copy 8 = .ok (.putfield 16, 3) := by decide +kernel
theorem dX9_copy_11 : decode cX9_copy 11 = .ok (.aload_n 0, 1) := by decide +kernel
theorem dX9_copy_12 : decode cX9_copy 12 = .ok (.aload_n 0, 1) := by decide +kernel
theorem dX9_copy_13 : decode cX9_copy 13 = .ok (.getfield 16, 3) := by decide +kernel
theorem dX9_copy_16 : decode cX9_copy 16 = .ok (.getfield 83, 3) := by decide +kernel
set_option maxRecDepth 20000 in
theorem ggX9_copy_X9_ok : GoodIn wsX9_copy wsX9_ok := goodIn_r _ [36, 37, 38, 39, 40, 41, 42, 43, 44, 45, 46, 47, 48] (by decide +kernel) (by decide +kernel)
set_option maxRecDepth 20000 in
theorem gX9_copy_X9_ok : GoodIn wsX9_copy (wsV RX9 142 RX9 yX9_ok wsX9_ok) := goodIn_app (goodIn_of _ (by decide +kernel)) ggX9_copy_X9_ok
theorem dX9_copy_19 : decode cX9_copy 19 = .ok (.invokevirtual 142, 3) := by decide +kernel
theorem dX9_copy_22 : decode cX9_copy 22 = .ok (.ireturn, 1) := by decide +kernel
theorem dX9_changedNow_0 : decode cX9_changedNow 0 = .ok (.aload_n 0, 1) := by decide +kernel
theorem dX9_changedNow_1 : decode cX9_changedNow 1 = .ok (.getfield 10, 3) := by decide +kernel
theorem dX9_changedNow_4 : decode cX9_changedNow 4 = .ok (.aload_n 0, 1) := by decide +kernel
theorem dX9_changedNow_5 : decode cX9_changedNow 5 = .ok (.getfield 10, 3) := by decide +kernel
set_option maxRecDepth 20000 in
theorem ggX9_changedNow_X8_all : GoodIn wsX9_changedNow wsX8_all := goodIn_r _ [7, 8, 9, 10, 11, 6, 12, 13, 84, 85, 86, 87, 88, 89] (by decide +kernel) (by decide +kernel)
set_option maxRecDepth 20000 in
theorem gX9_changedNow_X8_all : GoodIn wsX9_changedNow (wsV RX9 151 RX8 yX8_all wsX8_all) := goodIn_app (goodIn_of _ (by decide +kernel)) ggX9_changedNow_X8_all
theorem dX9_changedNow_8 : decode cX9_changedNow 8 = .ok (.invokevirtual 151, 3) := by decide +kernel
theorem dX9_changedNow_11 : decode cX9_changedNow 11 = .ok (.aload_n 0, 1) := by decide +kernel
theorem dX9_changedNow_12 : decode cX9_changedNow 12 = .ok (.getfield 16, 3) := by decide +kernel
theorem dX9_changedNow_15 : decode cX9_changedNow 15 = .ok (.aload_n 0, 1) := by decide +kernel
theorem dX9_changedNow_16 : decode cX9_changedNow 16 = .ok (.getfield 16, 3) := by decide +kernel
theorem dX9_changedNow_19 : decode cX9_changedNow 19 = .ok (.invokevirtual 151, 3) := by decide +kernel
set_option maxRecDepth 20000 in
theorem ggX9_changedNow_X9_differ : GoodIn wsX9_changedNow wsX9_differ := goodIn_r _ [17, 18, 19, 20, 6, 21, 22, 23, 24, 25, 16, 26, 27, 28, 29, 30, 31, 32, 33, 34, 35, 36, 37, 38, 39, 40, 41, 42, 43, 44, 45, 46, 47, 48, 49, 50, 51, 13, 52, 53, 54, 55, 56, 57, 58, 59, 8, 60, 61, 62, 63, 64, 65, 66, 67, 68, 69, 70, 71, 72, 84, 85, 86, 87, 88, 89] (by decide +kernel) (by decide +kernel)
set_option maxRecDepth 20000 in
theorem gX9_changedNow_X9_differ : GoodIn wsX9_changedNow (va_wsS RX9 161 yX9_differ wsX9_differ) := goodIn_app (goodIn_of _ (by decide +kernel)) ggX9_changedNow_X9_differ
theorem dX9_changedNow_22 : decode cX9_changedNow 22 = .ok (.invokestatic 161, 3) := by decide +kernel
theorem dX9_changedNow_25 : decode cX9_changedNow 25 = .ok (.ireturn, 1) := by decide +kernel
theorem dX9_changed_0 : decode cX9_changed 0 = .ok (.aload_n 0, 1) := by decide +kernel
theorem dX9_changed_1 : decode cX9_changed 1 = .ok (.aload_n 0, 1) := by decide +kernel
set_option maxRecDepth 20000 in
theorem ggX9_changed_X9_changedNow : GoodIn wsX9_changed wsX9_changedNow := goodIn_r _ [5, 6, 7, 8, 9, 10, 11, 12, 13, 14, 15, 16, 17, 18, 19, 20, 4, 21, 22, 23, 24, 25, 26, 27, 28, 29, 30, 31, 32, 33, 34, 35, 36, 37, 38, 39, 40, 41, 42, 43, 44, 45, 46, 47, 48, 49, 50, 51, 52, 53, 54, 55, 56, 57, 58, 59, 60, 61, 62, 63, 64, 65, 66, 67, 68, 69, 70, 71, 72, 73, 74, 75, 76, 82, 83, 84, 85, 86, 87, 88, 89, 90, 91, 92, 93, 94, 95, 96, 97, 98] (by decide +kernel) (by decide +kernel)
set_option maxRecDepth 20000 in
theorem gX9_changed_X9_changedNow : GoodIn wsX9_changed (wsV RX9 221 RX9 yX9_changedNow wsX9_changedNow) := goodIn_app (goodIn_of _ (by decide +kernel)) ggX9_changed_X9_changedNow
theorem dX9_changed_2 : decode cX9_changed 2 = .ok (.invokevirtual 221, 3) := by decide +kernel
set_option maxRecDepth 20000 in
theorem ggX9_changed_X9_ok : GoodIn wsX9_changed wsX9_ok := goodIn_r _ [80, 81, 82, 83, 84, 85, 86, 87, 88, 89, 90, 91, 92] (by decide +kernel) (by decide +kernel)
set_option maxRecDepth 20000 in
theorem gX9_changed_X9_ok : GoodIn wsX9_changed (wsV RX9 142 RX9 yX9_ok wsX9_ok) := goodIn_app (goodIn_of _ (by decide +kernel)) ggX9_changed_X9_ok
theorem dX9_changed_5 : decode cX9_changed 5 = .ok (.invokevirtual 142, 3) := by decide +kernel
theorem dX9_changed_8 : decode cX9_changed 8 = .ok (.ireturn, 1) := by decide +kernel
theorem dX9_witnessNow_0 : decode cX9_witnessNow 0 = .ok (.iconst 4, 1) := by decide +kernel
theorem dX9_witnessNow_1 : decode cX9_witnessNow 1 = .ok (.newarray .int, 2) := by decide +kernel
theorem dX9_witnessNow_3 : decode cX9_witnessNow 3 = .ok (.dup, 1) := by decide +kernel
theorem dX9_witnessNow_4 : decode cX9_witnessNow 4 = .ok (.iconst 0, 1) := by decide +kernel
theorem dX9_witnessNow_5 : decode cX9_witnessNow 5 = .ok (.iconst (-1), 1) := by decide +kernel
theorem dX9_witnessNow_6 : decode cX9_witnessNow 6 = .ok (.iastore, 1) := by decide +kernel
theorem dX9_witnessNow_7 : decode cX9_witnessNow 7 = .ok (.dup, 1) := by decide +kernel
theorem dX9_witnessNow_8 : decode cX9_witnessNow 8 = .ok (.iconst 1, 1) := by decide +kernel
theorem dX9_witnessNow_9 : decode cX9_witnessNow 9 = .ok (.iconst (-1), 1) := by decide +kernel
theorem dX9_witnessNow_10 : decode cX9_witnessNow 10 = .ok (.iastore, 1) := by decide +kernel
theorem dX9_witnessNow_11 : decode cX9_witnessNow 11 = .ok (.dup, 1) := by decide +kernel
theorem dX9_witnessNow_12 : decode cX9_witnessNow 12 = .ok (.iconst 2, 1) := by decide +kernel
theorem dX9_witnessNow_13 : decode cX9_witnessNow 13 = .ok (.iconst (-1), 1) := by decide +kernel
theorem dX9_witnessNow_14 : decode cX9_witnessNow 14 = .ok (.iastore, 1) := by decide +kernel
theorem dX9_witnessNow_15 : decode cX9_witnessNow 15 = .ok (.dup, 1) := by decide +kernel
theorem dX9_witnessNow_16 : decode cX9_witnessNow 16 = .ok (.iconst 3, 1) := by decide +kernel
theorem dX9_witnessNow_17 : decode cX9_witnessNow 17 = .ok (.iconst (-1), 1) := by decide +kernel
theorem dX9_witnessNow_18 : decode cX9_witnessNow 18 = .ok (.iastore, 1) := by decide +kernel
theorem dX9_witnessNow_19 : decode cX9_witnessNow 19 = .ok (.astore_n 1, 1) := by decide +kernel
theorem dX9_witnessNow_20 : decode cX9_witnessNow 20 = .ok (.aload_n 0, 1) := by decide +kernel
set_option maxRecDepth 20000 in
theorem ggX9_witnessNow_X9_changedNow : GoodIn wsX9_witnessNow wsX9_changedNow := goodIn_r _ [12, 2, 3, 13, 14, 15, 16, 17, 18, 19, 20, 21, 22, 23, 24, 25, 11, 26, 27, 28, 29, 30, 1, 31, 32, 33, 34, 4, 5, 6, 7, 35, 36, 37, 38, 39, 40, 41, 42, 43, 44, 45, 46, 47, 48, 49, 50, 51, 52, 53, 54, 55, 56, 57, 58, 59, 60, 61, 62, 63, 64, 65, 66, 67, 68, 69, 70, 71, 72, 73, 74, 75, 76, 77, 78, 79, 80, 81, 82, 83, 84, 85, 86, 87, 88, 89, 90, 91, 92, 93] (by decide +kernel) (by decide +kernel)
set_option maxRecDepth 20000 in
theorem gX9_witnessNow_X9_changedNow : GoodIn wsX9_witnessNow (wsV RX9 221 RX9 yX9_changedNow wsX9_changedNow) := goodIn_app (goodIn_of _ (by decide +kernel)) ggX9_witnessNow_X9_changedNow
theorem dX9_witnessNow_21 : decode cX9_witnessNow 21 = .ok (.invokevirtual 221, 3) := by decide +kernel
theorem dX9_witnessNow_24 : decode cX9_witnessNow 24 = .ok (.ifCond .ne 5, 3) := by decide +kernel
theorem dX9_witnessNow_27 : decode cX9_witnessNow 27 = .ok (.aload_n 1, 1) := by decide +kernel
theorem dX9_witnessNow_28 : decode cX9_witnessNow 28 = .ok (.areturn, 1) := by decide +kernel
theorem dX9_witness_0 : decode cX9_witness 0 = .ok (.aload_n 0, 1) := by decide +kernel
theorem dX9_witness_1 : decode cX9_witness 1 = .ok (.iconst 0, 1) := by decide +kernel
theorem dX9_witness_2 : decode cX9_witness 2 = .ok (.putfield 40, 3) := by decide +kernel
theorem dX9_witness_5 : decode cX9_witness 5 = .ok (.iload_n 1, 1) := by decide +kernel
theorem dX9_witness_6 : decode cX9_witness 6 = .ok (.iconst 0, 1) := by decide +kernel
theorem dX9_witness_7 : decode cX9_witness 7 = .ok (.iconst 3, 1) := by decide +kernel
set_option maxRecDepth 20000 in
theorem ggX9_witness_X9_isIn : GoodIn wsX9_witness wsX9_isIn := goodIn_r _ [5] (by decide +kernel) (by decide +kernel)
set_option maxRecDepth 20000 in
theorem gX9_witness_X9_isIn : GoodIn wsX9_witness (va_wsS RX9 86 yX9_isIn wsX9_isIn) := goodIn_app (goodIn_of _ (by decide +kernel)) ggX9_witness_X9_isIn
theorem dX9_witness_8 : decode cX9_witness 8 = .ok (.invokestatic 86, 3) := by decide +kernel
theorem dX9_witness_11 : decode cX9_witness 11 = .ok (.ifCond .eq 12, 3) := by decide +kernel
theorem dX9_witness_14 : decode cX9_witness 14 = .ok (.aload_n 0, 1) := by decide +kernel
set_option maxRecDepth 20000 in
theorem ggX9_witness_X9_witnessNow : GoodIn wsX9_witness wsX9_witnessNow := goodIn_r _ [9, 10, 11, 12, 13, 14, 15, 16, 17, 18, 19, 4, 20, 21, 22, 23, 24, 25, 26, 27, 28, 29, 30, 31, 32, 33, 34, 35, 36, 37, 38, 39, 40, 41, 42, 43, 44, 45, 46, 47, 48, 49, 50, 51, 52, 53, 54, 55, 56, 57, 58, 59, 60, 61, 62, 63, 64, 65, 66, 67, 68, 69, 70, 71, 72, 73, 74, 75, 76, 3, 5, 77, 78, 79, 80, 81, 82, 87, 88, 89, 90, 91, 92, 93, 94, 95, 96, 97, 98, 99, 100, 101, 102, 103] (by decide +kernel) (by decide +kernel)
set_option maxRecDepth 20000 in
theorem gX9_witness_X9_witnessNow : GoodIn wsX9_witness (wsV RX9 224 RX9 yX9_witnessNow wsX9_witnessNow) := goodIn_app (goodIn_of _ (by decide +kernel)) ggX9_witness_X9_witnessNow
theorem dX9_witness_15 : decode cX9_witness 15 = .ok (.invokevirtual 224, 3) := by decide +kernel
theorem dX9_witness_18 : decode cX9_witness 18 = .ok (.iload_n 1, 1) := by decide +kernel
theorem dX9_witness_19 : decode cX9_witness 19 = .ok (.iaload, 1) := by decide +kernel
theorem dX9_witness_20 : decode cX9_witness 20 = .ok (.goto 8, 3) := by decide +kernel
theorem dX9_witness_28 : decode cX9_witness 28 = .ok (.ireturn, 1) := by decide +kernel
theorem dX9_witness_23 : decode cX9_witness 23 = .ok (.aload_n 0, 1) := by decide +kernel
theorem dX9_witness_24 : decode cX9_witness 24 = .ok (.iconst 1, 1) := by decide +kernel
set_option maxRecDepth 20000 in
theorem ggX9_witness_X9_no : GoodIn wsX9_witness wsX9_no := goodIn_r _ [86, 1, 87, 88, 89, 90, 91, 92, 93, 94, 95, 96, 97] (by decide +kernel) (by decide +kernel)
set_option maxRecDepth 20000 in
theorem gX9_witness_X9_no : GoodIn wsX9_witness (wsV RX9 90 RX9 yX9_no wsX9_no) := goodIn_app (goodIn_of _ (by decide +kernel)) ggX9_witness_X9_no
theorem dX9_witness_25 : decode cX9_witness 25 = .ok (.invokevirtual 90, 3) := by decide +kernel
set_option maxHeartbeats 4000000 in
set_option maxRecDepth 100000 in
theorem z_X9_deciderNow (l : Launch) (G : zG) (mm : Nat) (nw : Nat) (cq : Nat) (hi : Nat) (ko : Nat) (se : Nat) (nf : Nat) (ns : Nat) (pi : Nat) (th : Int32) (vd : Nat) (lw : Nat) (hg : Nat) (rk : Nat) (pa : Nat) : zR l G yX9_deciderNow wsX9_deciderNow { frames := 0, cells := 0, slots := 0, locals := 0 } [(mm, .inr (9, [.int th, .ref nw, .ref cq, .ref hi, .int 0, .ref ko, .ref se, .int 0, .ref nf, .ref ns, .ref pi])), (nw, .inr (8, [.int 0, .int 0, .ref vd, .ref lw, .ref hg, .ref rk]))] [.ref mm, .ref pa] (some (.int (-1))) (fun u => [(mm, .inr (9, [.int th, .ref nw, .ref cq, .ref hi, .int 0, .ref ko, .ref se, .int 0, .ref nf, .ref ns, .ref pi])), (nw, .inr (8, [.int 0, .int 0, .ref vd, .ref lw, .ref hg, .ref rk]))]) 0 0 := by
  refine zR_of (cc := cX9_deciderNow) (maxL := 3) (rt := (some .int)) (by decide) rfl (Nat.le_of_ble_eq_true rfl) ?_
  intro p e s m below meth c A ls hx hb hml hr hts hown hlocks hin hA hE hP hD hS hl
  have hl : lv_has ls 3 [(0, .ref mm), (1, .ref pa)] := hl
  have hown : s.vm.findClass RX9 = some m.cls := hown
  have hP : va_P G.1 vwCl [(mm, .inr (9, [.int th, .ref nw, .ref cq, .ref hi, .int 0, .ref ko, .ref se, .int 0, .ref nf, .ref ns, .ref pi])), (nw, .inr (8, [.int 0, .int 0, .ref vd, .ref lw, .ref hg, .ref rk]))] s.heap := hP
  have hw9 : ∀ w ∈ u_ws RX9 TX9 11, w ∈ wsX9_deciderNow := by decide +kernel
  have hf10 := hts (.fieldLink RX9 10 "NettleModel" "now" "LNettleModel$Wall;") (by decide +kernel)
  have hw8 : ∀ w ∈ u_ws RX8 TX8 6, w ∈ wsX9_deciderNow := by decide +kernel
  have hf83 := hts (.fieldLink RX9 83 "NettleModel$Wall" "many" "I") (by decide +kernel)
  refine lv_iconst (v := 0) hx hb dX9_deciderNow_0 (by decide) ?_
  refine lv_istore_n (lv' := [(2, .int 0), (0, .ref mm), (1, .ref pa)]) hx hb dX9_deciderNow_1 rfl hl (by decide) rfl (fun ls hl => ?_)
  refine lv_iload_n hx hb dX9_deciderNow_2 rfl (lv_at hl 0 rfl) ?_
  refine lv_aload_n hx hb dX9_deciderNow_3 rfl (lv_at hl 1 rfl) ?_
  refine va_get (D := G.1) (ci := 9) (v := .ref nw) (C := RX9) (T := TX9) (N := 11) hx hb hts hw9 hown hE.1 hP 0 rfl rfl 1 (by decide) hf10 (fun _ h9 => h9) rfl dX9_deciderNow_4 ?_
  refine va_get (D := G.1) (ci := 8) (v := .int 0) (C := RX8) (T := TX8) (N := 6) hx hb hts hw8 hown hE.1 hP 1 rfl rfl 0 (by decide) hf83 (fun _ h9 => h9) rfl dX9_deciderNow_7 ?_
  refine lv_icmp_ge (tgt := 46) hx hb dX9_deciderNow_10 (by decide) (fun _ => ?_) (fun h9 => absurd (by decide) h9)
  refine lv_iconst (v := (-1)) hx hb dX9_deciderNow_46 (by decide) ?_
  exact zend_i hx hb hr hlocks (fun k => [].getD k 0) hP hD hS (Nat.le_of_ble_eq_true rfl) (Nat.le_of_ble_eq_true rfl) dX9_deciderNow_47

set_option maxHeartbeats 4000000 in
set_option maxRecDepth 100000 in
theorem z_X9_decider (l : Launch) (G : zG) (mm : Nat) (nw : Nat) (cq : Nat) (hi : Nat) (ko : Nat) (se : Nat) (nf : Nat) (ns : Nat) (pi : Nat) (th : Int32) (vd : Nat) (lw : Nat) (hg : Nat) (rk : Nat) (p0 : Int32) (p1 : Int32) (p2 : Int32) (p3 : Int32) (hok : zOk p0 p1 p2 p3) : zR l G yX9_decider wsX9_decider { frames := 2, cells := 1, slots := 4, locals := 44 } [(mm, .inr (9, [.int th, .ref nw, .ref cq, .ref hi, .int 0, .ref ko, .ref se, .int 0, .ref nf, .ref ns, .ref pi])), (nw, .inr (8, [.int 0, .int 0, .ref vd, .ref lw, .ref hg, .ref rk]))] [.ref mm, .int p0, .int p1, .int p2, .int p3] (some (.int (-1))) (fun u => [(mm, .inr (9, [.int 0, .ref nw, .ref cq, .ref hi, .int 0, .ref ko, .ref se, .int 0, .ref nf, .ref ns, .ref pi])), (nw, .inr (8, [.int 0, .int 0, .ref vd, .ref lw, .ref hg, .ref rk]))]) 1 4 := by
  refine zR_of (cc := cX9_decider) (maxL := 6) (rt := (some .int)) (by decide) rfl (Nat.le_of_ble_eq_true rfl) ?_
  intro p e s m below meth c A ls hx hb hml hr hts hown hlocks hin hA hE hP hD hS hl
  have hl : lv_has ls 6 [(0, .ref mm), (1, .int p0), (2, .int p1), (3, .int p2), (4, .int p3)] := hl
  have hown : s.vm.findClass RX9 = some m.cls := hown
  have hP : va_P G.1 vwCl [(mm, .inr (9, [.int th, .ref nw, .ref cq, .ref hi, .int 0, .ref ko, .ref se, .int 0, .ref nf, .ref ns, .ref pi])), (nw, .inr (8, [.int 0, .int 0, .ref vd, .ref lw, .ref hg, .ref rk]))] s.heap := hP
  have harrint := hts (.arrayClass .int) (by decide +kernel)
  refine lv_iconst (v := 4) hx hb dX9_decider_0 (by decide) ?_
  refine znewa (N := 4) hx hb harrint hE hP hD hS hA (by decide) (by decide) (Nat.le_of_ble_eq_true rfl) (Nat.le_of_ble_eq_true rfl) (Nat.le_of_ble_eq_true rfl) dX9_decider_1 (fun q1 H hP hD hS => ?_)
  have hP : va_P G.1 vwCl [(mm, .inr (9, [.int th, .ref nw, .ref cq, .ref hi, .int 0, .ref ko, .ref se, .int 0, .ref nf, .ref ns, .ref pi])), (nw, .inr (8, [.int 0, .int 0, .ref vd, .ref lw, .ref hg, .ref rk])), (q1, .inl (G.2.1, 4, .inl (fun _ => 0)))] H := hP
  have hD : va_D A [(mm, .inr (9, [.int th, .ref nw, .ref cq, .ref hi, .int 0, .ref ko, .ref se, .int 0, .ref nf, .ref ns, .ref pi])), (nw, .inr (8, [.int 0, .int 0, .ref vd, .ref lw, .ref hg, .ref rk])), (q1, .inl (G.2.1, 4, .inl (fun _ => 0)))] := hD
  refine lv_dup hx hb dX9_decider_3 rfl ?_
  refine lv_iconst (v := 0) hx hb dX9_decider_4 (by decide) ?_
  refine lv_iload_n hx hb dX9_decider_5 rfl (lv_at hl 1 rfl) ?_
  refine va_iast hx hb hE.1 hP hD hS 2 0 rfl rfl (zin (by decide +kernel)) dX9_decider_6 (fun H locs hP hD hS => ?_)
  have hP : va_P G.1 vwCl [(mm, .inr (9, [.int th, .ref nw, .ref cq, .ref hi, .int 0, .ref ko, .ref se, .int 0, .ref nf, .ref ns, .ref pi])), (nw, .inr (8, [.int 0, .int 0, .ref vd, .ref lw, .ref hg, .ref rk])), (q1, .inl (G.2.1, 4, .inl (upd (fun _ => 0) 0 p0)))] H := hP
  have hD : va_D A [(mm, .inr (9, [.int th, .ref nw, .ref cq, .ref hi, .int 0, .ref ko, .ref se, .int 0, .ref nf, .ref ns, .ref pi])), (nw, .inr (8, [.int 0, .int 0, .ref vd, .ref lw, .ref hg, .ref rk])), (q1, .inl (G.2.1, 4, .inl (upd (fun _ => 0) 0 p0)))] := hD
  refine lv_dup hx hb dX9_decider_7 rfl ?_
  refine lv_iconst (v := 1) hx hb dX9_decider_8 (by decide) ?_
  refine lv_iload_n hx hb dX9_decider_9 rfl (lv_at hl 2 rfl) ?_
  refine va_iast hx hb hE.1 hP hD hS 2 0 rfl rfl (zin (by decide +kernel)) dX9_decider_10 (fun H locs hP hD hS => ?_)
  have hP : va_P G.1 vwCl [(mm, .inr (9, [.int th, .ref nw, .ref cq, .ref hi, .int 0, .ref ko, .ref se, .int 0, .ref nf, .ref ns, .ref pi])), (nw, .inr (8, [.int 0, .int 0, .ref vd, .ref lw, .ref hg, .ref rk])), (q1, .inl (G.2.1, 4, .inl (upd (upd (fun _ => 0) 0 p0) 1 p1)))] H := hP
  have hD : va_D A [(mm, .inr (9, [.int th, .ref nw, .ref cq, .ref hi, .int 0, .ref ko, .ref se, .int 0, .ref nf, .ref ns, .ref pi])), (nw, .inr (8, [.int 0, .int 0, .ref vd, .ref lw, .ref hg, .ref rk])), (q1, .inl (G.2.1, 4, .inl (upd (upd (fun _ => 0) 0 p0) 1 p1)))] := hD
  refine lv_dup hx hb dX9_decider_11 rfl ?_
  refine lv_iconst (v := 2) hx hb dX9_decider_12 (by decide) ?_
  refine lv_iload_n hx hb dX9_decider_13 rfl (lv_at hl 3 rfl) ?_
  refine va_iast hx hb hE.1 hP hD hS 2 0 rfl rfl (zin (by decide +kernel)) dX9_decider_14 (fun H locs hP hD hS => ?_)
  have hP : va_P G.1 vwCl [(mm, .inr (9, [.int th, .ref nw, .ref cq, .ref hi, .int 0, .ref ko, .ref se, .int 0, .ref nf, .ref ns, .ref pi])), (nw, .inr (8, [.int 0, .int 0, .ref vd, .ref lw, .ref hg, .ref rk])), (q1, .inl (G.2.1, 4, .inl (upd (upd (upd (fun _ => 0) 0 p0) 1 p1) 2 p2)))] H := hP
  have hD : va_D A [(mm, .inr (9, [.int th, .ref nw, .ref cq, .ref hi, .int 0, .ref ko, .ref se, .int 0, .ref nf, .ref ns, .ref pi])), (nw, .inr (8, [.int 0, .int 0, .ref vd, .ref lw, .ref hg, .ref rk])), (q1, .inl (G.2.1, 4, .inl (upd (upd (upd (fun _ => 0) 0 p0) 1 p1) 2 p2)))] := hD
  refine lv_dup hx hb dX9_decider_15 rfl ?_
  refine lv_iconst (v := 3) hx hb dX9_decider_16 (by decide) ?_
  refine lv_iload hx hb dX9_decider_17 (lv_at hl 4 rfl) ?_
  refine va_iast hx hb hE.1 hP hD hS 2 0 rfl rfl (zin (by decide +kernel)) dX9_decider_19 (fun H locs hP hD hS => ?_)
  have hP : va_P G.1 vwCl [(mm, .inr (9, [.int th, .ref nw, .ref cq, .ref hi, .int 0, .ref ko, .ref se, .int 0, .ref nf, .ref ns, .ref pi])), (nw, .inr (8, [.int 0, .int 0, .ref vd, .ref lw, .ref hg, .ref rk])), (q1, .inl (G.2.1, 4, .inl (upd (upd (upd (upd (fun _ => 0) 0 p0) 1 p1) 2 p2) 3 p3)))] H := hP
  have hD : va_D A [(mm, .inr (9, [.int th, .ref nw, .ref cq, .ref hi, .int 0, .ref ko, .ref se, .int 0, .ref nf, .ref ns, .ref pi])), (nw, .inr (8, [.int 0, .int 0, .ref vd, .ref lw, .ref hg, .ref rk])), (q1, .inl (G.2.1, 4, .inl (upd (upd (upd (upd (fun _ => 0) 0 p0) 1 p1) 2 p2) 3 p3)))] := hD
  refine lv_astore (lv' := [(5, .ref q1), (0, .ref mm), (1, .int p0), (2, .int p1), (3, .int p2), (4, .int p3)]) hx hb dX9_decider_20 hl (by decide) rfl (fun ls hl => ?_)
  refine lv_aload_n hx hb dX9_decider_22 rfl (lv_at hl 1 rfl) ?_
  refine lv_aload hx hb dX9_decider_23 (lv_at hl 0 rfl) ?_
  refine zcall (wr := [(nw, .inr (8, [.int 0, .int 0, .ref vd, .ref lw, .ref hg, .ref rk]))]) (va_runV (As := [.ref q1]) (rest := []) ⟨hx, hb, hml, hown, hts⟩ (z_X9_isPacket l G mm nw cq hi ko se nf ns pi th q1 _ _ _ _ hok H.size) (cwV 1 hts gX9_decider_X9_isPacket rfl rfl rfl (by decide +kernel) ⟨Nat.le_of_ble_eq_true rfl, Nat.le_of_ble_eq_true rfl⟩) (zPreV (Wc := [(mm, .inr (9, [.int th, .ref nw, .ref cq, .ref hi, .int 0, .ref ko, .ref se, .int 0, .ref nf, .ref ns, .ref pi])), (q1, .inl (G.2.1, 4, .inl (upd (upd (upd (upd (fun _ => 0) 0 p0) 1 p1) 2 p2) 3 p3)))]) (q0 := 0) (ci := 9) (q := (RX9, TX9, 11)) hP hD hE hS hA [0, 2] rfl (by decide) rfl rfl) rfl rfl hl.1 rfl (lv_room (Nat.le_of_ble_eq_true rfl)) dX9_decider_25 ⟨Nat.le_of_ble_eq_true rfl, Nat.le_of_ble_eq_true rfl⟩) hP hD hS hA [0, 2] [1] rfl rfl (by decide) (by decide) (fun u2 H locs hP hD hS => ?_)
  have hP : va_P G.1 vwCl [(nw, .inr (8, [.int 0, .int 0, .ref vd, .ref lw, .ref hg, .ref rk])), (mm, .inr (9, [.int 0, .ref nw, .ref cq, .ref hi, .int 0, .ref ko, .ref se, .int 0, .ref nf, .ref ns, .ref pi])), (q1, .inl (G.2.1, 4, .inl (upd (upd (upd (upd (fun _ => 0) 0 p0) 1 p1) 2 p2) 3 p3)))] H := hP
  have hD : va_D A [(nw, .inr (8, [.int 0, .int 0, .ref vd, .ref lw, .ref hg, .ref rk])), (mm, .inr (9, [.int 0, .ref nw, .ref cq, .ref hi, .int 0, .ref ko, .ref se, .int 0, .ref nf, .ref ns, .ref pi])), (q1, .inl (G.2.1, 4, .inl (upd (upd (upd (upd (fun _ => 0) 0 p0) 1 p1) 2 p2) 3 p3)))] := hD
  refine W.eq (g2 := F0 m 28 ls [.int 1]) rfl ?_
  refine lv_if_eq (tgt := 40) hx hb dX9_decider_28 (by decide) (fun h9 => absurd h9 (by decide)) (fun _ => ?_)
  refine lv_aload_n hx hb dX9_decider_31 rfl (lv_at hl 1 rfl) ?_
  refine lv_aload hx hb dX9_decider_32 (lv_at hl 0 rfl) ?_
  refine zcall (wr := [(q1, .inl (G.2.1, 4, .inl (upd (upd (upd (upd (fun _ => 0) 0 p0) 1 p1) 2 p2) 3 p3)))]) (va_runV (As := [.ref q1]) (rest := []) ⟨hx, hb, hml, hown, hts⟩ (z_X9_deciderNow l G mm nw cq hi ko se nf ns pi 0 vd lw hg rk q1 H.size) (cwV 1 hts gX9_decider_X9_deciderNow rfl rfl rfl (by decide +kernel) ⟨Nat.le_of_ble_eq_true rfl, Nat.le_of_ble_eq_true rfl⟩) (zPreV (Wc := [(mm, .inr (9, [.int 0, .ref nw, .ref cq, .ref hi, .int 0, .ref ko, .ref se, .int 0, .ref nf, .ref ns, .ref pi])), (nw, .inr (8, [.int 0, .int 0, .ref vd, .ref lw, .ref hg, .ref rk]))]) (q0 := 1) (ci := 9) (q := (RX9, TX9, 11)) hP hD hE hS hA [1, 0] rfl (by decide) rfl rfl) rfl rfl hl.1 rfl (lv_room (Nat.le_of_ble_eq_true rfl)) dX9_decider_34 ⟨Nat.le_of_ble_eq_true rfl, Nat.le_of_ble_eq_true rfl⟩) hP hD hS hA [1, 0] [2] rfl rfl (by decide) (by decide) (fun u3 H locs hP hD hS => ?_)
  have hP : va_P G.1 vwCl [(q1, .inl (G.2.1, 4, .inl (upd (upd (upd (upd (fun _ => 0) 0 p0) 1 p1) 2 p2) 3 p3))), (mm, .inr (9, [.int 0, .ref nw, .ref cq, .ref hi, .int 0, .ref ko, .ref se, .int 0, .ref nf, .ref ns, .ref pi])), (nw, .inr (8, [.int 0, .int 0, .ref vd, .ref lw, .ref hg, .ref rk]))] H := hP
  have hD : va_D A [(q1, .inl (G.2.1, 4, .inl (upd (upd (upd (upd (fun _ => 0) 0 p0) 1 p1) 2 p2) 3 p3))), (mm, .inr (9, [.int 0, .ref nw, .ref cq, .ref hi, .int 0, .ref ko, .ref se, .int 0, .ref nf, .ref ns, .ref pi])), (nw, .inr (8, [.int 0, .int 0, .ref vd, .ref lw, .ref hg, .ref rk]))] := hD
  refine W.eq (g2 := F0 m 37 ls [.int (-1)]) rfl ?_
  refine lv_goto (tgt := 41) hx hb dX9_decider_37 (by decide) ?_
  have hP := hP.sub (ws' := [(mm, .inr (9, [.int 0, .ref nw, .ref cq, .ref hi, .int 0, .ref ko, .ref se, .int 0, .ref nf, .ref ns, .ref pi])), (nw, .inr (8, [.int 0, .int 0, .ref vd, .ref lw, .ref hg, .ref rk]))]) [1, 2] rfl
  have hD := hD.sub (ws' := [(mm, .inr (9, [.int 0, .ref nw, .ref cq, .ref hi, .int 0, .ref ko, .ref se, .int 0, .ref nf, .ref ns, .ref pi])), (nw, .inr (8, [.int 0, .int 0, .ref vd, .ref lw, .ref hg, .ref rk]))]) [1, 2] (by decide) rfl
  exact zend_i hx hb hr hlocks (fun k => [].getD k 0) hP hD hS (Nat.le_of_ble_eq_true rfl) (Nat.le_of_ble_eq_true rfl) dX9_decider_41

set_option maxHeartbeats 4000000 in
set_option maxRecDepth 100000 in
theorem z_X9_deciderT (l : Launch) (G : zG) (mm : Nat) (nw : Nat) (cq : Nat) (hi : Nat) (ko : Nat) (se : Nat) (nf : Nat) (ns : Nat) (pi : Nat) (th : Int32) (p0 : Int32) (p1 : Int32) (p2 : Int32) (p3 : Int32) (hbad : zBad p0 p1 p2 p3) : zR l G yX9_decider wsX9_decider { frames := 2, cells := 1, slots := 4, locals := 44 } [(mm, .inr (9, [.int th, .ref nw, .ref cq, .ref hi, .int 0, .ref ko, .ref se, .int 0, .ref nf, .ref ns, .ref pi]))] [.ref mm, .int p0, .int p1, .int p2, .int p3] (some (.int 0)) (fun u => [(mm, .inr (9, [.int 1, .ref nw, .ref cq, .ref hi, .int 0, .ref ko, .ref se, .int 0, .ref nf, .ref ns, .ref pi]))]) 1 4 := by
  refine zR_of (cc := cX9_decider) (maxL := 6) (rt := (some .int)) (by decide) rfl (Nat.le_of_ble_eq_true rfl) ?_
  intro p e s m below meth c A ls hx hb hml hr hts hown hlocks hin hA hE hP hD hS hl
  have hl : lv_has ls 6 [(0, .ref mm), (1, .int p0), (2, .int p1), (3, .int p2), (4, .int p3)] := hl
  have hown : s.vm.findClass RX9 = some m.cls := hown
  have hP : va_P G.1 vwCl [(mm, .inr (9, [.int th, .ref nw, .ref cq, .ref hi, .int 0, .ref ko, .ref se, .int 0, .ref nf, .ref ns, .ref pi]))] s.heap := hP
  have harrint := hts (.arrayClass .int) (by decide +kernel)
  refine lv_iconst (v := 4) hx hb dX9_decider_0 (by decide) ?_
  refine znewa (N := 4) hx hb harrint hE hP hD hS hA (by decide) (by decide) (Nat.le_of_ble_eq_true rfl) (Nat.le_of_ble_eq_true rfl) (Nat.le_of_ble_eq_true rfl) dX9_decider_1 (fun q1 H hP hD hS => ?_)
  have hP : va_P G.1 vwCl [(mm, .inr (9, [.int th, .ref nw, .ref cq, .ref hi, .int 0, .ref ko, .ref se, .int 0, .ref nf, .ref ns, .ref pi])), (q1, .inl (G.2.1, 4, .inl (fun _ => 0)))] H := hP
  have hD : va_D A [(mm, .inr (9, [.int th, .ref nw, .ref cq, .ref hi, .int 0, .ref ko, .ref se, .int 0, .ref nf, .ref ns, .ref pi])), (q1, .inl (G.2.1, 4, .inl (fun _ => 0)))] := hD
  refine lv_dup hx hb dX9_decider_3 rfl ?_
  refine lv_iconst (v := 0) hx hb dX9_decider_4 (by decide) ?_
  refine lv_iload_n hx hb dX9_decider_5 rfl (lv_at hl 1 rfl) ?_
  refine va_iast hx hb hE.1 hP hD hS 1 0 rfl rfl (zin (by decide +kernel)) dX9_decider_6 (fun H locs hP hD hS => ?_)
  have hP : va_P G.1 vwCl [(mm, .inr (9, [.int th, .ref nw, .ref cq, .ref hi, .int 0, .ref ko, .ref se, .int 0, .ref nf, .ref ns, .ref pi])), (q1, .inl (G.2.1, 4, .inl (upd (fun _ => 0) 0 p0)))] H := hP
  have hD : va_D A [(mm, .inr (9, [.int th, .ref nw, .ref cq, .ref hi, .int 0, .ref ko, .ref se, .int 0, .ref nf, .ref ns, .ref pi])), (q1, .inl (G.2.1, 4, .inl (upd (fun _ => 0) 0 p0)))] := hD
  refine lv_dup hx hb dX9_decider_7 rfl ?_
  refine lv_iconst (v := 1) hx hb dX9_decider_8 (by decide) ?_
  refine lv_iload_n hx hb dX9_decider_9 rfl (lv_at hl 2 rfl) ?_
  refine va_iast hx hb hE.1 hP hD hS 1 0 rfl rfl (zin (by decide +kernel)) dX9_decider_10 (fun H locs hP hD hS => ?_)
  have hP : va_P G.1 vwCl [(mm, .inr (9, [.int th, .ref nw, .ref cq, .ref hi, .int 0, .ref ko, .ref se, .int 0, .ref nf, .ref ns, .ref pi])), (q1, .inl (G.2.1, 4, .inl (upd (upd (fun _ => 0) 0 p0) 1 p1)))] H := hP
  have hD : va_D A [(mm, .inr (9, [.int th, .ref nw, .ref cq, .ref hi, .int 0, .ref ko, .ref se, .int 0, .ref nf, .ref ns, .ref pi])), (q1, .inl (G.2.1, 4, .inl (upd (upd (fun _ => 0) 0 p0) 1 p1)))] := hD
  refine lv_dup hx hb dX9_decider_11 rfl ?_
  refine lv_iconst (v := 2) hx hb dX9_decider_12 (by decide) ?_
  refine lv_iload_n hx hb dX9_decider_13 rfl (lv_at hl 3 rfl) ?_
  refine va_iast hx hb hE.1 hP hD hS 1 0 rfl rfl (zin (by decide +kernel)) dX9_decider_14 (fun H locs hP hD hS => ?_)
  have hP : va_P G.1 vwCl [(mm, .inr (9, [.int th, .ref nw, .ref cq, .ref hi, .int 0, .ref ko, .ref se, .int 0, .ref nf, .ref ns, .ref pi])), (q1, .inl (G.2.1, 4, .inl (upd (upd (upd (fun _ => 0) 0 p0) 1 p1) 2 p2)))] H := hP
  have hD : va_D A [(mm, .inr (9, [.int th, .ref nw, .ref cq, .ref hi, .int 0, .ref ko, .ref se, .int 0, .ref nf, .ref ns, .ref pi])), (q1, .inl (G.2.1, 4, .inl (upd (upd (upd (fun _ => 0) 0 p0) 1 p1) 2 p2)))] := hD
  refine lv_dup hx hb dX9_decider_15 rfl ?_
  refine lv_iconst (v := 3) hx hb dX9_decider_16 (by decide) ?_
  refine lv_iload hx hb dX9_decider_17 (lv_at hl 4 rfl) ?_
  refine va_iast hx hb hE.1 hP hD hS 1 0 rfl rfl (zin (by decide +kernel)) dX9_decider_19 (fun H locs hP hD hS => ?_)
  have hP : va_P G.1 vwCl [(mm, .inr (9, [.int th, .ref nw, .ref cq, .ref hi, .int 0, .ref ko, .ref se, .int 0, .ref nf, .ref ns, .ref pi])), (q1, .inl (G.2.1, 4, .inl (upd (upd (upd (upd (fun _ => 0) 0 p0) 1 p1) 2 p2) 3 p3)))] H := hP
  have hD : va_D A [(mm, .inr (9, [.int th, .ref nw, .ref cq, .ref hi, .int 0, .ref ko, .ref se, .int 0, .ref nf, .ref ns, .ref pi])), (q1, .inl (G.2.1, 4, .inl (upd (upd (upd (upd (fun _ => 0) 0 p0) 1 p1) 2 p2) 3 p3)))] := hD
  refine lv_astore (lv' := [(5, .ref q1), (0, .ref mm), (1, .int p0), (2, .int p1), (3, .int p2), (4, .int p3)]) hx hb dX9_decider_20 hl (by decide) rfl (fun ls hl => ?_)
  refine lv_aload_n hx hb dX9_decider_22 rfl (lv_at hl 1 rfl) ?_
  refine lv_aload hx hb dX9_decider_23 (lv_at hl 0 rfl) ?_
  refine zcall (wr := []) (va_runV (As := [.ref q1]) (rest := []) ⟨hx, hb, hml, hown, hts⟩ (z_X9_isPacketB l G mm nw cq hi ko se nf ns pi th q1 _ _ _ _ hbad H.size) (cwV 1 hts gX9_decider_X9_isPacket rfl rfl rfl (by decide +kernel) ⟨Nat.le_of_ble_eq_true rfl, Nat.le_of_ble_eq_true rfl⟩) (zPreV (Wc := [(mm, .inr (9, [.int th, .ref nw, .ref cq, .ref hi, .int 0, .ref ko, .ref se, .int 0, .ref nf, .ref ns, .ref pi])), (q1, .inl (G.2.1, 4, .inl (upd (upd (upd (upd (fun _ => 0) 0 p0) 1 p1) 2 p2) 3 p3)))]) (q0 := 0) (ci := 9) (q := (RX9, TX9, 11)) hP hD hE hS hA [0, 1] rfl (by decide) rfl rfl) rfl rfl hl.1 rfl (lv_room (Nat.le_of_ble_eq_true rfl)) dX9_decider_25 ⟨Nat.le_of_ble_eq_true rfl, Nat.le_of_ble_eq_true rfl⟩) hP hD hS hA [0, 1] [] rfl rfl (by decide) (by decide) (fun u2 H locs hP hD hS => ?_)
  have hP : va_P G.1 vwCl [(mm, .inr (9, [.int 1, .ref nw, .ref cq, .ref hi, .int 0, .ref ko, .ref se, .int 0, .ref nf, .ref ns, .ref pi])), (q1, .inl (G.2.1, 4, .inl (upd (upd (upd (upd (fun _ => 0) 0 p0) 1 p1) 2 p2) 3 p3)))] H := hP
  have hD : va_D A [(mm, .inr (9, [.int 1, .ref nw, .ref cq, .ref hi, .int 0, .ref ko, .ref se, .int 0, .ref nf, .ref ns, .ref pi])), (q1, .inl (G.2.1, 4, .inl (upd (upd (upd (upd (fun _ => 0) 0 p0) 1 p1) 2 p2) 3 p3)))] := hD
  refine W.eq (g2 := F0 m 28 ls [.int 0]) rfl ?_
  refine lv_if_eq (tgt := 40) hx hb dX9_decider_28 (by decide) (fun _ => ?_) (fun h9 => absurd (by decide) h9)
  refine lv_iconst (v := 0) hx hb dX9_decider_40 (by decide) ?_
  have hP := hP.sub (ws' := [(mm, .inr (9, [.int 1, .ref nw, .ref cq, .ref hi, .int 0, .ref ko, .ref se, .int 0, .ref nf, .ref ns, .ref pi]))]) [0] rfl
  have hD := hD.sub (ws' := [(mm, .inr (9, [.int 1, .ref nw, .ref cq, .ref hi, .int 0, .ref ko, .ref se, .int 0, .ref nf, .ref ns, .ref pi]))]) [0] (by decide) rfl
  exact zend_i hx hb hr hlocks (fun k => [].getD k 0) hP hD hS (Nat.le_of_ble_eq_true rfl) (Nat.le_of_ble_eq_true rfl) dX9_decider_41

set_option maxHeartbeats 4000000 in
set_option maxRecDepth 100000 in
theorem z_X9_steps (l : Launch) (G : zG) (mm : Nat) (nw : Nat) (cq : Nat) (hi : Nat) (ko : Nat) (se : Nat) (nf : Nat) (ns : Nat) (pi : Nat) (th : Int32) (vd : Nat) (lw : Nat) (hg : Nat) (rk : Nat) (p0 : Int32) (p1 : Int32) (p2 : Int32) (p3 : Int32) (hok : zOk p0 p1 p2 p3) : zR l G yX9_steps wsX9_steps { frames := 2, cells := 1, slots := 4, locals := 44 } [(mm, .inr (9, [.int th, .ref nw, .ref cq, .ref hi, .int 0, .ref ko, .ref se, .int 0, .ref nf, .ref ns, .ref pi])), (nw, .inr (8, [.int 0, .int 0, .ref vd, .ref lw, .ref hg, .ref rk]))] [.ref mm, .int p0, .int p1, .int p2, .int p3] (some (.int 0)) (fun u => [(mm, .inr (9, [.int 0, .ref nw, .ref cq, .ref hi, .int 0, .ref ko, .ref se, .int 0, .ref nf, .ref ns, .ref pi])), (nw, .inr (8, [.int 0, .int 0, .ref vd, .ref lw, .ref hg, .ref rk]))]) 1 4 := by
  refine zR_of (cc := cX9_steps) (maxL := 8) (rt := (some .int)) (by decide) rfl (Nat.le_of_ble_eq_true rfl) ?_
  intro p e s m below meth c A ls hx hb hml hr hts hown hlocks hin hA hE hP hD hS hl
  have hl : lv_has ls 8 [(0, .ref mm), (1, .int p0), (2, .int p1), (3, .int p2), (4, .int p3)] := hl
  have hown : s.vm.findClass RX9 = some m.cls := hown
  have hP : va_P G.1 vwCl [(mm, .inr (9, [.int th, .ref nw, .ref cq, .ref hi, .int 0, .ref ko, .ref se, .int 0, .ref nf, .ref ns, .ref pi])), (nw, .inr (8, [.int 0, .int 0, .ref vd, .ref lw, .ref hg, .ref rk]))] s.heap := hP
  have harrint := hts (.arrayClass .int) (by decide +kernel)
  have hw9 : ∀ w ∈ u_ws RX9 TX9 11, w ∈ wsX9_steps := by decide +kernel
  have hf10 := hts (.fieldLink RX9 10 "NettleModel" "now" "LNettleModel$Wall;") (by decide +kernel)
  refine lv_iconst (v := 4) hx hb dX9_steps_0 (by decide) ?_
  refine znewa (N := 4) hx hb harrint hE hP hD hS hA (by decide) (by decide) (Nat.le_of_ble_eq_true rfl) (Nat.le_of_ble_eq_true rfl) (Nat.le_of_ble_eq_true rfl) dX9_steps_1 (fun q1 H hP hD hS => ?_)
  have hP : va_P G.1 vwCl [(mm, .inr (9, [.int th, .ref nw, .ref cq, .ref hi, .int 0, .ref ko, .ref se, .int 0, .ref nf, .ref ns, .ref pi])), (nw, .inr (8, [.int 0, .int 0, .ref vd, .ref lw, .ref hg, .ref rk])), (q1, .inl (G.2.1, 4, .inl (fun _ => 0)))] H := hP
  have hD : va_D A [(mm, .inr (9, [.int th, .ref nw, .ref cq, .ref hi, .int 0, .ref ko, .ref se, .int 0, .ref nf, .ref ns, .ref pi])), (nw, .inr (8, [.int 0, .int 0, .ref vd, .ref lw, .ref hg, .ref rk])), (q1, .inl (G.2.1, 4, .inl (fun _ => 0)))] := hD
  refine lv_dup hx hb dX9_steps_3 rfl ?_
  refine lv_iconst (v := 0) hx hb dX9_steps_4 (by decide) ?_
  refine lv_iload_n hx hb dX9_steps_5 rfl (lv_at hl 1 rfl) ?_
  refine va_iast hx hb hE.1 hP hD hS 2 0 rfl rfl (zin (by decide +kernel)) dX9_steps_6 (fun H locs hP hD hS => ?_)
  have hP : va_P G.1 vwCl [(mm, .inr (9, [.int th, .ref nw, .ref cq, .ref hi, .int 0, .ref ko, .ref se, .int 0, .ref nf, .ref ns, .ref pi])), (nw, .inr (8, [.int 0, .int 0, .ref vd, .ref lw, .ref hg, .ref rk])), (q1, .inl (G.2.1, 4, .inl (upd (fun _ => 0) 0 p0)))] H := hP
  have hD : va_D A [(mm, .inr (9, [.int th, .ref nw, .ref cq, .ref hi, .int 0, .ref ko, .ref se, .int 0, .ref nf, .ref ns, .ref pi])), (nw, .inr (8, [.int 0, .int 0, .ref vd, .ref lw, .ref hg, .ref rk])), (q1, .inl (G.2.1, 4, .inl (upd (fun _ => 0) 0 p0)))] := hD
  refine lv_dup hx hb dX9_steps_7 rfl ?_
  refine lv_iconst (v := 1) hx hb dX9_steps_8 (by decide) ?_
  refine lv_iload_n hx hb dX9_steps_9 rfl (lv_at hl 2 rfl) ?_
  refine va_iast hx hb hE.1 hP hD hS 2 0 rfl rfl (zin (by decide +kernel)) dX9_steps_10 (fun H locs hP hD hS => ?_)
  have hP : va_P G.1 vwCl [(mm, .inr (9, [.int th, .ref nw, .ref cq, .ref hi, .int 0, .ref ko, .ref se, .int 0, .ref nf, .ref ns, .ref pi])), (nw, .inr (8, [.int 0, .int 0, .ref vd, .ref lw, .ref hg, .ref rk])), (q1, .inl (G.2.1, 4, .inl (upd (upd (fun _ => 0) 0 p0) 1 p1)))] H := hP
  have hD : va_D A [(mm, .inr (9, [.int th, .ref nw, .ref cq, .ref hi, .int 0, .ref ko, .ref se, .int 0, .ref nf, .ref ns, .ref pi])), (nw, .inr (8, [.int 0, .int 0, .ref vd, .ref lw, .ref hg, .ref rk])), (q1, .inl (G.2.1, 4, .inl (upd (upd (fun _ => 0) 0 p0) 1 p1)))] := hD
  refine lv_dup hx hb dX9_steps_11 rfl ?_
  refine lv_iconst (v := 2) hx hb dX9_steps_12 (by decide) ?_
  refine lv_iload_n hx hb dX9_steps_13 rfl (lv_at hl 3 rfl) ?_
  refine va_iast hx hb hE.1 hP hD hS 2 0 rfl rfl (zin (by decide +kernel)) dX9_steps_14 (fun H locs hP hD hS => ?_)
  have hP : va_P G.1 vwCl [(mm, .inr (9, [.int th, .ref nw, .ref cq, .ref hi, .int 0, .ref ko, .ref se, .int 0, .ref nf, .ref ns, .ref pi])), (nw, .inr (8, [.int 0, .int 0, .ref vd, .ref lw, .ref hg, .ref rk])), (q1, .inl (G.2.1, 4, .inl (upd (upd (upd (fun _ => 0) 0 p0) 1 p1) 2 p2)))] H := hP
  have hD : va_D A [(mm, .inr (9, [.int th, .ref nw, .ref cq, .ref hi, .int 0, .ref ko, .ref se, .int 0, .ref nf, .ref ns, .ref pi])), (nw, .inr (8, [.int 0, .int 0, .ref vd, .ref lw, .ref hg, .ref rk])), (q1, .inl (G.2.1, 4, .inl (upd (upd (upd (fun _ => 0) 0 p0) 1 p1) 2 p2)))] := hD
  refine lv_dup hx hb dX9_steps_15 rfl ?_
  refine lv_iconst (v := 3) hx hb dX9_steps_16 (by decide) ?_
  refine lv_iload hx hb dX9_steps_17 (lv_at hl 4 rfl) ?_
  refine va_iast hx hb hE.1 hP hD hS 2 0 rfl rfl (zin (by decide +kernel)) dX9_steps_19 (fun H locs hP hD hS => ?_)
  have hP : va_P G.1 vwCl [(mm, .inr (9, [.int th, .ref nw, .ref cq, .ref hi, .int 0, .ref ko, .ref se, .int 0, .ref nf, .ref ns, .ref pi])), (nw, .inr (8, [.int 0, .int 0, .ref vd, .ref lw, .ref hg, .ref rk])), (q1, .inl (G.2.1, 4, .inl (upd (upd (upd (upd (fun _ => 0) 0 p0) 1 p1) 2 p2) 3 p3)))] H := hP
  have hD : va_D A [(mm, .inr (9, [.int th, .ref nw, .ref cq, .ref hi, .int 0, .ref ko, .ref se, .int 0, .ref nf, .ref ns, .ref pi])), (nw, .inr (8, [.int 0, .int 0, .ref vd, .ref lw, .ref hg, .ref rk])), (q1, .inl (G.2.1, 4, .inl (upd (upd (upd (upd (fun _ => 0) 0 p0) 1 p1) 2 p2) 3 p3)))] := hD
  refine lv_astore (lv' := [(5, .ref q1), (0, .ref mm), (1, .int p0), (2, .int p1), (3, .int p2), (4, .int p3)]) hx hb dX9_steps_20 hl (by decide) rfl (fun ls hl => ?_)
  refine lv_aload_n hx hb dX9_steps_22 rfl (lv_at hl 1 rfl) ?_
  refine lv_aload hx hb dX9_steps_23 (lv_at hl 0 rfl) ?_
  refine zcall (wr := [(nw, .inr (8, [.int 0, .int 0, .ref vd, .ref lw, .ref hg, .ref rk]))]) (va_runV (As := [.ref q1]) (rest := []) ⟨hx, hb, hml, hown, hts⟩ (z_X9_isPacket l G mm nw cq hi ko se nf ns pi th q1 _ _ _ _ hok H.size) (cwV 1 hts gX9_steps_X9_isPacket rfl rfl rfl (by decide +kernel) ⟨Nat.le_of_ble_eq_true rfl, Nat.le_of_ble_eq_true rfl⟩) (zPreV (Wc := [(mm, .inr (9, [.int th, .ref nw, .ref cq, .ref hi, .int 0, .ref ko, .ref se, .int 0, .ref nf, .ref ns, .ref pi])), (q1, .inl (G.2.1, 4, .inl (upd (upd (upd (upd (fun _ => 0) 0 p0) 1 p1) 2 p2) 3 p3)))]) (q0 := 0) (ci := 9) (q := (RX9, TX9, 11)) hP hD hE hS hA [0, 2] rfl (by decide) rfl rfl) rfl rfl hl.1 rfl (lv_room (Nat.le_of_ble_eq_true rfl)) dX9_steps_25 ⟨Nat.le_of_ble_eq_true rfl, Nat.le_of_ble_eq_true rfl⟩) hP hD hS hA [0, 2] [1] rfl rfl (by decide) (by decide) (fun u2 H locs hP hD hS => ?_)
  have hP : va_P G.1 vwCl [(nw, .inr (8, [.int 0, .int 0, .ref vd, .ref lw, .ref hg, .ref rk])), (mm, .inr (9, [.int 0, .ref nw, .ref cq, .ref hi, .int 0, .ref ko, .ref se, .int 0, .ref nf, .ref ns, .ref pi])), (q1, .inl (G.2.1, 4, .inl (upd (upd (upd (upd (fun _ => 0) 0 p0) 1 p1) 2 p2) 3 p3)))] H := hP
  have hD : va_D A [(nw, .inr (8, [.int 0, .int 0, .ref vd, .ref lw, .ref hg, .ref rk])), (mm, .inr (9, [.int 0, .ref nw, .ref cq, .ref hi, .int 0, .ref ko, .ref se, .int 0, .ref nf, .ref ns, .ref pi])), (q1, .inl (G.2.1, 4, .inl (upd (upd (upd (upd (fun _ => 0) 0 p0) 1 p1) 2 p2) 3 p3)))] := hD
  refine W.eq (g2 := F0 m 28 ls [.int 1]) rfl ?_
  refine lv_if_ne (tgt := 33) hx hb dX9_steps_28 (by decide) (fun _ => ?_) (fun h9 => absurd h9 (by decide))
  refine lv_aload_n hx hb dX9_steps_33 rfl (lv_at hl 1 rfl) ?_
  refine va_get (D := G.1) (ci := 9) (v := .ref nw) (C := RX9) (T := TX9) (N := 11) hx hb hts hw9 hown hE.1 hP 1 rfl rfl 1 (by decide) hf10 (fun _ h9 => h9) rfl dX9_steps_34 ?_
  refine zcall (wr := [(mm, .inr (9, [.int 0, .ref nw, .ref cq, .ref hi, .int 0, .ref ko, .ref se, .int 0, .ref nf, .ref ns, .ref pi])), (q1, .inl (G.2.1, 4, .inl (upd (upd (upd (upd (fun _ => 0) 0 p0) 1 p1) 2 p2) 3 p3)))]) (va_runV (As := []) (rest := []) ⟨hx, hb, hml, hown, hts⟩ (z_X8_all l G nw vd lw hg rk H.size) (cwV 0 hts gX9_steps_X8_all rfl rfl rfl (by decide +kernel) ⟨Nat.le_of_ble_eq_true rfl, Nat.le_of_ble_eq_true rfl⟩) (zPreV (Wc := [(nw, .inr (8, [.int 0, .int 0, .ref vd, .ref lw, .ref hg, .ref rk]))]) (q0 := 0) (ci := 8) (q := (RX8, TX8, 6)) hP hD hE hS hA [0] rfl (by decide) rfl rfl) rfl rfl hl.1 rfl (lv_room (Nat.le_of_ble_eq_true rfl)) dX9_steps_37 ⟨Nat.le_of_ble_eq_true rfl, Nat.le_of_ble_eq_true rfl⟩) hP hD hS hA [0] [1, 2] rfl rfl (by decide) (by decide) (fun u3 H locs hP hD hS => ?_)
  have hP : va_P G.1 vwCl [(mm, .inr (9, [.int 0, .ref nw, .ref cq, .ref hi, .int 0, .ref ko, .ref se, .int 0, .ref nf, .ref ns, .ref pi])), (q1, .inl (G.2.1, 4, .inl (upd (upd (upd (upd (fun _ => 0) 0 p0) 1 p1) 2 p2) 3 p3))), (nw, .inr (8, [.int 0, .int 0, .ref vd, .ref lw, .ref hg, .ref rk]))] H := hP
  have hD : va_D A [(mm, .inr (9, [.int 0, .ref nw, .ref cq, .ref hi, .int 0, .ref ko, .ref se, .int 0, .ref nf, .ref ns, .ref pi])), (q1, .inl (G.2.1, 4, .inl (upd (upd (upd (upd (fun _ => 0) 0 p0) 1 p1) 2 p2) 3 p3))), (nw, .inr (8, [.int 0, .int 0, .ref vd, .ref lw, .ref hg, .ref rk]))] := hD
  refine W.eq (g2 := F0 m 40 ls [.int 0]) rfl ?_
  refine lv_istore (lv' := [(6, .int 0), (5, .ref q1), (0, .ref mm), (1, .int p0), (2, .int p1), (3, .int p2), (4, .int p3)]) hx hb dX9_steps_40 hl (by decide) rfl (fun ls hl => ?_)
  refine lv_iconst (v := 0) hx hb dX9_steps_42 (by decide) ?_
  refine lv_istore (lv' := [(7, .int 0), (6, .int 0), (5, .ref q1), (0, .ref mm), (1, .int p0), (2, .int p1), (3, .int p2), (4, .int p3)]) hx hb dX9_steps_43 hl (by decide) rfl (fun ls hl => ?_)
  refine lv_aload_n hx hb dX9_steps_45 rfl (lv_at hl 3 rfl) ?_
  refine va_get (D := G.1) (ci := 9) (v := .ref nw) (C := RX9) (T := TX9) (N := 11) hx hb hts hw9 hown hE.1 hP 0 rfl rfl 1 (by decide) hf10 (fun _ h9 => h9) rfl dX9_steps_46 ?_
  refine lv_iload hx hb dX9_steps_49 (lv_at hl 0 rfl) ?_
  refine lv_iload hx hb dX9_steps_51 (lv_at hl 1 rfl) ?_
  refine zcall (wr := [(mm, .inr (9, [.int 0, .ref nw, .ref cq, .ref hi, .int 0, .ref ko, .ref se, .int 0, .ref nf, .ref ns, .ref pi])), (q1, .inl (G.2.1, 4, .inl (upd (upd (upd (upd (fun _ => 0) 0 p0) 1 p1) 2 p2) 3 p3)))]) (va_runV (As := [.int 0, .int 0]) (rest := []) ⟨hx, hb, hml, hown, hts⟩ (z_X8_isLed l G nw vd lw hg rk 0 H.size) (cwV 2 hts gX9_steps_X8_isLed rfl rfl rfl (by decide +kernel) ⟨Nat.le_of_ble_eq_true rfl, Nat.le_of_ble_eq_true rfl⟩) (zPreV (Wc := [(nw, .inr (8, [.int 0, .int 0, .ref vd, .ref lw, .ref hg, .ref rk]))]) (q0 := 2) (ci := 8) (q := (RX8, TX8, 6)) hP hD hE hS hA [2] rfl (by decide) rfl rfl) rfl rfl hl.1 rfl (lv_room (Nat.le_of_ble_eq_true rfl)) dX9_steps_53 ⟨Nat.le_of_ble_eq_true rfl, Nat.le_of_ble_eq_true rfl⟩) hP hD hS hA [2] [0, 1] rfl rfl (by decide) (by decide) (fun u4 H locs hP hD hS => ?_)
  have hP : va_P G.1 vwCl [(mm, .inr (9, [.int 0, .ref nw, .ref cq, .ref hi, .int 0, .ref ko, .ref se, .int 0, .ref nf, .ref ns, .ref pi])), (q1, .inl (G.2.1, 4, .inl (upd (upd (upd (upd (fun _ => 0) 0 p0) 1 p1) 2 p2) 3 p3))), (nw, .inr (8, [.int 0, .int 0, .ref vd, .ref lw, .ref hg, .ref rk]))] H := hP
  have hD : va_D A [(mm, .inr (9, [.int 0, .ref nw, .ref cq, .ref hi, .int 0, .ref ko, .ref se, .int 0, .ref nf, .ref ns, .ref pi])), (q1, .inl (G.2.1, 4, .inl (upd (upd (upd (upd (fun _ => 0) 0 p0) 1 p1) 2 p2) 3 p3))), (nw, .inr (8, [.int 0, .int 0, .ref vd, .ref lw, .ref hg, .ref rk]))] := hD
  refine W.eq (g2 := F0 m 56 ls [.int 1]) rfl ?_
  refine lv_if_ne (tgt := 83) hx hb dX9_steps_56 (by decide) (fun _ => ?_) (fun h9 => absurd h9 (by decide))
  refine lv_iload hx hb dX9_steps_83 (lv_at hl 0 rfl) ?_
  have hP := hP.sub (ws' := [(mm, .inr (9, [.int 0, .ref nw, .ref cq, .ref hi, .int 0, .ref ko, .ref se, .int 0, .ref nf, .ref ns, .ref pi])), (nw, .inr (8, [.int 0, .int 0, .ref vd, .ref lw, .ref hg, .ref rk]))]) [0, 2] rfl
  have hD := hD.sub (ws' := [(mm, .inr (9, [.int 0, .ref nw, .ref cq, .ref hi, .int 0, .ref ko, .ref se, .int 0, .ref nf, .ref ns, .ref pi])), (nw, .inr (8, [.int 0, .int 0, .ref vd, .ref lw, .ref hg, .ref rk]))]) [0, 2] (by decide) rfl
  exact zend_i hx hb hr hlocks (fun k => [].getD k 0) hP hD hS (Nat.le_of_ble_eq_true rfl) (Nat.le_of_ble_eq_true rfl) dX9_steps_85

set_option maxHeartbeats 4000000 in
set_option maxRecDepth 100000 in
theorem z_X9_stepsT (l : Launch) (G : zG) (mm : Nat) (nw : Nat) (cq : Nat) (hi : Nat) (ko : Nat) (se : Nat) (nf : Nat) (ns : Nat) (pi : Nat) (th : Int32) (p0 : Int32) (p1 : Int32) (p2 : Int32) (p3 : Int32) (hbad : zBad p0 p1 p2 p3) : zR l G yX9_steps wsX9_steps { frames := 2, cells := 1, slots := 4, locals := 44 } [(mm, .inr (9, [.int th, .ref nw, .ref cq, .ref hi, .int 0, .ref ko, .ref se, .int 0, .ref nf, .ref ns, .ref pi]))] [.ref mm, .int p0, .int p1, .int p2, .int p3] (some (.int 0)) (fun u => [(mm, .inr (9, [.int 1, .ref nw, .ref cq, .ref hi, .int 0, .ref ko, .ref se, .int 0, .ref nf, .ref ns, .ref pi]))]) 1 4 := by
  refine zR_of (cc := cX9_steps) (maxL := 8) (rt := (some .int)) (by decide) rfl (Nat.le_of_ble_eq_true rfl) ?_
  intro p e s m below meth c A ls hx hb hml hr hts hown hlocks hin hA hE hP hD hS hl
  have hl : lv_has ls 8 [(0, .ref mm), (1, .int p0), (2, .int p1), (3, .int p2), (4, .int p3)] := hl
  have hown : s.vm.findClass RX9 = some m.cls := hown
  have hP : va_P G.1 vwCl [(mm, .inr (9, [.int th, .ref nw, .ref cq, .ref hi, .int 0, .ref ko, .ref se, .int 0, .ref nf, .ref ns, .ref pi]))] s.heap := hP
  have harrint := hts (.arrayClass .int) (by decide +kernel)
  refine lv_iconst (v := 4) hx hb dX9_steps_0 (by decide) ?_
  refine znewa (N := 4) hx hb harrint hE hP hD hS hA (by decide) (by decide) (Nat.le_of_ble_eq_true rfl) (Nat.le_of_ble_eq_true rfl) (Nat.le_of_ble_eq_true rfl) dX9_steps_1 (fun q1 H hP hD hS => ?_)
  have hP : va_P G.1 vwCl [(mm, .inr (9, [.int th, .ref nw, .ref cq, .ref hi, .int 0, .ref ko, .ref se, .int 0, .ref nf, .ref ns, .ref pi])), (q1, .inl (G.2.1, 4, .inl (fun _ => 0)))] H := hP
  have hD : va_D A [(mm, .inr (9, [.int th, .ref nw, .ref cq, .ref hi, .int 0, .ref ko, .ref se, .int 0, .ref nf, .ref ns, .ref pi])), (q1, .inl (G.2.1, 4, .inl (fun _ => 0)))] := hD
  refine lv_dup hx hb dX9_steps_3 rfl ?_
  refine lv_iconst (v := 0) hx hb dX9_steps_4 (by decide) ?_
  refine lv_iload_n hx hb dX9_steps_5 rfl (lv_at hl 1 rfl) ?_
  refine va_iast hx hb hE.1 hP hD hS 1 0 rfl rfl (zin (by decide +kernel)) dX9_steps_6 (fun H locs hP hD hS => ?_)
  have hP : va_P G.1 vwCl [(mm, .inr (9, [.int th, .ref nw, .ref cq, .ref hi, .int 0, .ref ko, .ref se, .int 0, .ref nf, .ref ns, .ref pi])), (q1, .inl (G.2.1, 4, .inl (upd (fun _ => 0) 0 p0)))] H := hP
  have hD : va_D A [(mm, .inr (9, [.int th, .ref nw, .ref cq, .ref hi, .int 0, .ref ko, .ref se, .int 0, .ref nf, .ref ns, .ref pi])), (q1, .inl (G.2.1, 4, .inl (upd (fun _ => 0) 0 p0)))] := hD
  refine lv_dup hx hb dX9_steps_7 rfl ?_
  refine lv_iconst (v := 1) hx hb dX9_steps_8 (by decide) ?_
  refine lv_iload_n hx hb dX9_steps_9 rfl (lv_at hl 2 rfl) ?_
  refine va_iast hx hb hE.1 hP hD hS 1 0 rfl rfl (zin (by decide +kernel)) dX9_steps_10 (fun H locs hP hD hS => ?_)
  have hP : va_P G.1 vwCl [(mm, .inr (9, [.int th, .ref nw, .ref cq, .ref hi, .int 0, .ref ko, .ref se, .int 0, .ref nf, .ref ns, .ref pi])), (q1, .inl (G.2.1, 4, .inl (upd (upd (fun _ => 0) 0 p0) 1 p1)))] H := hP
  have hD : va_D A [(mm, .inr (9, [.int th, .ref nw, .ref cq, .ref hi, .int 0, .ref ko, .ref se, .int 0, .ref nf, .ref ns, .ref pi])), (q1, .inl (G.2.1, 4, .inl (upd (upd (fun _ => 0) 0 p0) 1 p1)))] := hD
  refine lv_dup hx hb dX9_steps_11 rfl ?_
  refine lv_iconst (v := 2) hx hb dX9_steps_12 (by decide) ?_
  refine lv_iload_n hx hb dX9_steps_13 rfl (lv_at hl 3 rfl) ?_
  refine va_iast hx hb hE.1 hP hD hS 1 0 rfl rfl (zin (by decide +kernel)) dX9_steps_14 (fun H locs hP hD hS => ?_)
  have hP : va_P G.1 vwCl [(mm, .inr (9, [.int th, .ref nw, .ref cq, .ref hi, .int 0, .ref ko, .ref se, .int 0, .ref nf, .ref ns, .ref pi])), (q1, .inl (G.2.1, 4, .inl (upd (upd (upd (fun _ => 0) 0 p0) 1 p1) 2 p2)))] H := hP
  have hD : va_D A [(mm, .inr (9, [.int th, .ref nw, .ref cq, .ref hi, .int 0, .ref ko, .ref se, .int 0, .ref nf, .ref ns, .ref pi])), (q1, .inl (G.2.1, 4, .inl (upd (upd (upd (fun _ => 0) 0 p0) 1 p1) 2 p2)))] := hD
  refine lv_dup hx hb dX9_steps_15 rfl ?_
  refine lv_iconst (v := 3) hx hb dX9_steps_16 (by decide) ?_
  refine lv_iload hx hb dX9_steps_17 (lv_at hl 4 rfl) ?_
  refine va_iast hx hb hE.1 hP hD hS 1 0 rfl rfl (zin (by decide +kernel)) dX9_steps_19 (fun H locs hP hD hS => ?_)
  have hP : va_P G.1 vwCl [(mm, .inr (9, [.int th, .ref nw, .ref cq, .ref hi, .int 0, .ref ko, .ref se, .int 0, .ref nf, .ref ns, .ref pi])), (q1, .inl (G.2.1, 4, .inl (upd (upd (upd (upd (fun _ => 0) 0 p0) 1 p1) 2 p2) 3 p3)))] H := hP
  have hD : va_D A [(mm, .inr (9, [.int th, .ref nw, .ref cq, .ref hi, .int 0, .ref ko, .ref se, .int 0, .ref nf, .ref ns, .ref pi])), (q1, .inl (G.2.1, 4, .inl (upd (upd (upd (upd (fun _ => 0) 0 p0) 1 p1) 2 p2) 3 p3)))] := hD
  refine lv_astore (lv' := [(5, .ref q1), (0, .ref mm), (1, .int p0), (2, .int p1), (3, .int p2), (4, .int p3)]) hx hb dX9_steps_20 hl (by decide) rfl (fun ls hl => ?_)
  refine lv_aload_n hx hb dX9_steps_22 rfl (lv_at hl 1 rfl) ?_
  refine lv_aload hx hb dX9_steps_23 (lv_at hl 0 rfl) ?_
  refine zcall (wr := []) (va_runV (As := [.ref q1]) (rest := []) ⟨hx, hb, hml, hown, hts⟩ (z_X9_isPacketB l G mm nw cq hi ko se nf ns pi th q1 _ _ _ _ hbad H.size) (cwV 1 hts gX9_steps_X9_isPacket rfl rfl rfl (by decide +kernel) ⟨Nat.le_of_ble_eq_true rfl, Nat.le_of_ble_eq_true rfl⟩) (zPreV (Wc := [(mm, .inr (9, [.int th, .ref nw, .ref cq, .ref hi, .int 0, .ref ko, .ref se, .int 0, .ref nf, .ref ns, .ref pi])), (q1, .inl (G.2.1, 4, .inl (upd (upd (upd (upd (fun _ => 0) 0 p0) 1 p1) 2 p2) 3 p3)))]) (q0 := 0) (ci := 9) (q := (RX9, TX9, 11)) hP hD hE hS hA [0, 1] rfl (by decide) rfl rfl) rfl rfl hl.1 rfl (lv_room (Nat.le_of_ble_eq_true rfl)) dX9_steps_25 ⟨Nat.le_of_ble_eq_true rfl, Nat.le_of_ble_eq_true rfl⟩) hP hD hS hA [0, 1] [] rfl rfl (by decide) (by decide) (fun u2 H locs hP hD hS => ?_)
  have hP : va_P G.1 vwCl [(mm, .inr (9, [.int 1, .ref nw, .ref cq, .ref hi, .int 0, .ref ko, .ref se, .int 0, .ref nf, .ref ns, .ref pi])), (q1, .inl (G.2.1, 4, .inl (upd (upd (upd (upd (fun _ => 0) 0 p0) 1 p1) 2 p2) 3 p3)))] H := hP
  have hD : va_D A [(mm, .inr (9, [.int 1, .ref nw, .ref cq, .ref hi, .int 0, .ref ko, .ref se, .int 0, .ref nf, .ref ns, .ref pi])), (q1, .inl (G.2.1, 4, .inl (upd (upd (upd (upd (fun _ => 0) 0 p0) 1 p1) 2 p2) 3 p3)))] := hD
  refine W.eq (g2 := F0 m 28 ls [.int 0]) rfl ?_
  refine lv_if_ne (tgt := 33) hx hb dX9_steps_28 (by decide) (fun h9 => absurd (by decide) h9) (fun _ => ?_)
  refine lv_iconst (v := 0) hx hb dX9_steps_31 (by decide) ?_
  have hP := hP.sub (ws' := [(mm, .inr (9, [.int 1, .ref nw, .ref cq, .ref hi, .int 0, .ref ko, .ref se, .int 0, .ref nf, .ref ns, .ref pi]))]) [0] rfl
  have hD := hD.sub (ws' := [(mm, .inr (9, [.int 1, .ref nw, .ref cq, .ref hi, .int 0, .ref ko, .ref se, .int 0, .ref nf, .ref ns, .ref pi]))]) [0] (by decide) rfl
  exact zend_i hx hb hr hlocks (fun k => [].getD k 0) hP hD hS (Nat.le_of_ble_eq_true rfl) (Nat.le_of_ble_eq_true rfl) dX9_steps_32

set_option maxHeartbeats 4000000 in
set_option maxRecDepth 100000 in
theorem z_X9_placeOf (l : Launch) (G : zG) (mm : Nat) (nw : Nat) (cq : Nat) (hi : Nat) (ko : Nat) (se : Nat) (nf : Nat) (ns : Nat) (pi : Nat) (th : Int32) (p0 : Int32) (p1 : Int32) (p2 : Int32) : zR l G yX9_placeOf wsX9_placeOf { frames := 0, cells := 0, slots := 0, locals := 0 } [(mm, .inr (9, [.int th, .ref nw, .ref cq, .ref hi, .int 0, .ref ko, .ref se, .int 0, .ref nf, .ref ns, .ref pi]))] [.ref mm, .int p0, .int p1, .int p2] (some (.int (-1))) (fun u => [(mm, .inr (9, [.int th, .ref nw, .ref cq, .ref hi, .int 0, .ref ko, .ref se, .int 0, .ref nf, .ref ns, .ref pi]))]) 0 0 := by
  refine zR_of (cc := cX9_placeOf) (maxL := 5) (rt := (some .int)) (by decide) rfl (Nat.le_of_ble_eq_true rfl) ?_
  intro p e s m below meth c A ls hx hb hml hr hts hown hlocks hin hA hE hP hD hS hl
  have hl : lv_has ls 5 [(0, .ref mm), (1, .int p0), (2, .int p1), (3, .int p2)] := hl
  have hown : s.vm.findClass RX9 = some m.cls := hown
  have hP : va_P G.1 vwCl [(mm, .inr (9, [.int th, .ref nw, .ref cq, .ref hi, .int 0, .ref ko, .ref se, .int 0, .ref nf, .ref ns, .ref pi]))] s.heap := hP
  have hw9 : ∀ w ∈ u_ws RX9 TX9 11, w ∈ wsX9_placeOf := by decide +kernel
  have hf205 := hts (.fieldLink RX9 205 "NettleModel" "kept" "I") (by decide +kernel)
  refine lv_iconst (v := 0) hx hb dX9_placeOf_0 (by decide) ?_
  refine lv_istore (lv' := [(4, .int 0), (0, .ref mm), (1, .int p0), (2, .int p1), (3, .int p2)]) hx hb dX9_placeOf_1 hl (by decide) rfl (fun ls hl => ?_)
  refine lv_iload hx hb dX9_placeOf_3 (lv_at hl 0 rfl) ?_
  refine lv_aload_n hx hb dX9_placeOf_5 rfl (lv_at hl 1 rfl) ?_
  refine va_get (D := G.1) (ci := 9) (v := .int 0) (C := RX9) (T := TX9) (N := 11) hx hb hts hw9 hown hE.1 hP 0 rfl rfl 4 (by decide) hf205 (fun _ h9 => h9) rfl dX9_placeOf_6 ?_
  refine lv_icmp_ge (tgt := 64) hx hb dX9_placeOf_9 (by decide) (fun _ => ?_) (fun h9 => absurd (by decide) h9)
  refine lv_iconst (v := (-1)) hx hb dX9_placeOf_64 (by decide) ?_
  exact zend_i hx hb hr hlocks (fun k => [].getD k 0) hP hD hS (Nat.le_of_ble_eq_true rfl) (Nat.le_of_ble_eq_true rfl) dX9_placeOf_65

set_option maxHeartbeats 4000000 in
set_option maxRecDepth 100000 in
theorem z_X9_send (l : Launch) (G : zG) (mm : Nat) (nw : Nat) (cq : Nat) (hi : Nat) (ko : Nat) (se : Nat) (nf : Nat) (ns : Nat) (pi : Nat) (th : Int32) (vd : Nat) (lw : Nat) (hg : Nat) (rk : Nat) (p0 : Int32) (p1 : Int32) (p2 : Int32) (p3 : Int32) (hok : zOk p0 p1 p2 p3) : zR l G yX9_send wsX9_send { frames := 2, cells := 1, slots := 4, locals := 44 } [(mm, .inr (9, [.int th, .ref nw, .ref cq, .ref hi, .int 0, .ref ko, .ref se, .int 0, .ref nf, .ref ns, .ref pi])), (nw, .inr (8, [.int 0, .int 0, .ref vd, .ref lw, .ref hg, .ref rk])), (se, .inl (G.2.1, 5, .inl (fun _ => 0)))] [.ref mm, .int p0, .int p1, .int p2, .int p3] (some (.int 0)) (fun u => [(mm, .inr (9, [.int 0, .ref nw, .ref cq, .ref hi, .int 0, .ref ko, .ref se, .int 0, .ref nf, .ref ns, .ref pi])), (nw, .inr (8, [.int 0, .int 0, .ref vd, .ref lw, .ref hg, .ref rk])), (se, .inl (G.2.1, 5, .inl (upd (upd (fun _ => 0) 0 1) 4 1)))]) 1 4 := by
  refine zR_of (cc := cX9_send) (maxL := 8) (rt := (some .int)) (by decide) rfl (Nat.le_of_ble_eq_true rfl) ?_
  intro p e s m below meth c A ls hx hb hml hr hts hown hlocks hin hA hE hP hD hS hl
  have hl : lv_has ls 8 [(0, .ref mm), (1, .int p0), (2, .int p1), (3, .int p2), (4, .int p3)] := hl
  have hown : s.vm.findClass RX9 = some m.cls := hown
  have hP : va_P G.1 vwCl [(mm, .inr (9, [.int th, .ref nw, .ref cq, .ref hi, .int 0, .ref ko, .ref se, .int 0, .ref nf, .ref ns, .ref pi])), (nw, .inr (8, [.int 0, .int 0, .ref vd, .ref lw, .ref hg, .ref rk])), (se, .inl (G.2.1, 5, .inl (fun _ => 0)))] s.heap := hP
  have harrint := hts (.arrayClass .int) (by decide +kernel)
  have hw9 : ∀ w ∈ u_ws RX9 TX9 11, w ∈ wsX9_send := by decide +kernel
  have hf26 := hts (.fieldLink RX9 26 "NettleModel" "sent" "[I") (by decide +kernel)
  have hf10 := hts (.fieldLink RX9 10 "NettleModel" "now" "LNettleModel$Wall;") (by decide +kernel)
  have hw8 : ∀ w ∈ u_ws RX8 TX8 6, w ∈ wsX9_send := by decide +kernel
  have hf83 := hts (.fieldLink RX9 83 "NettleModel$Wall" "many" "I") (by decide +kernel)
  have hf136 := hts (.fieldLink RX9 136 "NettleModel$Wall" "last" "I") (by decide +kernel)
  by_cases h1 : p3 = 1
  · refine lv_iconst (v := 4) hx hb dX9_send_0 (by decide) ?_
    refine znewa (N := 4) hx hb harrint hE hP hD hS hA (by decide) (by decide) (Nat.le_of_ble_eq_true rfl) (Nat.le_of_ble_eq_true rfl) (Nat.le_of_ble_eq_true rfl) dX9_send_1 (fun q1 H hP hD hS => ?_)
    have hP : va_P G.1 vwCl [(mm, .inr (9, [.int th, .ref nw, .ref cq, .ref hi, .int 0, .ref ko, .ref se, .int 0, .ref nf, .ref ns, .ref pi])), (nw, .inr (8, [.int 0, .int 0, .ref vd, .ref lw, .ref hg, .ref rk])), (se, .inl (G.2.1, 5, .inl (fun _ => 0))), (q1, .inl (G.2.1, 4, .inl (fun _ => 0)))] H := hP
    have hD : va_D A [(mm, .inr (9, [.int th, .ref nw, .ref cq, .ref hi, .int 0, .ref ko, .ref se, .int 0, .ref nf, .ref ns, .ref pi])), (nw, .inr (8, [.int 0, .int 0, .ref vd, .ref lw, .ref hg, .ref rk])), (se, .inl (G.2.1, 5, .inl (fun _ => 0))), (q1, .inl (G.2.1, 4, .inl (fun _ => 0)))] := hD
    refine lv_dup hx hb dX9_send_3 rfl ?_
    refine lv_iconst (v := 0) hx hb dX9_send_4 (by decide) ?_
    refine lv_iload_n hx hb dX9_send_5 rfl (lv_at hl 1 rfl) ?_
    refine va_iast hx hb hE.1 hP hD hS 3 0 rfl rfl (zin (by decide +kernel)) dX9_send_6 (fun H locs hP hD hS => ?_)
    have hP : va_P G.1 vwCl [(mm, .inr (9, [.int th, .ref nw, .ref cq, .ref hi, .int 0, .ref ko, .ref se, .int 0, .ref nf, .ref ns, .ref pi])), (nw, .inr (8, [.int 0, .int 0, .ref vd, .ref lw, .ref hg, .ref rk])), (se, .inl (G.2.1, 5, .inl (fun _ => 0))), (q1, .inl (G.2.1, 4, .inl (upd (fun _ => 0) 0 p0)))] H := hP
    have hD : va_D A [(mm, .inr (9, [.int th, .ref nw, .ref cq, .ref hi, .int 0, .ref ko, .ref se, .int 0, .ref nf, .ref ns, .ref pi])), (nw, .inr (8, [.int 0, .int 0, .ref vd, .ref lw, .ref hg, .ref rk])), (se, .inl (G.2.1, 5, .inl (fun _ => 0))), (q1, .inl (G.2.1, 4, .inl (upd (fun _ => 0) 0 p0)))] := hD
    refine lv_dup hx hb dX9_send_7 rfl ?_
    refine lv_iconst (v := 1) hx hb dX9_send_8 (by decide) ?_
    refine lv_iload_n hx hb dX9_send_9 rfl (lv_at hl 2 rfl) ?_
    refine va_iast hx hb hE.1 hP hD hS 3 0 rfl rfl (zin (by decide +kernel)) dX9_send_10 (fun H locs hP hD hS => ?_)
    have hP : va_P G.1 vwCl [(mm, .inr (9, [.int th, .ref nw, .ref cq, .ref hi, .int 0, .ref ko, .ref se, .int 0, .ref nf, .ref ns, .ref pi])), (nw, .inr (8, [.int 0, .int 0, .ref vd, .ref lw, .ref hg, .ref rk])), (se, .inl (G.2.1, 5, .inl (fun _ => 0))), (q1, .inl (G.2.1, 4, .inl (upd (upd (fun _ => 0) 0 p0) 1 p1)))] H := hP
    have hD : va_D A [(mm, .inr (9, [.int th, .ref nw, .ref cq, .ref hi, .int 0, .ref ko, .ref se, .int 0, .ref nf, .ref ns, .ref pi])), (nw, .inr (8, [.int 0, .int 0, .ref vd, .ref lw, .ref hg, .ref rk])), (se, .inl (G.2.1, 5, .inl (fun _ => 0))), (q1, .inl (G.2.1, 4, .inl (upd (upd (fun _ => 0) 0 p0) 1 p1)))] := hD
    refine lv_dup hx hb dX9_send_11 rfl ?_
    refine lv_iconst (v := 2) hx hb dX9_send_12 (by decide) ?_
    refine lv_iload_n hx hb dX9_send_13 rfl (lv_at hl 3 rfl) ?_
    refine va_iast hx hb hE.1 hP hD hS 3 0 rfl rfl (zin (by decide +kernel)) dX9_send_14 (fun H locs hP hD hS => ?_)
    have hP : va_P G.1 vwCl [(mm, .inr (9, [.int th, .ref nw, .ref cq, .ref hi, .int 0, .ref ko, .ref se, .int 0, .ref nf, .ref ns, .ref pi])), (nw, .inr (8, [.int 0, .int 0, .ref vd, .ref lw, .ref hg, .ref rk])), (se, .inl (G.2.1, 5, .inl (fun _ => 0))), (q1, .inl (G.2.1, 4, .inl (upd (upd (upd (fun _ => 0) 0 p0) 1 p1) 2 p2)))] H := hP
    have hD : va_D A [(mm, .inr (9, [.int th, .ref nw, .ref cq, .ref hi, .int 0, .ref ko, .ref se, .int 0, .ref nf, .ref ns, .ref pi])), (nw, .inr (8, [.int 0, .int 0, .ref vd, .ref lw, .ref hg, .ref rk])), (se, .inl (G.2.1, 5, .inl (fun _ => 0))), (q1, .inl (G.2.1, 4, .inl (upd (upd (upd (fun _ => 0) 0 p0) 1 p1) 2 p2)))] := hD
    refine lv_dup hx hb dX9_send_15 rfl ?_
    refine lv_iconst (v := 3) hx hb dX9_send_16 (by decide) ?_
    refine lv_iload hx hb dX9_send_17 (lv_at hl 4 rfl) ?_
    refine va_iast hx hb hE.1 hP hD hS 3 0 rfl rfl (zin (by decide +kernel)) dX9_send_19 (fun H locs hP hD hS => ?_)
    have hP : va_P G.1 vwCl [(mm, .inr (9, [.int th, .ref nw, .ref cq, .ref hi, .int 0, .ref ko, .ref se, .int 0, .ref nf, .ref ns, .ref pi])), (nw, .inr (8, [.int 0, .int 0, .ref vd, .ref lw, .ref hg, .ref rk])), (se, .inl (G.2.1, 5, .inl (fun _ => 0))), (q1, .inl (G.2.1, 4, .inl (upd (upd (upd (upd (fun _ => 0) 0 p0) 1 p1) 2 p2) 3 p3)))] H := hP
    have hD : va_D A [(mm, .inr (9, [.int th, .ref nw, .ref cq, .ref hi, .int 0, .ref ko, .ref se, .int 0, .ref nf, .ref ns, .ref pi])), (nw, .inr (8, [.int 0, .int 0, .ref vd, .ref lw, .ref hg, .ref rk])), (se, .inl (G.2.1, 5, .inl (fun _ => 0))), (q1, .inl (G.2.1, 4, .inl (upd (upd (upd (upd (fun _ => 0) 0 p0) 1 p1) 2 p2) 3 p3)))] := hD
    refine lv_astore (lv' := [(5, .ref q1), (0, .ref mm), (1, .int p0), (2, .int p1), (3, .int p2), (4, .int p3)]) hx hb dX9_send_20 hl (by decide) rfl (fun ls hl => ?_)
    refine lv_aload_n hx hb dX9_send_22 rfl (lv_at hl 1 rfl) ?_
    refine lv_aload hx hb dX9_send_23 (lv_at hl 0 rfl) ?_
    refine zcall (wr := [(nw, .inr (8, [.int 0, .int 0, .ref vd, .ref lw, .ref hg, .ref rk])), (se, .inl (G.2.1, 5, .inl (fun _ => 0)))]) (va_runV (As := [.ref q1]) (rest := []) ⟨hx, hb, hml, hown, hts⟩ (z_X9_isPacket l G mm nw cq hi ko se nf ns pi th q1 _ _ _ _ hok H.size) (cwV 1 hts gX9_send_X9_isPacket rfl rfl rfl (by decide +kernel) ⟨Nat.le_of_ble_eq_true rfl, Nat.le_of_ble_eq_true rfl⟩) (zPreV (Wc := [(mm, .inr (9, [.int th, .ref nw, .ref cq, .ref hi, .int 0, .ref ko, .ref se, .int 0, .ref nf, .ref ns, .ref pi])), (q1, .inl (G.2.1, 4, .inl (upd (upd (upd (upd (fun _ => 0) 0 p0) 1 p1) 2 p2) 3 p3)))]) (q0 := 0) (ci := 9) (q := (RX9, TX9, 11)) hP hD hE hS hA [0, 3] rfl (by decide) rfl rfl) rfl rfl hl.1 rfl (lv_room (Nat.le_of_ble_eq_true rfl)) dX9_send_25 ⟨Nat.le_of_ble_eq_true rfl, Nat.le_of_ble_eq_true rfl⟩) hP hD hS hA [0, 3] [1, 2] rfl rfl (by decide) (by decide) (fun u2 H locs hP hD hS => ?_)
    have hP : va_P G.1 vwCl [(nw, .inr (8, [.int 0, .int 0, .ref vd, .ref lw, .ref hg, .ref rk])), (se, .inl (G.2.1, 5, .inl (fun _ => 0))), (mm, .inr (9, [.int 0, .ref nw, .ref cq, .ref hi, .int 0, .ref ko, .ref se, .int 0, .ref nf, .ref ns, .ref pi])), (q1, .inl (G.2.1, 4, .inl (upd (upd (upd (upd (fun _ => 0) 0 p0) 1 p1) 2 p2) 3 p3)))] H := hP
    have hD : va_D A [(nw, .inr (8, [.int 0, .int 0, .ref vd, .ref lw, .ref hg, .ref rk])), (se, .inl (G.2.1, 5, .inl (fun _ => 0))), (mm, .inr (9, [.int 0, .ref nw, .ref cq, .ref hi, .int 0, .ref ko, .ref se, .int 0, .ref nf, .ref ns, .ref pi])), (q1, .inl (G.2.1, 4, .inl (upd (upd (upd (upd (fun _ => 0) 0 p0) 1 p1) 2 p2) 3 p3)))] := hD
    refine W.eq (g2 := F0 m 28 ls [.int 1]) rfl ?_
    refine lv_if_ne (tgt := 33) hx hb dX9_send_28 (by decide) (fun _ => ?_) (fun h9 => absurd h9 (by decide))
    refine lv_aload_n hx hb dX9_send_33 rfl (lv_at hl 1 rfl) ?_
    refine va_get (D := G.1) (ci := 9) (v := .ref se) (C := RX9) (T := TX9) (N := 11) hx hb hts hw9 hown hE.1 hP 2 rfl rfl 6 (by decide) hf26 (fun _ h9 => h9) rfl dX9_send_34 ?_
    refine lv_iconst (v := 0) hx hb dX9_send_37 (by decide) ?_
    refine lv_dup2_11 hx hb dX9_send_38 rfl rfl ?_
    refine va_iald hx hb hE.1 hP 1 0 rfl rfl (zin (by decide +kernel)) dX9_send_39 ?_
    refine zti (v := 0) rfl ?_
    refine lv_iconst (v := 1) hx hb dX9_send_40 (by decide) ?_
    refine lv_iadd hx hb dX9_send_41 ?_
    refine zti (v := 1) (by decide) ?_
    refine va_iast hx hb hE.1 hP hD hS 1 0 rfl rfl (zin (by decide +kernel)) dX9_send_42 (fun H locs hP hD hS => ?_)
    have hP : va_P G.1 vwCl [(nw, .inr (8, [.int 0, .int 0, .ref vd, .ref lw, .ref hg, .ref rk])), (se, .inl (G.2.1, 5, .inl (upd (fun _ => 0) 0 1))), (mm, .inr (9, [.int 0, .ref nw, .ref cq, .ref hi, .int 0, .ref ko, .ref se, .int 0, .ref nf, .ref ns, .ref pi])), (q1, .inl (G.2.1, 4, .inl (upd (upd (upd (upd (fun _ => 0) 0 p0) 1 p1) 2 p2) 3 p3)))] H := hP
    have hD : va_D A [(nw, .inr (8, [.int 0, .int 0, .ref vd, .ref lw, .ref hg, .ref rk])), (se, .inl (G.2.1, 5, .inl (upd (fun _ => 0) 0 1))), (mm, .inr (9, [.int 0, .ref nw, .ref cq, .ref hi, .int 0, .ref ko, .ref se, .int 0, .ref nf, .ref ns, .ref pi])), (q1, .inl (G.2.1, 4, .inl (upd (upd (upd (upd (fun _ => 0) 0 p0) 1 p1) 2 p2) 3 p3)))] := hD
    refine lv_iload hx hb dX9_send_43 (lv_at hl 5 rfl) ?_
    refine lv_iconst (v := 1) hx hb dX9_send_45 (by decide) ?_
    refine lv_icmp_ne (tgt := 82) hx hb dX9_send_46 (by decide) (fun h9 => absurd h1 h9) (fun _ => ?_)
    refine lv_aload_n hx hb dX9_send_49 rfl (lv_at hl 1 rfl) ?_
    refine lv_iload_n hx hb dX9_send_50 rfl (lv_at hl 3 rfl) ?_
    refine lv_iload_n hx hb dX9_send_51 rfl (lv_at hl 2 rfl) ?_
    refine lv_iload_n hx hb dX9_send_52 rfl (lv_at hl 4 rfl) ?_
    refine zcall (wr := [(nw, .inr (8, [.int 0, .int 0, .ref vd, .ref lw, .ref hg, .ref rk])), (se, .inl (G.2.1, 5, .inl (upd (fun _ => 0) 0 1))), (q1, .inl (G.2.1, 4, .inl (upd (upd (upd (upd (fun _ => 0) 0 p0) 1 p1) 2 p2) 3 p3)))]) (va_runV (As := [.int p1, .int p0, .int p2]) (rest := []) ⟨hx, hb, hml, hown, hts⟩ (z_X9_placeOf l G mm nw cq hi ko se nf ns pi 0 p1 p0 p2 H.size) (cwV 3 hts gX9_send_X9_placeOf rfl rfl rfl (by decide +kernel) ⟨Nat.le_of_ble_eq_true rfl, Nat.le_of_ble_eq_true rfl⟩) (zPreV (Wc := [(mm, .inr (9, [.int 0, .ref nw, .ref cq, .ref hi, .int 0, .ref ko, .ref se, .int 0, .ref nf, .ref ns, .ref pi]))]) (q0 := 2) (ci := 9) (q := (RX9, TX9, 11)) hP hD hE hS hA [2] rfl (by decide) rfl rfl) rfl rfl hl.1 rfl (lv_room (Nat.le_of_ble_eq_true rfl)) dX9_send_53 ⟨Nat.le_of_ble_eq_true rfl, Nat.le_of_ble_eq_true rfl⟩) hP hD hS hA [2] [0, 1, 3] rfl rfl (by decide) (by decide) (fun u3 H locs hP hD hS => ?_)
    have hP : va_P G.1 vwCl [(nw, .inr (8, [.int 0, .int 0, .ref vd, .ref lw, .ref hg, .ref rk])), (se, .inl (G.2.1, 5, .inl (upd (fun _ => 0) 0 1))), (q1, .inl (G.2.1, 4, .inl (upd (upd (upd (upd (fun _ => 0) 0 p0) 1 p1) 2 p2) 3 p3))), (mm, .inr (9, [.int 0, .ref nw, .ref cq, .ref hi, .int 0, .ref ko, .ref se, .int 0, .ref nf, .ref ns, .ref pi]))] H := hP
    have hD : va_D A [(nw, .inr (8, [.int 0, .int 0, .ref vd, .ref lw, .ref hg, .ref rk])), (se, .inl (G.2.1, 5, .inl (upd (fun _ => 0) 0 1))), (q1, .inl (G.2.1, 4, .inl (upd (upd (upd (upd (fun _ => 0) 0 p0) 1 p1) 2 p2) 3 p3))), (mm, .inr (9, [.int 0, .ref nw, .ref cq, .ref hi, .int 0, .ref ko, .ref se, .int 0, .ref nf, .ref ns, .ref pi]))] := hD
    refine W.eq (g2 := F0 m 56 ls [.int (-1)]) rfl ?_
    refine lv_iconst (v := (-1)) hx hb dX9_send_56 (by decide) ?_
    refine lv_icmp_eq (tgt := 82) hx hb dX9_send_57 (by decide) (fun _ => ?_) (fun h9 => absurd (by decide) h9)
    refine lv_aload_n hx hb dX9_send_82 rfl (lv_at hl 1 rfl) ?_
    refine lv_aload hx hb dX9_send_83 (lv_at hl 0 rfl) ?_
    refine zcall (wr := [(se, .inl (G.2.1, 5, .inl (upd (fun _ => 0) 0 1))), (q1, .inl (G.2.1, 4, .inl (upd (upd (upd (upd (fun _ => 0) 0 p0) 1 p1) 2 p2) 3 p3)))]) (va_runV (As := [.ref q1]) (rest := []) ⟨hx, hb, hml, hown, hts⟩ (z_X9_deciderNow l G mm nw cq hi ko se nf ns pi 0 vd lw hg rk q1 H.size) (cwV 1 hts gX9_send_X9_deciderNow rfl rfl rfl (by decide +kernel) ⟨Nat.le_of_ble_eq_true rfl, Nat.le_of_ble_eq_true rfl⟩) (zPreV (Wc := [(mm, .inr (9, [.int 0, .ref nw, .ref cq, .ref hi, .int 0, .ref ko, .ref se, .int 0, .ref nf, .ref ns, .ref pi])), (nw, .inr (8, [.int 0, .int 0, .ref vd, .ref lw, .ref hg, .ref rk]))]) (q0 := 3) (ci := 9) (q := (RX9, TX9, 11)) hP hD hE hS hA [3, 0] rfl (by decide) rfl rfl) rfl rfl hl.1 rfl (lv_room (Nat.le_of_ble_eq_true rfl)) dX9_send_85 ⟨Nat.le_of_ble_eq_true rfl, Nat.le_of_ble_eq_true rfl⟩) hP hD hS hA [3, 0] [1, 2] rfl rfl (by decide) (by decide) (fun u4 H locs hP hD hS => ?_)
    have hP : va_P G.1 vwCl [(se, .inl (G.2.1, 5, .inl (upd (fun _ => 0) 0 1))), (q1, .inl (G.2.1, 4, .inl (upd (upd (upd (upd (fun _ => 0) 0 p0) 1 p1) 2 p2) 3 p3))), (mm, .inr (9, [.int 0, .ref nw, .ref cq, .ref hi, .int 0, .ref ko, .ref se, .int 0, .ref nf, .ref ns, .ref pi])), (nw, .inr (8, [.int 0, .int 0, .ref vd, .ref lw, .ref hg, .ref rk]))] H := hP
    have hD : va_D A [(se, .inl (G.2.1, 5, .inl (upd (fun _ => 0) 0 1))), (q1, .inl (G.2.1, 4, .inl (upd (upd (upd (upd (fun _ => 0) 0 p0) 1 p1) 2 p2) 3 p3))), (mm, .inr (9, [.int 0, .ref nw, .ref cq, .ref hi, .int 0, .ref ko, .ref se, .int 0, .ref nf, .ref ns, .ref pi])), (nw, .inr (8, [.int 0, .int 0, .ref vd, .ref lw, .ref hg, .ref rk]))] := hD
    refine W.eq (g2 := F0 m 88 ls [.int (-1)]) rfl ?_
    refine lv_istore (lv' := [(6, .int (-1)), (5, .ref q1), (0, .ref mm), (1, .int p0), (2, .int p1), (3, .int p2), (4, .int p3)]) hx hb dX9_send_88 hl (by decide) rfl (fun ls hl => ?_)
    refine lv_iconst (v := 0) hx hb dX9_send_90 (by decide) ?_
    refine lv_istore (lv' := [(7, .int 0), (6, .int (-1)), (5, .ref q1), (0, .ref mm), (1, .int p0), (2, .int p1), (3, .int p2), (4, .int p3)]) hx hb dX9_send_91 hl (by decide) rfl (fun ls hl => ?_)
    refine lv_iload hx hb dX9_send_93 (lv_at hl 0 rfl) ?_
    refine lv_iload hx hb dX9_send_95 (lv_at hl 1 rfl) ?_
    refine lv_iconst (v := (-1)) hx hb dX9_send_97 (by decide) ?_
    refine lv_icmp_ne (tgt := 111) hx hb dX9_send_98 (by decide) (fun h9 => absurd (by decide) h9) (fun _ => ?_)
    refine lv_aload_n hx hb dX9_send_101 rfl (lv_at hl 3 rfl) ?_
    refine va_get (D := G.1) (ci := 9) (v := .ref nw) (C := RX9) (T := TX9) (N := 11) hx hb hts hw9 hown hE.1 hP 2 rfl rfl 1 (by decide) hf10 (fun _ h9 => h9) rfl dX9_send_102 ?_
    refine va_get (D := G.1) (ci := 8) (v := .int 0) (C := RX8) (T := TX8) (N := 6) hx hb hts hw8 hown hE.1 hP 3 rfl rfl 0 (by decide) hf83 (fun _ h9 => h9) rfl dX9_send_105 ?_
    refine lv_goto (tgt := 113) hx hb dX9_send_108 (by decide) ?_
    refine lv_icmp_ge (tgt := 161) hx hb dX9_send_113 (by decide) (fun _ => ?_) (fun h9 => absurd (by decide) h9)
    refine lv_iload hx hb dX9_send_161 (lv_at hl 1 rfl) ?_
    refine lv_iconst (v := (-1)) hx hb dX9_send_163 (by decide) ?_
    refine lv_icmp_ne (tgt := 180) hx hb dX9_send_164 (by decide) (fun h9 => absurd (by decide) h9) (fun _ => ?_)
    refine lv_aload_n hx hb dX9_send_167 rfl (lv_at hl 3 rfl) ?_
    refine va_get (D := G.1) (ci := 9) (v := .ref se) (C := RX9) (T := TX9) (N := 11) hx hb hts hw9 hown hE.1 hP 2 rfl rfl 6 (by decide) hf26 (fun _ h9 => h9) rfl dX9_send_168 ?_
    refine lv_iconst (v := 4) hx hb dX9_send_171 (by decide) ?_
    refine lv_dup2_11 hx hb dX9_send_172 rfl rfl ?_
    refine va_iald hx hb hE.1 hP 0 0 rfl rfl (zin (by decide +kernel)) dX9_send_173 ?_
    refine zti (v := 0) rfl ?_
    refine lv_iconst (v := 1) hx hb dX9_send_174 (by decide) ?_
    refine lv_iadd hx hb dX9_send_175 ?_
    refine zti (v := 1) (by decide) ?_
    refine va_iast hx hb hE.1 hP hD hS 0 0 rfl rfl (zin (by decide +kernel)) dX9_send_176 (fun H locs hP hD hS => ?_)
    have hP : va_P G.1 vwCl [(se, .inl (G.2.1, 5, .inl (upd (upd (fun _ => 0) 0 1) 4 1))), (q1, .inl (G.2.1, 4, .inl (upd (upd (upd (upd (fun _ => 0) 0 p0) 1 p1) 2 p2) 3 p3))), (mm, .inr (9, [.int 0, .ref nw, .ref cq, .ref hi, .int 0, .ref ko, .ref se, .int 0, .ref nf, .ref ns, .ref pi])), (nw, .inr (8, [.int 0, .int 0, .ref vd, .ref lw, .ref hg, .ref rk]))] H := hP
    have hD : va_D A [(se, .inl (G.2.1, 5, .inl (upd (upd (fun _ => 0) 0 1) 4 1))), (q1, .inl (G.2.1, 4, .inl (upd (upd (upd (upd (fun _ => 0) 0 p0) 1 p1) 2 p2) 3 p3))), (mm, .inr (9, [.int 0, .ref nw, .ref cq, .ref hi, .int 0, .ref ko, .ref se, .int 0, .ref nf, .ref ns, .ref pi])), (nw, .inr (8, [.int 0, .int 0, .ref vd, .ref lw, .ref hg, .ref rk]))] := hD
    refine lv_goto (tgt := 191) hx hb dX9_send_177 (by decide) ?_
    refine lv_iload hx hb dX9_send_191 (lv_at hl 1 rfl) ?_
    refine lv_iconst (v := (-1)) hx hb dX9_send_193 (by decide) ?_
    refine lv_icmp_ne (tgt := 207) hx hb dX9_send_194 (by decide) (fun h9 => absurd (by decide) h9) (fun _ => ?_)
    refine lv_aload_n hx hb dX9_send_197 rfl (lv_at hl 3 rfl) ?_
    refine va_get (D := G.1) (ci := 9) (v := .ref nw) (C := RX9) (T := TX9) (N := 11) hx hb hts hw9 hown hE.1 hP 2 rfl rfl 1 (by decide) hf10 (fun _ h9 => h9) rfl dX9_send_198 ?_
    refine va_get (D := G.1) (ci := 8) (v := .int 0) (C := RX8) (T := TX8) (N := 6) hx hb hts hw8 hown hE.1 hP 3 rfl rfl 1 (by decide) hf136 (fun _ h9 => h9) rfl dX9_send_201 ?_
    refine lv_goto (tgt := 217) hx hb dX9_send_204 (by decide) ?_
    refine lv_iconst (v := 1) hx hb dX9_send_217 (by decide) ?_
    refine lv_icmp_ne (tgt := 225) hx hb dX9_send_218 (by decide) (fun _ => ?_) (fun h9 => absurd h9 (by decide))
    refine lv_iconst (v := 0) hx hb dX9_send_225 (by decide) ?_
    refine lv_istore (lv' := [(7, .int 0), (6, .int (-1)), (5, .ref q1), (0, .ref mm), (1, .int p0), (2, .int p1), (3, .int p2), (4, .int p3)]) hx hb dX9_send_226 hl (by decide) rfl (fun ls hl => ?_)
    refine lv_iload hx hb dX9_send_228 (lv_at hl 0 rfl) ?_
    refine lv_if_ne (tgt := 235) hx hb dX9_send_230 (by decide) (fun h9 => absurd (by decide) h9) (fun _ => ?_)
    refine lv_iconst (v := 0) hx hb dX9_send_233 (by decide) ?_
    have hP := hP.sub (ws' := [(mm, .inr (9, [.int 0, .ref nw, .ref cq, .ref hi, .int 0, .ref ko, .ref se, .int 0, .ref nf, .ref ns, .ref pi])), (nw, .inr (8, [.int 0, .int 0, .ref vd, .ref lw, .ref hg, .ref rk])), (se, .inl (G.2.1, 5, .inl (upd (upd (fun _ => 0) 0 1) 4 1)))]) [2, 3, 0] rfl
    have hD := hD.sub (ws' := [(mm, .inr (9, [.int 0, .ref nw, .ref cq, .ref hi, .int 0, .ref ko, .ref se, .int 0, .ref nf, .ref ns, .ref pi])), (nw, .inr (8, [.int 0, .int 0, .ref vd, .ref lw, .ref hg, .ref rk])), (se, .inl (G.2.1, 5, .inl (upd (upd (fun _ => 0) 0 1) 4 1)))]) [2, 3, 0] (by decide) rfl
    exact zend_i hx hb hr hlocks (fun k => [].getD k 0) hP hD hS (Nat.le_of_ble_eq_true rfl) (Nat.le_of_ble_eq_true rfl) dX9_send_234
  · refine lv_iconst (v := 4) hx hb dX9_send_0 (by decide) ?_
    refine znewa (N := 4) hx hb harrint hE hP hD hS hA (by decide) (by decide) (Nat.le_of_ble_eq_true rfl) (Nat.le_of_ble_eq_true rfl) (Nat.le_of_ble_eq_true rfl) dX9_send_1 (fun q1 H hP hD hS => ?_)
    have hP : va_P G.1 vwCl [(mm, .inr (9, [.int th, .ref nw, .ref cq, .ref hi, .int 0, .ref ko, .ref se, .int 0, .ref nf, .ref ns, .ref pi])), (nw, .inr (8, [.int 0, .int 0, .ref vd, .ref lw, .ref hg, .ref rk])), (se, .inl (G.2.1, 5, .inl (fun _ => 0))), (q1, .inl (G.2.1, 4, .inl (fun _ => 0)))] H := hP
    have hD : va_D A [(mm, .inr (9, [.int th, .ref nw, .ref cq, .ref hi, .int 0, .ref ko, .ref se, .int 0, .ref nf, .ref ns, .ref pi])), (nw, .inr (8, [.int 0, .int 0, .ref vd, .ref lw, .ref hg, .ref rk])), (se, .inl (G.2.1, 5, .inl (fun _ => 0))), (q1, .inl (G.2.1, 4, .inl (fun _ => 0)))] := hD
    refine lv_dup hx hb dX9_send_3 rfl ?_
    refine lv_iconst (v := 0) hx hb dX9_send_4 (by decide) ?_
    refine lv_iload_n hx hb dX9_send_5 rfl (lv_at hl 1 rfl) ?_
    refine va_iast hx hb hE.1 hP hD hS 3 0 rfl rfl (zin (by decide +kernel)) dX9_send_6 (fun H locs hP hD hS => ?_)
    have hP : va_P G.1 vwCl [(mm, .inr (9, [.int th, .ref nw, .ref cq, .ref hi, .int 0, .ref ko, .ref se, .int 0, .ref nf, .ref ns, .ref pi])), (nw, .inr (8, [.int 0, .int 0, .ref vd, .ref lw, .ref hg, .ref rk])), (se, .inl (G.2.1, 5, .inl (fun _ => 0))), (q1, .inl (G.2.1, 4, .inl (upd (fun _ => 0) 0 p0)))] H := hP
    have hD : va_D A [(mm, .inr (9, [.int th, .ref nw, .ref cq, .ref hi, .int 0, .ref ko, .ref se, .int 0, .ref nf, .ref ns, .ref pi])), (nw, .inr (8, [.int 0, .int 0, .ref vd, .ref lw, .ref hg, .ref rk])), (se, .inl (G.2.1, 5, .inl (fun _ => 0))), (q1, .inl (G.2.1, 4, .inl (upd (fun _ => 0) 0 p0)))] := hD
    refine lv_dup hx hb dX9_send_7 rfl ?_
    refine lv_iconst (v := 1) hx hb dX9_send_8 (by decide) ?_
    refine lv_iload_n hx hb dX9_send_9 rfl (lv_at hl 2 rfl) ?_
    refine va_iast hx hb hE.1 hP hD hS 3 0 rfl rfl (zin (by decide +kernel)) dX9_send_10 (fun H locs hP hD hS => ?_)
    have hP : va_P G.1 vwCl [(mm, .inr (9, [.int th, .ref nw, .ref cq, .ref hi, .int 0, .ref ko, .ref se, .int 0, .ref nf, .ref ns, .ref pi])), (nw, .inr (8, [.int 0, .int 0, .ref vd, .ref lw, .ref hg, .ref rk])), (se, .inl (G.2.1, 5, .inl (fun _ => 0))), (q1, .inl (G.2.1, 4, .inl (upd (upd (fun _ => 0) 0 p0) 1 p1)))] H := hP
    have hD : va_D A [(mm, .inr (9, [.int th, .ref nw, .ref cq, .ref hi, .int 0, .ref ko, .ref se, .int 0, .ref nf, .ref ns, .ref pi])), (nw, .inr (8, [.int 0, .int 0, .ref vd, .ref lw, .ref hg, .ref rk])), (se, .inl (G.2.1, 5, .inl (fun _ => 0))), (q1, .inl (G.2.1, 4, .inl (upd (upd (fun _ => 0) 0 p0) 1 p1)))] := hD
    refine lv_dup hx hb dX9_send_11 rfl ?_
    refine lv_iconst (v := 2) hx hb dX9_send_12 (by decide) ?_
    refine lv_iload_n hx hb dX9_send_13 rfl (lv_at hl 3 rfl) ?_
    refine va_iast hx hb hE.1 hP hD hS 3 0 rfl rfl (zin (by decide +kernel)) dX9_send_14 (fun H locs hP hD hS => ?_)
    have hP : va_P G.1 vwCl [(mm, .inr (9, [.int th, .ref nw, .ref cq, .ref hi, .int 0, .ref ko, .ref se, .int 0, .ref nf, .ref ns, .ref pi])), (nw, .inr (8, [.int 0, .int 0, .ref vd, .ref lw, .ref hg, .ref rk])), (se, .inl (G.2.1, 5, .inl (fun _ => 0))), (q1, .inl (G.2.1, 4, .inl (upd (upd (upd (fun _ => 0) 0 p0) 1 p1) 2 p2)))] H := hP
    have hD : va_D A [(mm, .inr (9, [.int th, .ref nw, .ref cq, .ref hi, .int 0, .ref ko, .ref se, .int 0, .ref nf, .ref ns, .ref pi])), (nw, .inr (8, [.int 0, .int 0, .ref vd, .ref lw, .ref hg, .ref rk])), (se, .inl (G.2.1, 5, .inl (fun _ => 0))), (q1, .inl (G.2.1, 4, .inl (upd (upd (upd (fun _ => 0) 0 p0) 1 p1) 2 p2)))] := hD
    refine lv_dup hx hb dX9_send_15 rfl ?_
    refine lv_iconst (v := 3) hx hb dX9_send_16 (by decide) ?_
    refine lv_iload hx hb dX9_send_17 (lv_at hl 4 rfl) ?_
    refine va_iast hx hb hE.1 hP hD hS 3 0 rfl rfl (zin (by decide +kernel)) dX9_send_19 (fun H locs hP hD hS => ?_)
    have hP : va_P G.1 vwCl [(mm, .inr (9, [.int th, .ref nw, .ref cq, .ref hi, .int 0, .ref ko, .ref se, .int 0, .ref nf, .ref ns, .ref pi])), (nw, .inr (8, [.int 0, .int 0, .ref vd, .ref lw, .ref hg, .ref rk])), (se, .inl (G.2.1, 5, .inl (fun _ => 0))), (q1, .inl (G.2.1, 4, .inl (upd (upd (upd (upd (fun _ => 0) 0 p0) 1 p1) 2 p2) 3 p3)))] H := hP
    have hD : va_D A [(mm, .inr (9, [.int th, .ref nw, .ref cq, .ref hi, .int 0, .ref ko, .ref se, .int 0, .ref nf, .ref ns, .ref pi])), (nw, .inr (8, [.int 0, .int 0, .ref vd, .ref lw, .ref hg, .ref rk])), (se, .inl (G.2.1, 5, .inl (fun _ => 0))), (q1, .inl (G.2.1, 4, .inl (upd (upd (upd (upd (fun _ => 0) 0 p0) 1 p1) 2 p2) 3 p3)))] := hD
    refine lv_astore (lv' := [(5, .ref q1), (0, .ref mm), (1, .int p0), (2, .int p1), (3, .int p2), (4, .int p3)]) hx hb dX9_send_20 hl (by decide) rfl (fun ls hl => ?_)
    refine lv_aload_n hx hb dX9_send_22 rfl (lv_at hl 1 rfl) ?_
    refine lv_aload hx hb dX9_send_23 (lv_at hl 0 rfl) ?_
    refine zcall (wr := [(nw, .inr (8, [.int 0, .int 0, .ref vd, .ref lw, .ref hg, .ref rk])), (se, .inl (G.2.1, 5, .inl (fun _ => 0)))]) (va_runV (As := [.ref q1]) (rest := []) ⟨hx, hb, hml, hown, hts⟩ (z_X9_isPacket l G mm nw cq hi ko se nf ns pi th q1 _ _ _ _ hok H.size) (cwV 1 hts gX9_send_X9_isPacket rfl rfl rfl (by decide +kernel) ⟨Nat.le_of_ble_eq_true rfl, Nat.le_of_ble_eq_true rfl⟩) (zPreV (Wc := [(mm, .inr (9, [.int th, .ref nw, .ref cq, .ref hi, .int 0, .ref ko, .ref se, .int 0, .ref nf, .ref ns, .ref pi])), (q1, .inl (G.2.1, 4, .inl (upd (upd (upd (upd (fun _ => 0) 0 p0) 1 p1) 2 p2) 3 p3)))]) (q0 := 0) (ci := 9) (q := (RX9, TX9, 11)) hP hD hE hS hA [0, 3] rfl (by decide) rfl rfl) rfl rfl hl.1 rfl (lv_room (Nat.le_of_ble_eq_true rfl)) dX9_send_25 ⟨Nat.le_of_ble_eq_true rfl, Nat.le_of_ble_eq_true rfl⟩) hP hD hS hA [0, 3] [1, 2] rfl rfl (by decide) (by decide) (fun u2 H locs hP hD hS => ?_)
    have hP : va_P G.1 vwCl [(nw, .inr (8, [.int 0, .int 0, .ref vd, .ref lw, .ref hg, .ref rk])), (se, .inl (G.2.1, 5, .inl (fun _ => 0))), (mm, .inr (9, [.int 0, .ref nw, .ref cq, .ref hi, .int 0, .ref ko, .ref se, .int 0, .ref nf, .ref ns, .ref pi])), (q1, .inl (G.2.1, 4, .inl (upd (upd (upd (upd (fun _ => 0) 0 p0) 1 p1) 2 p2) 3 p3)))] H := hP
    have hD : va_D A [(nw, .inr (8, [.int 0, .int 0, .ref vd, .ref lw, .ref hg, .ref rk])), (se, .inl (G.2.1, 5, .inl (fun _ => 0))), (mm, .inr (9, [.int 0, .ref nw, .ref cq, .ref hi, .int 0, .ref ko, .ref se, .int 0, .ref nf, .ref ns, .ref pi])), (q1, .inl (G.2.1, 4, .inl (upd (upd (upd (upd (fun _ => 0) 0 p0) 1 p1) 2 p2) 3 p3)))] := hD
    refine W.eq (g2 := F0 m 28 ls [.int 1]) rfl ?_
    refine lv_if_ne (tgt := 33) hx hb dX9_send_28 (by decide) (fun _ => ?_) (fun h9 => absurd h9 (by decide))
    refine lv_aload_n hx hb dX9_send_33 rfl (lv_at hl 1 rfl) ?_
    refine va_get (D := G.1) (ci := 9) (v := .ref se) (C := RX9) (T := TX9) (N := 11) hx hb hts hw9 hown hE.1 hP 2 rfl rfl 6 (by decide) hf26 (fun _ h9 => h9) rfl dX9_send_34 ?_
    refine lv_iconst (v := 0) hx hb dX9_send_37 (by decide) ?_
    refine lv_dup2_11 hx hb dX9_send_38 rfl rfl ?_
    refine va_iald hx hb hE.1 hP 1 0 rfl rfl (zin (by decide +kernel)) dX9_send_39 ?_
    refine zti (v := 0) rfl ?_
    refine lv_iconst (v := 1) hx hb dX9_send_40 (by decide) ?_
    refine lv_iadd hx hb dX9_send_41 ?_
    refine zti (v := 1) (by decide) ?_
    refine va_iast hx hb hE.1 hP hD hS 1 0 rfl rfl (zin (by decide +kernel)) dX9_send_42 (fun H locs hP hD hS => ?_)
    have hP : va_P G.1 vwCl [(nw, .inr (8, [.int 0, .int 0, .ref vd, .ref lw, .ref hg, .ref rk])), (se, .inl (G.2.1, 5, .inl (upd (fun _ => 0) 0 1))), (mm, .inr (9, [.int 0, .ref nw, .ref cq, .ref hi, .int 0, .ref ko, .ref se, .int 0, .ref nf, .ref ns, .ref pi])), (q1, .inl (G.2.1, 4, .inl (upd (upd (upd (upd (fun _ => 0) 0 p0) 1 p1) 2 p2) 3 p3)))] H := hP
    have hD : va_D A [(nw, .inr (8, [.int 0, .int 0, .ref vd, .ref lw, .ref hg, .ref rk])), (se, .inl (G.2.1, 5, .inl (upd (fun _ => 0) 0 1))), (mm, .inr (9, [.int 0, .ref nw, .ref cq, .ref hi, .int 0, .ref ko, .ref se, .int 0, .ref nf, .ref ns, .ref pi])), (q1, .inl (G.2.1, 4, .inl (upd (upd (upd (upd (fun _ => 0) 0 p0) 1 p1) 2 p2) 3 p3)))] := hD
    refine lv_iload hx hb dX9_send_43 (lv_at hl 5 rfl) ?_
    refine lv_iconst (v := 1) hx hb dX9_send_45 (by decide) ?_
    refine lv_icmp_ne (tgt := 82) hx hb dX9_send_46 (by decide) (fun _ => ?_) (fun h9 => absurd h9 h1)
    refine lv_aload_n hx hb dX9_send_82 rfl (lv_at hl 1 rfl) ?_
    refine lv_aload hx hb dX9_send_83 (lv_at hl 0 rfl) ?_
    refine zcall (wr := [(se, .inl (G.2.1, 5, .inl (upd (fun _ => 0) 0 1))), (q1, .inl (G.2.1, 4, .inl (upd (upd (upd (upd (fun _ => 0) 0 p0) 1 p1) 2 p2) 3 p3)))]) (va_runV (As := [.ref q1]) (rest := []) ⟨hx, hb, hml, hown, hts⟩ (z_X9_deciderNow l G mm nw cq hi ko se nf ns pi 0 vd lw hg rk q1 H.size) (cwV 1 hts gX9_send_X9_deciderNow rfl rfl rfl (by decide +kernel) ⟨Nat.le_of_ble_eq_true rfl, Nat.le_of_ble_eq_true rfl⟩) (zPreV (Wc := [(mm, .inr (9, [.int 0, .ref nw, .ref cq, .ref hi, .int 0, .ref ko, .ref se, .int 0, .ref nf, .ref ns, .ref pi])), (nw, .inr (8, [.int 0, .int 0, .ref vd, .ref lw, .ref hg, .ref rk]))]) (q0 := 2) (ci := 9) (q := (RX9, TX9, 11)) hP hD hE hS hA [2, 0] rfl (by decide) rfl rfl) rfl rfl hl.1 rfl (lv_room (Nat.le_of_ble_eq_true rfl)) dX9_send_85 ⟨Nat.le_of_ble_eq_true rfl, Nat.le_of_ble_eq_true rfl⟩) hP hD hS hA [2, 0] [1, 3] rfl rfl (by decide) (by decide) (fun u3 H locs hP hD hS => ?_)
    have hP : va_P G.1 vwCl [(se, .inl (G.2.1, 5, .inl (upd (fun _ => 0) 0 1))), (q1, .inl (G.2.1, 4, .inl (upd (upd (upd (upd (fun _ => 0) 0 p0) 1 p1) 2 p2) 3 p3))), (mm, .inr (9, [.int 0, .ref nw, .ref cq, .ref hi, .int 0, .ref ko, .ref se, .int 0, .ref nf, .ref ns, .ref pi])), (nw, .inr (8, [.int 0, .int 0, .ref vd, .ref lw, .ref hg, .ref rk]))] H := hP
    have hD : va_D A [(se, .inl (G.2.1, 5, .inl (upd (fun _ => 0) 0 1))), (q1, .inl (G.2.1, 4, .inl (upd (upd (upd (upd (fun _ => 0) 0 p0) 1 p1) 2 p2) 3 p3))), (mm, .inr (9, [.int 0, .ref nw, .ref cq, .ref hi, .int 0, .ref ko, .ref se, .int 0, .ref nf, .ref ns, .ref pi])), (nw, .inr (8, [.int 0, .int 0, .ref vd, .ref lw, .ref hg, .ref rk]))] := hD
    refine W.eq (g2 := F0 m 88 ls [.int (-1)]) rfl ?_
    refine lv_istore (lv' := [(6, .int (-1)), (5, .ref q1), (0, .ref mm), (1, .int p0), (2, .int p1), (3, .int p2), (4, .int p3)]) hx hb dX9_send_88 hl (by decide) rfl (fun ls hl => ?_)
    refine lv_iconst (v := 0) hx hb dX9_send_90 (by decide) ?_
    refine lv_istore (lv' := [(7, .int 0), (6, .int (-1)), (5, .ref q1), (0, .ref mm), (1, .int p0), (2, .int p1), (3, .int p2), (4, .int p3)]) hx hb dX9_send_91 hl (by decide) rfl (fun ls hl => ?_)
    refine lv_iload hx hb dX9_send_93 (lv_at hl 0 rfl) ?_
    refine lv_iload hx hb dX9_send_95 (lv_at hl 1 rfl) ?_
    refine lv_iconst (v := (-1)) hx hb dX9_send_97 (by decide) ?_
    refine lv_icmp_ne (tgt := 111) hx hb dX9_send_98 (by decide) (fun h9 => absurd (by decide) h9) (fun _ => ?_)
    refine lv_aload_n hx hb dX9_send_101 rfl (lv_at hl 3 rfl) ?_
    refine va_get (D := G.1) (ci := 9) (v := .ref nw) (C := RX9) (T := TX9) (N := 11) hx hb hts hw9 hown hE.1 hP 2 rfl rfl 1 (by decide) hf10 (fun _ h9 => h9) rfl dX9_send_102 ?_
    refine va_get (D := G.1) (ci := 8) (v := .int 0) (C := RX8) (T := TX8) (N := 6) hx hb hts hw8 hown hE.1 hP 3 rfl rfl 0 (by decide) hf83 (fun _ h9 => h9) rfl dX9_send_105 ?_
    refine lv_goto (tgt := 113) hx hb dX9_send_108 (by decide) ?_
    refine lv_icmp_ge (tgt := 161) hx hb dX9_send_113 (by decide) (fun _ => ?_) (fun h9 => absurd (by decide) h9)
    refine lv_iload hx hb dX9_send_161 (lv_at hl 1 rfl) ?_
    refine lv_iconst (v := (-1)) hx hb dX9_send_163 (by decide) ?_
    refine lv_icmp_ne (tgt := 180) hx hb dX9_send_164 (by decide) (fun h9 => absurd (by decide) h9) (fun _ => ?_)
    refine lv_aload_n hx hb dX9_send_167 rfl (lv_at hl 3 rfl) ?_
    refine va_get (D := G.1) (ci := 9) (v := .ref se) (C := RX9) (T := TX9) (N := 11) hx hb hts hw9 hown hE.1 hP 2 rfl rfl 6 (by decide) hf26 (fun _ h9 => h9) rfl dX9_send_168 ?_
    refine lv_iconst (v := 4) hx hb dX9_send_171 (by decide) ?_
    refine lv_dup2_11 hx hb dX9_send_172 rfl rfl ?_
    refine va_iald hx hb hE.1 hP 0 0 rfl rfl (zin (by decide +kernel)) dX9_send_173 ?_
    refine zti (v := 0) rfl ?_
    refine lv_iconst (v := 1) hx hb dX9_send_174 (by decide) ?_
    refine lv_iadd hx hb dX9_send_175 ?_
    refine zti (v := 1) (by decide) ?_
    refine va_iast hx hb hE.1 hP hD hS 0 0 rfl rfl (zin (by decide +kernel)) dX9_send_176 (fun H locs hP hD hS => ?_)
    have hP : va_P G.1 vwCl [(se, .inl (G.2.1, 5, .inl (upd (upd (fun _ => 0) 0 1) 4 1))), (q1, .inl (G.2.1, 4, .inl (upd (upd (upd (upd (fun _ => 0) 0 p0) 1 p1) 2 p2) 3 p3))), (mm, .inr (9, [.int 0, .ref nw, .ref cq, .ref hi, .int 0, .ref ko, .ref se, .int 0, .ref nf, .ref ns, .ref pi])), (nw, .inr (8, [.int 0, .int 0, .ref vd, .ref lw, .ref hg, .ref rk]))] H := hP
    have hD : va_D A [(se, .inl (G.2.1, 5, .inl (upd (upd (fun _ => 0) 0 1) 4 1))), (q1, .inl (G.2.1, 4, .inl (upd (upd (upd (upd (fun _ => 0) 0 p0) 1 p1) 2 p2) 3 p3))), (mm, .inr (9, [.int 0, .ref nw, .ref cq, .ref hi, .int 0, .ref ko, .ref se, .int 0, .ref nf, .ref ns, .ref pi])), (nw, .inr (8, [.int 0, .int 0, .ref vd, .ref lw, .ref hg, .ref rk]))] := hD
    refine lv_goto (tgt := 191) hx hb dX9_send_177 (by decide) ?_
    refine lv_iload hx hb dX9_send_191 (lv_at hl 1 rfl) ?_
    refine lv_iconst (v := (-1)) hx hb dX9_send_193 (by decide) ?_
    refine lv_icmp_ne (tgt := 207) hx hb dX9_send_194 (by decide) (fun h9 => absurd (by decide) h9) (fun _ => ?_)
    refine lv_aload_n hx hb dX9_send_197 rfl (lv_at hl 3 rfl) ?_
    refine va_get (D := G.1) (ci := 9) (v := .ref nw) (C := RX9) (T := TX9) (N := 11) hx hb hts hw9 hown hE.1 hP 2 rfl rfl 1 (by decide) hf10 (fun _ h9 => h9) rfl dX9_send_198 ?_
    refine va_get (D := G.1) (ci := 8) (v := .int 0) (C := RX8) (T := TX8) (N := 6) hx hb hts hw8 hown hE.1 hP 3 rfl rfl 1 (by decide) hf136 (fun _ h9 => h9) rfl dX9_send_201 ?_
    refine lv_goto (tgt := 217) hx hb dX9_send_204 (by decide) ?_
    refine lv_iconst (v := 1) hx hb dX9_send_217 (by decide) ?_
    refine lv_icmp_ne (tgt := 225) hx hb dX9_send_218 (by decide) (fun _ => ?_) (fun h9 => absurd h9 (by decide))
    refine lv_iconst (v := 0) hx hb dX9_send_225 (by decide) ?_
    refine lv_istore (lv' := [(7, .int 0), (6, .int (-1)), (5, .ref q1), (0, .ref mm), (1, .int p0), (2, .int p1), (3, .int p2), (4, .int p3)]) hx hb dX9_send_226 hl (by decide) rfl (fun ls hl => ?_)
    refine lv_iload hx hb dX9_send_228 (lv_at hl 0 rfl) ?_
    refine lv_if_ne (tgt := 235) hx hb dX9_send_230 (by decide) (fun h9 => absurd (by decide) h9) (fun _ => ?_)
    refine lv_iconst (v := 0) hx hb dX9_send_233 (by decide) ?_
    have hP := hP.sub (ws' := [(mm, .inr (9, [.int 0, .ref nw, .ref cq, .ref hi, .int 0, .ref ko, .ref se, .int 0, .ref nf, .ref ns, .ref pi])), (nw, .inr (8, [.int 0, .int 0, .ref vd, .ref lw, .ref hg, .ref rk])), (se, .inl (G.2.1, 5, .inl (upd (upd (fun _ => 0) 0 1) 4 1)))]) [2, 3, 0] rfl
    have hD := hD.sub (ws' := [(mm, .inr (9, [.int 0, .ref nw, .ref cq, .ref hi, .int 0, .ref ko, .ref se, .int 0, .ref nf, .ref ns, .ref pi])), (nw, .inr (8, [.int 0, .int 0, .ref vd, .ref lw, .ref hg, .ref rk])), (se, .inl (G.2.1, 5, .inl (upd (upd (fun _ => 0) 0 1) 4 1)))]) [2, 3, 0] (by decide) rfl
    exact zend_i hx hb hr hlocks (fun k => [].getD k 0) hP hD hS (Nat.le_of_ble_eq_true rfl) (Nat.le_of_ble_eq_true rfl) dX9_send_234

set_option maxHeartbeats 4000000 in
set_option maxRecDepth 100000 in
theorem z_X9_sendT (l : Launch) (G : zG) (mm : Nat) (nw : Nat) (cq : Nat) (hi : Nat) (ko : Nat) (se : Nat) (nf : Nat) (ns : Nat) (pi : Nat) (th : Int32) (p0 : Int32) (p1 : Int32) (p2 : Int32) (p3 : Int32) (hbad : zBad p0 p1 p2 p3) : zR l G yX9_send wsX9_send { frames := 2, cells := 1, slots := 4, locals := 44 } [(mm, .inr (9, [.int th, .ref nw, .ref cq, .ref hi, .int 0, .ref ko, .ref se, .int 0, .ref nf, .ref ns, .ref pi]))] [.ref mm, .int p0, .int p1, .int p2, .int p3] (some (.int 0)) (fun u => [(mm, .inr (9, [.int 1, .ref nw, .ref cq, .ref hi, .int 0, .ref ko, .ref se, .int 0, .ref nf, .ref ns, .ref pi]))]) 1 4 := by
  refine zR_of (cc := cX9_send) (maxL := 8) (rt := (some .int)) (by decide) rfl (Nat.le_of_ble_eq_true rfl) ?_
  intro p e s m below meth c A ls hx hb hml hr hts hown hlocks hin hA hE hP hD hS hl
  have hl : lv_has ls 8 [(0, .ref mm), (1, .int p0), (2, .int p1), (3, .int p2), (4, .int p3)] := hl
  have hown : s.vm.findClass RX9 = some m.cls := hown
  have hP : va_P G.1 vwCl [(mm, .inr (9, [.int th, .ref nw, .ref cq, .ref hi, .int 0, .ref ko, .ref se, .int 0, .ref nf, .ref ns, .ref pi]))] s.heap := hP
  have harrint := hts (.arrayClass .int) (by decide +kernel)
  refine lv_iconst (v := 4) hx hb dX9_send_0 (by decide) ?_
  refine znewa (N := 4) hx hb harrint hE hP hD hS hA (by decide) (by decide) (Nat.le_of_ble_eq_true rfl) (Nat.le_of_ble_eq_true rfl) (Nat.le_of_ble_eq_true rfl) dX9_send_1 (fun q1 H hP hD hS => ?_)
  have hP : va_P G.1 vwCl [(mm, .inr (9, [.int th, .ref nw, .ref cq, .ref hi, .int 0, .ref ko, .ref se, .int 0, .ref nf, .ref ns, .ref pi])), (q1, .inl (G.2.1, 4, .inl (fun _ => 0)))] H := hP
  have hD : va_D A [(mm, .inr (9, [.int th, .ref nw, .ref cq, .ref hi, .int 0, .ref ko, .ref se, .int 0, .ref nf, .ref ns, .ref pi])), (q1, .inl (G.2.1, 4, .inl (fun _ => 0)))] := hD
  refine lv_dup hx hb dX9_send_3 rfl ?_
  refine lv_iconst (v := 0) hx hb dX9_send_4 (by decide) ?_
  refine lv_iload_n hx hb dX9_send_5 rfl (lv_at hl 1 rfl) ?_
  refine va_iast hx hb hE.1 hP hD hS 1 0 rfl rfl (zin (by decide +kernel)) dX9_send_6 (fun H locs hP hD hS => ?_)
  have hP : va_P G.1 vwCl [(mm, .inr (9, [.int th, .ref nw, .ref cq, .ref hi, .int 0, .ref ko, .ref se, .int 0, .ref nf, .ref ns, .ref pi])), (q1, .inl (G.2.1, 4, .inl (upd (fun _ => 0) 0 p0)))] H := hP
  have hD : va_D A [(mm, .inr (9, [.int th, .ref nw, .ref cq, .ref hi, .int 0, .ref ko, .ref se, .int 0, .ref nf, .ref ns, .ref pi])), (q1, .inl (G.2.1, 4, .inl (upd (fun _ => 0) 0 p0)))] := hD
  refine lv_dup hx hb dX9_send_7 rfl ?_
  refine lv_iconst (v := 1) hx hb dX9_send_8 (by decide) ?_
  refine lv_iload_n hx hb dX9_send_9 rfl (lv_at hl 2 rfl) ?_
  refine va_iast hx hb hE.1 hP hD hS 1 0 rfl rfl (zin (by decide +kernel)) dX9_send_10 (fun H locs hP hD hS => ?_)
  have hP : va_P G.1 vwCl [(mm, .inr (9, [.int th, .ref nw, .ref cq, .ref hi, .int 0, .ref ko, .ref se, .int 0, .ref nf, .ref ns, .ref pi])), (q1, .inl (G.2.1, 4, .inl (upd (upd (fun _ => 0) 0 p0) 1 p1)))] H := hP
  have hD : va_D A [(mm, .inr (9, [.int th, .ref nw, .ref cq, .ref hi, .int 0, .ref ko, .ref se, .int 0, .ref nf, .ref ns, .ref pi])), (q1, .inl (G.2.1, 4, .inl (upd (upd (fun _ => 0) 0 p0) 1 p1)))] := hD
  refine lv_dup hx hb dX9_send_11 rfl ?_
  refine lv_iconst (v := 2) hx hb dX9_send_12 (by decide) ?_
  refine lv_iload_n hx hb dX9_send_13 rfl (lv_at hl 3 rfl) ?_
  refine va_iast hx hb hE.1 hP hD hS 1 0 rfl rfl (zin (by decide +kernel)) dX9_send_14 (fun H locs hP hD hS => ?_)
  have hP : va_P G.1 vwCl [(mm, .inr (9, [.int th, .ref nw, .ref cq, .ref hi, .int 0, .ref ko, .ref se, .int 0, .ref nf, .ref ns, .ref pi])), (q1, .inl (G.2.1, 4, .inl (upd (upd (upd (fun _ => 0) 0 p0) 1 p1) 2 p2)))] H := hP
  have hD : va_D A [(mm, .inr (9, [.int th, .ref nw, .ref cq, .ref hi, .int 0, .ref ko, .ref se, .int 0, .ref nf, .ref ns, .ref pi])), (q1, .inl (G.2.1, 4, .inl (upd (upd (upd (fun _ => 0) 0 p0) 1 p1) 2 p2)))] := hD
  refine lv_dup hx hb dX9_send_15 rfl ?_
  refine lv_iconst (v := 3) hx hb dX9_send_16 (by decide) ?_
  refine lv_iload hx hb dX9_send_17 (lv_at hl 4 rfl) ?_
  refine va_iast hx hb hE.1 hP hD hS 1 0 rfl rfl (zin (by decide +kernel)) dX9_send_19 (fun H locs hP hD hS => ?_)
  have hP : va_P G.1 vwCl [(mm, .inr (9, [.int th, .ref nw, .ref cq, .ref hi, .int 0, .ref ko, .ref se, .int 0, .ref nf, .ref ns, .ref pi])), (q1, .inl (G.2.1, 4, .inl (upd (upd (upd (upd (fun _ => 0) 0 p0) 1 p1) 2 p2) 3 p3)))] H := hP
  have hD : va_D A [(mm, .inr (9, [.int th, .ref nw, .ref cq, .ref hi, .int 0, .ref ko, .ref se, .int 0, .ref nf, .ref ns, .ref pi])), (q1, .inl (G.2.1, 4, .inl (upd (upd (upd (upd (fun _ => 0) 0 p0) 1 p1) 2 p2) 3 p3)))] := hD
  refine lv_astore (lv' := [(5, .ref q1), (0, .ref mm), (1, .int p0), (2, .int p1), (3, .int p2), (4, .int p3)]) hx hb dX9_send_20 hl (by decide) rfl (fun ls hl => ?_)
  refine lv_aload_n hx hb dX9_send_22 rfl (lv_at hl 1 rfl) ?_
  refine lv_aload hx hb dX9_send_23 (lv_at hl 0 rfl) ?_
  refine zcall (wr := []) (va_runV (As := [.ref q1]) (rest := []) ⟨hx, hb, hml, hown, hts⟩ (z_X9_isPacketB l G mm nw cq hi ko se nf ns pi th q1 _ _ _ _ hbad H.size) (cwV 1 hts gX9_send_X9_isPacket rfl rfl rfl (by decide +kernel) ⟨Nat.le_of_ble_eq_true rfl, Nat.le_of_ble_eq_true rfl⟩) (zPreV (Wc := [(mm, .inr (9, [.int th, .ref nw, .ref cq, .ref hi, .int 0, .ref ko, .ref se, .int 0, .ref nf, .ref ns, .ref pi])), (q1, .inl (G.2.1, 4, .inl (upd (upd (upd (upd (fun _ => 0) 0 p0) 1 p1) 2 p2) 3 p3)))]) (q0 := 0) (ci := 9) (q := (RX9, TX9, 11)) hP hD hE hS hA [0, 1] rfl (by decide) rfl rfl) rfl rfl hl.1 rfl (lv_room (Nat.le_of_ble_eq_true rfl)) dX9_send_25 ⟨Nat.le_of_ble_eq_true rfl, Nat.le_of_ble_eq_true rfl⟩) hP hD hS hA [0, 1] [] rfl rfl (by decide) (by decide) (fun u2 H locs hP hD hS => ?_)
  have hP : va_P G.1 vwCl [(mm, .inr (9, [.int 1, .ref nw, .ref cq, .ref hi, .int 0, .ref ko, .ref se, .int 0, .ref nf, .ref ns, .ref pi])), (q1, .inl (G.2.1, 4, .inl (upd (upd (upd (upd (fun _ => 0) 0 p0) 1 p1) 2 p2) 3 p3)))] H := hP
  have hD : va_D A [(mm, .inr (9, [.int 1, .ref nw, .ref cq, .ref hi, .int 0, .ref ko, .ref se, .int 0, .ref nf, .ref ns, .ref pi])), (q1, .inl (G.2.1, 4, .inl (upd (upd (upd (upd (fun _ => 0) 0 p0) 1 p1) 2 p2) 3 p3)))] := hD
  refine W.eq (g2 := F0 m 28 ls [.int 0]) rfl ?_
  refine lv_if_ne (tgt := 33) hx hb dX9_send_28 (by decide) (fun h9 => absurd (by decide) h9) (fun _ => ?_)
  refine lv_iconst (v := 0) hx hb dX9_send_31 (by decide) ?_
  have hP := hP.sub (ws' := [(mm, .inr (9, [.int 1, .ref nw, .ref cq, .ref hi, .int 0, .ref ko, .ref se, .int 0, .ref nf, .ref ns, .ref pi]))]) [0] rfl
  have hD := hD.sub (ws' := [(mm, .inr (9, [.int 1, .ref nw, .ref cq, .ref hi, .int 0, .ref ko, .ref se, .int 0, .ref nf, .ref ns, .ref pi]))]) [0] (by decide) rfl
  exact zend_i hx hb hr hlocks (fun k => [].getD k 0) hP hD hS (Nat.le_of_ble_eq_true rfl) (Nat.le_of_ble_eq_true rfl) dX9_send_32

set_option maxHeartbeats 4000000 in
set_option maxRecDepth 100000 in
theorem z_X9_sentNow0 (l : Launch) (G : zG) (mm : Nat) (nw : Nat) (cq : Nat) (hi : Nat) (ko : Nat) (se : Nat) (nf : Nat) (ns : Nat) (pi : Nat) (th : Int32) : zR l G yX9_sentNow wsX9_sentNow { frames := 0, cells := 0, slots := 0, locals := 0 } [(mm, .inr (9, [.int th, .ref nw, .ref cq, .ref hi, .int 0, .ref ko, .ref se, .int 0, .ref nf, .ref ns, .ref pi])), (se, .inl (G.2.1, 5, .inl (fun _ => 0)))] [.ref mm, .int 0] (some (.int 0)) (fun u => [(mm, .inr (9, [.int th, .ref nw, .ref cq, .ref hi, .int 0, .ref ko, .ref se, .int 0, .ref nf, .ref ns, .ref pi])), (se, .inl (G.2.1, 5, .inl (fun _ => 0)))]) 0 0 := by
  refine zR_of (cc := cX9_sentNow) (maxL := 2) (rt := (some .int)) (by decide) rfl (Nat.le_of_ble_eq_true rfl) ?_
  intro p e s m below meth c A ls hx hb hml hr hts hown hlocks hin hA hE hP hD hS hl
  have hl : lv_has ls 2 [(0, .ref mm), (1, .int 0)] := hl
  have hown : s.vm.findClass RX9 = some m.cls := hown
  have hP : va_P G.1 vwCl [(mm, .inr (9, [.int th, .ref nw, .ref cq, .ref hi, .int 0, .ref ko, .ref se, .int 0, .ref nf, .ref ns, .ref pi])), (se, .inl (G.2.1, 5, .inl (fun _ => 0)))] s.heap := hP
  have hw9 : ∀ w ∈ u_ws RX9 TX9 11, w ∈ wsX9_sentNow := by decide +kernel
  have hf26 := hts (.fieldLink RX9 26 "NettleModel" "sent" "[I") (by decide +kernel)
  refine lv_iload_n hx hb dX9_sentNow_0 rfl (lv_at hl 1 rfl) ?_
  refine lv_iconst (v := 3) hx hb dX9_sentNow_1 (by decide) ?_
  refine lv_icmp_ne (tgt := 12) hx hb dX9_sentNow_2 (by decide) (fun _ => ?_) (fun h9 => absurd h9 (by decide))
  refine lv_aload_n hx hb dX9_sentNow_12 rfl (lv_at hl 0 rfl) ?_
  refine va_get (D := G.1) (ci := 9) (v := .ref se) (C := RX9) (T := TX9) (N := 11) hx hb hts hw9 hown hE.1 hP 0 rfl rfl 6 (by decide) hf26 (fun _ h9 => h9) rfl dX9_sentNow_13 ?_
  refine lv_iload_n hx hb dX9_sentNow_16 rfl (lv_at hl 1 rfl) ?_
  refine va_iald hx hb hE.1 hP 1 0 rfl rfl (zin (by decide +kernel)) dX9_sentNow_17 ?_
  refine zti (v := 0) rfl ?_
  exact zend_i hx hb hr hlocks (fun k => [].getD k 0) hP hD hS (Nat.le_of_ble_eq_true rfl) (Nat.le_of_ble_eq_true rfl) dX9_sentNow_18

set_option maxHeartbeats 4000000 in
set_option maxRecDepth 100000 in
theorem z_X9_sent0 (l : Launch) (G : zG) (mm : Nat) (nw : Nat) (cq : Nat) (hi : Nat) (ko : Nat) (se : Nat) (nf : Nat) (ns : Nat) (pi : Nat) (th : Int32) : zR l G yX9_sent wsX9_sent { frames := 1, cells := 0, slots := 0, locals := 22 } [(mm, .inr (9, [.int th, .ref nw, .ref cq, .ref hi, .int 0, .ref ko, .ref se, .int 0, .ref nf, .ref ns, .ref pi])), (se, .inl (G.2.1, 5, .inl (fun _ => 0)))] [.ref mm, .int 0] (some (.int 0)) (fun u => [(mm, .inr (9, [.int 0, .ref nw, .ref cq, .ref hi, .int 0, .ref ko, .ref se, .int 0, .ref nf, .ref ns, .ref pi])), (se, .inl (G.2.1, 5, .inl (fun _ => 0)))]) 0 0 := by
  refine zR_of (cc := cX9_sent) (maxL := 2) (rt := (some .int)) (by decide) rfl (Nat.le_of_ble_eq_true rfl) ?_
  intro p e s m below meth c A ls hx hb hml hr hts hown hlocks hin hA hE hP hD hS hl
  have hl : lv_has ls 2 [(0, .ref mm), (1, .int 0)] := hl
  have hown : s.vm.findClass RX9 = some m.cls := hown
  have hP : va_P G.1 vwCl [(mm, .inr (9, [.int th, .ref nw, .ref cq, .ref hi, .int 0, .ref ko, .ref se, .int 0, .ref nf, .ref ns, .ref pi])), (se, .inl (G.2.1, 5, .inl (fun _ => 0)))] s.heap := hP
  have hw9 : ∀ w ∈ u_ws RX9 TX9 11, w ∈ wsX9_sent := by decide +kernel
  have hf40 := hts (.fieldLink RX9 40 "NettleModel" "thrown" "I") (by decide +kernel)
  refine lv_aload_n hx hb dX9_sent_0 rfl (lv_at hl 0 rfl) ?_
  refine lv_iconst (v := 0) hx hb dX9_sent_1 (by decide) ?_
  refine va_put (D := G.1) (ci := 9) (v := .int 0) (ty := tyX9 0) (C := RX9) (T := TX9) (N := 11) hx hb hts hw9 tyX9 tyX9_ok nmX9 hown hE.1 hP hD hS 0 rfl rfl 0 (by decide) hf40 (fun _ h9 => h9) rfl (by decide +kernel) rfl rfl (Nat.le_of_ble_eq_true rfl) dX9_sent_2 (fun H locs hP hD hS => ?_)
  have hP : va_P G.1 vwCl [(mm, .inr (9, [.int 0, .ref nw, .ref cq, .ref hi, .int 0, .ref ko, .ref se, .int 0, .ref nf, .ref ns, .ref pi])), (se, .inl (G.2.1, 5, .inl (fun _ => 0)))] H := hP
  have hD : va_D A [(mm, .inr (9, [.int 0, .ref nw, .ref cq, .ref hi, .int 0, .ref ko, .ref se, .int 0, .ref nf, .ref ns, .ref pi])), (se, .inl (G.2.1, 5, .inl (fun _ => 0)))] := hD
  refine lv_iload_n hx hb dX9_sent_5 rfl (lv_at hl 1 rfl) ?_
  refine lv_iconst (v := 0) hx hb dX9_sent_6 (by decide) ?_
  refine lv_iconst (v := 4) hx hb dX9_sent_7 (by decide) ?_
  refine zcall (wr := [(mm, .inr (9, [.int 0, .ref nw, .ref cq, .ref hi, .int 0, .ref ko, .ref se, .int 0, .ref nf, .ref ns, .ref pi])), (se, .inl (G.2.1, 5, .inl (fun _ => 0)))]) (va_runS (As := [.int 0, .int 0, .int 4]) (rest := []) ⟨hx, hb, hml, hown, hts⟩ (z_X9_isIn l G 0 0 4 (by decide) (by decide) H.size) (va_cwS 3 hts gX9_sent_X9_isIn rfl rfl rfl (by decide +kernel) ⟨Nat.le_of_ble_eq_true rfl, Nat.le_of_ble_eq_true rfl⟩) (zPre (Wc := []) hP hD hE hS hA [] rfl (by decide)) rfl rfl hl.1 rfl (lv_room (Nat.le_of_ble_eq_true rfl)) dX9_sent_8 ⟨Nat.le_of_ble_eq_true rfl, Nat.le_of_ble_eq_true rfl⟩) hP hD hS hA [] [0, 1] rfl rfl (by decide) (by decide) (fun u1 H locs hP hD hS => ?_)
  have hP : va_P G.1 vwCl [(mm, .inr (9, [.int 0, .ref nw, .ref cq, .ref hi, .int 0, .ref ko, .ref se, .int 0, .ref nf, .ref ns, .ref pi])), (se, .inl (G.2.1, 5, .inl (fun _ => 0)))] H := hP
  have hD : va_D A [(mm, .inr (9, [.int 0, .ref nw, .ref cq, .ref hi, .int 0, .ref ko, .ref se, .int 0, .ref nf, .ref ns, .ref pi])), (se, .inl (G.2.1, 5, .inl (fun _ => 0)))] := hD
  refine W.eq (g2 := F0 m 11 ls [.int 1]) rfl ?_
  refine lv_if_eq (tgt := 22) hx hb dX9_sent_11 (by decide) (fun h9 => absurd h9 (by decide)) (fun _ => ?_)
  refine lv_aload_n hx hb dX9_sent_14 rfl (lv_at hl 0 rfl) ?_
  refine lv_iload_n hx hb dX9_sent_15 rfl (lv_at hl 1 rfl) ?_
  refine zcall (wr := []) (va_runV (As := [.int 0]) (rest := []) ⟨hx, hb, hml, hown, hts⟩ (z_X9_sentNow0 l G mm nw cq hi ko se nf ns pi 0 H.size) (cwV 1 hts gX9_sent_X9_sentNow rfl rfl rfl (by decide +kernel) ⟨Nat.le_of_ble_eq_true rfl, Nat.le_of_ble_eq_true rfl⟩) (zPreV (Wc := [(mm, .inr (9, [.int 0, .ref nw, .ref cq, .ref hi, .int 0, .ref ko, .ref se, .int 0, .ref nf, .ref ns, .ref pi])), (se, .inl (G.2.1, 5, .inl (fun _ => 0)))]) (q0 := 0) (ci := 9) (q := (RX9, TX9, 11)) hP hD hE hS hA [0, 1] rfl (by decide) rfl rfl) rfl rfl hl.1 rfl (lv_room (Nat.le_of_ble_eq_true rfl)) dX9_sent_16 ⟨Nat.le_of_ble_eq_true rfl, Nat.le_of_ble_eq_true rfl⟩) hP hD hS hA [0, 1] [] rfl rfl (by decide) (by decide) (fun u2 H locs hP hD hS => ?_)
  have hP : va_P G.1 vwCl [(mm, .inr (9, [.int 0, .ref nw, .ref cq, .ref hi, .int 0, .ref ko, .ref se, .int 0, .ref nf, .ref ns, .ref pi])), (se, .inl (G.2.1, 5, .inl (fun _ => 0)))] H := hP
  have hD : va_D A [(mm, .inr (9, [.int 0, .ref nw, .ref cq, .ref hi, .int 0, .ref ko, .ref se, .int 0, .ref nf, .ref ns, .ref pi])), (se, .inl (G.2.1, 5, .inl (fun _ => 0)))] := hD
  refine W.eq (g2 := F0 m 19 ls [.int 0]) rfl ?_
  refine lv_goto (tgt := 27) hx hb dX9_sent_19 (by decide) ?_
  exact zend_i hx hb hr hlocks (fun k => [].getD k 0) hP hD hS (Nat.le_of_ble_eq_true rfl) (Nat.le_of_ble_eq_true rfl) dX9_sent_27

set_option maxHeartbeats 4000000 in
set_option maxRecDepth 100000 in
theorem z_X9_sentNow1 (l : Launch) (G : zG) (mm : Nat) (nw : Nat) (cq : Nat) (hi : Nat) (ko : Nat) (se : Nat) (nf : Nat) (ns : Nat) (pi : Nat) (th : Int32) : zR l G yX9_sentNow wsX9_sentNow { frames := 0, cells := 0, slots := 0, locals := 0 } [(mm, .inr (9, [.int th, .ref nw, .ref cq, .ref hi, .int 0, .ref ko, .ref se, .int 0, .ref nf, .ref ns, .ref pi])), (se, .inl (G.2.1, 5, .inl (fun _ => 0)))] [.ref mm, .int 1] (some (.int 0)) (fun u => [(mm, .inr (9, [.int th, .ref nw, .ref cq, .ref hi, .int 0, .ref ko, .ref se, .int 0, .ref nf, .ref ns, .ref pi])), (se, .inl (G.2.1, 5, .inl (fun _ => 0)))]) 0 0 := by
  refine zR_of (cc := cX9_sentNow) (maxL := 2) (rt := (some .int)) (by decide) rfl (Nat.le_of_ble_eq_true rfl) ?_
  intro p e s m below meth c A ls hx hb hml hr hts hown hlocks hin hA hE hP hD hS hl
  have hl : lv_has ls 2 [(0, .ref mm), (1, .int 1)] := hl
  have hown : s.vm.findClass RX9 = some m.cls := hown
  have hP : va_P G.1 vwCl [(mm, .inr (9, [.int th, .ref nw, .ref cq, .ref hi, .int 0, .ref ko, .ref se, .int 0, .ref nf, .ref ns, .ref pi])), (se, .inl (G.2.1, 5, .inl (fun _ => 0)))] s.heap := hP
  have hw9 : ∀ w ∈ u_ws RX9 TX9 11, w ∈ wsX9_sentNow := by decide +kernel
  have hf26 := hts (.fieldLink RX9 26 "NettleModel" "sent" "[I") (by decide +kernel)
  refine lv_iload_n hx hb dX9_sentNow_0 rfl (lv_at hl 1 rfl) ?_
  refine lv_iconst (v := 3) hx hb dX9_sentNow_1 (by decide) ?_
  refine lv_icmp_ne (tgt := 12) hx hb dX9_sentNow_2 (by decide) (fun _ => ?_) (fun h9 => absurd h9 (by decide))
  refine lv_aload_n hx hb dX9_sentNow_12 rfl (lv_at hl 0 rfl) ?_
  refine va_get (D := G.1) (ci := 9) (v := .ref se) (C := RX9) (T := TX9) (N := 11) hx hb hts hw9 hown hE.1 hP 0 rfl rfl 6 (by decide) hf26 (fun _ h9 => h9) rfl dX9_sentNow_13 ?_
  refine lv_iload_n hx hb dX9_sentNow_16 rfl (lv_at hl 1 rfl) ?_
  refine va_iald hx hb hE.1 hP 1 0 rfl rfl (zin (by decide +kernel)) dX9_sentNow_17 ?_
  refine zti (v := 0) rfl ?_
  exact zend_i hx hb hr hlocks (fun k => [].getD k 0) hP hD hS (Nat.le_of_ble_eq_true rfl) (Nat.le_of_ble_eq_true rfl) dX9_sentNow_18

set_option maxHeartbeats 4000000 in
set_option maxRecDepth 100000 in
theorem z_X9_sent1 (l : Launch) (G : zG) (mm : Nat) (nw : Nat) (cq : Nat) (hi : Nat) (ko : Nat) (se : Nat) (nf : Nat) (ns : Nat) (pi : Nat) (th : Int32) : zR l G yX9_sent wsX9_sent { frames := 1, cells := 0, slots := 0, locals := 22 } [(mm, .inr (9, [.int th, .ref nw, .ref cq, .ref hi, .int 0, .ref ko, .ref se, .int 0, .ref nf, .ref ns, .ref pi])), (se, .inl (G.2.1, 5, .inl (fun _ => 0)))] [.ref mm, .int 1] (some (.int 0)) (fun u => [(mm, .inr (9, [.int 0, .ref nw, .ref cq, .ref hi, .int 0, .ref ko, .ref se, .int 0, .ref nf, .ref ns, .ref pi])), (se, .inl (G.2.1, 5, .inl (fun _ => 0)))]) 0 0 := by
  refine zR_of (cc := cX9_sent) (maxL := 2) (rt := (some .int)) (by decide) rfl (Nat.le_of_ble_eq_true rfl) ?_
  intro p e s m below meth c A ls hx hb hml hr hts hown hlocks hin hA hE hP hD hS hl
  have hl : lv_has ls 2 [(0, .ref mm), (1, .int 1)] := hl
  have hown : s.vm.findClass RX9 = some m.cls := hown
  have hP : va_P G.1 vwCl [(mm, .inr (9, [.int th, .ref nw, .ref cq, .ref hi, .int 0, .ref ko, .ref se, .int 0, .ref nf, .ref ns, .ref pi])), (se, .inl (G.2.1, 5, .inl (fun _ => 0)))] s.heap := hP
  have hw9 : ∀ w ∈ u_ws RX9 TX9 11, w ∈ wsX9_sent := by decide +kernel
  have hf40 := hts (.fieldLink RX9 40 "NettleModel" "thrown" "I") (by decide +kernel)
  refine lv_aload_n hx hb dX9_sent_0 rfl (lv_at hl 0 rfl) ?_
  refine lv_iconst (v := 0) hx hb dX9_sent_1 (by decide) ?_
  refine va_put (D := G.1) (ci := 9) (v := .int 0) (ty := tyX9 0) (C := RX9) (T := TX9) (N := 11) hx hb hts hw9 tyX9 tyX9_ok nmX9 hown hE.1 hP hD hS 0 rfl rfl 0 (by decide) hf40 (fun _ h9 => h9) rfl (by decide +kernel) rfl rfl (Nat.le_of_ble_eq_true rfl) dX9_sent_2 (fun H locs hP hD hS => ?_)
  have hP : va_P G.1 vwCl [(mm, .inr (9, [.int 0, .ref nw, .ref cq, .ref hi, .int 0, .ref ko, .ref se, .int 0, .ref nf, .ref ns, .ref pi])), (se, .inl (G.2.1, 5, .inl (fun _ => 0)))] H := hP
  have hD : va_D A [(mm, .inr (9, [.int 0, .ref nw, .ref cq, .ref hi, .int 0, .ref ko, .ref se, .int 0, .ref nf, .ref ns, .ref pi])), (se, .inl (G.2.1, 5, .inl (fun _ => 0)))] := hD
  refine lv_iload_n hx hb dX9_sent_5 rfl (lv_at hl 1 rfl) ?_
  refine lv_iconst (v := 0) hx hb dX9_sent_6 (by decide) ?_
  refine lv_iconst (v := 4) hx hb dX9_sent_7 (by decide) ?_
  refine zcall (wr := [(mm, .inr (9, [.int 0, .ref nw, .ref cq, .ref hi, .int 0, .ref ko, .ref se, .int 0, .ref nf, .ref ns, .ref pi])), (se, .inl (G.2.1, 5, .inl (fun _ => 0)))]) (va_runS (As := [.int 1, .int 0, .int 4]) (rest := []) ⟨hx, hb, hml, hown, hts⟩ (z_X9_isIn l G 1 0 4 (by decide) (by decide) H.size) (va_cwS 3 hts gX9_sent_X9_isIn rfl rfl rfl (by decide +kernel) ⟨Nat.le_of_ble_eq_true rfl, Nat.le_of_ble_eq_true rfl⟩) (zPre (Wc := []) hP hD hE hS hA [] rfl (by decide)) rfl rfl hl.1 rfl (lv_room (Nat.le_of_ble_eq_true rfl)) dX9_sent_8 ⟨Nat.le_of_ble_eq_true rfl, Nat.le_of_ble_eq_true rfl⟩) hP hD hS hA [] [0, 1] rfl rfl (by decide) (by decide) (fun u1 H locs hP hD hS => ?_)
  have hP : va_P G.1 vwCl [(mm, .inr (9, [.int 0, .ref nw, .ref cq, .ref hi, .int 0, .ref ko, .ref se, .int 0, .ref nf, .ref ns, .ref pi])), (se, .inl (G.2.1, 5, .inl (fun _ => 0)))] H := hP
  have hD : va_D A [(mm, .inr (9, [.int 0, .ref nw, .ref cq, .ref hi, .int 0, .ref ko, .ref se, .int 0, .ref nf, .ref ns, .ref pi])), (se, .inl (G.2.1, 5, .inl (fun _ => 0)))] := hD
  refine W.eq (g2 := F0 m 11 ls [.int 1]) rfl ?_
  refine lv_if_eq (tgt := 22) hx hb dX9_sent_11 (by decide) (fun h9 => absurd h9 (by decide)) (fun _ => ?_)
  refine lv_aload_n hx hb dX9_sent_14 rfl (lv_at hl 0 rfl) ?_
  refine lv_iload_n hx hb dX9_sent_15 rfl (lv_at hl 1 rfl) ?_
  refine zcall (wr := []) (va_runV (As := [.int 1]) (rest := []) ⟨hx, hb, hml, hown, hts⟩ (z_X9_sentNow1 l G mm nw cq hi ko se nf ns pi 0 H.size) (cwV 1 hts gX9_sent_X9_sentNow rfl rfl rfl (by decide +kernel) ⟨Nat.le_of_ble_eq_true rfl, Nat.le_of_ble_eq_true rfl⟩) (zPreV (Wc := [(mm, .inr (9, [.int 0, .ref nw, .ref cq, .ref hi, .int 0, .ref ko, .ref se, .int 0, .ref nf, .ref ns, .ref pi])), (se, .inl (G.2.1, 5, .inl (fun _ => 0)))]) (q0 := 0) (ci := 9) (q := (RX9, TX9, 11)) hP hD hE hS hA [0, 1] rfl (by decide) rfl rfl) rfl rfl hl.1 rfl (lv_room (Nat.le_of_ble_eq_true rfl)) dX9_sent_16 ⟨Nat.le_of_ble_eq_true rfl, Nat.le_of_ble_eq_true rfl⟩) hP hD hS hA [0, 1] [] rfl rfl (by decide) (by decide) (fun u2 H locs hP hD hS => ?_)
  have hP : va_P G.1 vwCl [(mm, .inr (9, [.int 0, .ref nw, .ref cq, .ref hi, .int 0, .ref ko, .ref se, .int 0, .ref nf, .ref ns, .ref pi])), (se, .inl (G.2.1, 5, .inl (fun _ => 0)))] H := hP
  have hD : va_D A [(mm, .inr (9, [.int 0, .ref nw, .ref cq, .ref hi, .int 0, .ref ko, .ref se, .int 0, .ref nf, .ref ns, .ref pi])), (se, .inl (G.2.1, 5, .inl (fun _ => 0)))] := hD
  refine W.eq (g2 := F0 m 19 ls [.int 0]) rfl ?_
  refine lv_goto (tgt := 27) hx hb dX9_sent_19 (by decide) ?_
  exact zend_i hx hb hr hlocks (fun k => [].getD k 0) hP hD hS (Nat.le_of_ble_eq_true rfl) (Nat.le_of_ble_eq_true rfl) dX9_sent_27

set_option maxHeartbeats 4000000 in
set_option maxRecDepth 100000 in
theorem z_X9_sentNow2 (l : Launch) (G : zG) (mm : Nat) (nw : Nat) (cq : Nat) (hi : Nat) (ko : Nat) (se : Nat) (nf : Nat) (ns : Nat) (pi : Nat) (th : Int32) : zR l G yX9_sentNow wsX9_sentNow { frames := 0, cells := 0, slots := 0, locals := 0 } [(mm, .inr (9, [.int th, .ref nw, .ref cq, .ref hi, .int 0, .ref ko, .ref se, .int 0, .ref nf, .ref ns, .ref pi])), (se, .inl (G.2.1, 5, .inl (fun _ => 0)))] [.ref mm, .int 2] (some (.int 0)) (fun u => [(mm, .inr (9, [.int th, .ref nw, .ref cq, .ref hi, .int 0, .ref ko, .ref se, .int 0, .ref nf, .ref ns, .ref pi])), (se, .inl (G.2.1, 5, .inl (fun _ => 0)))]) 0 0 := by
  refine zR_of (cc := cX9_sentNow) (maxL := 2) (rt := (some .int)) (by decide) rfl (Nat.le_of_ble_eq_true rfl) ?_
  intro p e s m below meth c A ls hx hb hml hr hts hown hlocks hin hA hE hP hD hS hl
  have hl : lv_has ls 2 [(0, .ref mm), (1, .int 2)] := hl
  have hown : s.vm.findClass RX9 = some m.cls := hown
  have hP : va_P G.1 vwCl [(mm, .inr (9, [.int th, .ref nw, .ref cq, .ref hi, .int 0, .ref ko, .ref se, .int 0, .ref nf, .ref ns, .ref pi])), (se, .inl (G.2.1, 5, .inl (fun _ => 0)))] s.heap := hP
  have hw9 : ∀ w ∈ u_ws RX9 TX9 11, w ∈ wsX9_sentNow := by decide +kernel
  have hf26 := hts (.fieldLink RX9 26 "NettleModel" "sent" "[I") (by decide +kernel)
  refine lv_iload_n hx hb dX9_sentNow_0 rfl (lv_at hl 1 rfl) ?_
  refine lv_iconst (v := 3) hx hb dX9_sentNow_1 (by decide) ?_
  refine lv_icmp_ne (tgt := 12) hx hb dX9_sentNow_2 (by decide) (fun _ => ?_) (fun h9 => absurd h9 (by decide))
  refine lv_aload_n hx hb dX9_sentNow_12 rfl (lv_at hl 0 rfl) ?_
  refine va_get (D := G.1) (ci := 9) (v := .ref se) (C := RX9) (T := TX9) (N := 11) hx hb hts hw9 hown hE.1 hP 0 rfl rfl 6 (by decide) hf26 (fun _ h9 => h9) rfl dX9_sentNow_13 ?_
  refine lv_iload_n hx hb dX9_sentNow_16 rfl (lv_at hl 1 rfl) ?_
  refine va_iald hx hb hE.1 hP 1 0 rfl rfl (zin (by decide +kernel)) dX9_sentNow_17 ?_
  refine zti (v := 0) rfl ?_
  exact zend_i hx hb hr hlocks (fun k => [].getD k 0) hP hD hS (Nat.le_of_ble_eq_true rfl) (Nat.le_of_ble_eq_true rfl) dX9_sentNow_18

set_option maxHeartbeats 4000000 in
set_option maxRecDepth 100000 in
theorem z_X9_sent2 (l : Launch) (G : zG) (mm : Nat) (nw : Nat) (cq : Nat) (hi : Nat) (ko : Nat) (se : Nat) (nf : Nat) (ns : Nat) (pi : Nat) (th : Int32) : zR l G yX9_sent wsX9_sent { frames := 1, cells := 0, slots := 0, locals := 22 } [(mm, .inr (9, [.int th, .ref nw, .ref cq, .ref hi, .int 0, .ref ko, .ref se, .int 0, .ref nf, .ref ns, .ref pi])), (se, .inl (G.2.1, 5, .inl (fun _ => 0)))] [.ref mm, .int 2] (some (.int 0)) (fun u => [(mm, .inr (9, [.int 0, .ref nw, .ref cq, .ref hi, .int 0, .ref ko, .ref se, .int 0, .ref nf, .ref ns, .ref pi])), (se, .inl (G.2.1, 5, .inl (fun _ => 0)))]) 0 0 := by
  refine zR_of (cc := cX9_sent) (maxL := 2) (rt := (some .int)) (by decide) rfl (Nat.le_of_ble_eq_true rfl) ?_
  intro p e s m below meth c A ls hx hb hml hr hts hown hlocks hin hA hE hP hD hS hl
  have hl : lv_has ls 2 [(0, .ref mm), (1, .int 2)] := hl
  have hown : s.vm.findClass RX9 = some m.cls := hown
  have hP : va_P G.1 vwCl [(mm, .inr (9, [.int th, .ref nw, .ref cq, .ref hi, .int 0, .ref ko, .ref se, .int 0, .ref nf, .ref ns, .ref pi])), (se, .inl (G.2.1, 5, .inl (fun _ => 0)))] s.heap := hP
  have hw9 : ∀ w ∈ u_ws RX9 TX9 11, w ∈ wsX9_sent := by decide +kernel
  have hf40 := hts (.fieldLink RX9 40 "NettleModel" "thrown" "I") (by decide +kernel)
  refine lv_aload_n hx hb dX9_sent_0 rfl (lv_at hl 0 rfl) ?_
  refine lv_iconst (v := 0) hx hb dX9_sent_1 (by decide) ?_
  refine va_put (D := G.1) (ci := 9) (v := .int 0) (ty := tyX9 0) (C := RX9) (T := TX9) (N := 11) hx hb hts hw9 tyX9 tyX9_ok nmX9 hown hE.1 hP hD hS 0 rfl rfl 0 (by decide) hf40 (fun _ h9 => h9) rfl (by decide +kernel) rfl rfl (Nat.le_of_ble_eq_true rfl) dX9_sent_2 (fun H locs hP hD hS => ?_)
  have hP : va_P G.1 vwCl [(mm, .inr (9, [.int 0, .ref nw, .ref cq, .ref hi, .int 0, .ref ko, .ref se, .int 0, .ref nf, .ref ns, .ref pi])), (se, .inl (G.2.1, 5, .inl (fun _ => 0)))] H := hP
  have hD : va_D A [(mm, .inr (9, [.int 0, .ref nw, .ref cq, .ref hi, .int 0, .ref ko, .ref se, .int 0, .ref nf, .ref ns, .ref pi])), (se, .inl (G.2.1, 5, .inl (fun _ => 0)))] := hD
  refine lv_iload_n hx hb dX9_sent_5 rfl (lv_at hl 1 rfl) ?_
  refine lv_iconst (v := 0) hx hb dX9_sent_6 (by decide) ?_
  refine lv_iconst (v := 4) hx hb dX9_sent_7 (by decide) ?_
  refine zcall (wr := [(mm, .inr (9, [.int 0, .ref nw, .ref cq, .ref hi, .int 0, .ref ko, .ref se, .int 0, .ref nf, .ref ns, .ref pi])), (se, .inl (G.2.1, 5, .inl (fun _ => 0)))]) (va_runS (As := [.int 2, .int 0, .int 4]) (rest := []) ⟨hx, hb, hml, hown, hts⟩ (z_X9_isIn l G 2 0 4 (by decide) (by decide) H.size) (va_cwS 3 hts gX9_sent_X9_isIn rfl rfl rfl (by decide +kernel) ⟨Nat.le_of_ble_eq_true rfl, Nat.le_of_ble_eq_true rfl⟩) (zPre (Wc := []) hP hD hE hS hA [] rfl (by decide)) rfl rfl hl.1 rfl (lv_room (Nat.le_of_ble_eq_true rfl)) dX9_sent_8 ⟨Nat.le_of_ble_eq_true rfl, Nat.le_of_ble_eq_true rfl⟩) hP hD hS hA [] [0, 1] rfl rfl (by decide) (by decide) (fun u1 H locs hP hD hS => ?_)
  have hP : va_P G.1 vwCl [(mm, .inr (9, [.int 0, .ref nw, .ref cq, .ref hi, .int 0, .ref ko, .ref se, .int 0, .ref nf, .ref ns, .ref pi])), (se, .inl (G.2.1, 5, .inl (fun _ => 0)))] H := hP
  have hD : va_D A [(mm, .inr (9, [.int 0, .ref nw, .ref cq, .ref hi, .int 0, .ref ko, .ref se, .int 0, .ref nf, .ref ns, .ref pi])), (se, .inl (G.2.1, 5, .inl (fun _ => 0)))] := hD
  refine W.eq (g2 := F0 m 11 ls [.int 1]) rfl ?_
  refine lv_if_eq (tgt := 22) hx hb dX9_sent_11 (by decide) (fun h9 => absurd h9 (by decide)) (fun _ => ?_)
  refine lv_aload_n hx hb dX9_sent_14 rfl (lv_at hl 0 rfl) ?_
  refine lv_iload_n hx hb dX9_sent_15 rfl (lv_at hl 1 rfl) ?_
  refine zcall (wr := []) (va_runV (As := [.int 2]) (rest := []) ⟨hx, hb, hml, hown, hts⟩ (z_X9_sentNow2 l G mm nw cq hi ko se nf ns pi 0 H.size) (cwV 1 hts gX9_sent_X9_sentNow rfl rfl rfl (by decide +kernel) ⟨Nat.le_of_ble_eq_true rfl, Nat.le_of_ble_eq_true rfl⟩) (zPreV (Wc := [(mm, .inr (9, [.int 0, .ref nw, .ref cq, .ref hi, .int 0, .ref ko, .ref se, .int 0, .ref nf, .ref ns, .ref pi])), (se, .inl (G.2.1, 5, .inl (fun _ => 0)))]) (q0 := 0) (ci := 9) (q := (RX9, TX9, 11)) hP hD hE hS hA [0, 1] rfl (by decide) rfl rfl) rfl rfl hl.1 rfl (lv_room (Nat.le_of_ble_eq_true rfl)) dX9_sent_16 ⟨Nat.le_of_ble_eq_true rfl, Nat.le_of_ble_eq_true rfl⟩) hP hD hS hA [0, 1] [] rfl rfl (by decide) (by decide) (fun u2 H locs hP hD hS => ?_)
  have hP : va_P G.1 vwCl [(mm, .inr (9, [.int 0, .ref nw, .ref cq, .ref hi, .int 0, .ref ko, .ref se, .int 0, .ref nf, .ref ns, .ref pi])), (se, .inl (G.2.1, 5, .inl (fun _ => 0)))] H := hP
  have hD : va_D A [(mm, .inr (9, [.int 0, .ref nw, .ref cq, .ref hi, .int 0, .ref ko, .ref se, .int 0, .ref nf, .ref ns, .ref pi])), (se, .inl (G.2.1, 5, .inl (fun _ => 0)))] := hD
  refine W.eq (g2 := F0 m 19 ls [.int 0]) rfl ?_
  refine lv_goto (tgt := 27) hx hb dX9_sent_19 (by decide) ?_
  exact zend_i hx hb hr hlocks (fun k => [].getD k 0) hP hD hS (Nat.le_of_ble_eq_true rfl) (Nat.le_of_ble_eq_true rfl) dX9_sent_27

set_option maxHeartbeats 4000000 in
set_option maxRecDepth 100000 in
theorem z_X9_sentNow3 (l : Launch) (G : zG) (mm : Nat) (nw : Nat) (cq : Nat) (hi : Nat) (ko : Nat) (se : Nat) (nf : Nat) (ns : Nat) (pi : Nat) (th : Int32) : zR l G yX9_sentNow wsX9_sentNow { frames := 0, cells := 0, slots := 0, locals := 0 } [(mm, .inr (9, [.int th, .ref nw, .ref cq, .ref hi, .int 0, .ref ko, .ref se, .int 0, .ref nf, .ref ns, .ref pi])), (se, .inl (G.2.1, 5, .inl (fun _ => 0)))] [.ref mm, .int 3] (some (.int 0)) (fun u => [(mm, .inr (9, [.int th, .ref nw, .ref cq, .ref hi, .int 0, .ref ko, .ref se, .int 0, .ref nf, .ref ns, .ref pi])), (se, .inl (G.2.1, 5, .inl (fun _ => 0)))]) 0 0 := by
  refine zR_of (cc := cX9_sentNow) (maxL := 2) (rt := (some .int)) (by decide) rfl (Nat.le_of_ble_eq_true rfl) ?_
  intro p e s m below meth c A ls hx hb hml hr hts hown hlocks hin hA hE hP hD hS hl
  have hl : lv_has ls 2 [(0, .ref mm), (1, .int 3)] := hl
  have hown : s.vm.findClass RX9 = some m.cls := hown
  have hP : va_P G.1 vwCl [(mm, .inr (9, [.int th, .ref nw, .ref cq, .ref hi, .int 0, .ref ko, .ref se, .int 0, .ref nf, .ref ns, .ref pi])), (se, .inl (G.2.1, 5, .inl (fun _ => 0)))] s.heap := hP
  have hw9 : ∀ w ∈ u_ws RX9 TX9 11, w ∈ wsX9_sentNow := by decide +kernel
  have hf205 := hts (.fieldLink RX9 205 "NettleModel" "kept" "I") (by decide +kernel)
  refine lv_iload_n hx hb dX9_sentNow_0 rfl (lv_at hl 1 rfl) ?_
  refine lv_iconst (v := 3) hx hb dX9_sentNow_1 (by decide) ?_
  refine lv_icmp_ne (tgt := 12) hx hb dX9_sentNow_2 (by decide) (fun h9 => absurd (by decide) h9) (fun _ => ?_)
  refine lv_aload_n hx hb dX9_sentNow_5 rfl (lv_at hl 0 rfl) ?_
  refine va_get (D := G.1) (ci := 9) (v := .int 0) (C := RX9) (T := TX9) (N := 11) hx hb hts hw9 hown hE.1 hP 0 rfl rfl 4 (by decide) hf205 (fun _ h9 => h9) rfl dX9_sentNow_6 ?_
  refine lv_goto (tgt := 18) hx hb dX9_sentNow_9 (by decide) ?_
  exact zend_i hx hb hr hlocks (fun k => [].getD k 0) hP hD hS (Nat.le_of_ble_eq_true rfl) (Nat.le_of_ble_eq_true rfl) dX9_sentNow_18

set_option maxHeartbeats 4000000 in
set_option maxRecDepth 100000 in
theorem z_X9_sent3 (l : Launch) (G : zG) (mm : Nat) (nw : Nat) (cq : Nat) (hi : Nat) (ko : Nat) (se : Nat) (nf : Nat) (ns : Nat) (pi : Nat) (th : Int32) : zR l G yX9_sent wsX9_sent { frames := 1, cells := 0, slots := 0, locals := 22 } [(mm, .inr (9, [.int th, .ref nw, .ref cq, .ref hi, .int 0, .ref ko, .ref se, .int 0, .ref nf, .ref ns, .ref pi])), (se, .inl (G.2.1, 5, .inl (fun _ => 0)))] [.ref mm, .int 3] (some (.int 0)) (fun u => [(mm, .inr (9, [.int 0, .ref nw, .ref cq, .ref hi, .int 0, .ref ko, .ref se, .int 0, .ref nf, .ref ns, .ref pi])), (se, .inl (G.2.1, 5, .inl (fun _ => 0)))]) 0 0 := by
  refine zR_of (cc := cX9_sent) (maxL := 2) (rt := (some .int)) (by decide) rfl (Nat.le_of_ble_eq_true rfl) ?_
  intro p e s m below meth c A ls hx hb hml hr hts hown hlocks hin hA hE hP hD hS hl
  have hl : lv_has ls 2 [(0, .ref mm), (1, .int 3)] := hl
  have hown : s.vm.findClass RX9 = some m.cls := hown
  have hP : va_P G.1 vwCl [(mm, .inr (9, [.int th, .ref nw, .ref cq, .ref hi, .int 0, .ref ko, .ref se, .int 0, .ref nf, .ref ns, .ref pi])), (se, .inl (G.2.1, 5, .inl (fun _ => 0)))] s.heap := hP
  have hw9 : ∀ w ∈ u_ws RX9 TX9 11, w ∈ wsX9_sent := by decide +kernel
  have hf40 := hts (.fieldLink RX9 40 "NettleModel" "thrown" "I") (by decide +kernel)
  refine lv_aload_n hx hb dX9_sent_0 rfl (lv_at hl 0 rfl) ?_
  refine lv_iconst (v := 0) hx hb dX9_sent_1 (by decide) ?_
  refine va_put (D := G.1) (ci := 9) (v := .int 0) (ty := tyX9 0) (C := RX9) (T := TX9) (N := 11) hx hb hts hw9 tyX9 tyX9_ok nmX9 hown hE.1 hP hD hS 0 rfl rfl 0 (by decide) hf40 (fun _ h9 => h9) rfl (by decide +kernel) rfl rfl (Nat.le_of_ble_eq_true rfl) dX9_sent_2 (fun H locs hP hD hS => ?_)
  have hP : va_P G.1 vwCl [(mm, .inr (9, [.int 0, .ref nw, .ref cq, .ref hi, .int 0, .ref ko, .ref se, .int 0, .ref nf, .ref ns, .ref pi])), (se, .inl (G.2.1, 5, .inl (fun _ => 0)))] H := hP
  have hD : va_D A [(mm, .inr (9, [.int 0, .ref nw, .ref cq, .ref hi, .int 0, .ref ko, .ref se, .int 0, .ref nf, .ref ns, .ref pi])), (se, .inl (G.2.1, 5, .inl (fun _ => 0)))] := hD
  refine lv_iload_n hx hb dX9_sent_5 rfl (lv_at hl 1 rfl) ?_
  refine lv_iconst (v := 0) hx hb dX9_sent_6 (by decide) ?_
  refine lv_iconst (v := 4) hx hb dX9_sent_7 (by decide) ?_
  refine zcall (wr := [(mm, .inr (9, [.int 0, .ref nw, .ref cq, .ref hi, .int 0, .ref ko, .ref se, .int 0, .ref nf, .ref ns, .ref pi])), (se, .inl (G.2.1, 5, .inl (fun _ => 0)))]) (va_runS (As := [.int 3, .int 0, .int 4]) (rest := []) ⟨hx, hb, hml, hown, hts⟩ (z_X9_isIn l G 3 0 4 (by decide) (by decide) H.size) (va_cwS 3 hts gX9_sent_X9_isIn rfl rfl rfl (by decide +kernel) ⟨Nat.le_of_ble_eq_true rfl, Nat.le_of_ble_eq_true rfl⟩) (zPre (Wc := []) hP hD hE hS hA [] rfl (by decide)) rfl rfl hl.1 rfl (lv_room (Nat.le_of_ble_eq_true rfl)) dX9_sent_8 ⟨Nat.le_of_ble_eq_true rfl, Nat.le_of_ble_eq_true rfl⟩) hP hD hS hA [] [0, 1] rfl rfl (by decide) (by decide) (fun u1 H locs hP hD hS => ?_)
  have hP : va_P G.1 vwCl [(mm, .inr (9, [.int 0, .ref nw, .ref cq, .ref hi, .int 0, .ref ko, .ref se, .int 0, .ref nf, .ref ns, .ref pi])), (se, .inl (G.2.1, 5, .inl (fun _ => 0)))] H := hP
  have hD : va_D A [(mm, .inr (9, [.int 0, .ref nw, .ref cq, .ref hi, .int 0, .ref ko, .ref se, .int 0, .ref nf, .ref ns, .ref pi])), (se, .inl (G.2.1, 5, .inl (fun _ => 0)))] := hD
  refine W.eq (g2 := F0 m 11 ls [.int 1]) rfl ?_
  refine lv_if_eq (tgt := 22) hx hb dX9_sent_11 (by decide) (fun h9 => absurd h9 (by decide)) (fun _ => ?_)
  refine lv_aload_n hx hb dX9_sent_14 rfl (lv_at hl 0 rfl) ?_
  refine lv_iload_n hx hb dX9_sent_15 rfl (lv_at hl 1 rfl) ?_
  refine zcall (wr := []) (va_runV (As := [.int 3]) (rest := []) ⟨hx, hb, hml, hown, hts⟩ (z_X9_sentNow3 l G mm nw cq hi ko se nf ns pi 0 H.size) (cwV 1 hts gX9_sent_X9_sentNow rfl rfl rfl (by decide +kernel) ⟨Nat.le_of_ble_eq_true rfl, Nat.le_of_ble_eq_true rfl⟩) (zPreV (Wc := [(mm, .inr (9, [.int 0, .ref nw, .ref cq, .ref hi, .int 0, .ref ko, .ref se, .int 0, .ref nf, .ref ns, .ref pi])), (se, .inl (G.2.1, 5, .inl (fun _ => 0)))]) (q0 := 0) (ci := 9) (q := (RX9, TX9, 11)) hP hD hE hS hA [0, 1] rfl (by decide) rfl rfl) rfl rfl hl.1 rfl (lv_room (Nat.le_of_ble_eq_true rfl)) dX9_sent_16 ⟨Nat.le_of_ble_eq_true rfl, Nat.le_of_ble_eq_true rfl⟩) hP hD hS hA [0, 1] [] rfl rfl (by decide) (by decide) (fun u2 H locs hP hD hS => ?_)
  have hP : va_P G.1 vwCl [(mm, .inr (9, [.int 0, .ref nw, .ref cq, .ref hi, .int 0, .ref ko, .ref se, .int 0, .ref nf, .ref ns, .ref pi])), (se, .inl (G.2.1, 5, .inl (fun _ => 0)))] H := hP
  have hD : va_D A [(mm, .inr (9, [.int 0, .ref nw, .ref cq, .ref hi, .int 0, .ref ko, .ref se, .int 0, .ref nf, .ref ns, .ref pi])), (se, .inl (G.2.1, 5, .inl (fun _ => 0)))] := hD
  refine W.eq (g2 := F0 m 19 ls [.int 0]) rfl ?_
  refine lv_goto (tgt := 27) hx hb dX9_sent_19 (by decide) ?_
  exact zend_i hx hb hr hlocks (fun k => [].getD k 0) hP hD hS (Nat.le_of_ble_eq_true rfl) (Nat.le_of_ble_eq_true rfl) dX9_sent_27

set_option maxHeartbeats 4000000 in
set_option maxRecDepth 100000 in
theorem z_X9_sentNow4 (l : Launch) (G : zG) (mm : Nat) (nw : Nat) (cq : Nat) (hi : Nat) (ko : Nat) (se : Nat) (nf : Nat) (ns : Nat) (pi : Nat) (th : Int32) : zR l G yX9_sentNow wsX9_sentNow { frames := 0, cells := 0, slots := 0, locals := 0 } [(mm, .inr (9, [.int th, .ref nw, .ref cq, .ref hi, .int 0, .ref ko, .ref se, .int 0, .ref nf, .ref ns, .ref pi])), (se, .inl (G.2.1, 5, .inl (fun _ => 0)))] [.ref mm, .int 4] (some (.int 0)) (fun u => [(mm, .inr (9, [.int th, .ref nw, .ref cq, .ref hi, .int 0, .ref ko, .ref se, .int 0, .ref nf, .ref ns, .ref pi])), (se, .inl (G.2.1, 5, .inl (fun _ => 0)))]) 0 0 := by
  refine zR_of (cc := cX9_sentNow) (maxL := 2) (rt := (some .int)) (by decide) rfl (Nat.le_of_ble_eq_true rfl) ?_
  intro p e s m below meth c A ls hx hb hml hr hts hown hlocks hin hA hE hP hD hS hl
  have hl : lv_has ls 2 [(0, .ref mm), (1, .int 4)] := hl
  have hown : s.vm.findClass RX9 = some m.cls := hown
  have hP : va_P G.1 vwCl [(mm, .inr (9, [.int th, .ref nw, .ref cq, .ref hi, .int 0, .ref ko, .ref se, .int 0, .ref nf, .ref ns, .ref pi])), (se, .inl (G.2.1, 5, .inl (fun _ => 0)))] s.heap := hP
  have hw9 : ∀ w ∈ u_ws RX9 TX9 11, w ∈ wsX9_sentNow := by decide +kernel
  have hf26 := hts (.fieldLink RX9 26 "NettleModel" "sent" "[I") (by decide +kernel)
  refine lv_iload_n hx hb dX9_sentNow_0 rfl (lv_at hl 1 rfl) ?_
  refine lv_iconst (v := 3) hx hb dX9_sentNow_1 (by decide) ?_
  refine lv_icmp_ne (tgt := 12) hx hb dX9_sentNow_2 (by decide) (fun _ => ?_) (fun h9 => absurd h9 (by decide))
  refine lv_aload_n hx hb dX9_sentNow_12 rfl (lv_at hl 0 rfl) ?_
  refine va_get (D := G.1) (ci := 9) (v := .ref se) (C := RX9) (T := TX9) (N := 11) hx hb hts hw9 hown hE.1 hP 0 rfl rfl 6 (by decide) hf26 (fun _ h9 => h9) rfl dX9_sentNow_13 ?_
  refine lv_iload_n hx hb dX9_sentNow_16 rfl (lv_at hl 1 rfl) ?_
  refine va_iald hx hb hE.1 hP 1 0 rfl rfl (zin (by decide +kernel)) dX9_sentNow_17 ?_
  refine zti (v := 0) rfl ?_
  exact zend_i hx hb hr hlocks (fun k => [].getD k 0) hP hD hS (Nat.le_of_ble_eq_true rfl) (Nat.le_of_ble_eq_true rfl) dX9_sentNow_18

set_option maxHeartbeats 4000000 in
set_option maxRecDepth 100000 in
theorem z_X9_sent4 (l : Launch) (G : zG) (mm : Nat) (nw : Nat) (cq : Nat) (hi : Nat) (ko : Nat) (se : Nat) (nf : Nat) (ns : Nat) (pi : Nat) (th : Int32) : zR l G yX9_sent wsX9_sent { frames := 1, cells := 0, slots := 0, locals := 22 } [(mm, .inr (9, [.int th, .ref nw, .ref cq, .ref hi, .int 0, .ref ko, .ref se, .int 0, .ref nf, .ref ns, .ref pi])), (se, .inl (G.2.1, 5, .inl (fun _ => 0)))] [.ref mm, .int 4] (some (.int 0)) (fun u => [(mm, .inr (9, [.int 0, .ref nw, .ref cq, .ref hi, .int 0, .ref ko, .ref se, .int 0, .ref nf, .ref ns, .ref pi])), (se, .inl (G.2.1, 5, .inl (fun _ => 0)))]) 0 0 := by
  refine zR_of (cc := cX9_sent) (maxL := 2) (rt := (some .int)) (by decide) rfl (Nat.le_of_ble_eq_true rfl) ?_
  intro p e s m below meth c A ls hx hb hml hr hts hown hlocks hin hA hE hP hD hS hl
  have hl : lv_has ls 2 [(0, .ref mm), (1, .int 4)] := hl
  have hown : s.vm.findClass RX9 = some m.cls := hown
  have hP : va_P G.1 vwCl [(mm, .inr (9, [.int th, .ref nw, .ref cq, .ref hi, .int 0, .ref ko, .ref se, .int 0, .ref nf, .ref ns, .ref pi])), (se, .inl (G.2.1, 5, .inl (fun _ => 0)))] s.heap := hP
  have hw9 : ∀ w ∈ u_ws RX9 TX9 11, w ∈ wsX9_sent := by decide +kernel
  have hf40 := hts (.fieldLink RX9 40 "NettleModel" "thrown" "I") (by decide +kernel)
  refine lv_aload_n hx hb dX9_sent_0 rfl (lv_at hl 0 rfl) ?_
  refine lv_iconst (v := 0) hx hb dX9_sent_1 (by decide) ?_
  refine va_put (D := G.1) (ci := 9) (v := .int 0) (ty := tyX9 0) (C := RX9) (T := TX9) (N := 11) hx hb hts hw9 tyX9 tyX9_ok nmX9 hown hE.1 hP hD hS 0 rfl rfl 0 (by decide) hf40 (fun _ h9 => h9) rfl (by decide +kernel) rfl rfl (Nat.le_of_ble_eq_true rfl) dX9_sent_2 (fun H locs hP hD hS => ?_)
  have hP : va_P G.1 vwCl [(mm, .inr (9, [.int 0, .ref nw, .ref cq, .ref hi, .int 0, .ref ko, .ref se, .int 0, .ref nf, .ref ns, .ref pi])), (se, .inl (G.2.1, 5, .inl (fun _ => 0)))] H := hP
  have hD : va_D A [(mm, .inr (9, [.int 0, .ref nw, .ref cq, .ref hi, .int 0, .ref ko, .ref se, .int 0, .ref nf, .ref ns, .ref pi])), (se, .inl (G.2.1, 5, .inl (fun _ => 0)))] := hD
  refine lv_iload_n hx hb dX9_sent_5 rfl (lv_at hl 1 rfl) ?_
  refine lv_iconst (v := 0) hx hb dX9_sent_6 (by decide) ?_
  refine lv_iconst (v := 4) hx hb dX9_sent_7 (by decide) ?_
  refine zcall (wr := [(mm, .inr (9, [.int 0, .ref nw, .ref cq, .ref hi, .int 0, .ref ko, .ref se, .int 0, .ref nf, .ref ns, .ref pi])), (se, .inl (G.2.1, 5, .inl (fun _ => 0)))]) (va_runS (As := [.int 4, .int 0, .int 4]) (rest := []) ⟨hx, hb, hml, hown, hts⟩ (z_X9_isIn l G 4 0 4 (by decide) (by decide) H.size) (va_cwS 3 hts gX9_sent_X9_isIn rfl rfl rfl (by decide +kernel) ⟨Nat.le_of_ble_eq_true rfl, Nat.le_of_ble_eq_true rfl⟩) (zPre (Wc := []) hP hD hE hS hA [] rfl (by decide)) rfl rfl hl.1 rfl (lv_room (Nat.le_of_ble_eq_true rfl)) dX9_sent_8 ⟨Nat.le_of_ble_eq_true rfl, Nat.le_of_ble_eq_true rfl⟩) hP hD hS hA [] [0, 1] rfl rfl (by decide) (by decide) (fun u1 H locs hP hD hS => ?_)
  have hP : va_P G.1 vwCl [(mm, .inr (9, [.int 0, .ref nw, .ref cq, .ref hi, .int 0, .ref ko, .ref se, .int 0, .ref nf, .ref ns, .ref pi])), (se, .inl (G.2.1, 5, .inl (fun _ => 0)))] H := hP
  have hD : va_D A [(mm, .inr (9, [.int 0, .ref nw, .ref cq, .ref hi, .int 0, .ref ko, .ref se, .int 0, .ref nf, .ref ns, .ref pi])), (se, .inl (G.2.1, 5, .inl (fun _ => 0)))] := hD
  refine W.eq (g2 := F0 m 11 ls [.int 1]) rfl ?_
  refine lv_if_eq (tgt := 22) hx hb dX9_sent_11 (by decide) (fun h9 => absurd h9 (by decide)) (fun _ => ?_)
  refine lv_aload_n hx hb dX9_sent_14 rfl (lv_at hl 0 rfl) ?_
  refine lv_iload_n hx hb dX9_sent_15 rfl (lv_at hl 1 rfl) ?_
  refine zcall (wr := []) (va_runV (As := [.int 4]) (rest := []) ⟨hx, hb, hml, hown, hts⟩ (z_X9_sentNow4 l G mm nw cq hi ko se nf ns pi 0 H.size) (cwV 1 hts gX9_sent_X9_sentNow rfl rfl rfl (by decide +kernel) ⟨Nat.le_of_ble_eq_true rfl, Nat.le_of_ble_eq_true rfl⟩) (zPreV (Wc := [(mm, .inr (9, [.int 0, .ref nw, .ref cq, .ref hi, .int 0, .ref ko, .ref se, .int 0, .ref nf, .ref ns, .ref pi])), (se, .inl (G.2.1, 5, .inl (fun _ => 0)))]) (q0 := 0) (ci := 9) (q := (RX9, TX9, 11)) hP hD hE hS hA [0, 1] rfl (by decide) rfl rfl) rfl rfl hl.1 rfl (lv_room (Nat.le_of_ble_eq_true rfl)) dX9_sent_16 ⟨Nat.le_of_ble_eq_true rfl, Nat.le_of_ble_eq_true rfl⟩) hP hD hS hA [0, 1] [] rfl rfl (by decide) (by decide) (fun u2 H locs hP hD hS => ?_)
  have hP : va_P G.1 vwCl [(mm, .inr (9, [.int 0, .ref nw, .ref cq, .ref hi, .int 0, .ref ko, .ref se, .int 0, .ref nf, .ref ns, .ref pi])), (se, .inl (G.2.1, 5, .inl (fun _ => 0)))] H := hP
  have hD : va_D A [(mm, .inr (9, [.int 0, .ref nw, .ref cq, .ref hi, .int 0, .ref ko, .ref se, .int 0, .ref nf, .ref ns, .ref pi])), (se, .inl (G.2.1, 5, .inl (fun _ => 0)))] := hD
  refine W.eq (g2 := F0 m 19 ls [.int 0]) rfl ?_
  refine lv_goto (tgt := 27) hx hb dX9_sent_19 (by decide) ?_
  exact zend_i hx hb hr hlocks (fun k => [].getD k 0) hP hD hS (Nat.le_of_ble_eq_true rfl) (Nat.le_of_ble_eq_true rfl) dX9_sent_27

set_option maxHeartbeats 4000000 in
set_option maxRecDepth 100000 in
theorem z_X9_sentT (l : Launch) (G : zG) (mm : Nat) (nw : Nat) (cq : Nat) (hi : Nat) (ko : Nat) (se : Nat) (nf : Nat) (ns : Nat) (pi : Nat) (th : Int32) (p0 : Int32) (hv : p0 < 0 ∨ (¬ p0 < 0 ∧ 4 < p0)) : zR l G yX9_sent wsX9_sent { frames := 1, cells := 0, slots := 0, locals := 22 } [(mm, .inr (9, [.int th, .ref nw, .ref cq, .ref hi, .int 0, .ref ko, .ref se, .int 0, .ref nf, .ref ns, .ref pi]))] [.ref mm, .int p0] (some (.int 0)) (fun u => [(mm, .inr (9, [.int 1, .ref nw, .ref cq, .ref hi, .int 0, .ref ko, .ref se, .int 0, .ref nf, .ref ns, .ref pi]))]) 0 0 := by
  refine zR_of (cc := cX9_sent) (maxL := 2) (rt := (some .int)) (by decide) rfl (Nat.le_of_ble_eq_true rfl) ?_
  intro p e s m below meth c A ls hx hb hml hr hts hown hlocks hin hA hE hP hD hS hl
  have hl : lv_has ls 2 [(0, .ref mm), (1, .int p0)] := hl
  have hown : s.vm.findClass RX9 = some m.cls := hown
  have hP : va_P G.1 vwCl [(mm, .inr (9, [.int th, .ref nw, .ref cq, .ref hi, .int 0, .ref ko, .ref se, .int 0, .ref nf, .ref ns, .ref pi]))] s.heap := hP
  have hw9 : ∀ w ∈ u_ws RX9 TX9 11, w ∈ wsX9_sent := by decide +kernel
  have hf40 := hts (.fieldLink RX9 40 "NettleModel" "thrown" "I") (by decide +kernel)
  rcases hv with h1 | ⟨h1, h2⟩
  · refine lv_aload_n hx hb dX9_sent_0 rfl (lv_at hl 0 rfl) ?_
    refine lv_iconst (v := 0) hx hb dX9_sent_1 (by decide) ?_
    refine va_put (D := G.1) (ci := 9) (v := .int 0) (ty := tyX9 0) (C := RX9) (T := TX9) (N := 11) hx hb hts hw9 tyX9 tyX9_ok nmX9 hown hE.1 hP hD hS 0 rfl rfl 0 (by decide) hf40 (fun _ h9 => h9) rfl (by decide +kernel) rfl rfl (Nat.le_of_ble_eq_true rfl) dX9_sent_2 (fun H locs hP hD hS => ?_)
    have hP : va_P G.1 vwCl [(mm, .inr (9, [.int 0, .ref nw, .ref cq, .ref hi, .int 0, .ref ko, .ref se, .int 0, .ref nf, .ref ns, .ref pi]))] H := hP
    have hD : va_D A [(mm, .inr (9, [.int 0, .ref nw, .ref cq, .ref hi, .int 0, .ref ko, .ref se, .int 0, .ref nf, .ref ns, .ref pi]))] := hD
    refine lv_iload_n hx hb dX9_sent_5 rfl (lv_at hl 1 rfl) ?_
    refine lv_iconst (v := 0) hx hb dX9_sent_6 (by decide) ?_
    refine lv_iconst (v := 4) hx hb dX9_sent_7 (by decide) ?_
    refine zcall (wr := [(mm, .inr (9, [.int 0, .ref nw, .ref cq, .ref hi, .int 0, .ref ko, .ref se, .int 0, .ref nf, .ref ns, .ref pi]))]) (va_runS (As := [.int p0, .int 0, .int 4]) (rest := []) ⟨hx, hb, hml, hown, hts⟩ (z_X9_isInL l G p0 0 4 h1 H.size) (va_cwS 3 hts gX9_sent_X9_isIn rfl rfl rfl (by decide +kernel) ⟨Nat.le_of_ble_eq_true rfl, Nat.le_of_ble_eq_true rfl⟩) (zPre (Wc := []) hP hD hE hS hA [] rfl (by decide)) rfl rfl hl.1 rfl (lv_room (Nat.le_of_ble_eq_true rfl)) dX9_sent_8 ⟨Nat.le_of_ble_eq_true rfl, Nat.le_of_ble_eq_true rfl⟩) hP hD hS hA [] [0] rfl rfl (by decide) (by decide) (fun u1 H locs hP hD hS => ?_)
    have hP : va_P G.1 vwCl [(mm, .inr (9, [.int 0, .ref nw, .ref cq, .ref hi, .int 0, .ref ko, .ref se, .int 0, .ref nf, .ref ns, .ref pi]))] H := hP
    have hD : va_D A [(mm, .inr (9, [.int 0, .ref nw, .ref cq, .ref hi, .int 0, .ref ko, .ref se, .int 0, .ref nf, .ref ns, .ref pi]))] := hD
    refine W.eq (g2 := F0 m 11 ls [.int 0]) rfl ?_
    refine lv_if_eq (tgt := 22) hx hb dX9_sent_11 (by decide) (fun _ => ?_) (fun h9 => absurd (by decide) h9)
    refine lv_aload_n hx hb dX9_sent_22 rfl (lv_at hl 0 rfl) ?_
    refine lv_iconst (v := 1) hx hb dX9_sent_23 (by decide) ?_
    refine zcall (wr := []) (va_runV (As := [.int 1]) (rest := []) ⟨hx, hb, hml, hown, hts⟩ (z_X9_no l G mm nw cq hi ko se nf ns pi 0 1 H.size) (cwV 1 hts gX9_sent_X9_no rfl rfl rfl (by decide +kernel) ⟨Nat.le_of_ble_eq_true rfl, Nat.le_of_ble_eq_true rfl⟩) (zPreV (Wc := [(mm, .inr (9, [.int 0, .ref nw, .ref cq, .ref hi, .int 0, .ref ko, .ref se, .int 0, .ref nf, .ref ns, .ref pi]))]) (q0 := 0) (ci := 9) (q := (RX9, TX9, 11)) hP hD hE hS hA [0] rfl (by decide) rfl rfl) rfl rfl hl.1 rfl (lv_room (Nat.le_of_ble_eq_true rfl)) dX9_sent_24 ⟨Nat.le_of_ble_eq_true rfl, Nat.le_of_ble_eq_true rfl⟩) hP hD hS hA [0] [] rfl rfl (by decide) (by decide) (fun u2 H locs hP hD hS => ?_)
    have hP : va_P G.1 vwCl [(mm, .inr (9, [.int 1, .ref nw, .ref cq, .ref hi, .int 0, .ref ko, .ref se, .int 0, .ref nf, .ref ns, .ref pi]))] H := hP
    have hD : va_D A [(mm, .inr (9, [.int 1, .ref nw, .ref cq, .ref hi, .int 0, .ref ko, .ref se, .int 0, .ref nf, .ref ns, .ref pi]))] := hD
    refine W.eq (g2 := F0 m 27 ls [.int 0]) rfl ?_
    exact zend_i hx hb hr hlocks (fun k => [].getD k 0) hP hD hS (Nat.le_of_ble_eq_true rfl) (Nat.le_of_ble_eq_true rfl) dX9_sent_27
  · refine lv_aload_n hx hb dX9_sent_0 rfl (lv_at hl 0 rfl) ?_
    refine lv_iconst (v := 0) hx hb dX9_sent_1 (by decide) ?_
    refine va_put (D := G.1) (ci := 9) (v := .int 0) (ty := tyX9 0) (C := RX9) (T := TX9) (N := 11) hx hb hts hw9 tyX9 tyX9_ok nmX9 hown hE.1 hP hD hS 0 rfl rfl 0 (by decide) hf40 (fun _ h9 => h9) rfl (by decide +kernel) rfl rfl (Nat.le_of_ble_eq_true rfl) dX9_sent_2 (fun H locs hP hD hS => ?_)
    have hP : va_P G.1 vwCl [(mm, .inr (9, [.int 0, .ref nw, .ref cq, .ref hi, .int 0, .ref ko, .ref se, .int 0, .ref nf, .ref ns, .ref pi]))] H := hP
    have hD : va_D A [(mm, .inr (9, [.int 0, .ref nw, .ref cq, .ref hi, .int 0, .ref ko, .ref se, .int 0, .ref nf, .ref ns, .ref pi]))] := hD
    refine lv_iload_n hx hb dX9_sent_5 rfl (lv_at hl 1 rfl) ?_
    refine lv_iconst (v := 0) hx hb dX9_sent_6 (by decide) ?_
    refine lv_iconst (v := 4) hx hb dX9_sent_7 (by decide) ?_
    refine zcall (wr := [(mm, .inr (9, [.int 0, .ref nw, .ref cq, .ref hi, .int 0, .ref ko, .ref se, .int 0, .ref nf, .ref ns, .ref pi]))]) (va_runS (As := [.int p0, .int 0, .int 4]) (rest := []) ⟨hx, hb, hml, hown, hts⟩ (z_X9_isInH l G p0 0 4 h1 h2 H.size) (va_cwS 3 hts gX9_sent_X9_isIn rfl rfl rfl (by decide +kernel) ⟨Nat.le_of_ble_eq_true rfl, Nat.le_of_ble_eq_true rfl⟩) (zPre (Wc := []) hP hD hE hS hA [] rfl (by decide)) rfl rfl hl.1 rfl (lv_room (Nat.le_of_ble_eq_true rfl)) dX9_sent_8 ⟨Nat.le_of_ble_eq_true rfl, Nat.le_of_ble_eq_true rfl⟩) hP hD hS hA [] [0] rfl rfl (by decide) (by decide) (fun u1 H locs hP hD hS => ?_)
    have hP : va_P G.1 vwCl [(mm, .inr (9, [.int 0, .ref nw, .ref cq, .ref hi, .int 0, .ref ko, .ref se, .int 0, .ref nf, .ref ns, .ref pi]))] H := hP
    have hD : va_D A [(mm, .inr (9, [.int 0, .ref nw, .ref cq, .ref hi, .int 0, .ref ko, .ref se, .int 0, .ref nf, .ref ns, .ref pi]))] := hD
    refine W.eq (g2 := F0 m 11 ls [.int 0]) rfl ?_
    refine lv_if_eq (tgt := 22) hx hb dX9_sent_11 (by decide) (fun _ => ?_) (fun h9 => absurd (by decide) h9)
    refine lv_aload_n hx hb dX9_sent_22 rfl (lv_at hl 0 rfl) ?_
    refine lv_iconst (v := 1) hx hb dX9_sent_23 (by decide) ?_
    refine zcall (wr := []) (va_runV (As := [.int 1]) (rest := []) ⟨hx, hb, hml, hown, hts⟩ (z_X9_no l G mm nw cq hi ko se nf ns pi 0 1 H.size) (cwV 1 hts gX9_sent_X9_no rfl rfl rfl (by decide +kernel) ⟨Nat.le_of_ble_eq_true rfl, Nat.le_of_ble_eq_true rfl⟩) (zPreV (Wc := [(mm, .inr (9, [.int 0, .ref nw, .ref cq, .ref hi, .int 0, .ref ko, .ref se, .int 0, .ref nf, .ref ns, .ref pi]))]) (q0 := 0) (ci := 9) (q := (RX9, TX9, 11)) hP hD hE hS hA [0] rfl (by decide) rfl rfl) rfl rfl hl.1 rfl (lv_room (Nat.le_of_ble_eq_true rfl)) dX9_sent_24 ⟨Nat.le_of_ble_eq_true rfl, Nat.le_of_ble_eq_true rfl⟩) hP hD hS hA [0] [] rfl rfl (by decide) (by decide) (fun u2 H locs hP hD hS => ?_)
    have hP : va_P G.1 vwCl [(mm, .inr (9, [.int 1, .ref nw, .ref cq, .ref hi, .int 0, .ref ko, .ref se, .int 0, .ref nf, .ref ns, .ref pi]))] H := hP
    have hD : va_D A [(mm, .inr (9, [.int 1, .ref nw, .ref cq, .ref hi, .int 0, .ref ko, .ref se, .int 0, .ref nf, .ref ns, .ref pi]))] := hD
    refine W.eq (g2 := F0 m 27 ls [.int 0]) rfl ?_
    exact zend_i hx hb hr hlocks (fun k => [].getD k 0) hP hD hS (Nat.le_of_ble_eq_true rfl) (Nat.le_of_ble_eq_true rfl) dX9_sent_27

set_option maxHeartbeats 4000000 in
set_option maxRecDepth 100000 in
theorem z_X9_kept (l : Launch) (G : zG) (mm : Nat) (nw : Nat) (cq : Nat) (hi : Nat) (ko : Nat) (se : Nat) (nf : Nat) (ns : Nat) (pi : Nat) (th : Int32) (p0 : Int32) (p1 : Int32) : zR l G yX9_kept wsX9_kept { frames := 1, cells := 0, slots := 0, locals := 22 } [(mm, .inr (9, [.int th, .ref nw, .ref cq, .ref hi, .int 0, .ref ko, .ref se, .int 0, .ref nf, .ref ns, .ref pi]))] [.ref mm, .int p0, .int p1] (some (.int 0)) (fun u => [(mm, .inr (9, [.int 1, .ref nw, .ref cq, .ref hi, .int 0, .ref ko, .ref se, .int 0, .ref nf, .ref ns, .ref pi]))]) 0 0 := by
  refine zR_of (cc := cX9_kept) (maxL := 3) (rt := (some .int)) (by decide) rfl (Nat.le_of_ble_eq_true rfl) ?_
  intro p e s m below meth c A ls hx hb hml hr hts hown hlocks hin hA hE hP hD hS hl
  have hl : lv_has ls 3 [(0, .ref mm), (1, .int p0), (2, .int p1)] := hl
  have hown : s.vm.findClass RX9 = some m.cls := hown
  have hP : va_P G.1 vwCl [(mm, .inr (9, [.int th, .ref nw, .ref cq, .ref hi, .int 0, .ref ko, .ref se, .int 0, .ref nf, .ref ns, .ref pi]))] s.heap := hP
  have hw9 : ∀ w ∈ u_ws RX9 TX9 11, w ∈ wsX9_kept := by decide +kernel
  have hf40 := hts (.fieldLink RX9 40 "NettleModel" "thrown" "I") (by decide +kernel)
  have hf205 := hts (.fieldLink RX9 205 "NettleModel" "kept" "I") (by decide +kernel)
  by_cases h1 : p0 < 0
  · refine lv_aload_n hx hb dX9_kept_0 rfl (lv_at hl 0 rfl) ?_
    refine lv_iconst (v := 0) hx hb dX9_kept_1 (by decide) ?_
    refine va_put (D := G.1) (ci := 9) (v := .int 0) (ty := tyX9 0) (C := RX9) (T := TX9) (N := 11) hx hb hts hw9 tyX9 tyX9_ok nmX9 hown hE.1 hP hD hS 0 rfl rfl 0 (by decide) hf40 (fun _ h9 => h9) rfl (by decide +kernel) rfl rfl (Nat.le_of_ble_eq_true rfl) dX9_kept_2 (fun H locs hP hD hS => ?_)
    have hP : va_P G.1 vwCl [(mm, .inr (9, [.int 0, .ref nw, .ref cq, .ref hi, .int 0, .ref ko, .ref se, .int 0, .ref nf, .ref ns, .ref pi]))] H := hP
    have hD : va_D A [(mm, .inr (9, [.int 0, .ref nw, .ref cq, .ref hi, .int 0, .ref ko, .ref se, .int 0, .ref nf, .ref ns, .ref pi]))] := hD
    refine lv_iload_n hx hb dX9_kept_5 rfl (lv_at hl 1 rfl) ?_
    refine lv_iconst (v := 0) hx hb dX9_kept_6 (by decide) ?_
    refine lv_aload_n hx hb dX9_kept_7 rfl (lv_at hl 0 rfl) ?_
    refine va_get (D := G.1) (ci := 9) (v := .int 0) (C := RX9) (T := TX9) (N := 11) hx hb hts hw9 hown hE.1 hP 0 rfl rfl 4 (by decide) hf205 (fun _ h9 => h9) rfl dX9_kept_8 ?_
    refine lv_iconst (v := 1) hx hb dX9_kept_11 (by decide) ?_
    refine lv_isub hx hb dX9_kept_12 ?_
    refine zti (v := (-1)) (by decide) ?_
    refine zcall (wr := [(mm, .inr (9, [.int 0, .ref nw, .ref cq, .ref hi, .int 0, .ref ko, .ref se, .int 0, .ref nf, .ref ns, .ref pi]))]) (va_runS (As := [.int p0, .int 0, .int (-1)]) (rest := []) ⟨hx, hb, hml, hown, hts⟩ (z_X9_isInL l G p0 0 (-1) h1 H.size) (va_cwS 3 hts gX9_kept_X9_isIn rfl rfl rfl (by decide +kernel) ⟨Nat.le_of_ble_eq_true rfl, Nat.le_of_ble_eq_true rfl⟩) (zPre (Wc := []) hP hD hE hS hA [] rfl (by decide)) rfl rfl hl.1 rfl (lv_room (Nat.le_of_ble_eq_true rfl)) dX9_kept_13 ⟨Nat.le_of_ble_eq_true rfl, Nat.le_of_ble_eq_true rfl⟩) hP hD hS hA [] [0] rfl rfl (by decide) (by decide) (fun u1 H locs hP hD hS => ?_)
    have hP : va_P G.1 vwCl [(mm, .inr (9, [.int 0, .ref nw, .ref cq, .ref hi, .int 0, .ref ko, .ref se, .int 0, .ref nf, .ref ns, .ref pi]))] H := hP
    have hD : va_D A [(mm, .inr (9, [.int 0, .ref nw, .ref cq, .ref hi, .int 0, .ref ko, .ref se, .int 0, .ref nf, .ref ns, .ref pi]))] := hD
    refine W.eq (g2 := F0 m 16 ls [.int 0]) rfl ?_
    refine lv_if_ne (tgt := 25) hx hb dX9_kept_16 (by decide) (fun h9 => absurd (by decide) h9) (fun _ => ?_)
    refine lv_aload_n hx hb dX9_kept_19 rfl (lv_at hl 0 rfl) ?_
    refine lv_iconst (v := 1) hx hb dX9_kept_20 (by decide) ?_
    refine zcall (wr := []) (va_runV (As := [.int 1]) (rest := []) ⟨hx, hb, hml, hown, hts⟩ (z_X9_no l G mm nw cq hi ko se nf ns pi 0 1 H.size) (cwV 1 hts gX9_kept_X9_no rfl rfl rfl (by decide +kernel) ⟨Nat.le_of_ble_eq_true rfl, Nat.le_of_ble_eq_true rfl⟩) (zPreV (Wc := [(mm, .inr (9, [.int 0, .ref nw, .ref cq, .ref hi, .int 0, .ref ko, .ref se, .int 0, .ref nf, .ref ns, .ref pi]))]) (q0 := 0) (ci := 9) (q := (RX9, TX9, 11)) hP hD hE hS hA [0] rfl (by decide) rfl rfl) rfl rfl hl.1 rfl (lv_room (Nat.le_of_ble_eq_true rfl)) dX9_kept_21 ⟨Nat.le_of_ble_eq_true rfl, Nat.le_of_ble_eq_true rfl⟩) hP hD hS hA [0] [] rfl rfl (by decide) (by decide) (fun u2 H locs hP hD hS => ?_)
    have hP : va_P G.1 vwCl [(mm, .inr (9, [.int 1, .ref nw, .ref cq, .ref hi, .int 0, .ref ko, .ref se, .int 0, .ref nf, .ref ns, .ref pi]))] H := hP
    have hD : va_D A [(mm, .inr (9, [.int 1, .ref nw, .ref cq, .ref hi, .int 0, .ref ko, .ref se, .int 0, .ref nf, .ref ns, .ref pi]))] := hD
    refine W.eq (g2 := F0 m 24 ls [.int 0]) rfl ?_
    exact zend_i hx hb hr hlocks (fun k => [].getD k 0) hP hD hS (Nat.le_of_ble_eq_true rfl) (Nat.le_of_ble_eq_true rfl) dX9_kept_24
  · refine lv_aload_n hx hb dX9_kept_0 rfl (lv_at hl 0 rfl) ?_
    refine lv_iconst (v := 0) hx hb dX9_kept_1 (by decide) ?_
    refine va_put (D := G.1) (ci := 9) (v := .int 0) (ty := tyX9 0) (C := RX9) (T := TX9) (N := 11) hx hb hts hw9 tyX9 tyX9_ok nmX9 hown hE.1 hP hD hS 0 rfl rfl 0 (by decide) hf40 (fun _ h9 => h9) rfl (by decide +kernel) rfl rfl (Nat.le_of_ble_eq_true rfl) dX9_kept_2 (fun H locs hP hD hS => ?_)
    have hP : va_P G.1 vwCl [(mm, .inr (9, [.int 0, .ref nw, .ref cq, .ref hi, .int 0, .ref ko, .ref se, .int 0, .ref nf, .ref ns, .ref pi]))] H := hP
    have hD : va_D A [(mm, .inr (9, [.int 0, .ref nw, .ref cq, .ref hi, .int 0, .ref ko, .ref se, .int 0, .ref nf, .ref ns, .ref pi]))] := hD
    refine lv_iload_n hx hb dX9_kept_5 rfl (lv_at hl 1 rfl) ?_
    refine lv_iconst (v := 0) hx hb dX9_kept_6 (by decide) ?_
    refine lv_aload_n hx hb dX9_kept_7 rfl (lv_at hl 0 rfl) ?_
    refine va_get (D := G.1) (ci := 9) (v := .int 0) (C := RX9) (T := TX9) (N := 11) hx hb hts hw9 hown hE.1 hP 0 rfl rfl 4 (by decide) hf205 (fun _ h9 => h9) rfl dX9_kept_8 ?_
    refine lv_iconst (v := 1) hx hb dX9_kept_11 (by decide) ?_
    refine lv_isub hx hb dX9_kept_12 ?_
    refine zti (v := (-1)) (by decide) ?_
    refine zcall (wr := [(mm, .inr (9, [.int 0, .ref nw, .ref cq, .ref hi, .int 0, .ref ko, .ref se, .int 0, .ref nf, .ref ns, .ref pi]))]) (va_runS (As := [.int p0, .int 0, .int (-1)]) (rest := []) ⟨hx, hb, hml, hown, hts⟩ (z_X9_isInH l G p0 0 (-1) h1 (zm1 h1) H.size) (va_cwS 3 hts gX9_kept_X9_isIn rfl rfl rfl (by decide +kernel) ⟨Nat.le_of_ble_eq_true rfl, Nat.le_of_ble_eq_true rfl⟩) (zPre (Wc := []) hP hD hE hS hA [] rfl (by decide)) rfl rfl hl.1 rfl (lv_room (Nat.le_of_ble_eq_true rfl)) dX9_kept_13 ⟨Nat.le_of_ble_eq_true rfl, Nat.le_of_ble_eq_true rfl⟩) hP hD hS hA [] [0] rfl rfl (by decide) (by decide) (fun u1 H locs hP hD hS => ?_)
    have hP : va_P G.1 vwCl [(mm, .inr (9, [.int 0, .ref nw, .ref cq, .ref hi, .int 0, .ref ko, .ref se, .int 0, .ref nf, .ref ns, .ref pi]))] H := hP
    have hD : va_D A [(mm, .inr (9, [.int 0, .ref nw, .ref cq, .ref hi, .int 0, .ref ko, .ref se, .int 0, .ref nf, .ref ns, .ref pi]))] := hD
    refine W.eq (g2 := F0 m 16 ls [.int 0]) rfl ?_
    refine lv_if_ne (tgt := 25) hx hb dX9_kept_16 (by decide) (fun h9 => absurd (by decide) h9) (fun _ => ?_)
    refine lv_aload_n hx hb dX9_kept_19 rfl (lv_at hl 0 rfl) ?_
    refine lv_iconst (v := 1) hx hb dX9_kept_20 (by decide) ?_
    refine zcall (wr := []) (va_runV (As := [.int 1]) (rest := []) ⟨hx, hb, hml, hown, hts⟩ (z_X9_no l G mm nw cq hi ko se nf ns pi 0 1 H.size) (cwV 1 hts gX9_kept_X9_no rfl rfl rfl (by decide +kernel) ⟨Nat.le_of_ble_eq_true rfl, Nat.le_of_ble_eq_true rfl⟩) (zPreV (Wc := [(mm, .inr (9, [.int 0, .ref nw, .ref cq, .ref hi, .int 0, .ref ko, .ref se, .int 0, .ref nf, .ref ns, .ref pi]))]) (q0 := 0) (ci := 9) (q := (RX9, TX9, 11)) hP hD hE hS hA [0] rfl (by decide) rfl rfl) rfl rfl hl.1 rfl (lv_room (Nat.le_of_ble_eq_true rfl)) dX9_kept_21 ⟨Nat.le_of_ble_eq_true rfl, Nat.le_of_ble_eq_true rfl⟩) hP hD hS hA [0] [] rfl rfl (by decide) (by decide) (fun u2 H locs hP hD hS => ?_)
    have hP : va_P G.1 vwCl [(mm, .inr (9, [.int 1, .ref nw, .ref cq, .ref hi, .int 0, .ref ko, .ref se, .int 0, .ref nf, .ref ns, .ref pi]))] H := hP
    have hD : va_D A [(mm, .inr (9, [.int 1, .ref nw, .ref cq, .ref hi, .int 0, .ref ko, .ref se, .int 0, .ref nf, .ref ns, .ref pi]))] := hD
    refine W.eq (g2 := F0 m 24 ls [.int 0]) rfl ?_
    exact zend_i hx hb hr hlocks (fun k => [].getD k 0) hP hD hS (Nat.le_of_ble_eq_true rfl) (Nat.le_of_ble_eq_true rfl) dX9_kept_24

set_option maxHeartbeats 4000000 in
set_option maxRecDepth 100000 in
theorem z_X9_forget (l : Launch) (G : zG) (mm : Nat) (nw : Nat) (cq : Nat) (hi : Nat) (ko : Nat) (se : Nat) (nf : Nat) (ns : Nat) (pi : Nat) (th : Int32) : zR l G yX9_forget wsX9_forget { frames := 1, cells := 0, slots := 0, locals := 21 } [(mm, .inr (9, [.int th, .ref nw, .ref cq, .ref hi, .int 0, .ref ko, .ref se, .int 0, .ref nf, .ref ns, .ref pi]))] [.ref mm] (some (.int 0)) (fun u => [(mm, .inr (9, [.int 0, .ref nw, .ref cq, .ref hi, .int 0, .ref ko, .ref se, .int 0, .ref nf, .ref ns, .ref pi]))]) 0 0 := by
  refine zR_of (cc := cX9_forget) (maxL := 2) (rt := (some .int)) (by decide) rfl (Nat.le_of_ble_eq_true rfl) ?_
  intro p e s m below meth c A ls hx hb hml hr hts hown hlocks hin hA hE hP hD hS hl
  have hl : lv_has ls 2 [(0, .ref mm)] := hl
  have hown : s.vm.findClass RX9 = some m.cls := hown
  have hP : va_P G.1 vwCl [(mm, .inr (9, [.int th, .ref nw, .ref cq, .ref hi, .int 0, .ref ko, .ref se, .int 0, .ref nf, .ref ns, .ref pi]))] s.heap := hP
  have hw9 : ∀ w ∈ u_ws RX9 TX9 11, w ∈ wsX9_forget := by decide +kernel
  have hf205 := hts (.fieldLink RX9 205 "NettleModel" "kept" "I") (by decide +kernel)
  refine lv_aload_n hx hb dX9_forget_0 rfl (lv_at hl 0 rfl) ?_
  refine va_get (D := G.1) (ci := 9) (v := .int 0) (C := RX9) (T := TX9) (N := 11) hx hb hts hw9 hown hE.1 hP 0 rfl rfl 4 (by decide) hf205 (fun _ h9 => h9) rfl dX9_forget_1 ?_
  refine lv_istore_n (lv' := [(1, .int 0), (0, .ref mm)]) hx hb dX9_forget_4 rfl hl (by decide) rfl (fun ls hl => ?_)
  refine lv_aload_n hx hb dX9_forget_5 rfl (lv_at hl 1 rfl) ?_
  refine lv_iconst (v := 0) hx hb dX9_forget_6 (by decide) ?_
  refine va_put (D := G.1) (ci := 9) (v := .int 0) (ty := tyX9 4) (C := RX9) (T := TX9) (N := 11) hx hb hts hw9 tyX9 tyX9_ok nmX9 hown hE.1 hP hD hS 0 rfl rfl 4 (by decide) hf205 (fun _ h9 => h9) rfl (by decide +kernel) rfl rfl (Nat.le_of_ble_eq_true rfl) dX9_forget_7 (fun H locs hP hD hS => ?_)
  have hP : va_P G.1 vwCl [(mm, .inr (9, [.int th, .ref nw, .ref cq, .ref hi, .int 0, .ref ko, .ref se, .int 0, .ref nf, .ref ns, .ref pi]))] H := hP
  have hD : va_D A [(mm, .inr (9, [.int th, .ref nw, .ref cq, .ref hi, .int 0, .ref ko, .ref se, .int 0, .ref nf, .ref ns, .ref pi]))] := hD
  refine lv_aload_n hx hb dX9_forget_10 rfl (lv_at hl 1 rfl) ?_
  refine lv_iload_n hx hb dX9_forget_11 rfl (lv_at hl 0 rfl) ?_
  refine zcall (wr := []) (va_runV (As := [.int 0]) (rest := []) ⟨hx, hb, hml, hown, hts⟩ (z_X9_ok l G mm nw cq hi ko se nf ns pi th 0 H.size) (cwV 1 hts gX9_forget_X9_ok rfl rfl rfl (by decide +kernel) ⟨Nat.le_of_ble_eq_true rfl, Nat.le_of_ble_eq_true rfl⟩) (zPreV (Wc := [(mm, .inr (9, [.int th, .ref nw, .ref cq, .ref hi, .int 0, .ref ko, .ref se, .int 0, .ref nf, .ref ns, .ref pi]))]) (q0 := 0) (ci := 9) (q := (RX9, TX9, 11)) hP hD hE hS hA [0] rfl (by decide) rfl rfl) rfl rfl hl.1 rfl (lv_room (Nat.le_of_ble_eq_true rfl)) dX9_forget_12 ⟨Nat.le_of_ble_eq_true rfl, Nat.le_of_ble_eq_true rfl⟩) hP hD hS hA [0] [] rfl rfl (by decide) (by decide) (fun u1 H locs hP hD hS => ?_)
  have hP : va_P G.1 vwCl [(mm, .inr (9, [.int 0, .ref nw, .ref cq, .ref hi, .int 0, .ref ko, .ref se, .int 0, .ref nf, .ref ns, .ref pi]))] H := hP
  have hD : va_D A [(mm, .inr (9, [.int 0, .ref nw, .ref cq, .ref hi, .int 0, .ref ko, .ref se, .int 0, .ref nf, .ref ns, .ref pi]))] := hD
  refine W.eq (g2 := F0 m 15 ls [.int 0]) rfl ?_
  exact zend_i hx hb hr hlocks (fun k => [].getD k 0) hP hD hS (Nat.le_of_ble_eq_true rfl) (Nat.le_of_ble_eq_true rfl) dX9_forget_15

set_option maxHeartbeats 4000000 in
set_option maxRecDepth 100000 in
theorem z_X9_copy (l : Launch) (G : zG) (mm : Nat) (nw : Nat) (cq : Nat) (hi : Nat) (ko : Nat) (se : Nat) (nf : Nat) (ns : Nat) (pi : Nat) (th : Int32) (vd : Nat) (lw : Nat) (hg : Nat) (rk : Nat) : zR l G yX9_copy wsX9_copy { frames := 3, cells := 5, slots := 78, locals := 54 } [(mm, .inr (9, [.int th, .ref nw, .ref cq, .ref hi, .int 0, .ref ko, .ref se, .int 0, .ref nf, .ref ns, .ref pi])), (nw, .inr (8, [.int 0, .int 0, .ref vd, .ref lw, .ref hg, .ref rk]))] [.ref mm] (some (.int 0)) (fun u => [(mm, .inr (9, [.int 0, .ref nw, .ref (u 0), .ref hi, .int 0, .ref ko, .ref se, .int 0, .ref nf, .ref ns, .ref pi])), (nw, .inr (8, [.int 0, .int 0, .ref vd, .ref lw, .ref hg, .ref rk]))]) 5 78 := by
  refine zR_of (cc := cX9_copy) (maxL := 1) (rt := (some .int)) (by decide) rfl (Nat.le_of_ble_eq_true rfl) ?_
  intro p e s m below meth c A ls hx hb hml hr hts hown hlocks hin hA hE hP hD hS hl
  have hl : lv_has ls 1 [(0, .ref mm)] := hl
  have hown : s.vm.findClass RX9 = some m.cls := hown
  have hP : va_P G.1 vwCl [(mm, .inr (9, [.int th, .ref nw, .ref cq, .ref hi, .int 0, .ref ko, .ref se, .int 0, .ref nf, .ref ns, .ref pi])), (nw, .inr (8, [.int 0, .int 0, .ref vd, .ref lw, .ref hg, .ref rk]))] s.heap := hP
  have hw9 : ∀ w ∈ u_ws RX9 TX9 11, w ∈ wsX9_copy := by decide +kernel
  have hf10 := hts (.fieldLink RX9 10 "NettleModel" "now" "LNettleModel$Wall;") (by decide +kernel)
  have hf16 := hts (.fieldLink RX9 16 "NettleModel" "copy" "LNettleModel$Wall;") (by decide +kernel)
  have hw8 : ∀ w ∈ u_ws RX8 TX8 6, w ∈ wsX9_copy := by decide +kernel
  have hf83 := hts (.fieldLink RX9 83 "NettleModel$Wall" "many" "I") (by decide +kernel)
  refine lv_aload_n hx hb dX9_copy_0 rfl (lv_at hl 0 rfl) ?_
  refine lv_aload_n hx hb dX9_copy_1 rfl (lv_at hl 0 rfl) ?_
  refine va_get (D := G.1) (ci := 9) (v := .ref nw) (C := RX9) (T := TX9) (N := 11) hx hb hts hw9 hown hE.1 hP 0 rfl rfl 1 (by decide) hf10 (fun _ h9 => h9) rfl dX9_copy_2 ?_
  refine zcallA (wr := [(mm, .inr (9, [.int th, .ref nw, .ref cq, .ref hi, .int 0, .ref ko, .ref se, .int 0, .ref nf, .ref ns, .ref pi]))]) (va_runV (As := []) (rest := [.ref mm]) ⟨hx, hb, hml, hown, hts⟩ (z_X8_copied l G nw vd lw hg rk s.heap.size) (cwV 0 hts gX9_copy_X8_copied rfl rfl rfl (by decide +kernel) ⟨Nat.le_of_ble_eq_true rfl, Nat.le_of_ble_eq_true rfl⟩) (zPreV (Wc := [(nw, .inr (8, [.int 0, .int 0, .ref vd, .ref lw, .ref hg, .ref rk]))]) (q0 := 1) (ci := 8) (q := (RX8, TX8, 6)) hP hD hE hS hA [1] rfl (by decide) rfl rfl) rfl rfl hl.1 rfl (lv_room (Nat.le_of_ble_eq_true rfl)) dX9_copy_5 ⟨Nat.le_of_ble_eq_true rfl, Nat.le_of_ble_eq_true rfl⟩) hP hD hS hA [1] [0] rfl rfl (by decide) (by decide) (fun u1 H locs hP hD hS => ?_)
  have hP : va_P G.1 vwCl [(mm, .inr (9, [.int th, .ref nw, .ref cq, .ref hi, .int 0, .ref ko, .ref se, .int 0, .ref nf, .ref ns, .ref pi])), (nw, .inr (8, [.int 0, .int 0, .ref vd, .ref lw, .ref hg, .ref rk])), ((u1 0), .inr (8, [.int 0, .int 0, .ref (u1 1), .ref (u1 2), .ref (u1 3), .ref (u1 4)]))] H := hP
  have hD : va_D A [(mm, .inr (9, [.int th, .ref nw, .ref cq, .ref hi, .int 0, .ref ko, .ref se, .int 0, .ref nf, .ref ns, .ref pi])), (nw, .inr (8, [.int 0, .int 0, .ref vd, .ref lw, .ref hg, .ref rk])), ((u1 0), .inr (8, [.int 0, .int 0, .ref (u1 1), .ref (u1 2), .ref (u1 3), .ref (u1 4)]))] := hD
  refine W.eq (g2 := F0 m 8 ls [.ref (u1 0), .ref mm]) rfl ?_
  refine va_put (D := G.1) (ci := 9) (v := .ref (u1 0)) (ty := tyX9 2) (C := RX9) (T := TX9) (N := 11) hx hb hts hw9 tyX9 tyX9_ok nmX9 hown hE.1 hP hD hS 0 rfl rfl 2 (by decide) hf16 (fun _ h9 => h9) rfl (by decide +kernel) rfl rfl (Nat.le_of_ble_eq_true rfl) dX9_copy_8 (fun H locs hP hD hS => ?_)
  have hP : va_P G.1 vwCl [(mm, .inr (9, [.int th, .ref nw, .ref (u1 0), .ref hi, .int 0, .ref ko, .ref se, .int 0, .ref nf, .ref ns, .ref pi])), (nw, .inr (8, [.int 0, .int 0, .ref vd, .ref lw, .ref hg, .ref rk])), ((u1 0), .inr (8, [.int 0, .int 0, .ref (u1 1), .ref (u1 2), .ref (u1 3), .ref (u1 4)]))] H := hP
  have hD : va_D A [(mm, .inr (9, [.int th, .ref nw, .ref (u1 0), .ref hi, .int 0, .ref ko, .ref se, .int 0, .ref nf, .ref ns, .ref pi])), (nw, .inr (8, [.int 0, .int 0, .ref vd, .ref lw, .ref hg, .ref rk])), ((u1 0), .inr (8, [.int 0, .int 0, .ref (u1 1), .ref (u1 2), .ref (u1 3), .ref (u1 4)]))] := hD
  refine lv_aload_n hx hb dX9_copy_11 rfl (lv_at hl 0 rfl) ?_
  refine lv_aload_n hx hb dX9_copy_12 rfl (lv_at hl 0 rfl) ?_
  refine va_get (D := G.1) (ci := 9) (v := .ref (u1 0)) (C := RX9) (T := TX9) (N := 11) hx hb hts hw9 hown hE.1 hP 0 rfl rfl 2 (by decide) hf16 (fun _ h9 => h9) rfl dX9_copy_13 ?_
  refine va_get (D := G.1) (ci := 8) (v := .int 0) (C := RX8) (T := TX8) (N := 6) hx hb hts hw8 hown hE.1 hP 2 rfl rfl 0 (by decide) hf83 (fun _ h9 => h9) rfl dX9_copy_16 ?_
  refine zcall (wr := [(nw, .inr (8, [.int 0, .int 0, .ref vd, .ref lw, .ref hg, .ref rk])), ((u1 0), .inr (8, [.int 0, .int 0, .ref (u1 1), .ref (u1 2), .ref (u1 3), .ref (u1 4)]))]) (va_runV (As := [.int 0]) (rest := []) ⟨hx, hb, hml, hown, hts⟩ (z_X9_ok l G mm nw (u1 0) hi ko se nf ns pi th 0 H.size) (cwV 1 hts gX9_copy_X9_ok rfl rfl rfl (by decide +kernel) ⟨Nat.le_of_ble_eq_true rfl, Nat.le_of_ble_eq_true rfl⟩) (zPreV (Wc := [(mm, .inr (9, [.int th, .ref nw, .ref (u1 0), .ref hi, .int 0, .ref ko, .ref se, .int 0, .ref nf, .ref ns, .ref pi]))]) (q0 := 0) (ci := 9) (q := (RX9, TX9, 11)) hP hD hE hS hA [0] rfl (by decide) rfl rfl) rfl rfl hl.1 rfl (lv_room (Nat.le_of_ble_eq_true rfl)) dX9_copy_19 ⟨Nat.le_of_ble_eq_true rfl, Nat.le_of_ble_eq_true rfl⟩) hP hD hS hA [0] [1, 2] rfl rfl (by decide) (by decide) (fun u2 H locs hP hD hS => ?_)
  have hP : va_P G.1 vwCl [(nw, .inr (8, [.int 0, .int 0, .ref vd, .ref lw, .ref hg, .ref rk])), ((u1 0), .inr (8, [.int 0, .int 0, .ref (u1 1), .ref (u1 2), .ref (u1 3), .ref (u1 4)])), (mm, .inr (9, [.int 0, .ref nw, .ref (u1 0), .ref hi, .int 0, .ref ko, .ref se, .int 0, .ref nf, .ref ns, .ref pi]))] H := hP
  have hD : va_D A [(nw, .inr (8, [.int 0, .int 0, .ref vd, .ref lw, .ref hg, .ref rk])), ((u1 0), .inr (8, [.int 0, .int 0, .ref (u1 1), .ref (u1 2), .ref (u1 3), .ref (u1 4)])), (mm, .inr (9, [.int 0, .ref nw, .ref (u1 0), .ref hi, .int 0, .ref ko, .ref se, .int 0, .ref nf, .ref ns, .ref pi]))] := hD
  refine W.eq (g2 := F0 m 22 ls [.int 0]) rfl ?_
  have hP := hP.sub (ws' := [(mm, .inr (9, [.int 0, .ref nw, .ref (u1 0), .ref hi, .int 0, .ref ko, .ref se, .int 0, .ref nf, .ref ns, .ref pi])), (nw, .inr (8, [.int 0, .int 0, .ref vd, .ref lw, .ref hg, .ref rk]))]) [2, 0] rfl
  have hD := hD.sub (ws' := [(mm, .inr (9, [.int 0, .ref nw, .ref (u1 0), .ref hi, .int 0, .ref ko, .ref se, .int 0, .ref nf, .ref ns, .ref pi])), (nw, .inr (8, [.int 0, .int 0, .ref vd, .ref lw, .ref hg, .ref rk]))]) [2, 0] (by decide) rfl
  exact zend_i hx hb hr hlocks (fun k => [(u1 0)].getD k 0) hP hD hS (Nat.le_of_ble_eq_true rfl) (Nat.le_of_ble_eq_true rfl) dX9_copy_22

set_option maxHeartbeats 4000000 in
set_option maxRecDepth 100000 in
theorem z_X9_changedNow (l : Launch) (G : zG) (mm : Nat) (nw : Nat) (cq : Nat) (hi : Nat) (ko : Nat) (se : Nat) (nf : Nat) (ns : Nat) (pi : Nat) (th : Int32) (vd : Nat) (lw : Nat) (hg : Nat) (rk : Nat) (vc : Nat) (lc : Nat) (hc : Nat) (rc : Nat) : zR l G yX9_changedNow wsX9_changedNow { frames := 4, cells := 2, slots := 2048, locals := 100 } [(mm, .inr (9, [.int th, .ref nw, .ref cq, .ref hi, .int 0, .ref ko, .ref se, .int 0, .ref nf, .ref ns, .ref pi])), (nw, .inr (8, [.int 0, .int 0, .ref vd, .ref lw, .ref hg, .ref rk])), (cq, .inr (8, [.int 0, .int 0, .ref vc, .ref lc, .ref hc, .ref rc]))] [.ref mm] (some (.int 0)) (fun u => [(mm, .inr (9, [.int th, .ref nw, .ref cq, .ref hi, .int 0, .ref ko, .ref se, .int 0, .ref nf, .ref ns, .ref pi])), (cq, .inr (8, [.int 0, .int 0, .ref vc, .ref lc, .ref hc, .ref (u 0)])), (nw, .inr (8, [.int 0, .int 0, .ref vd, .ref lw, .ref hg, .ref (u 1)]))]) 2 2048 := by
  refine zR_of (cc := cX9_changedNow) (maxL := 1) (rt := (some .int)) (by decide) rfl (Nat.le_of_ble_eq_true rfl) ?_
  intro p e s m below meth c A ls hx hb hml hr hts hown hlocks hin hA hE hP hD hS hl
  have hl : lv_has ls 1 [(0, .ref mm)] := hl
  have hown : s.vm.findClass RX9 = some m.cls := hown
  have hP : va_P G.1 vwCl [(mm, .inr (9, [.int th, .ref nw, .ref cq, .ref hi, .int 0, .ref ko, .ref se, .int 0, .ref nf, .ref ns, .ref pi])), (nw, .inr (8, [.int 0, .int 0, .ref vd, .ref lw, .ref hg, .ref rk])), (cq, .inr (8, [.int 0, .int 0, .ref vc, .ref lc, .ref hc, .ref rc]))] s.heap := hP
  have hw9 : ∀ w ∈ u_ws RX9 TX9 11, w ∈ wsX9_changedNow := by decide +kernel
  have hf10 := hts (.fieldLink RX9 10 "NettleModel" "now" "LNettleModel$Wall;") (by decide +kernel)
  have hf16 := hts (.fieldLink RX9 16 "NettleModel" "copy" "LNettleModel$Wall;") (by decide +kernel)
  refine lv_aload_n hx hb dX9_changedNow_0 rfl (lv_at hl 0 rfl) ?_
  refine va_get (D := G.1) (ci := 9) (v := .ref nw) (C := RX9) (T := TX9) (N := 11) hx hb hts hw9 hown hE.1 hP 0 rfl rfl 1 (by decide) hf10 (fun _ h9 => h9) rfl dX9_changedNow_1 ?_
  refine lv_aload_n hx hb dX9_changedNow_4 rfl (lv_at hl 0 rfl) ?_
  refine va_get (D := G.1) (ci := 9) (v := .ref nw) (C := RX9) (T := TX9) (N := 11) hx hb hts hw9 hown hE.1 hP 0 rfl rfl 1 (by decide) hf10 (fun _ h9 => h9) rfl dX9_changedNow_5 ?_
  refine zcall (wr := [(mm, .inr (9, [.int th, .ref nw, .ref cq, .ref hi, .int 0, .ref ko, .ref se, .int 0, .ref nf, .ref ns, .ref pi])), (cq, .inr (8, [.int 0, .int 0, .ref vc, .ref lc, .ref hc, .ref rc]))]) (va_runV (As := []) (rest := [.ref nw]) ⟨hx, hb, hml, hown, hts⟩ (z_X8_all l G nw vd lw hg rk s.heap.size) (cwV 0 hts gX9_changedNow_X8_all rfl rfl rfl (by decide +kernel) ⟨Nat.le_of_ble_eq_true rfl, Nat.le_of_ble_eq_true rfl⟩) (zPreV (Wc := [(nw, .inr (8, [.int 0, .int 0, .ref vd, .ref lw, .ref hg, .ref rk]))]) (q0 := 1) (ci := 8) (q := (RX8, TX8, 6)) hP hD hE hS hA [1] rfl (by decide) rfl rfl) rfl rfl hl.1 rfl (lv_room (Nat.le_of_ble_eq_true rfl)) dX9_changedNow_8 ⟨Nat.le_of_ble_eq_true rfl, Nat.le_of_ble_eq_true rfl⟩) hP hD hS hA [1] [0, 2] rfl rfl (by decide) (by decide) (fun u1 H locs hP hD hS => ?_)
  have hP : va_P G.1 vwCl [(mm, .inr (9, [.int th, .ref nw, .ref cq, .ref hi, .int 0, .ref ko, .ref se, .int 0, .ref nf, .ref ns, .ref pi])), (cq, .inr (8, [.int 0, .int 0, .ref vc, .ref lc, .ref hc, .ref rc])), (nw, .inr (8, [.int 0, .int 0, .ref vd, .ref lw, .ref hg, .ref rk]))] H := hP
  have hD : va_D A [(mm, .inr (9, [.int th, .ref nw, .ref cq, .ref hi, .int 0, .ref ko, .ref se, .int 0, .ref nf, .ref ns, .ref pi])), (cq, .inr (8, [.int 0, .int 0, .ref vc, .ref lc, .ref hc, .ref rc])), (nw, .inr (8, [.int 0, .int 0, .ref vd, .ref lw, .ref hg, .ref rk]))] := hD
  refine W.eq (g2 := F0 m 11 ls [.int 0, .ref nw]) rfl ?_
  refine lv_aload_n hx hb dX9_changedNow_11 rfl (lv_at hl 0 rfl) ?_
  refine va_get (D := G.1) (ci := 9) (v := .ref cq) (C := RX9) (T := TX9) (N := 11) hx hb hts hw9 hown hE.1 hP 0 rfl rfl 2 (by decide) hf16 (fun _ h9 => h9) rfl dX9_changedNow_12 ?_
  refine lv_aload_n hx hb dX9_changedNow_15 rfl (lv_at hl 0 rfl) ?_
  refine va_get (D := G.1) (ci := 9) (v := .ref cq) (C := RX9) (T := TX9) (N := 11) hx hb hts hw9 hown hE.1 hP 0 rfl rfl 2 (by decide) hf16 (fun _ h9 => h9) rfl dX9_changedNow_16 ?_
  refine zcall (wr := [(mm, .inr (9, [.int th, .ref nw, .ref cq, .ref hi, .int 0, .ref ko, .ref se, .int 0, .ref nf, .ref ns, .ref pi])), (nw, .inr (8, [.int 0, .int 0, .ref vd, .ref lw, .ref hg, .ref rk]))]) (va_runV (As := []) (rest := [.ref cq, .int 0, .ref nw]) ⟨hx, hb, hml, hown, hts⟩ (z_X8_all l G cq vc lc hc rc H.size) (cwV 0 hts gX9_changedNow_X8_all rfl rfl rfl (by decide +kernel) ⟨Nat.le_of_ble_eq_true rfl, Nat.le_of_ble_eq_true rfl⟩) (zPreV (Wc := [(cq, .inr (8, [.int 0, .int 0, .ref vc, .ref lc, .ref hc, .ref rc]))]) (q0 := 1) (ci := 8) (q := (RX8, TX8, 6)) hP hD hE hS hA [1] rfl (by decide) rfl rfl) rfl rfl hl.1 rfl (lv_room (Nat.le_of_ble_eq_true rfl)) dX9_changedNow_19 ⟨Nat.le_of_ble_eq_true rfl, Nat.le_of_ble_eq_true rfl⟩) hP hD hS hA [1] [0, 2] rfl rfl (by decide) (by decide) (fun u2 H locs hP hD hS => ?_)
  have hP : va_P G.1 vwCl [(mm, .inr (9, [.int th, .ref nw, .ref cq, .ref hi, .int 0, .ref ko, .ref se, .int 0, .ref nf, .ref ns, .ref pi])), (nw, .inr (8, [.int 0, .int 0, .ref vd, .ref lw, .ref hg, .ref rk])), (cq, .inr (8, [.int 0, .int 0, .ref vc, .ref lc, .ref hc, .ref rc]))] H := hP
  have hD : va_D A [(mm, .inr (9, [.int th, .ref nw, .ref cq, .ref hi, .int 0, .ref ko, .ref se, .int 0, .ref nf, .ref ns, .ref pi])), (nw, .inr (8, [.int 0, .int 0, .ref vd, .ref lw, .ref hg, .ref rk])), (cq, .inr (8, [.int 0, .int 0, .ref vc, .ref lc, .ref hc, .ref rc]))] := hD
  refine W.eq (g2 := F0 m 22 ls [.int 0, .ref cq, .int 0, .ref nw]) rfl ?_
  refine zcall (wr := [(mm, .inr (9, [.int th, .ref nw, .ref cq, .ref hi, .int 0, .ref ko, .ref se, .int 0, .ref nf, .ref ns, .ref pi]))]) (va_runS (As := [.ref nw, .int 0, .ref cq, .int 0]) (rest := []) ⟨hx, hb, hml, hown, hts⟩ (z_X9_differ l G nw cq vd lw hg rk vc lc hc rc H.size) (va_cwS 4 hts gX9_changedNow_X9_differ rfl rfl rfl (by decide +kernel) ⟨Nat.le_of_ble_eq_true rfl, Nat.le_of_ble_eq_true rfl⟩) (zPre (Wc := [(nw, .inr (8, [.int 0, .int 0, .ref vd, .ref lw, .ref hg, .ref rk])), (cq, .inr (8, [.int 0, .int 0, .ref vc, .ref lc, .ref hc, .ref rc]))]) hP hD hE hS hA [1, 2] rfl (by decide)) rfl rfl hl.1 rfl (lv_room (Nat.le_of_ble_eq_true rfl)) dX9_changedNow_22 ⟨Nat.le_of_ble_eq_true rfl, Nat.le_of_ble_eq_true rfl⟩) hP hD hS hA [1, 2] [0] rfl rfl (by decide) (by decide) (fun u3 H locs hP hD hS => ?_)
  have hP : va_P G.1 vwCl [(mm, .inr (9, [.int th, .ref nw, .ref cq, .ref hi, .int 0, .ref ko, .ref se, .int 0, .ref nf, .ref ns, .ref pi])), (cq, .inr (8, [.int 0, .int 0, .ref vc, .ref lc, .ref hc, .ref (u3 0)])), (nw, .inr (8, [.int 0, .int 0, .ref vd, .ref lw, .ref hg, .ref (u3 1)]))] H := hP
  have hD : va_D A [(mm, .inr (9, [.int th, .ref nw, .ref cq, .ref hi, .int 0, .ref ko, .ref se, .int 0, .ref nf, .ref ns, .ref pi])), (cq, .inr (8, [.int 0, .int 0, .ref vc, .ref lc, .ref hc, .ref (u3 0)])), (nw, .inr (8, [.int 0, .int 0, .ref vd, .ref lw, .ref hg, .ref (u3 1)]))] := hD
  refine W.eq (g2 := F0 m 25 ls [.int 0]) rfl ?_
  exact zend_i hx hb hr hlocks (fun k => [(u3 0), (u3 1)].getD k 0) hP hD hS (Nat.le_of_ble_eq_true rfl) (Nat.le_of_ble_eq_true rfl) dX9_changedNow_25

set_option maxHeartbeats 4000000 in
set_option maxRecDepth 100000 in
theorem z_X9_changed (l : Launch) (G : zG) (mm : Nat) (nw : Nat) (cq : Nat) (hi : Nat) (ko : Nat) (se : Nat) (nf : Nat) (ns : Nat) (pi : Nat) (th : Int32) (vd : Nat) (lw : Nat) (hg : Nat) (rk : Nat) (vc : Nat) (lc : Nat) (hc : Nat) (rc : Nat) : zR l G yX9_changed wsX9_changed { frames := 5, cells := 2, slots := 2048, locals := 120 } [(mm, .inr (9, [.int th, .ref nw, .ref cq, .ref hi, .int 0, .ref ko, .ref se, .int 0, .ref nf, .ref ns, .ref pi])), (nw, .inr (8, [.int 0, .int 0, .ref vd, .ref lw, .ref hg, .ref rk])), (cq, .inr (8, [.int 0, .int 0, .ref vc, .ref lc, .ref hc, .ref rc]))] [.ref mm] (some (.int 0)) (fun u => [(cq, .inr (8, [.int 0, .int 0, .ref vc, .ref lc, .ref hc, .ref (u 0)])), (nw, .inr (8, [.int 0, .int 0, .ref vd, .ref lw, .ref hg, .ref (u 1)])), (mm, .inr (9, [.int 0, .ref nw, .ref cq, .ref hi, .int 0, .ref ko, .ref se, .int 0, .ref nf, .ref ns, .ref pi]))]) 2 2048 := by
  refine zR_of (cc := cX9_changed) (maxL := 1) (rt := (some .int)) (by decide) rfl (Nat.le_of_ble_eq_true rfl) ?_
  intro p e s m below meth c A ls hx hb hml hr hts hown hlocks hin hA hE hP hD hS hl
  have hl : lv_has ls 1 [(0, .ref mm)] := hl
  have hown : s.vm.findClass RX9 = some m.cls := hown
  have hP : va_P G.1 vwCl [(mm, .inr (9, [.int th, .ref nw, .ref cq, .ref hi, .int 0, .ref ko, .ref se, .int 0, .ref nf, .ref ns, .ref pi])), (nw, .inr (8, [.int 0, .int 0, .ref vd, .ref lw, .ref hg, .ref rk])), (cq, .inr (8, [.int 0, .int 0, .ref vc, .ref lc, .ref hc, .ref rc]))] s.heap := hP
  refine lv_aload_n hx hb dX9_changed_0 rfl (lv_at hl 0 rfl) ?_
  refine lv_aload_n hx hb dX9_changed_1 rfl (lv_at hl 0 rfl) ?_
  refine zcall (wr := []) (va_runV (As := []) (rest := [.ref mm]) ⟨hx, hb, hml, hown, hts⟩ (z_X9_changedNow l G mm nw cq hi ko se nf ns pi th vd lw hg rk vc lc hc rc s.heap.size) (cwV 0 hts gX9_changed_X9_changedNow rfl rfl rfl (by decide +kernel) ⟨Nat.le_of_ble_eq_true rfl, Nat.le_of_ble_eq_true rfl⟩) (zPreV (Wc := [(mm, .inr (9, [.int th, .ref nw, .ref cq, .ref hi, .int 0, .ref ko, .ref se, .int 0, .ref nf, .ref ns, .ref pi])), (nw, .inr (8, [.int 0, .int 0, .ref vd, .ref lw, .ref hg, .ref rk])), (cq, .inr (8, [.int 0, .int 0, .ref vc, .ref lc, .ref hc, .ref rc]))]) (q0 := 0) (ci := 9) (q := (RX9, TX9, 11)) hP hD hE hS hA [0, 1, 2] rfl (by decide) rfl rfl) rfl rfl hl.1 rfl (lv_room (Nat.le_of_ble_eq_true rfl)) dX9_changed_2 ⟨Nat.le_of_ble_eq_true rfl, Nat.le_of_ble_eq_true rfl⟩) hP hD hS hA [0, 1, 2] [] rfl rfl (by decide) (by decide) (fun u1 H locs hP hD hS => ?_)
  have hP : va_P G.1 vwCl [(mm, .inr (9, [.int th, .ref nw, .ref cq, .ref hi, .int 0, .ref ko, .ref se, .int 0, .ref nf, .ref ns, .ref pi])), (cq, .inr (8, [.int 0, .int 0, .ref vc, .ref lc, .ref hc, .ref (u1 0)])), (nw, .inr (8, [.int 0, .int 0, .ref vd, .ref lw, .ref hg, .ref (u1 1)]))] H := hP
  have hD : va_D A [(mm, .inr (9, [.int th, .ref nw, .ref cq, .ref hi, .int 0, .ref ko, .ref se, .int 0, .ref nf, .ref ns, .ref pi])), (cq, .inr (8, [.int 0, .int 0, .ref vc, .ref lc, .ref hc, .ref (u1 0)])), (nw, .inr (8, [.int 0, .int 0, .ref vd, .ref lw, .ref hg, .ref (u1 1)]))] := hD
  refine W.eq (g2 := F0 m 5 ls [.int 0, .ref mm]) rfl ?_
  refine zcall (wr := [(cq, .inr (8, [.int 0, .int 0, .ref vc, .ref lc, .ref hc, .ref (u1 0)])), (nw, .inr (8, [.int 0, .int 0, .ref vd, .ref lw, .ref hg, .ref (u1 1)]))]) (va_runV (As := [.int 0]) (rest := []) ⟨hx, hb, hml, hown, hts⟩ (z_X9_ok l G mm nw cq hi ko se nf ns pi th 0 H.size) (cwV 1 hts gX9_changed_X9_ok rfl rfl rfl (by decide +kernel) ⟨Nat.le_of_ble_eq_true rfl, Nat.le_of_ble_eq_true rfl⟩) (zPreV (Wc := [(mm, .inr (9, [.int th, .ref nw, .ref cq, .ref hi, .int 0, .ref ko, .ref se, .int 0, .ref nf, .ref ns, .ref pi]))]) (q0 := 0) (ci := 9) (q := (RX9, TX9, 11)) hP hD hE hS hA [0] rfl (by decide) rfl rfl) rfl rfl hl.1 rfl (lv_room (Nat.le_of_ble_eq_true rfl)) dX9_changed_5 ⟨Nat.le_of_ble_eq_true rfl, Nat.le_of_ble_eq_true rfl⟩) hP hD hS hA [0] [1, 2] rfl rfl (by decide) (by decide) (fun u2 H locs hP hD hS => ?_)
  have hP : va_P G.1 vwCl [(cq, .inr (8, [.int 0, .int 0, .ref vc, .ref lc, .ref hc, .ref (u1 0)])), (nw, .inr (8, [.int 0, .int 0, .ref vd, .ref lw, .ref hg, .ref (u1 1)])), (mm, .inr (9, [.int 0, .ref nw, .ref cq, .ref hi, .int 0, .ref ko, .ref se, .int 0, .ref nf, .ref ns, .ref pi]))] H := hP
  have hD : va_D A [(cq, .inr (8, [.int 0, .int 0, .ref vc, .ref lc, .ref hc, .ref (u1 0)])), (nw, .inr (8, [.int 0, .int 0, .ref vd, .ref lw, .ref hg, .ref (u1 1)])), (mm, .inr (9, [.int 0, .ref nw, .ref cq, .ref hi, .int 0, .ref ko, .ref se, .int 0, .ref nf, .ref ns, .ref pi]))] := hD
  refine W.eq (g2 := F0 m 8 ls [.int 0]) rfl ?_
  exact zend_i hx hb hr hlocks (fun k => [(u1 0), (u1 1)].getD k 0) hP hD hS (Nat.le_of_ble_eq_true rfl) (Nat.le_of_ble_eq_true rfl) dX9_changed_8

set_option maxHeartbeats 4000000 in
set_option maxRecDepth 100000 in
theorem z_X9_witnessNow (l : Launch) (G : zG) (mm : Nat) (nw : Nat) (cq : Nat) (hi : Nat) (ko : Nat) (se : Nat) (nf : Nat) (ns : Nat) (pi : Nat) (th : Int32) (vd : Nat) (lw : Nat) (hg : Nat) (rk : Nat) (vc : Nat) (lc : Nat) (hc : Nat) (rc : Nat) : zRa l G yX9_witnessNow wsX9_witnessNow { frames := 5, cells := 3, slots := 2052, locals := 120 } [(mm, .inr (9, [.int th, .ref nw, .ref cq, .ref hi, .int 0, .ref ko, .ref se, .int 0, .ref nf, .ref ns, .ref pi])), (nw, .inr (8, [.int 0, .int 0, .ref vd, .ref lw, .ref hg, .ref rk])), (cq, .inr (8, [.int 0, .int 0, .ref vc, .ref lc, .ref hc, .ref rc]))] [.ref mm] (fun u => (u 0)) (fun u => [(mm, .inr (9, [.int th, .ref nw, .ref cq, .ref hi, .int 0, .ref ko, .ref se, .int 0, .ref nf, .ref ns, .ref pi])), (nw, .inr (8, [.int 0, .int 0, .ref vd, .ref lw, .ref hg, .ref (u 1)])), (cq, .inr (8, [.int 0, .int 0, .ref vc, .ref lc, .ref hc, .ref (u 2)])), ((u 0), .inl (G.2.1, 4, .inl (upd (upd (upd (upd (fun _ => 0) 0 (-1)) 1 (-1)) 2 (-1)) 3 (-1))))]) 3 2052 := by
  refine zRa_of (cc := cX9_witnessNow) (maxL := 6) (rt := (some (.array .int))) (by decide) rfl (Nat.le_of_ble_eq_true rfl) ?_
  intro p e s m below meth c A ls hx hb hml hr hts hown hlocks hin hA hE hP hD hS hl
  have hl : lv_has ls 6 [(0, .ref mm)] := hl
  have hown : s.vm.findClass RX9 = some m.cls := hown
  have hP : va_P G.1 vwCl [(mm, .inr (9, [.int th, .ref nw, .ref cq, .ref hi, .int 0, .ref ko, .ref se, .int 0, .ref nf, .ref ns, .ref pi])), (nw, .inr (8, [.int 0, .int 0, .ref vd, .ref lw, .ref hg, .ref rk])), (cq, .inr (8, [.int 0, .int 0, .ref vc, .ref lc, .ref hc, .ref rc]))] s.heap := hP
  have harrint := hts (.arrayClass .int) (by decide +kernel)
  refine lv_iconst (v := 4) hx hb dX9_witnessNow_0 (by decide) ?_
  refine znewa (N := 4) hx hb harrint hE hP hD hS hA (by decide) (by decide) (Nat.le_of_ble_eq_true rfl) (Nat.le_of_ble_eq_true rfl) (Nat.le_of_ble_eq_true rfl) dX9_witnessNow_1 (fun q1 H hP hD hS => ?_)
  have hP : va_P G.1 vwCl [(mm, .inr (9, [.int th, .ref nw, .ref cq, .ref hi, .int 0, .ref ko, .ref se, .int 0, .ref nf, .ref ns, .ref pi])), (nw, .inr (8, [.int 0, .int 0, .ref vd, .ref lw, .ref hg, .ref rk])), (cq, .inr (8, [.int 0, .int 0, .ref vc, .ref lc, .ref hc, .ref rc])), (q1, .inl (G.2.1, 4, .inl (fun _ => 0)))] H := hP
  have hD : va_D A [(mm, .inr (9, [.int th, .ref nw, .ref cq, .ref hi, .int 0, .ref ko, .ref se, .int 0, .ref nf, .ref ns, .ref pi])), (nw, .inr (8, [.int 0, .int 0, .ref vd, .ref lw, .ref hg, .ref rk])), (cq, .inr (8, [.int 0, .int 0, .ref vc, .ref lc, .ref hc, .ref rc])), (q1, .inl (G.2.1, 4, .inl (fun _ => 0)))] := hD
  refine lv_dup hx hb dX9_witnessNow_3 rfl ?_
  refine lv_iconst (v := 0) hx hb dX9_witnessNow_4 (by decide) ?_
  refine lv_iconst (v := (-1)) hx hb dX9_witnessNow_5 (by decide) ?_
  refine va_iast hx hb hE.1 hP hD hS 3 0 rfl rfl (zin (by decide +kernel)) dX9_witnessNow_6 (fun H locs hP hD hS => ?_)
  have hP : va_P G.1 vwCl [(mm, .inr (9, [.int th, .ref nw, .ref cq, .ref hi, .int 0, .ref ko, .ref se, .int 0, .ref nf, .ref ns, .ref pi])), (nw, .inr (8, [.int 0, .int 0, .ref vd, .ref lw, .ref hg, .ref rk])), (cq, .inr (8, [.int 0, .int 0, .ref vc, .ref lc, .ref hc, .ref rc])), (q1, .inl (G.2.1, 4, .inl (upd (fun _ => 0) 0 (-1))))] H := hP
  have hD : va_D A [(mm, .inr (9, [.int th, .ref nw, .ref cq, .ref hi, .int 0, .ref ko, .ref se, .int 0, .ref nf, .ref ns, .ref pi])), (nw, .inr (8, [.int 0, .int 0, .ref vd, .ref lw, .ref hg, .ref rk])), (cq, .inr (8, [.int 0, .int 0, .ref vc, .ref lc, .ref hc, .ref rc])), (q1, .inl (G.2.1, 4, .inl (upd (fun _ => 0) 0 (-1))))] := hD
  refine lv_dup hx hb dX9_witnessNow_7 rfl ?_
  refine lv_iconst (v := 1) hx hb dX9_witnessNow_8 (by decide) ?_
  refine lv_iconst (v := (-1)) hx hb dX9_witnessNow_9 (by decide) ?_
  refine va_iast hx hb hE.1 hP hD hS 3 0 rfl rfl (zin (by decide +kernel)) dX9_witnessNow_10 (fun H locs hP hD hS => ?_)
  have hP : va_P G.1 vwCl [(mm, .inr (9, [.int th, .ref nw, .ref cq, .ref hi, .int 0, .ref ko, .ref se, .int 0, .ref nf, .ref ns, .ref pi])), (nw, .inr (8, [.int 0, .int 0, .ref vd, .ref lw, .ref hg, .ref rk])), (cq, .inr (8, [.int 0, .int 0, .ref vc, .ref lc, .ref hc, .ref rc])), (q1, .inl (G.2.1, 4, .inl (upd (upd (fun _ => 0) 0 (-1)) 1 (-1))))] H := hP
  have hD : va_D A [(mm, .inr (9, [.int th, .ref nw, .ref cq, .ref hi, .int 0, .ref ko, .ref se, .int 0, .ref nf, .ref ns, .ref pi])), (nw, .inr (8, [.int 0, .int 0, .ref vd, .ref lw, .ref hg, .ref rk])), (cq, .inr (8, [.int 0, .int 0, .ref vc, .ref lc, .ref hc, .ref rc])), (q1, .inl (G.2.1, 4, .inl (upd (upd (fun _ => 0) 0 (-1)) 1 (-1))))] := hD
  refine lv_dup hx hb dX9_witnessNow_11 rfl ?_
  refine lv_iconst (v := 2) hx hb dX9_witnessNow_12 (by decide) ?_
  refine lv_iconst (v := (-1)) hx hb dX9_witnessNow_13 (by decide) ?_
  refine va_iast hx hb hE.1 hP hD hS 3 0 rfl rfl (zin (by decide +kernel)) dX9_witnessNow_14 (fun H locs hP hD hS => ?_)
  have hP : va_P G.1 vwCl [(mm, .inr (9, [.int th, .ref nw, .ref cq, .ref hi, .int 0, .ref ko, .ref se, .int 0, .ref nf, .ref ns, .ref pi])), (nw, .inr (8, [.int 0, .int 0, .ref vd, .ref lw, .ref hg, .ref rk])), (cq, .inr (8, [.int 0, .int 0, .ref vc, .ref lc, .ref hc, .ref rc])), (q1, .inl (G.2.1, 4, .inl (upd (upd (upd (fun _ => 0) 0 (-1)) 1 (-1)) 2 (-1))))] H := hP
  have hD : va_D A [(mm, .inr (9, [.int th, .ref nw, .ref cq, .ref hi, .int 0, .ref ko, .ref se, .int 0, .ref nf, .ref ns, .ref pi])), (nw, .inr (8, [.int 0, .int 0, .ref vd, .ref lw, .ref hg, .ref rk])), (cq, .inr (8, [.int 0, .int 0, .ref vc, .ref lc, .ref hc, .ref rc])), (q1, .inl (G.2.1, 4, .inl (upd (upd (upd (fun _ => 0) 0 (-1)) 1 (-1)) 2 (-1))))] := hD
  refine lv_dup hx hb dX9_witnessNow_15 rfl ?_
  refine lv_iconst (v := 3) hx hb dX9_witnessNow_16 (by decide) ?_
  refine lv_iconst (v := (-1)) hx hb dX9_witnessNow_17 (by decide) ?_
  refine va_iast hx hb hE.1 hP hD hS 3 0 rfl rfl (zin (by decide +kernel)) dX9_witnessNow_18 (fun H locs hP hD hS => ?_)
  have hP : va_P G.1 vwCl [(mm, .inr (9, [.int th, .ref nw, .ref cq, .ref hi, .int 0, .ref ko, .ref se, .int 0, .ref nf, .ref ns, .ref pi])), (nw, .inr (8, [.int 0, .int 0, .ref vd, .ref lw, .ref hg, .ref rk])), (cq, .inr (8, [.int 0, .int 0, .ref vc, .ref lc, .ref hc, .ref rc])), (q1, .inl (G.2.1, 4, .inl (upd (upd (upd (upd (fun _ => 0) 0 (-1)) 1 (-1)) 2 (-1)) 3 (-1))))] H := hP
  have hD : va_D A [(mm, .inr (9, [.int th, .ref nw, .ref cq, .ref hi, .int 0, .ref ko, .ref se, .int 0, .ref nf, .ref ns, .ref pi])), (nw, .inr (8, [.int 0, .int 0, .ref vd, .ref lw, .ref hg, .ref rk])), (cq, .inr (8, [.int 0, .int 0, .ref vc, .ref lc, .ref hc, .ref rc])), (q1, .inl (G.2.1, 4, .inl (upd (upd (upd (upd (fun _ => 0) 0 (-1)) 1 (-1)) 2 (-1)) 3 (-1))))] := hD
  refine lv_astore_n (lv' := [(1, .ref q1), (0, .ref mm)]) hx hb dX9_witnessNow_19 rfl hl (by decide) rfl (fun ls hl => ?_)
  refine lv_aload_n hx hb dX9_witnessNow_20 rfl (lv_at hl 1 rfl) ?_
  refine zcall (wr := [(q1, .inl (G.2.1, 4, .inl (upd (upd (upd (upd (fun _ => 0) 0 (-1)) 1 (-1)) 2 (-1)) 3 (-1))))]) (va_runV (As := []) (rest := []) ⟨hx, hb, hml, hown, hts⟩ (z_X9_changedNow l G mm nw cq hi ko se nf ns pi th vd lw hg rk vc lc hc rc H.size) (cwV 0 hts gX9_witnessNow_X9_changedNow rfl rfl rfl (by decide +kernel) ⟨Nat.le_of_ble_eq_true rfl, Nat.le_of_ble_eq_true rfl⟩) (zPreV (Wc := [(mm, .inr (9, [.int th, .ref nw, .ref cq, .ref hi, .int 0, .ref ko, .ref se, .int 0, .ref nf, .ref ns, .ref pi])), (nw, .inr (8, [.int 0, .int 0, .ref vd, .ref lw, .ref hg, .ref rk])), (cq, .inr (8, [.int 0, .int 0, .ref vc, .ref lc, .ref hc, .ref rc]))]) (q0 := 0) (ci := 9) (q := (RX9, TX9, 11)) hP hD hE hS hA [0, 1, 2] rfl (by decide) rfl rfl) rfl rfl hl.1 rfl (lv_room (Nat.le_of_ble_eq_true rfl)) dX9_witnessNow_21 ⟨Nat.le_of_ble_eq_true rfl, Nat.le_of_ble_eq_true rfl⟩) hP hD hS hA [0, 1, 2] [3] rfl rfl (by decide) (by decide) (fun u2 H locs hP hD hS => ?_)
  have hP : va_P G.1 vwCl [(q1, .inl (G.2.1, 4, .inl (upd (upd (upd (upd (fun _ => 0) 0 (-1)) 1 (-1)) 2 (-1)) 3 (-1)))), (mm, .inr (9, [.int th, .ref nw, .ref cq, .ref hi, .int 0, .ref ko, .ref se, .int 0, .ref nf, .ref ns, .ref pi])), (cq, .inr (8, [.int 0, .int 0, .ref vc, .ref lc, .ref hc, .ref (u2 0)])), (nw, .inr (8, [.int 0, .int 0, .ref vd, .ref lw, .ref hg, .ref (u2 1)]))] H := hP
  have hD : va_D A [(q1, .inl (G.2.1, 4, .inl (upd (upd (upd (upd (fun _ => 0) 0 (-1)) 1 (-1)) 2 (-1)) 3 (-1)))), (mm, .inr (9, [.int th, .ref nw, .ref cq, .ref hi, .int 0, .ref ko, .ref se, .int 0, .ref nf, .ref ns, .ref pi])), (cq, .inr (8, [.int 0, .int 0, .ref vc, .ref lc, .ref hc, .ref (u2 0)])), (nw, .inr (8, [.int 0, .int 0, .ref vd, .ref lw, .ref hg, .ref (u2 1)]))] := hD
  refine W.eq (g2 := F0 m 24 ls [.int 0]) rfl ?_
  refine lv_if_ne (tgt := 29) hx hb dX9_witnessNow_24 (by decide) (fun h9 => absurd (by decide) h9) (fun _ => ?_)
  refine lv_aload_n hx hb dX9_witnessNow_27 rfl (lv_at hl 0 rfl) ?_
  have hP := hP.sub (ws' := [(mm, .inr (9, [.int th, .ref nw, .ref cq, .ref hi, .int 0, .ref ko, .ref se, .int 0, .ref nf, .ref ns, .ref pi])), (nw, .inr (8, [.int 0, .int 0, .ref vd, .ref lw, .ref hg, .ref (u2 1)])), (cq, .inr (8, [.int 0, .int 0, .ref vc, .ref lc, .ref hc, .ref (u2 0)])), (q1, .inl (G.2.1, 4, .inl (upd (upd (upd (upd (fun _ => 0) 0 (-1)) 1 (-1)) 2 (-1)) 3 (-1))))]) [1, 3, 2, 0] rfl
  have hD := hD.sub (ws' := [(mm, .inr (9, [.int th, .ref nw, .ref cq, .ref hi, .int 0, .ref ko, .ref se, .int 0, .ref nf, .ref ns, .ref pi])), (nw, .inr (8, [.int 0, .int 0, .ref vd, .ref lw, .ref hg, .ref (u2 1)])), (cq, .inr (8, [.int 0, .int 0, .ref vc, .ref lc, .ref hc, .ref (u2 0)])), (q1, .inl (G.2.1, 4, .inl (upd (upd (upd (upd (fun _ => 0) 0 (-1)) 1 (-1)) 2 (-1)) 3 (-1))))]) [1, 3, 2, 0] (by decide) rfl
  exact zend_ar hx hb hr hlocks (Or.inr ⟨_, rfl⟩) (fun k => [q1, (u2 1), (u2 0)].getD k 0) hP hD hS (Nat.le_of_ble_eq_true rfl) (Nat.le_of_ble_eq_true rfl) dX9_witnessNow_28 rfl

set_option maxHeartbeats 4000000 in
set_option maxRecDepth 100000 in
theorem z_X9_witness0 (l : Launch) (G : zG) (mm : Nat) (nw : Nat) (cq : Nat) (hi : Nat) (ko : Nat) (se : Nat) (nf : Nat) (ns : Nat) (pi : Nat) (th : Int32) (vd : Nat) (lw : Nat) (hg : Nat) (rk : Nat) (vc : Nat) (lc : Nat) (hc : Nat) (rc : Nat) : zR l G yX9_witness wsX9_witness { frames := 6, cells := 3, slots := 2052, locals := 145 } [(mm, .inr (9, [.int th, .ref nw, .ref cq, .ref hi, .int 0, .ref ko, .ref se, .int 0, .ref nf, .ref ns, .ref pi])), (nw, .inr (8, [.int 0, .int 0, .ref vd, .ref lw, .ref hg, .ref rk])), (cq, .inr (8, [.int 0, .int 0, .ref vc, .ref lc, .ref hc, .ref rc]))] [.ref mm, .int 0] (some (.int (-1))) (fun u => [(mm, .inr (9, [.int 0, .ref nw, .ref cq, .ref hi, .int 0, .ref ko, .ref se, .int 0, .ref nf, .ref ns, .ref pi])), (nw, .inr (8, [.int 0, .int 0, .ref vd, .ref lw, .ref hg, .ref (u 0)])), (cq, .inr (8, [.int 0, .int 0, .ref vc, .ref lc, .ref hc, .ref (u 1)]))]) 3 2052 := by
  refine zR_of (cc := cX9_witness) (maxL := 2) (rt := (some .int)) (by decide) rfl (Nat.le_of_ble_eq_true rfl) ?_
  intro p e s m below meth c A ls hx hb hml hr hts hown hlocks hin hA hE hP hD hS hl
  have hl : lv_has ls 2 [(0, .ref mm), (1, .int 0)] := hl
  have hown : s.vm.findClass RX9 = some m.cls := hown
  have hP : va_P G.1 vwCl [(mm, .inr (9, [.int th, .ref nw, .ref cq, .ref hi, .int 0, .ref ko, .ref se, .int 0, .ref nf, .ref ns, .ref pi])), (nw, .inr (8, [.int 0, .int 0, .ref vd, .ref lw, .ref hg, .ref rk])), (cq, .inr (8, [.int 0, .int 0, .ref vc, .ref lc, .ref hc, .ref rc]))] s.heap := hP
  have hw9 : ∀ w ∈ u_ws RX9 TX9 11, w ∈ wsX9_witness := by decide +kernel
  have hf40 := hts (.fieldLink RX9 40 "NettleModel" "thrown" "I") (by decide +kernel)
  refine lv_aload_n hx hb dX9_witness_0 rfl (lv_at hl 0 rfl) ?_
  refine lv_iconst (v := 0) hx hb dX9_witness_1 (by decide) ?_
  refine va_put (D := G.1) (ci := 9) (v := .int 0) (ty := tyX9 0) (C := RX9) (T := TX9) (N := 11) hx hb hts hw9 tyX9 tyX9_ok nmX9 hown hE.1 hP hD hS 0 rfl rfl 0 (by decide) hf40 (fun _ h9 => h9) rfl (by decide +kernel) rfl rfl (Nat.le_of_ble_eq_true rfl) dX9_witness_2 (fun H locs hP hD hS => ?_)
  have hP : va_P G.1 vwCl [(mm, .inr (9, [.int 0, .ref nw, .ref cq, .ref hi, .int 0, .ref ko, .ref se, .int 0, .ref nf, .ref ns, .ref pi])), (nw, .inr (8, [.int 0, .int 0, .ref vd, .ref lw, .ref hg, .ref rk])), (cq, .inr (8, [.int 0, .int 0, .ref vc, .ref lc, .ref hc, .ref rc]))] H := hP
  have hD : va_D A [(mm, .inr (9, [.int 0, .ref nw, .ref cq, .ref hi, .int 0, .ref ko, .ref se, .int 0, .ref nf, .ref ns, .ref pi])), (nw, .inr (8, [.int 0, .int 0, .ref vd, .ref lw, .ref hg, .ref rk])), (cq, .inr (8, [.int 0, .int 0, .ref vc, .ref lc, .ref hc, .ref rc]))] := hD
  refine lv_iload_n hx hb dX9_witness_5 rfl (lv_at hl 1 rfl) ?_
  refine lv_iconst (v := 0) hx hb dX9_witness_6 (by decide) ?_
  refine lv_iconst (v := 3) hx hb dX9_witness_7 (by decide) ?_
  refine zcall (wr := [(mm, .inr (9, [.int 0, .ref nw, .ref cq, .ref hi, .int 0, .ref ko, .ref se, .int 0, .ref nf, .ref ns, .ref pi])), (nw, .inr (8, [.int 0, .int 0, .ref vd, .ref lw, .ref hg, .ref rk])), (cq, .inr (8, [.int 0, .int 0, .ref vc, .ref lc, .ref hc, .ref rc]))]) (va_runS (As := [.int 0, .int 0, .int 3]) (rest := []) ⟨hx, hb, hml, hown, hts⟩ (z_X9_isIn l G 0 0 3 (by decide) (by decide) H.size) (va_cwS 3 hts gX9_witness_X9_isIn rfl rfl rfl (by decide +kernel) ⟨Nat.le_of_ble_eq_true rfl, Nat.le_of_ble_eq_true rfl⟩) (zPre (Wc := []) hP hD hE hS hA [] rfl (by decide)) rfl rfl hl.1 rfl (lv_room (Nat.le_of_ble_eq_true rfl)) dX9_witness_8 ⟨Nat.le_of_ble_eq_true rfl, Nat.le_of_ble_eq_true rfl⟩) hP hD hS hA [] [0, 1, 2] rfl rfl (by decide) (by decide) (fun u1 H locs hP hD hS => ?_)
  have hP : va_P G.1 vwCl [(mm, .inr (9, [.int 0, .ref nw, .ref cq, .ref hi, .int 0, .ref ko, .ref se, .int 0, .ref nf, .ref ns, .ref pi])), (nw, .inr (8, [.int 0, .int 0, .ref vd, .ref lw, .ref hg, .ref rk])), (cq, .inr (8, [.int 0, .int 0, .ref vc, .ref lc, .ref hc, .ref rc]))] H := hP
  have hD : va_D A [(mm, .inr (9, [.int 0, .ref nw, .ref cq, .ref hi, .int 0, .ref ko, .ref se, .int 0, .ref nf, .ref ns, .ref pi])), (nw, .inr (8, [.int 0, .int 0, .ref vd, .ref lw, .ref hg, .ref rk])), (cq, .inr (8, [.int 0, .int 0, .ref vc, .ref lc, .ref hc, .ref rc]))] := hD
  refine W.eq (g2 := F0 m 11 ls [.int 1]) rfl ?_
  refine lv_if_eq (tgt := 23) hx hb dX9_witness_11 (by decide) (fun h9 => absurd h9 (by decide)) (fun _ => ?_)
  refine lv_aload_n hx hb dX9_witness_14 rfl (lv_at hl 0 rfl) ?_
  refine zcallA (wr := []) (va_runV (As := []) (rest := []) ⟨hx, hb, hml, hown, hts⟩ (z_X9_witnessNow l G mm nw cq hi ko se nf ns pi 0 vd lw hg rk vc lc hc rc H.size) (cwV 0 hts gX9_witness_X9_witnessNow rfl rfl rfl (by decide +kernel) ⟨Nat.le_of_ble_eq_true rfl, Nat.le_of_ble_eq_true rfl⟩) (zPreV (Wc := [(mm, .inr (9, [.int 0, .ref nw, .ref cq, .ref hi, .int 0, .ref ko, .ref se, .int 0, .ref nf, .ref ns, .ref pi])), (nw, .inr (8, [.int 0, .int 0, .ref vd, .ref lw, .ref hg, .ref rk])), (cq, .inr (8, [.int 0, .int 0, .ref vc, .ref lc, .ref hc, .ref rc]))]) (q0 := 0) (ci := 9) (q := (RX9, TX9, 11)) hP hD hE hS hA [0, 1, 2] rfl (by decide) rfl rfl) rfl rfl hl.1 rfl (lv_room (Nat.le_of_ble_eq_true rfl)) dX9_witness_15 ⟨Nat.le_of_ble_eq_true rfl, Nat.le_of_ble_eq_true rfl⟩) hP hD hS hA [0, 1, 2] [] rfl rfl (by decide) (by decide) (fun u2 H locs hP hD hS => ?_)
  have hP : va_P G.1 vwCl [(mm, .inr (9, [.int 0, .ref nw, .ref cq, .ref hi, .int 0, .ref ko, .ref se, .int 0, .ref nf, .ref ns, .ref pi])), (nw, .inr (8, [.int 0, .int 0, .ref vd, .ref lw, .ref hg, .ref (u2 1)])), (cq, .inr (8, [.int 0, .int 0, .ref vc, .ref lc, .ref hc, .ref (u2 2)])), ((u2 0), .inl (G.2.1, 4, .inl (upd (upd (upd (upd (fun _ => 0) 0 (-1)) 1 (-1)) 2 (-1)) 3 (-1))))] H := hP
  have hD : va_D A [(mm, .inr (9, [.int 0, .ref nw, .ref cq, .ref hi, .int 0, .ref ko, .ref se, .int 0, .ref nf, .ref ns, .ref pi])), (nw, .inr (8, [.int 0, .int 0, .ref vd, .ref lw, .ref hg, .ref (u2 1)])), (cq, .inr (8, [.int 0, .int 0, .ref vc, .ref lc, .ref hc, .ref (u2 2)])), ((u2 0), .inl (G.2.1, 4, .inl (upd (upd (upd (upd (fun _ => 0) 0 (-1)) 1 (-1)) 2 (-1)) 3 (-1))))] := hD
  refine W.eq (g2 := F0 m 18 ls [.ref (u2 0)]) rfl ?_
  refine lv_iload_n hx hb dX9_witness_18 rfl (lv_at hl 1 rfl) ?_
  refine va_iald hx hb hE.1 hP 3 0 rfl rfl (zin (by decide +kernel)) dX9_witness_19 ?_
  refine zti (v := (-1)) rfl ?_
  refine lv_goto (tgt := 28) hx hb dX9_witness_20 (by decide) ?_
  have hP := hP.sub (ws' := [(mm, .inr (9, [.int 0, .ref nw, .ref cq, .ref hi, .int 0, .ref ko, .ref se, .int 0, .ref nf, .ref ns, .ref pi])), (nw, .inr (8, [.int 0, .int 0, .ref vd, .ref lw, .ref hg, .ref (u2 1)])), (cq, .inr (8, [.int 0, .int 0, .ref vc, .ref lc, .ref hc, .ref (u2 2)]))]) [0, 1, 2] rfl
  have hD := hD.sub (ws' := [(mm, .inr (9, [.int 0, .ref nw, .ref cq, .ref hi, .int 0, .ref ko, .ref se, .int 0, .ref nf, .ref ns, .ref pi])), (nw, .inr (8, [.int 0, .int 0, .ref vd, .ref lw, .ref hg, .ref (u2 1)])), (cq, .inr (8, [.int 0, .int 0, .ref vc, .ref lc, .ref hc, .ref (u2 2)]))]) [0, 1, 2] (by decide) rfl
  exact zend_i hx hb hr hlocks (fun k => [(u2 1), (u2 2)].getD k 0) hP hD hS (Nat.le_of_ble_eq_true rfl) (Nat.le_of_ble_eq_true rfl) dX9_witness_28

set_option maxHeartbeats 4000000 in
set_option maxRecDepth 100000 in
theorem z_X9_witness1 (l : Launch) (G : zG) (mm : Nat) (nw : Nat) (cq : Nat) (hi : Nat) (ko : Nat) (se : Nat) (nf : Nat) (ns : Nat) (pi : Nat) (th : Int32) (vd : Nat) (lw : Nat) (hg : Nat) (rk : Nat) (vc : Nat) (lc : Nat) (hc : Nat) (rc : Nat) : zR l G yX9_witness wsX9_witness { frames := 6, cells := 3, slots := 2052, locals := 145 } [(mm, .inr (9, [.int th, .ref nw, .ref cq, .ref hi, .int 0, .ref ko, .ref se, .int 0, .ref nf, .ref ns, .ref pi])), (nw, .inr (8, [.int 0, .int 0, .ref vd, .ref lw, .ref hg, .ref rk])), (cq, .inr (8, [.int 0, .int 0, .ref vc, .ref lc, .ref hc, .ref rc]))] [.ref mm, .int 1] (some (.int (-1))) (fun u => [(mm, .inr (9, [.int 0, .ref nw, .ref cq, .ref hi, .int 0, .ref ko, .ref se, .int 0, .ref nf, .ref ns, .ref pi])), (nw, .inr (8, [.int 0, .int 0, .ref vd, .ref lw, .ref hg, .ref (u 0)])), (cq, .inr (8, [.int 0, .int 0, .ref vc, .ref lc, .ref hc, .ref (u 1)]))]) 3 2052 := by
  refine zR_of (cc := cX9_witness) (maxL := 2) (rt := (some .int)) (by decide) rfl (Nat.le_of_ble_eq_true rfl) ?_
  intro p e s m below meth c A ls hx hb hml hr hts hown hlocks hin hA hE hP hD hS hl
  have hl : lv_has ls 2 [(0, .ref mm), (1, .int 1)] := hl
  have hown : s.vm.findClass RX9 = some m.cls := hown
  have hP : va_P G.1 vwCl [(mm, .inr (9, [.int th, .ref nw, .ref cq, .ref hi, .int 0, .ref ko, .ref se, .int 0, .ref nf, .ref ns, .ref pi])), (nw, .inr (8, [.int 0, .int 0, .ref vd, .ref lw, .ref hg, .ref rk])), (cq, .inr (8, [.int 0, .int 0, .ref vc, .ref lc, .ref hc, .ref rc]))] s.heap := hP
  have hw9 : ∀ w ∈ u_ws RX9 TX9 11, w ∈ wsX9_witness := by decide +kernel
  have hf40 := hts (.fieldLink RX9 40 "NettleModel" "thrown" "I") (by decide +kernel)
  refine lv_aload_n hx hb dX9_witness_0 rfl (lv_at hl 0 rfl) ?_
  refine lv_iconst (v := 0) hx hb dX9_witness_1 (by decide) ?_
  refine va_put (D := G.1) (ci := 9) (v := .int 0) (ty := tyX9 0) (C := RX9) (T := TX9) (N := 11) hx hb hts hw9 tyX9 tyX9_ok nmX9 hown hE.1 hP hD hS 0 rfl rfl 0 (by decide) hf40 (fun _ h9 => h9) rfl (by decide +kernel) rfl rfl (Nat.le_of_ble_eq_true rfl) dX9_witness_2 (fun H locs hP hD hS => ?_)
  have hP : va_P G.1 vwCl [(mm, .inr (9, [.int 0, .ref nw, .ref cq, .ref hi, .int 0, .ref ko, .ref se, .int 0, .ref nf, .ref ns, .ref pi])), (nw, .inr (8, [.int 0, .int 0, .ref vd, .ref lw, .ref hg, .ref rk])), (cq, .inr (8, [.int 0, .int 0, .ref vc, .ref lc, .ref hc, .ref rc]))] H := hP
  have hD : va_D A [(mm, .inr (9, [.int 0, .ref nw, .ref cq, .ref hi, .int 0, .ref ko, .ref se, .int 0, .ref nf, .ref ns, .ref pi])), (nw, .inr (8, [.int 0, .int 0, .ref vd, .ref lw, .ref hg, .ref rk])), (cq, .inr (8, [.int 0, .int 0, .ref vc, .ref lc, .ref hc, .ref rc]))] := hD
  refine lv_iload_n hx hb dX9_witness_5 rfl (lv_at hl 1 rfl) ?_
  refine lv_iconst (v := 0) hx hb dX9_witness_6 (by decide) ?_
  refine lv_iconst (v := 3) hx hb dX9_witness_7 (by decide) ?_
  refine zcall (wr := [(mm, .inr (9, [.int 0, .ref nw, .ref cq, .ref hi, .int 0, .ref ko, .ref se, .int 0, .ref nf, .ref ns, .ref pi])), (nw, .inr (8, [.int 0, .int 0, .ref vd, .ref lw, .ref hg, .ref rk])), (cq, .inr (8, [.int 0, .int 0, .ref vc, .ref lc, .ref hc, .ref rc]))]) (va_runS (As := [.int 1, .int 0, .int 3]) (rest := []) ⟨hx, hb, hml, hown, hts⟩ (z_X9_isIn l G 1 0 3 (by decide) (by decide) H.size) (va_cwS 3 hts gX9_witness_X9_isIn rfl rfl rfl (by decide +kernel) ⟨Nat.le_of_ble_eq_true rfl, Nat.le_of_ble_eq_true rfl⟩) (zPre (Wc := []) hP hD hE hS hA [] rfl (by decide)) rfl rfl hl.1 rfl (lv_room (Nat.le_of_ble_eq_true rfl)) dX9_witness_8 ⟨Nat.le_of_ble_eq_true rfl, Nat.le_of_ble_eq_true rfl⟩) hP hD hS hA [] [0, 1, 2] rfl rfl (by decide) (by decide) (fun u1 H locs hP hD hS => ?_)
  have hP : va_P G.1 vwCl [(mm, .inr (9, [.int 0, .ref nw, .ref cq, .ref hi, .int 0, .ref ko, .ref se, .int 0, .ref nf, .ref ns, .ref pi])), (nw, .inr (8, [.int 0, .int 0, .ref vd, .ref lw, .ref hg, .ref rk])), (cq, .inr (8, [.int 0, .int 0, .ref vc, .ref lc, .ref hc, .ref rc]))] H := hP
  have hD : va_D A [(mm, .inr (9, [.int 0, .ref nw, .ref cq, .ref hi, .int 0, .ref ko, .ref se, .int 0, .ref nf, .ref ns, .ref pi])), (nw, .inr (8, [.int 0, .int 0, .ref vd, .ref lw, .ref hg, .ref rk])), (cq, .inr (8, [.int 0, .int 0, .ref vc, .ref lc, .ref hc, .ref rc]))] := hD
  refine W.eq (g2 := F0 m 11 ls [.int 1]) rfl ?_
  refine lv_if_eq (tgt := 23) hx hb dX9_witness_11 (by decide) (fun h9 => absurd h9 (by decide)) (fun _ => ?_)
  refine lv_aload_n hx hb dX9_witness_14 rfl (lv_at hl 0 rfl) ?_
  refine zcallA (wr := []) (va_runV (As := []) (rest := []) ⟨hx, hb, hml, hown, hts⟩ (z_X9_witnessNow l G mm nw cq hi ko se nf ns pi 0 vd lw hg rk vc lc hc rc H.size) (cwV 0 hts gX9_witness_X9_witnessNow rfl rfl rfl (by decide +kernel) ⟨Nat.le_of_ble_eq_true rfl, Nat.le_of_ble_eq_true rfl⟩) (zPreV (Wc := [(mm, .inr (9, [.int 0, .ref nw, .ref cq, .ref hi, .int 0, .ref ko, .ref se, .int 0, .ref nf, .ref ns, .ref pi])), (nw, .inr (8, [.int 0, .int 0, .ref vd, .ref lw, .ref hg, .ref rk])), (cq, .inr (8, [.int 0, .int 0, .ref vc, .ref lc, .ref hc, .ref rc]))]) (q0 := 0) (ci := 9) (q := (RX9, TX9, 11)) hP hD hE hS hA [0, 1, 2] rfl (by decide) rfl rfl) rfl rfl hl.1 rfl (lv_room (Nat.le_of_ble_eq_true rfl)) dX9_witness_15 ⟨Nat.le_of_ble_eq_true rfl, Nat.le_of_ble_eq_true rfl⟩) hP hD hS hA [0, 1, 2] [] rfl rfl (by decide) (by decide) (fun u2 H locs hP hD hS => ?_)
  have hP : va_P G.1 vwCl [(mm, .inr (9, [.int 0, .ref nw, .ref cq, .ref hi, .int 0, .ref ko, .ref se, .int 0, .ref nf, .ref ns, .ref pi])), (nw, .inr (8, [.int 0, .int 0, .ref vd, .ref lw, .ref hg, .ref (u2 1)])), (cq, .inr (8, [.int 0, .int 0, .ref vc, .ref lc, .ref hc, .ref (u2 2)])), ((u2 0), .inl (G.2.1, 4, .inl (upd (upd (upd (upd (fun _ => 0) 0 (-1)) 1 (-1)) 2 (-1)) 3 (-1))))] H := hP
  have hD : va_D A [(mm, .inr (9, [.int 0, .ref nw, .ref cq, .ref hi, .int 0, .ref ko, .ref se, .int 0, .ref nf, .ref ns, .ref pi])), (nw, .inr (8, [.int 0, .int 0, .ref vd, .ref lw, .ref hg, .ref (u2 1)])), (cq, .inr (8, [.int 0, .int 0, .ref vc, .ref lc, .ref hc, .ref (u2 2)])), ((u2 0), .inl (G.2.1, 4, .inl (upd (upd (upd (upd (fun _ => 0) 0 (-1)) 1 (-1)) 2 (-1)) 3 (-1))))] := hD
  refine W.eq (g2 := F0 m 18 ls [.ref (u2 0)]) rfl ?_
  refine lv_iload_n hx hb dX9_witness_18 rfl (lv_at hl 1 rfl) ?_
  refine va_iald hx hb hE.1 hP 3 0 rfl rfl (zin (by decide +kernel)) dX9_witness_19 ?_
  refine zti (v := (-1)) rfl ?_
  refine lv_goto (tgt := 28) hx hb dX9_witness_20 (by decide) ?_
  have hP := hP.sub (ws' := [(mm, .inr (9, [.int 0, .ref nw, .ref cq, .ref hi, .int 0, .ref ko, .ref se, .int 0, .ref nf, .ref ns, .ref pi])), (nw, .inr (8, [.int 0, .int 0, .ref vd, .ref lw, .ref hg, .ref (u2 1)])), (cq, .inr (8, [.int 0, .int 0, .ref vc, .ref lc, .ref hc, .ref (u2 2)]))]) [0, 1, 2] rfl
  have hD := hD.sub (ws' := [(mm, .inr (9, [.int 0, .ref nw, .ref cq, .ref hi, .int 0, .ref ko, .ref se, .int 0, .ref nf, .ref ns, .ref pi])), (nw, .inr (8, [.int 0, .int 0, .ref vd, .ref lw, .ref hg, .ref (u2 1)])), (cq, .inr (8, [.int 0, .int 0, .ref vc, .ref lc, .ref hc, .ref (u2 2)]))]) [0, 1, 2] (by decide) rfl
  exact zend_i hx hb hr hlocks (fun k => [(u2 1), (u2 2)].getD k 0) hP hD hS (Nat.le_of_ble_eq_true rfl) (Nat.le_of_ble_eq_true rfl) dX9_witness_28

set_option maxHeartbeats 4000000 in
set_option maxRecDepth 100000 in
theorem z_X9_witness2 (l : Launch) (G : zG) (mm : Nat) (nw : Nat) (cq : Nat) (hi : Nat) (ko : Nat) (se : Nat) (nf : Nat) (ns : Nat) (pi : Nat) (th : Int32) (vd : Nat) (lw : Nat) (hg : Nat) (rk : Nat) (vc : Nat) (lc : Nat) (hc : Nat) (rc : Nat) : zR l G yX9_witness wsX9_witness { frames := 6, cells := 3, slots := 2052, locals := 145 } [(mm, .inr (9, [.int th, .ref nw, .ref cq, .ref hi, .int 0, .ref ko, .ref se, .int 0, .ref nf, .ref ns, .ref pi])), (nw, .inr (8, [.int 0, .int 0, .ref vd, .ref lw, .ref hg, .ref rk])), (cq, .inr (8, [.int 0, .int 0, .ref vc, .ref lc, .ref hc, .ref rc]))] [.ref mm, .int 2] (some (.int (-1))) (fun u => [(mm, .inr (9, [.int 0, .ref nw, .ref cq, .ref hi, .int 0, .ref ko, .ref se, .int 0, .ref nf, .ref ns, .ref pi])), (nw, .inr (8, [.int 0, .int 0, .ref vd, .ref lw, .ref hg, .ref (u 0)])), (cq, .inr (8, [.int 0, .int 0, .ref vc, .ref lc, .ref hc, .ref (u 1)]))]) 3 2052 := by
  refine zR_of (cc := cX9_witness) (maxL := 2) (rt := (some .int)) (by decide) rfl (Nat.le_of_ble_eq_true rfl) ?_
  intro p e s m below meth c A ls hx hb hml hr hts hown hlocks hin hA hE hP hD hS hl
  have hl : lv_has ls 2 [(0, .ref mm), (1, .int 2)] := hl
  have hown : s.vm.findClass RX9 = some m.cls := hown
  have hP : va_P G.1 vwCl [(mm, .inr (9, [.int th, .ref nw, .ref cq, .ref hi, .int 0, .ref ko, .ref se, .int 0, .ref nf, .ref ns, .ref pi])), (nw, .inr (8, [.int 0, .int 0, .ref vd, .ref lw, .ref hg, .ref rk])), (cq, .inr (8, [.int 0, .int 0, .ref vc, .ref lc, .ref hc, .ref rc]))] s.heap := hP
  have hw9 : ∀ w ∈ u_ws RX9 TX9 11, w ∈ wsX9_witness := by decide +kernel
  have hf40 := hts (.fieldLink RX9 40 "NettleModel" "thrown" "I") (by decide +kernel)
  refine lv_aload_n hx hb dX9_witness_0 rfl (lv_at hl 0 rfl) ?_
  refine lv_iconst (v := 0) hx hb dX9_witness_1 (by decide) ?_
  refine va_put (D := G.1) (ci := 9) (v := .int 0) (ty := tyX9 0) (C := RX9) (T := TX9) (N := 11) hx hb hts hw9 tyX9 tyX9_ok nmX9 hown hE.1 hP hD hS 0 rfl rfl 0 (by decide) hf40 (fun _ h9 => h9) rfl (by decide +kernel) rfl rfl (Nat.le_of_ble_eq_true rfl) dX9_witness_2 (fun H locs hP hD hS => ?_)
  have hP : va_P G.1 vwCl [(mm, .inr (9, [.int 0, .ref nw, .ref cq, .ref hi, .int 0, .ref ko, .ref se, .int 0, .ref nf, .ref ns, .ref pi])), (nw, .inr (8, [.int 0, .int 0, .ref vd, .ref lw, .ref hg, .ref rk])), (cq, .inr (8, [.int 0, .int 0, .ref vc, .ref lc, .ref hc, .ref rc]))] H := hP
  have hD : va_D A [(mm, .inr (9, [.int 0, .ref nw, .ref cq, .ref hi, .int 0, .ref ko, .ref se, .int 0, .ref nf, .ref ns, .ref pi])), (nw, .inr (8, [.int 0, .int 0, .ref vd, .ref lw, .ref hg, .ref rk])), (cq, .inr (8, [.int 0, .int 0, .ref vc, .ref lc, .ref hc, .ref rc]))] := hD
  refine lv_iload_n hx hb dX9_witness_5 rfl (lv_at hl 1 rfl) ?_
  refine lv_iconst (v := 0) hx hb dX9_witness_6 (by decide) ?_
  refine lv_iconst (v := 3) hx hb dX9_witness_7 (by decide) ?_
  refine zcall (wr := [(mm, .inr (9, [.int 0, .ref nw, .ref cq, .ref hi, .int 0, .ref ko, .ref se, .int 0, .ref nf, .ref ns, .ref pi])), (nw, .inr (8, [.int 0, .int 0, .ref vd, .ref lw, .ref hg, .ref rk])), (cq, .inr (8, [.int 0, .int 0, .ref vc, .ref lc, .ref hc, .ref rc]))]) (va_runS (As := [.int 2, .int 0, .int 3]) (rest := []) ⟨hx, hb, hml, hown, hts⟩ (z_X9_isIn l G 2 0 3 (by decide) (by decide) H.size) (va_cwS 3 hts gX9_witness_X9_isIn rfl rfl rfl (by decide +kernel) ⟨Nat.le_of_ble_eq_true rfl, Nat.le_of_ble_eq_true rfl⟩) (zPre (Wc := []) hP hD hE hS hA [] rfl (by decide)) rfl rfl hl.1 rfl (lv_room (Nat.le_of_ble_eq_true rfl)) dX9_witness_8 ⟨Nat.le_of_ble_eq_true rfl, Nat.le_of_ble_eq_true rfl⟩) hP hD hS hA [] [0, 1, 2] rfl rfl (by decide) (by decide) (fun u1 H locs hP hD hS => ?_)
  have hP : va_P G.1 vwCl [(mm, .inr (9, [.int 0, .ref nw, .ref cq, .ref hi, .int 0, .ref ko, .ref se, .int 0, .ref nf, .ref ns, .ref pi])), (nw, .inr (8, [.int 0, .int 0, .ref vd, .ref lw, .ref hg, .ref rk])), (cq, .inr (8, [.int 0, .int 0, .ref vc, .ref lc, .ref hc, .ref rc]))] H := hP
  have hD : va_D A [(mm, .inr (9, [.int 0, .ref nw, .ref cq, .ref hi, .int 0, .ref ko, .ref se, .int 0, .ref nf, .ref ns, .ref pi])), (nw, .inr (8, [.int 0, .int 0, .ref vd, .ref lw, .ref hg, .ref rk])), (cq, .inr (8, [.int 0, .int 0, .ref vc, .ref lc, .ref hc, .ref rc]))] := hD
  refine W.eq (g2 := F0 m 11 ls [.int 1]) rfl ?_
  refine lv_if_eq (tgt := 23) hx hb dX9_witness_11 (by decide) (fun h9 => absurd h9 (by decide)) (fun _ => ?_)
  refine lv_aload_n hx hb dX9_witness_14 rfl (lv_at hl 0 rfl) ?_
  refine zcallA (wr := []) (va_runV (As := []) (rest := []) ⟨hx, hb, hml, hown, hts⟩ (z_X9_witnessNow l G mm nw cq hi ko se nf ns pi 0 vd lw hg rk vc lc hc rc H.size) (cwV 0 hts gX9_witness_X9_witnessNow rfl rfl rfl (by decide +kernel) ⟨Nat.le_of_ble_eq_true rfl, Nat.le_of_ble_eq_true rfl⟩) (zPreV (Wc := [(mm, .inr (9, [.int 0, .ref nw, .ref cq, .ref hi, .int 0, .ref ko, .ref se, .int 0, .ref nf, .ref ns, .ref pi])), (nw, .inr (8, [.int 0, .int 0, .ref vd, .ref lw, .ref hg, .ref rk])), (cq, .inr (8, [.int 0, .int 0, .ref vc, .ref lc, .ref hc, .ref rc]))]) (q0 := 0) (ci := 9) (q := (RX9, TX9, 11)) hP hD hE hS hA [0, 1, 2] rfl (by decide) rfl rfl) rfl rfl hl.1 rfl (lv_room (Nat.le_of_ble_eq_true rfl)) dX9_witness_15 ⟨Nat.le_of_ble_eq_true rfl, Nat.le_of_ble_eq_true rfl⟩) hP hD hS hA [0, 1, 2] [] rfl rfl (by decide) (by decide) (fun u2 H locs hP hD hS => ?_)
  have hP : va_P G.1 vwCl [(mm, .inr (9, [.int 0, .ref nw, .ref cq, .ref hi, .int 0, .ref ko, .ref se, .int 0, .ref nf, .ref ns, .ref pi])), (nw, .inr (8, [.int 0, .int 0, .ref vd, .ref lw, .ref hg, .ref (u2 1)])), (cq, .inr (8, [.int 0, .int 0, .ref vc, .ref lc, .ref hc, .ref (u2 2)])), ((u2 0), .inl (G.2.1, 4, .inl (upd (upd (upd (upd (fun _ => 0) 0 (-1)) 1 (-1)) 2 (-1)) 3 (-1))))] H := hP
  have hD : va_D A [(mm, .inr (9, [.int 0, .ref nw, .ref cq, .ref hi, .int 0, .ref ko, .ref se, .int 0, .ref nf, .ref ns, .ref pi])), (nw, .inr (8, [.int 0, .int 0, .ref vd, .ref lw, .ref hg, .ref (u2 1)])), (cq, .inr (8, [.int 0, .int 0, .ref vc, .ref lc, .ref hc, .ref (u2 2)])), ((u2 0), .inl (G.2.1, 4, .inl (upd (upd (upd (upd (fun _ => 0) 0 (-1)) 1 (-1)) 2 (-1)) 3 (-1))))] := hD
  refine W.eq (g2 := F0 m 18 ls [.ref (u2 0)]) rfl ?_
  refine lv_iload_n hx hb dX9_witness_18 rfl (lv_at hl 1 rfl) ?_
  refine va_iald hx hb hE.1 hP 3 0 rfl rfl (zin (by decide +kernel)) dX9_witness_19 ?_
  refine zti (v := (-1)) rfl ?_
  refine lv_goto (tgt := 28) hx hb dX9_witness_20 (by decide) ?_
  have hP := hP.sub (ws' := [(mm, .inr (9, [.int 0, .ref nw, .ref cq, .ref hi, .int 0, .ref ko, .ref se, .int 0, .ref nf, .ref ns, .ref pi])), (nw, .inr (8, [.int 0, .int 0, .ref vd, .ref lw, .ref hg, .ref (u2 1)])), (cq, .inr (8, [.int 0, .int 0, .ref vc, .ref lc, .ref hc, .ref (u2 2)]))]) [0, 1, 2] rfl
  have hD := hD.sub (ws' := [(mm, .inr (9, [.int 0, .ref nw, .ref cq, .ref hi, .int 0, .ref ko, .ref se, .int 0, .ref nf, .ref ns, .ref pi])), (nw, .inr (8, [.int 0, .int 0, .ref vd, .ref lw, .ref hg, .ref (u2 1)])), (cq, .inr (8, [.int 0, .int 0, .ref vc, .ref lc, .ref hc, .ref (u2 2)]))]) [0, 1, 2] (by decide) rfl
  exact zend_i hx hb hr hlocks (fun k => [(u2 1), (u2 2)].getD k 0) hP hD hS (Nat.le_of_ble_eq_true rfl) (Nat.le_of_ble_eq_true rfl) dX9_witness_28

set_option maxHeartbeats 4000000 in
set_option maxRecDepth 100000 in
theorem z_X9_witness3 (l : Launch) (G : zG) (mm : Nat) (nw : Nat) (cq : Nat) (hi : Nat) (ko : Nat) (se : Nat) (nf : Nat) (ns : Nat) (pi : Nat) (th : Int32) (vd : Nat) (lw : Nat) (hg : Nat) (rk : Nat) (vc : Nat) (lc : Nat) (hc : Nat) (rc : Nat) : zR l G yX9_witness wsX9_witness { frames := 6, cells := 3, slots := 2052, locals := 145 } [(mm, .inr (9, [.int th, .ref nw, .ref cq, .ref hi, .int 0, .ref ko, .ref se, .int 0, .ref nf, .ref ns, .ref pi])), (nw, .inr (8, [.int 0, .int 0, .ref vd, .ref lw, .ref hg, .ref rk])), (cq, .inr (8, [.int 0, .int 0, .ref vc, .ref lc, .ref hc, .ref rc]))] [.ref mm, .int 3] (some (.int (-1))) (fun u => [(mm, .inr (9, [.int 0, .ref nw, .ref cq, .ref hi, .int 0, .ref ko, .ref se, .int 0, .ref nf, .ref ns, .ref pi])), (nw, .inr (8, [.int 0, .int 0, .ref vd, .ref lw, .ref hg, .ref (u 0)])), (cq, .inr (8, [.int 0, .int 0, .ref vc, .ref lc, .ref hc, .ref (u 1)]))]) 3 2052 := by
  refine zR_of (cc := cX9_witness) (maxL := 2) (rt := (some .int)) (by decide) rfl (Nat.le_of_ble_eq_true rfl) ?_
  intro p e s m below meth c A ls hx hb hml hr hts hown hlocks hin hA hE hP hD hS hl
  have hl : lv_has ls 2 [(0, .ref mm), (1, .int 3)] := hl
  have hown : s.vm.findClass RX9 = some m.cls := hown
  have hP : va_P G.1 vwCl [(mm, .inr (9, [.int th, .ref nw, .ref cq, .ref hi, .int 0, .ref ko, .ref se, .int 0, .ref nf, .ref ns, .ref pi])), (nw, .inr (8, [.int 0, .int 0, .ref vd, .ref lw, .ref hg, .ref rk])), (cq, .inr (8, [.int 0, .int 0, .ref vc, .ref lc, .ref hc, .ref rc]))] s.heap := hP
  have hw9 : ∀ w ∈ u_ws RX9 TX9 11, w ∈ wsX9_witness := by decide +kernel
  have hf40 := hts (.fieldLink RX9 40 "NettleModel" "thrown" "I") (by decide +kernel)
  refine lv_aload_n hx hb dX9_witness_0 rfl (lv_at hl 0 rfl) ?_
  refine lv_iconst (v := 0) hx hb dX9_witness_1 (by decide) ?_
  refine va_put (D := G.1) (ci := 9) (v := .int 0) (ty := tyX9 0) (C := RX9) (T := TX9) (N := 11) hx hb hts hw9 tyX9 tyX9_ok nmX9 hown hE.1 hP hD hS 0 rfl rfl 0 (by decide) hf40 (fun _ h9 => h9) rfl (by decide +kernel) rfl rfl (Nat.le_of_ble_eq_true rfl) dX9_witness_2 (fun H locs hP hD hS => ?_)
  have hP : va_P G.1 vwCl [(mm, .inr (9, [.int 0, .ref nw, .ref cq, .ref hi, .int 0, .ref ko, .ref se, .int 0, .ref nf, .ref ns, .ref pi])), (nw, .inr (8, [.int 0, .int 0, .ref vd, .ref lw, .ref hg, .ref rk])), (cq, .inr (8, [.int 0, .int 0, .ref vc, .ref lc, .ref hc, .ref rc]))] H := hP
  have hD : va_D A [(mm, .inr (9, [.int 0, .ref nw, .ref cq, .ref hi, .int 0, .ref ko, .ref se, .int 0, .ref nf, .ref ns, .ref pi])), (nw, .inr (8, [.int 0, .int 0, .ref vd, .ref lw, .ref hg, .ref rk])), (cq, .inr (8, [.int 0, .int 0, .ref vc, .ref lc, .ref hc, .ref rc]))] := hD
  refine lv_iload_n hx hb dX9_witness_5 rfl (lv_at hl 1 rfl) ?_
  refine lv_iconst (v := 0) hx hb dX9_witness_6 (by decide) ?_
  refine lv_iconst (v := 3) hx hb dX9_witness_7 (by decide) ?_
  refine zcall (wr := [(mm, .inr (9, [.int 0, .ref nw, .ref cq, .ref hi, .int 0, .ref ko, .ref se, .int 0, .ref nf, .ref ns, .ref pi])), (nw, .inr (8, [.int 0, .int 0, .ref vd, .ref lw, .ref hg, .ref rk])), (cq, .inr (8, [.int 0, .int 0, .ref vc, .ref lc, .ref hc, .ref rc]))]) (va_runS (As := [.int 3, .int 0, .int 3]) (rest := []) ⟨hx, hb, hml, hown, hts⟩ (z_X9_isIn l G 3 0 3 (by decide) (by decide) H.size) (va_cwS 3 hts gX9_witness_X9_isIn rfl rfl rfl (by decide +kernel) ⟨Nat.le_of_ble_eq_true rfl, Nat.le_of_ble_eq_true rfl⟩) (zPre (Wc := []) hP hD hE hS hA [] rfl (by decide)) rfl rfl hl.1 rfl (lv_room (Nat.le_of_ble_eq_true rfl)) dX9_witness_8 ⟨Nat.le_of_ble_eq_true rfl, Nat.le_of_ble_eq_true rfl⟩) hP hD hS hA [] [0, 1, 2] rfl rfl (by decide) (by decide) (fun u1 H locs hP hD hS => ?_)
  have hP : va_P G.1 vwCl [(mm, .inr (9, [.int 0, .ref nw, .ref cq, .ref hi, .int 0, .ref ko, .ref se, .int 0, .ref nf, .ref ns, .ref pi])), (nw, .inr (8, [.int 0, .int 0, .ref vd, .ref lw, .ref hg, .ref rk])), (cq, .inr (8, [.int 0, .int 0, .ref vc, .ref lc, .ref hc, .ref rc]))] H := hP
  have hD : va_D A [(mm, .inr (9, [.int 0, .ref nw, .ref cq, .ref hi, .int 0, .ref ko, .ref se, .int 0, .ref nf, .ref ns, .ref pi])), (nw, .inr (8, [.int 0, .int 0, .ref vd, .ref lw, .ref hg, .ref rk])), (cq, .inr (8, [.int 0, .int 0, .ref vc, .ref lc, .ref hc, .ref rc]))] := hD
  refine W.eq (g2 := F0 m 11 ls [.int 1]) rfl ?_
  refine lv_if_eq (tgt := 23) hx hb dX9_witness_11 (by decide) (fun h9 => absurd h9 (by decide)) (fun _ => ?_)
  refine lv_aload_n hx hb dX9_witness_14 rfl (lv_at hl 0 rfl) ?_
  refine zcallA (wr := []) (va_runV (As := []) (rest := []) ⟨hx, hb, hml, hown, hts⟩ (z_X9_witnessNow l G mm nw cq hi ko se nf ns pi 0 vd lw hg rk vc lc hc rc H.size) (cwV 0 hts gX9_witness_X9_witnessNow rfl rfl rfl (by decide +kernel) ⟨Nat.le_of_ble_eq_true rfl, Nat.le_of_ble_eq_true rfl⟩) (zPreV (Wc := [(mm, .inr (9, [.int 0, .ref nw, .ref cq, .ref hi, .int 0, .ref ko, .ref se, .int 0, .ref nf, .ref ns, .ref pi])), (nw, .inr (8, [.int 0, .int 0, .ref vd, .ref lw, .ref hg, .ref rk])), (cq, .inr (8, [.int 0, .int 0, .ref vc, .ref lc, .ref hc, .ref rc]))]) (q0 := 0) (ci := 9) (q := (RX9, TX9, 11)) hP hD hE hS hA [0, 1, 2] rfl (by decide) rfl rfl) rfl rfl hl.1 rfl (lv_room (Nat.le_of_ble_eq_true rfl)) dX9_witness_15 ⟨Nat.le_of_ble_eq_true rfl, Nat.le_of_ble_eq_true rfl⟩) hP hD hS hA [0, 1, 2] [] rfl rfl (by decide) (by decide) (fun u2 H locs hP hD hS => ?_)
  have hP : va_P G.1 vwCl [(mm, .inr (9, [.int 0, .ref nw, .ref cq, .ref hi, .int 0, .ref ko, .ref se, .int 0, .ref nf, .ref ns, .ref pi])), (nw, .inr (8, [.int 0, .int 0, .ref vd, .ref lw, .ref hg, .ref (u2 1)])), (cq, .inr (8, [.int 0, .int 0, .ref vc, .ref lc, .ref hc, .ref (u2 2)])), ((u2 0), .inl (G.2.1, 4, .inl (upd (upd (upd (upd (fun _ => 0) 0 (-1)) 1 (-1)) 2 (-1)) 3 (-1))))] H := hP
  have hD : va_D A [(mm, .inr (9, [.int 0, .ref nw, .ref cq, .ref hi, .int 0, .ref ko, .ref se, .int 0, .ref nf, .ref ns, .ref pi])), (nw, .inr (8, [.int 0, .int 0, .ref vd, .ref lw, .ref hg, .ref (u2 1)])), (cq, .inr (8, [.int 0, .int 0, .ref vc, .ref lc, .ref hc, .ref (u2 2)])), ((u2 0), .inl (G.2.1, 4, .inl (upd (upd (upd (upd (fun _ => 0) 0 (-1)) 1 (-1)) 2 (-1)) 3 (-1))))] := hD
  refine W.eq (g2 := F0 m 18 ls [.ref (u2 0)]) rfl ?_
  refine lv_iload_n hx hb dX9_witness_18 rfl (lv_at hl 1 rfl) ?_
  refine va_iald hx hb hE.1 hP 3 0 rfl rfl (zin (by decide +kernel)) dX9_witness_19 ?_
  refine zti (v := (-1)) rfl ?_
  refine lv_goto (tgt := 28) hx hb dX9_witness_20 (by decide) ?_
  have hP := hP.sub (ws' := [(mm, .inr (9, [.int 0, .ref nw, .ref cq, .ref hi, .int 0, .ref ko, .ref se, .int 0, .ref nf, .ref ns, .ref pi])), (nw, .inr (8, [.int 0, .int 0, .ref vd, .ref lw, .ref hg, .ref (u2 1)])), (cq, .inr (8, [.int 0, .int 0, .ref vc, .ref lc, .ref hc, .ref (u2 2)]))]) [0, 1, 2] rfl
  have hD := hD.sub (ws' := [(mm, .inr (9, [.int 0, .ref nw, .ref cq, .ref hi, .int 0, .ref ko, .ref se, .int 0, .ref nf, .ref ns, .ref pi])), (nw, .inr (8, [.int 0, .int 0, .ref vd, .ref lw, .ref hg, .ref (u2 1)])), (cq, .inr (8, [.int 0, .int 0, .ref vc, .ref lc, .ref hc, .ref (u2 2)]))]) [0, 1, 2] (by decide) rfl
  exact zend_i hx hb hr hlocks (fun k => [(u2 1), (u2 2)].getD k 0) hP hD hS (Nat.le_of_ble_eq_true rfl) (Nat.le_of_ble_eq_true rfl) dX9_witness_28

set_option maxHeartbeats 4000000 in
set_option maxRecDepth 100000 in
theorem z_X9_witnessT (l : Launch) (G : zG) (mm : Nat) (nw : Nat) (cq : Nat) (hi : Nat) (ko : Nat) (se : Nat) (nf : Nat) (ns : Nat) (pi : Nat) (th : Int32) (p0 : Int32) (hv : p0 < 0 ∨ (¬ p0 < 0 ∧ 3 < p0)) : zR l G yX9_witness wsX9_witness { frames := 1, cells := 0, slots := 0, locals := 22 } [(mm, .inr (9, [.int th, .ref nw, .ref cq, .ref hi, .int 0, .ref ko, .ref se, .int 0, .ref nf, .ref ns, .ref pi]))] [.ref mm, .int p0] (some (.int 0)) (fun u => [(mm, .inr (9, [.int 1, .ref nw, .ref cq, .ref hi, .int 0, .ref ko, .ref se, .int 0, .ref nf, .ref ns, .ref pi]))]) 0 0 := by
  refine zR_of (cc := cX9_witness) (maxL := 2) (rt := (some .int)) (by decide) rfl (Nat.le_of_ble_eq_true rfl) ?_
  intro p e s m below meth c A ls hx hb hml hr hts hown hlocks hin hA hE hP hD hS hl
  have hl : lv_has ls 2 [(0, .ref mm), (1, .int p0)] := hl
  have hown : s.vm.findClass RX9 = some m.cls := hown
  have hP : va_P G.1 vwCl [(mm, .inr (9, [.int th, .ref nw, .ref cq, .ref hi, .int 0, .ref ko, .ref se, .int 0, .ref nf, .ref ns, .ref pi]))] s.heap := hP
  have hw9 : ∀ w ∈ u_ws RX9 TX9 11, w ∈ wsX9_witness := by decide +kernel
  have hf40 := hts (.fieldLink RX9 40 "NettleModel" "thrown" "I") (by decide +kernel)
  rcases hv with h1 | ⟨h1, h2⟩
  · refine lv_aload_n hx hb dX9_witness_0 rfl (lv_at hl 0 rfl) ?_
    refine lv_iconst (v := 0) hx hb dX9_witness_1 (by decide) ?_
    refine va_put (D := G.1) (ci := 9) (v := .int 0) (ty := tyX9 0) (C := RX9) (T := TX9) (N := 11) hx hb hts hw9 tyX9 tyX9_ok nmX9 hown hE.1 hP hD hS 0 rfl rfl 0 (by decide) hf40 (fun _ h9 => h9) rfl (by decide +kernel) rfl rfl (Nat.le_of_ble_eq_true rfl) dX9_witness_2 (fun H locs hP hD hS => ?_)
    have hP : va_P G.1 vwCl [(mm, .inr (9, [.int 0, .ref nw, .ref cq, .ref hi, .int 0, .ref ko, .ref se, .int 0, .ref nf, .ref ns, .ref pi]))] H := hP
    have hD : va_D A [(mm, .inr (9, [.int 0, .ref nw, .ref cq, .ref hi, .int 0, .ref ko, .ref se, .int 0, .ref nf, .ref ns, .ref pi]))] := hD
    refine lv_iload_n hx hb dX9_witness_5 rfl (lv_at hl 1 rfl) ?_
    refine lv_iconst (v := 0) hx hb dX9_witness_6 (by decide) ?_
    refine lv_iconst (v := 3) hx hb dX9_witness_7 (by decide) ?_
    refine zcall (wr := [(mm, .inr (9, [.int 0, .ref nw, .ref cq, .ref hi, .int 0, .ref ko, .ref se, .int 0, .ref nf, .ref ns, .ref pi]))]) (va_runS (As := [.int p0, .int 0, .int 3]) (rest := []) ⟨hx, hb, hml, hown, hts⟩ (z_X9_isInL l G p0 0 3 h1 H.size) (va_cwS 3 hts gX9_witness_X9_isIn rfl rfl rfl (by decide +kernel) ⟨Nat.le_of_ble_eq_true rfl, Nat.le_of_ble_eq_true rfl⟩) (zPre (Wc := []) hP hD hE hS hA [] rfl (by decide)) rfl rfl hl.1 rfl (lv_room (Nat.le_of_ble_eq_true rfl)) dX9_witness_8 ⟨Nat.le_of_ble_eq_true rfl, Nat.le_of_ble_eq_true rfl⟩) hP hD hS hA [] [0] rfl rfl (by decide) (by decide) (fun u1 H locs hP hD hS => ?_)
    have hP : va_P G.1 vwCl [(mm, .inr (9, [.int 0, .ref nw, .ref cq, .ref hi, .int 0, .ref ko, .ref se, .int 0, .ref nf, .ref ns, .ref pi]))] H := hP
    have hD : va_D A [(mm, .inr (9, [.int 0, .ref nw, .ref cq, .ref hi, .int 0, .ref ko, .ref se, .int 0, .ref nf, .ref ns, .ref pi]))] := hD
    refine W.eq (g2 := F0 m 11 ls [.int 0]) rfl ?_
    refine lv_if_eq (tgt := 23) hx hb dX9_witness_11 (by decide) (fun _ => ?_) (fun h9 => absurd (by decide) h9)
    refine lv_aload_n hx hb dX9_witness_23 rfl (lv_at hl 0 rfl) ?_
    refine lv_iconst (v := 1) hx hb dX9_witness_24 (by decide) ?_
    refine zcall (wr := []) (va_runV (As := [.int 1]) (rest := []) ⟨hx, hb, hml, hown, hts⟩ (z_X9_no l G mm nw cq hi ko se nf ns pi 0 1 H.size) (cwV 1 hts gX9_witness_X9_no rfl rfl rfl (by decide +kernel) ⟨Nat.le_of_ble_eq_true rfl, Nat.le_of_ble_eq_true rfl⟩) (zPreV (Wc := [(mm, .inr (9, [.int 0, .ref nw, .ref cq, .ref hi, .int 0, .ref ko, .ref se, .int 0, .ref nf, .ref ns, .ref pi]))]) (q0 := 0) (ci := 9) (q := (RX9, TX9, 11)) hP hD hE hS hA [0] rfl (by decide) rfl rfl) rfl rfl hl.1 rfl (lv_room (Nat.le_of_ble_eq_true rfl)) dX9_witness_25 ⟨Nat.le_of_ble_eq_true rfl, Nat.le_of_ble_eq_true rfl⟩) hP hD hS hA [0] [] rfl rfl (by decide) (by decide) (fun u2 H locs hP hD hS => ?_)
    have hP : va_P G.1 vwCl [(mm, .inr (9, [.int 1, .ref nw, .ref cq, .ref hi, .int 0, .ref ko, .ref se, .int 0, .ref nf, .ref ns, .ref pi]))] H := hP
    have hD : va_D A [(mm, .inr (9, [.int 1, .ref nw, .ref cq, .ref hi, .int 0, .ref ko, .ref se, .int 0, .ref nf, .ref ns, .ref pi]))] := hD
    refine W.eq (g2 := F0 m 28 ls [.int 0]) rfl ?_
    exact zend_i hx hb hr hlocks (fun k => [].getD k 0) hP hD hS (Nat.le_of_ble_eq_true rfl) (Nat.le_of_ble_eq_true rfl) dX9_witness_28
  · refine lv_aload_n hx hb dX9_witness_0 rfl (lv_at hl 0 rfl) ?_
    refine lv_iconst (v := 0) hx hb dX9_witness_1 (by decide) ?_
    refine va_put (D := G.1) (ci := 9) (v := .int 0) (ty := tyX9 0) (C := RX9) (T := TX9) (N := 11) hx hb hts hw9 tyX9 tyX9_ok nmX9 hown hE.1 hP hD hS 0 rfl rfl 0 (by decide) hf40 (fun _ h9 => h9) rfl (by decide +kernel) rfl rfl (Nat.le_of_ble_eq_true rfl) dX9_witness_2 (fun H locs hP hD hS => ?_)
    have hP : va_P G.1 vwCl [(mm, .inr (9, [.int 0, .ref nw, .ref cq, .ref hi, .int 0, .ref ko, .ref se, .int 0, .ref nf, .ref ns, .ref pi]))] H := hP
    have hD : va_D A [(mm, .inr (9, [.int 0, .ref nw, .ref cq, .ref hi, .int 0, .ref ko, .ref se, .int 0, .ref nf, .ref ns, .ref pi]))] := hD
    refine lv_iload_n hx hb dX9_witness_5 rfl (lv_at hl 1 rfl) ?_
    refine lv_iconst (v := 0) hx hb dX9_witness_6 (by decide) ?_
    refine lv_iconst (v := 3) hx hb dX9_witness_7 (by decide) ?_
    refine zcall (wr := [(mm, .inr (9, [.int 0, .ref nw, .ref cq, .ref hi, .int 0, .ref ko, .ref se, .int 0, .ref nf, .ref ns, .ref pi]))]) (va_runS (As := [.int p0, .int 0, .int 3]) (rest := []) ⟨hx, hb, hml, hown, hts⟩ (z_X9_isInH l G p0 0 3 h1 h2 H.size) (va_cwS 3 hts gX9_witness_X9_isIn rfl rfl rfl (by decide +kernel) ⟨Nat.le_of_ble_eq_true rfl, Nat.le_of_ble_eq_true rfl⟩) (zPre (Wc := []) hP hD hE hS hA [] rfl (by decide)) rfl rfl hl.1 rfl (lv_room (Nat.le_of_ble_eq_true rfl)) dX9_witness_8 ⟨Nat.le_of_ble_eq_true rfl, Nat.le_of_ble_eq_true rfl⟩) hP hD hS hA [] [0] rfl rfl (by decide) (by decide) (fun u1 H locs hP hD hS => ?_)
    have hP : va_P G.1 vwCl [(mm, .inr (9, [.int 0, .ref nw, .ref cq, .ref hi, .int 0, .ref ko, .ref se, .int 0, .ref nf, .ref ns, .ref pi]))] H := hP
    have hD : va_D A [(mm, .inr (9, [.int 0, .ref nw, .ref cq, .ref hi, .int 0, .ref ko, .ref se, .int 0, .ref nf, .ref ns, .ref pi]))] := hD
    refine W.eq (g2 := F0 m 11 ls [.int 0]) rfl ?_
    refine lv_if_eq (tgt := 23) hx hb dX9_witness_11 (by decide) (fun _ => ?_) (fun h9 => absurd (by decide) h9)
    refine lv_aload_n hx hb dX9_witness_23 rfl (lv_at hl 0 rfl) ?_
    refine lv_iconst (v := 1) hx hb dX9_witness_24 (by decide) ?_
    refine zcall (wr := []) (va_runV (As := [.int 1]) (rest := []) ⟨hx, hb, hml, hown, hts⟩ (z_X9_no l G mm nw cq hi ko se nf ns pi 0 1 H.size) (cwV 1 hts gX9_witness_X9_no rfl rfl rfl (by decide +kernel) ⟨Nat.le_of_ble_eq_true rfl, Nat.le_of_ble_eq_true rfl⟩) (zPreV (Wc := [(mm, .inr (9, [.int 0, .ref nw, .ref cq, .ref hi, .int 0, .ref ko, .ref se, .int 0, .ref nf, .ref ns, .ref pi]))]) (q0 := 0) (ci := 9) (q := (RX9, TX9, 11)) hP hD hE hS hA [0] rfl (by decide) rfl rfl) rfl rfl hl.1 rfl (lv_room (Nat.le_of_ble_eq_true rfl)) dX9_witness_25 ⟨Nat.le_of_ble_eq_true rfl, Nat.le_of_ble_eq_true rfl⟩) hP hD hS hA [0] [] rfl rfl (by decide) (by decide) (fun u2 H locs hP hD hS => ?_)
    have hP : va_P G.1 vwCl [(mm, .inr (9, [.int 1, .ref nw, .ref cq, .ref hi, .int 0, .ref ko, .ref se, .int 0, .ref nf, .ref ns, .ref pi]))] H := hP
    have hD : va_D A [(mm, .inr (9, [.int 1, .ref nw, .ref cq, .ref hi, .int 0, .ref ko, .ref se, .int 0, .ref nf, .ref ns, .ref pi]))] := hD
    refine W.eq (g2 := F0 m 28 ls [.int 0]) rfl ?_
    exact zend_i hx hb hr hlocks (fun k => [].getD k 0) hP hD hS (Nat.le_of_ble_eq_true rfl) (Nat.le_of_ble_eq_true rfl) dX9_witness_28
