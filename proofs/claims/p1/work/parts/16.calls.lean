/-! Nettle: packets, the copy -/
theorem dX7_send_0 : decode cX7_send 0 = .ok (.aload_n 0, 1) := by decide +kernel
theorem dX7_send_1 : decode cX7_send 1 = .ok (.iload_n 1, 1) := by decide +kernel
theorem dX7_send_2 : decode cX7_send 2 = .ok (.iload_n 2, 1) := by decide +kernel
theorem dX7_send_3 : decode cX7_send 3 = .ok (.iload_n 3, 1) := by decide +kernel
theorem dX7_send_4 : decode cX7_send 4 = .ok (.iload 4, 2) := by decide +kernel
set_option maxRecDepth 20000 in
theorem ggX7_send_X7_takePacket : GoodIn wsX7_send wsX7_takePacket := goodIn_ca (goodIn_r _ [11, 12, 13, 3, 14, 15, 10, 16, 17, 70, 71, 72, 73, 74, 75, 76, 77] (by decide +kernel) (by decide +kernel)) (goodIn_sub (fun _ h => List.mem_cons_of_mem _ (List.mem_append_right _ h)) (by decide +kernel))
set_option maxRecDepth 20000 in
theorem gX7_send_X7_takePacket : GoodIn wsX7_send (wsV RX7 177 RX7 yX7_takePacket wsX7_takePacket) := goodIn_app (goodIn_of _ (by decide +kernel)) ggX7_send_X7_takePacket
theorem dX7_send_6 : decode cX7_send 6 = .ok (.invokevirtual 177, 3) := by decide +kernel
theorem dX7_send_9 : decode cX7_send 9 = .ok (.iload 4, 2) := by decide +kernel
theorem dX7_send_11 : decode cX7_send 11 = .ok (.iconst 1, 1) := by decide +kernel
theorem dX7_send_12 : decode cX7_send 12 = .ok (.if_icmp .ne 25, 3) := by decide +kernel
theorem dX7_send_15 : decode cX7_send 15 = .ok (.aload_n 0, 1) := by decide +kernel
theorem dX7_send_16 : decode cX7_send 16 = .ok (.getfield 58, 3) := by decide +kernel
theorem dX7_send_19 : decode cX7_send 19 = .ok (.iload_n 2, 1) := by decide +kernel
theorem dX7_send_20 : decode cX7_send 20 = .ok (.iload_n 1, 1) := by decide +kernel
theorem dX7_send_21 : decode cX7_send 21 = .ok (.iload_n 3, 1) := by decide +kernel
set_option maxRecDepth 20000 in
theorem ggX7_send_X2_placeOf : GoodIn wsX7_send wsX2_placeOf := goodIn_r _ [22, 23, 24, 85, 86, 87, 88, 89, 90] (by decide +kernel) (by decide +kernel)
set_option maxRecDepth 20000 in
theorem gX7_send_X2_placeOf : GoodIn wsX7_send (wsV RX7 238 RX2 yX2_placeOf wsX2_placeOf) := goodIn_app (goodIn_of _ (by decide +kernel)) ggX7_send_X2_placeOf
theorem dX7_send_22 : decode cX7_send 22 = .ok (.invokevirtual 238, 3) := by decide +kernel
theorem dX7_send_25 : decode cX7_send 25 = .ok (.ifCond .lt 12, 3) := by decide +kernel
theorem dX7_send_37 : decode cX7_send 37 = .ok (.aload_n 0, 1) := by decide +kernel
theorem dX7_send_38 : decode cX7_send 38 = .ok (.getfield 10, 3) := by decide +kernel
theorem dX7_send_41 : decode cX7_send 41 = .ok (.aload_n 0, 1) := by decide +kernel
theorem dX7_send_42 : decode cX7_send 42 = .ok (.getfield 62, 3) := by decide +kernel
set_option maxRecDepth 20000 in
theorem ggX7_send_X6_hit : GoodIn wsX7_send wsX6_hit := goodIn_r _ [36, 37, 38, 39, 40, 41, 42, 43, 44, 45, 46, 47, 48, 49, 50, 51, 52, 53, 54, 55, 78, 79, 80, 81, 82, 83, 84] (by decide +kernel) (by decide +kernel)
set_option maxRecDepth 20000 in
theorem gX7_send_X6_hit : GoodIn wsX7_send (wsV RX7 244 RX6 yX6_hit wsX6_hit) := goodIn_app (goodIn_of _ (by decide +kernel)) ggX7_send_X6_hit
theorem dX7_send_45 : decode cX7_send 45 = .ok (.invokevirtual 244, 3) := by decide +kernel
theorem dX7_send_48 : decode cX7_send 48 = .ok (.istore 5, 2) := by decide +kernel
theorem dX7_send_50 : decode cX7_send 50 = .ok (.iload 5, 2) := by decide +kernel
theorem dX7_send_52 : decode cX7_send 52 = .ok (.ifCond .ge 13, 3) := by decide +kernel
theorem dX7_send_55 : decode cX7_send 55 = .ok (.aload_n 0, 1) := by decide +kernel
theorem dX7_send_56 : decode cX7_send 56 = .ok (.getfield 10, 3) := by decide +kernel
theorem dX7_send_59 : decode cX7_send 59 = .ok (.getfield 135, 3) := by decide +kernel
theorem dX7_send_62 : decode cX7_send 62 = .ok (.goto 25, 3) := by decide +kernel
theorem dX7_send_87 : decode cX7_send 87 = .ok (.istore 6, 2) := by decide +kernel
theorem dX7_send_89 : decode cX7_send 89 = .ok (.aload_n 0, 1) := by decide +kernel
theorem dX7_send_90 : decode cX7_send 90 = .ok (.getfield 58, 3) := by decide +kernel
theorem dX7_send_93 : decode cX7_send 93 = .ok (.iload 6, 2) := by decide +kernel
theorem dX7_send_95 : decode cX7_send 95 = .ok (.iload 5, 2) := by decide +kernel
theorem dX7_send_97 : decode cX7_send 97 = .ok (.ifCond .ge 7, 3) := by decide +kernel
theorem dX7_send_100 : decode cX7_send 100 = .ok (.iconst 1, 1) := by decide +kernel
theorem dX7_send_101 : decode cX7_send 101 = .ok (.goto 4, 3) := by decide +kernel
set_option maxRecDepth 20000 in
theorem ggX7_send_X2_count : GoodIn wsX7_send wsX2_count := goodIn_r _ [59, 29, 30, 60, 85, 86, 87, 88, 89, 90] (by decide +kernel) (by decide +kernel)
set_option maxRecDepth 20000 in
theorem gX7_send_X2_count : GoodIn wsX7_send (wsV RX7 248 RX2 yX2_count wsX2_count) := goodIn_app (goodIn_of _ (by decide +kernel)) ggX7_send_X2_count
theorem dX7_send_105 : decode cX7_send 105 = .ok (.invokevirtual 248, 3) := by decide +kernel
theorem dX7_send_108 : decode cX7_send 108 = .ok (.iload 6, 2) := by decide +kernel
theorem dX7_send_110 : decode cX7_send 110 = .ok (.ifCond .eq 18, 3) := by decide +kernel
theorem dX7_send_128 : decode cX7_send 128 = .ok (.iload 6, 2) := by decide +kernel
theorem dX7_send_130 : decode cX7_send 130 = .ok (.ifCond .eq 7, 3) := by decide +kernel
theorem dX7_send_137 : decode cX7_send 137 = .ok (.iconst 0, 1) := by decide +kernel
theorem dX7_send_138 : decode cX7_send 138 = .ok (.ireturn, 1) := by decide +kernel
theorem dX7_sent_0 : decode cX7_sent 0 = .ok (.iload_n 1, 1) := by decide +kernel
theorem dX7_sent_1 : decode cX7_sent 1 = .ok (.iconst 4, 1) := by decide +kernel
set_option maxRecDepth 20000 in
theorem ggX7_sent_X7_needWhat : GoodIn wsX7_sent wsX7_needWhat := goodIn_ca (goodIn_r _ [10, 11, 12] (by decide +kernel) (by decide +kernel)) (goodIn_sub (fun _ h => List.mem_cons_of_mem _ (List.mem_append_right _ h)) (by decide +kernel))
set_option maxRecDepth 20000 in
theorem gX7_sent_X7_needWhat : GoodIn wsX7_sent (va_wsS RX7 143 yX7_needWhat wsX7_needWhat) := goodIn_app (goodIn_of _ (by decide +kernel)) ggX7_sent_X7_needWhat
theorem dX7_sent_2 : decode cX7_sent 2 = .ok (.invokestatic 143, 3) := by decide +kernel
theorem dX7_sent_5 : decode cX7_sent 5 = .ok (.iload_n 1, 1) := by decide +kernel
theorem dX7_sent_6 : decode cX7_sent 6 = .ok (.tableswitch 62 0 3 #[30, 38, 46, 54], 30) := by decide +kernel
theorem dX7_sent_36 : decode cX7_sent 36 = .ok (.aload_n 0, 1) := by decide +kernel
theorem dX7_sent_37 : decode cX7_sent 37 = .ok (.getfield 58, 3) := by decide +kernel
theorem dX7_sent_40 : decode cX7_sent 40 = .ok (.getfield 255, 3) := by decide +kernel
theorem dX7_sent_43 : decode cX7_sent 43 = .ok (.ireturn, 1) := by decide +kernel
theorem dX7_sent_44 : decode cX7_sent 44 = .ok (.aload_n 0, 1) := by decide +kernel
theorem dX7_sent_45 : decode cX7_sent 45 = .ok (.getfield 58, 3) := by decide +kernel
theorem dX7_sent_48 : decode cX7_sent 48 = .ok (.getfield 258, 3) := by decide +kernel
theorem dX7_sent_51 : decode cX7_sent 51 = .ok (.ireturn, 1) := by decide +kernel
theorem dX7_sent_52 : decode cX7_sent 52 = .ok (.aload_n 0, 1) := by decide +kernel
theorem dX7_sent_53 : decode cX7_sent 53 = .ok (.getfield 58, 3) := by decide +kernel
theorem dX7_sent_56 : decode cX7_sent 56 = .ok (.getfield 261, 3) := by decide +kernel
theorem dX7_sent_59 : decode cX7_sent 59 = .ok (.ireturn, 1) := by decide +kernel
theorem dX7_sent_60 : decode cX7_sent 60 = .ok (.aload_n 0, 1) := by decide +kernel
theorem dX7_sent_61 : decode cX7_sent 61 = .ok (.getfield 58, 3) := by decide +kernel
theorem dX7_sent_64 : decode cX7_sent 64 = .ok (.getfield 264, 3) := by decide +kernel
theorem dX7_sent_67 : decode cX7_sent 67 = .ok (.ireturn, 1) := by decide +kernel
theorem dX7_sent_68 : decode cX7_sent 68 = .ok (.aload_n 0, 1) := by decide +kernel
theorem dX7_sent_69 : decode cX7_sent 69 = .ok (.getfield 58, 3) := by decide +kernel
theorem dX7_sent_72 : decode cX7_sent 72 = .ok (.getfield 267, 3) := by decide +kernel
theorem dX7_sent_75 : decode cX7_sent 75 = .ok (.ireturn, 1) := by decide +kernel
theorem dX7_kept_0 : decode cX7_kept 0 = .ok (.iload_n 1, 1) := by decide +kernel
theorem dX7_kept_1 : decode cX7_kept 1 = .ok (.ifCond .lt 14, 3) := by decide +kernel
theorem dX7_kept_15 : decode cX7_kept 15 = .ok (.new 90, 3) := by decide +kernel
theorem dX7_kept_18 : decode cX7_kept 18 = .ok (.dup, 1) := by decide +kernel
theorem dX7_kept_19 : decode cX7_kept 19 = .ok (.ldc_w 270, 3) := by decide +kernel
theorem dX7_kept_22 : decode cX7_kept 22 = .ok (.invokespecial 94, 3) := by decide +kernel
theorem dX7_kept_25 : decode cX7_kept 25 = .ok (.athrow, 1) := by decide +kernel
theorem dX7_kept_4 : decode cX7_kept 4 = .ok (.iload_n 1, 1) := by decide +kernel
theorem dX7_kept_5 : decode cX7_kept 5 = .ok (.aload_n 0, 1) := by decide +kernel
theorem dX7_kept_6 : decode cX7_kept 6 = .ok (.getfield 58, 3) := by decide +kernel
theorem dX7_kept_9 : decode cX7_kept 9 = .ok (.getfield 264, 3) := by decide +kernel
theorem dX7_kept_12 : decode cX7_kept 12 = .ok (.if_icmp .lt 14, 3) := by decide +kernel
theorem dX7_forget_0 : decode cX7_forget 0 = .ok (.aload_n 0, 1) := by decide +kernel
theorem dX7_forget_1 : decode cX7_forget 1 = .ok (.getfield 58, 3) := by decide +kernel
theorem dX7_forget_4 : decode cX7_forget 4 = .ok (.getfield 264, 3) := by decide +kernel
theorem dX7_forget_7 : decode cX7_forget 7 = .ok (.istore_n 1, 1) := by decide +kernel
theorem dX7_forget_8 : decode cX7_forget 8 = .ok (.aload_n 0, 1) := by decide +kernel
theorem dX7_forget_9 : decode cX7_forget 9 = .ok (.getfield 58, 3) := by decide +kernel
theorem dX7_forget_12 : decode cX7_forget 12 = .ok (.iconst 0, 1) := by decide +kernel
theorem dX7_forget_13 : decode cX7_forget 13 = .ok (.putfield 264, 3) := by decide +kernel
theorem dX7_forget_16 : decode cX7_forget 16 = .ok (.iload_n 1, 1) := by decide +kernel
theorem dX7_forget_17 : decode cX7_forget 17 = .ok (.ireturn, 1) := by decide +kernel
theorem dX7_copy_0 : decode cX7_copy 0 = .ok (.aload_n 0, 1) := by decide +kernel
theorem dX7_copy_1 : decode cX7_copy 1 = .ok (.getfield 16, 3) := by decide +kernel
theorem dX7_copy_4 : decode cX7_copy 4 = .ok (.aload_n 0, 1) := by decide +kernel
theorem dX7_copy_5 : decode cX7_copy 5 = .ok (.getfield 10, 3) := by decide +kernel
set_option maxRecDepth 20000 in
theorem ggX7_copy_X6_takeFrom : GoodIn wsX7_copy wsX6_takeFrom := goodIn_r _ [8, 9, 10, 11, 12, 13, 14, 15, 16, 17, 18, 19, 41, 42, 43, 44, 45, 46, 47] (by decide +kernel) (by decide +kernel)
set_option maxRecDepth 20000 in
theorem gX7_copy_X6_takeFrom : GoodIn wsX7_copy (wsV RX7 276 RX6 yX6_takeFrom wsX6_takeFrom) := goodIn_app (goodIn_of _ (by decide +kernel)) ggX7_copy_X6_takeFrom
theorem dX7_copy_8 : decode cX7_copy 8 = .ok (.invokevirtual 276, 3) := by decide +kernel
theorem dX7_copy_11 : decode cX7_copy 11 = .ok (.aload_n 0, 1) := by decide +kernel
set_option maxRecDepth 20000 in
theorem ggX7_copy_X7_outdate : GoodIn wsX7_copy wsX7_outdate := goodIn_r _ [24, 25, 26, 27, 28, 29, 30, 31, 32, 33, 34, 35, 36, 37, 38, 39, 40, 48, 49, 50, 51, 52, 53, 54, 55, 56, 57, 58, 59, 60, 61, 62, 63, 64, 65, 66, 67, 68, 69, 70, 71, 72] (by decide +kernel) (by decide +kernel)
set_option maxRecDepth 20000 in
theorem gX7_copy_X7_outdate : GoodIn wsX7_copy (wsV RX7 84 RX7 yX7_outdate wsX7_outdate) := goodIn_app (goodIn_of _ (by decide +kernel)) ggX7_copy_X7_outdate
theorem dX7_copy_12 : decode cX7_copy 12 = .ok (.invokevirtual 84, 3) := by decide +kernel
theorem dX7_copy_15 : decode cX7_copy 15 = .ok (.aload_n 0, 1) := by decide +kernel
theorem dX7_copy_16 : decode cX7_copy 16 = .ok (.getfield 16, 3) := by decide +kernel
theorem dX7_copy_19 : decode cX7_copy 19 = .ok (.getfield 70, 3) := by decide +kernel
theorem dX7_copy_22 : decode cX7_copy 22 = .ok (.ireturn, 1) := by decide +kernel
theorem dX7_changed_0 : decode cX7_changed 0 = .ok (.aload_n 0, 1) := by decide +kernel
set_option maxRecDepth 20000 in
theorem ggX7_changed_X7_compared : GoodIn wsX7_changed wsX7_compared := goodIn_r _ [6, 7, 8, 9, 10, 11, 12, 13, 14, 15, 16, 17, 18, 19, 20, 21, 22, 23, 24, 25, 26, 27, 28, 29, 30, 31, 32, 33, 34, 35, 36, 37, 38, 39, 40, 41, 42, 43, 44, 45, 46, 47, 48, 49, 50, 51, 52, 53, 54, 55, 56, 57, 58, 59, 60, 61, 62, 63, 64, 65, 66, 67, 68, 69, 70, 71, 72, 73, 74, 75, 76, 77, 78, 79, 80, 81, 82, 83, 84, 85, 86, 87, 88, 89, 90, 91, 92, 93, 94, 95, 96, 97, 98, 99, 100, 101, 102, 103, 104, 105, 106, 107, 108, 109, 110, 111, 112, 113, 114, 115, 116, 117, 118, 126, 127, 128, 129, 130, 131, 132, 133, 134, 135, 136, 137, 138, 139, 140, 141, 142, 143, 144, 145, 146, 119, 120, 121, 122, 123, 124, 125] (by decide +kernel) (by decide +kernel)
set_option maxRecDepth 20000 in
theorem gX7_changed_X7_compared : GoodIn wsX7_changed (wsV RX7 279 RX7 yX7_compared wsX7_compared) := goodIn_app (goodIn_of _ (by decide +kernel)) ggX7_changed_X7_compared
theorem dX7_changed_1 : decode cX7_changed 1 = .ok (.invokevirtual 279, 3) := by decide +kernel
theorem dX7_changed_4 : decode cX7_changed 4 = .ok (.getfield 283, 3) := by decide +kernel
theorem dX7_changed_7 : decode cX7_changed 7 = .ok (.ireturn, 1) := by decide +kernel
theorem dX7_witness_0 : decode cX7_witness 0 = .ok (.iload_n 1, 1) := by decide +kernel
theorem dX7_witness_1 : decode cX7_witness 1 = .ok (.ifCond .lt 8, 3) := by decide +kernel
theorem dX7_witness_4 : decode cX7_witness 4 = .ok (.iload_n 1, 1) := by decide +kernel
theorem dX7_witness_5 : decode cX7_witness 5 = .ok (.iconst 4, 1) := by decide +kernel
theorem dX7_witness_6 : decode cX7_witness 6 = .ok (.if_icmp .lt 13, 3) := by decide +kernel
theorem dX7_witness_19 : decode cX7_witness 19 = .ok (.aload_n 0, 1) := by decide +kernel
set_option maxRecDepth 20000 in
theorem ggX7_witness_X7_compared : GoodIn wsX7_witness wsX7_compared := goodIn_r _ [8, 9, 10, 11, 12, 13, 14, 15, 16, 17, 18, 19, 20, 21, 22, 23, 24, 25, 26, 27, 28, 29, 30, 31, 32, 33, 34, 35, 36, 37, 38, 39, 40, 41, 42, 43, 44, 45, 46, 47, 48, 49, 50, 51, 52, 53, 54, 55, 56, 57, 58, 59, 60, 61, 62, 63, 64, 65, 66, 67, 68, 69, 70, 71, 72, 73, 74, 75, 76, 77, 78, 79, 80, 81, 82, 83, 84, 85, 86, 87, 88, 89, 90, 91, 92, 93, 94, 95, 96, 97, 98, 99, 100, 101, 102, 103, 104, 105, 106, 107, 108, 109, 110, 111, 112, 113, 114, 115, 116, 117, 118, 119, 120, 128, 129, 130, 131, 132, 133, 134, 135, 136, 137, 138, 139, 140, 141, 142, 143, 144, 145, 146, 147, 148, 121, 122, 123, 124, 125, 126, 127] (by decide +kernel) (by decide +kernel)
set_option maxRecDepth 20000 in
theorem gX7_witness_X7_compared : GoodIn wsX7_witness (wsV RX7 279 RX7 yX7_compared wsX7_compared) := goodIn_app (goodIn_of _ (by decide +kernel)) ggX7_witness_X7_compared
theorem dX7_witness_20 : decode cX7_witness 20 = .ok (.invokevirtual 279, 3) := by decide +kernel
theorem dX7_witness_23 : decode cX7_witness 23 = .ok (.getfield 286, 3) := by decide +kernel
theorem dX7_witness_26 : decode cX7_witness 26 = .ok (.iload_n 1, 1) := by decide +kernel
theorem dX7_witness_27 : decode cX7_witness 27 = .ok (.iaload, 1) := by decide +kernel
theorem dX7_witness_28 : decode cX7_witness 28 = .ok (.ireturn, 1) := by decide +kernel
theorem dX7_witness_9 : decode cX7_witness 9 = .ok (.new 99, 3) := by decide +kernel
theorem dX7_witness_12 : decode cX7_witness 12 = .ok (.dup, 1) := by decide +kernel
theorem dX7_witness_13 : decode cX7_witness 13 = .ok (.ldc 92, 2) := by decide +kernel
theorem dX7_witness_15 : decode cX7_witness 15 = .ok (.invokespecial 103, 3) := by decide +kernel
theorem dX7_witness_18 : decode cX7_witness 18 = .ok (.athrow, 1) := by decide +kernel
set_option maxHeartbeats 4000000 in
set_option maxRecDepth 100000 in
theorem z_X7_send (l : Launch) (G : zG) (x : Nat) (wa : Nat) (wb : Nat) (su : Nat) (cu : Nat) (tr : Nat) (co : Nat) (lo : Nat) (pk : Nat) (ro : Nat) (p0 : Int32) (p1 : Int32) (p2 : Int32) (p3 : Int32) (fp : Nat → Int32) (lr : Nat) (hok : zOk p0 p1 p2 p3) : zR l G yX7_send wsX7_send { frames := 2, cells := 0, slots := 0, locals := 45 } [(x, .inr (7, [.ref wa, .ref wb, .ref su, .ref cu, .ref tr, .ref co, .ref lo, .ref pk])), (pk, .inl (G.2.1, 4, .inl (fp))), (wa, .inr (6, [.ref ro, .int 0, .int 0])), (lo, .inr (2, [.ref lr, .int 0, .int 0, .int 0, .int 0, .int 0]))] [.ref x, .int p0, .int p1, .int p2, .int p3] (some (.int 0)) (fun u => [(x, .inr (7, [.ref wa, .ref wb, .ref su, .ref cu, .ref tr, .ref co, .ref lo, .ref pk])), (pk, .inl (G.2.1, 4, .inl (upd (upd (upd (upd fp 0 p0) 1 p1) 2 p2) 3 p3))), (wa, .inr (6, [.ref ro, .int 0, .int 0])), (lo, .inr (2, [.ref lr, .int 0, .int 1, .int 0, .int 0, .int 1]))]) 0 0 := by
  refine zR_of (cc := cX7_send) (maxL := 7) (rt := (some .int)) (by decide) rfl (Nat.le_of_ble_eq_true rfl) ?_
  intro p e s m below meth c A ls hx hb hml hr hts hown hlocks hin hA hE hP hD hS hl
  have hl : lv_has ls 7 [(0, .ref x), (1, .int p0), (2, .int p1), (3, .int p2), (4, .int p3)] := hl
  have hown : s.vm.findClass RX7 = some m.cls := hown
  have hP : va_P G.1 vwCl [(x, .inr (7, [.ref wa, .ref wb, .ref su, .ref cu, .ref tr, .ref co, .ref lo, .ref pk])), (pk, .inl (G.2.1, 4, .inl (fp))), (wa, .inr (6, [.ref ro, .int 0, .int 0])), (lo, .inr (2, [.ref lr, .int 0, .int 0, .int 0, .int 0, .int 0]))] s.heap := hP
  have hw7 : ∀ w ∈ u_ws RX7 TX7 8, w ∈ wsX7_send := by decide +kernel
  have hf58 := hts (.fieldLink RX7 58 "Nettle" "log" "LNettle$Log;") (by decide +kernel)
  have hf10 := hts (.fieldLink RX7 10 "Nettle" "wall" "LNettle$Wall;") (by decide +kernel)
  have hf62 := hts (.fieldLink RX7 62 "Nettle" "packet" "[I") (by decide +kernel)
  have hw6 : ∀ w ∈ u_ws RX6 TX6 3, w ∈ wsX7_send := by decide +kernel
  have hf135 := hts (.fieldLink RX7 135 "Nettle$Wall" "isLastAllow" "Z") (by decide +kernel)
  by_cases h1 : p3 = 1
  · refine lv_aload_n hx hb dX7_send_0 rfl (lv_at hl 0 rfl) ?_
    refine lv_iload_n hx hb dX7_send_1 rfl (lv_at hl 1 rfl) ?_
    refine lv_iload_n hx hb dX7_send_2 rfl (lv_at hl 2 rfl) ?_
    refine lv_iload_n hx hb dX7_send_3 rfl (lv_at hl 3 rfl) ?_
    refine lv_iload hx hb dX7_send_4 (lv_at hl 4 rfl) ?_
    refine zcall (wr := [(wa, .inr (6, [.ref ro, .int 0, .int 0])), (lo, .inr (2, [.ref lr, .int 0, .int 0, .int 0, .int 0, .int 0]))]) (va_runV (As := [.int p0, .int p1, .int p2, .int p3]) (rest := []) ⟨hx, hb, hml, hown, hts⟩ (z_X7_takePacket l G x wa wb su cu tr co lo pk p0 p1 p2 p3 (fp) hok s.heap.size) (cwV 4 hts gX7_send_X7_takePacket rfl rfl rfl (by decide +kernel) ⟨Nat.le_of_ble_eq_true rfl, Nat.le_of_ble_eq_true rfl⟩) (zPreV (Wc := [(x, .inr (7, [.ref wa, .ref wb, .ref su, .ref cu, .ref tr, .ref co, .ref lo, .ref pk])), (pk, .inl (G.2.1, 4, .inl (fp)))]) (q0 := 0) (ci := 7) (q := (RX7, TX7, 8)) hP hD hE hS hA [0, 1] rfl (by decide) rfl rfl) rfl rfl hl.1 rfl (lv_room (Nat.le_of_ble_eq_true rfl)) dX7_send_6 ⟨Nat.le_of_ble_eq_true rfl, Nat.le_of_ble_eq_true rfl⟩) hP hD hS hA [0, 1] [2, 3] rfl rfl (by decide) (by decide) (fun u1 H locs hP hD hS => ?_)
    have hP : va_P G.1 vwCl [(wa, .inr (6, [.ref ro, .int 0, .int 0])), (lo, .inr (2, [.ref lr, .int 0, .int 0, .int 0, .int 0, .int 0])), (x, .inr (7, [.ref wa, .ref wb, .ref su, .ref cu, .ref tr, .ref co, .ref lo, .ref pk])), (pk, .inl (G.2.1, 4, .inl (upd (upd (upd (upd fp 0 p0) 1 p1) 2 p2) 3 p3)))] H := hP
    have hD : va_D A [(wa, .inr (6, [.ref ro, .int 0, .int 0])), (lo, .inr (2, [.ref lr, .int 0, .int 0, .int 0, .int 0, .int 0])), (x, .inr (7, [.ref wa, .ref wb, .ref su, .ref cu, .ref tr, .ref co, .ref lo, .ref pk])), (pk, .inl (G.2.1, 4, .inl (upd (upd (upd (upd fp 0 p0) 1 p1) 2 p2) 3 p3)))] := hD
    refine W.eq (g2 := F0 m 9 ls []) rfl ?_
    refine lv_iload hx hb dX7_send_9 (lv_at hl 4 rfl) ?_
    refine lv_iconst (v := 1) hx hb dX7_send_11 (by decide) ?_
    refine lv_icmp_ne (tgt := 37) hx hb dX7_send_12 (by decide) (fun h9 => absurd h1 h9) (fun _ => ?_)
    refine lv_aload_n hx hb dX7_send_15 rfl (lv_at hl 0 rfl) ?_
    refine va_get (D := G.1) (ci := 7) (v := .ref lo) (C := RX7) (T := TX7) (N := 8) hx hb hts hw7 hown hE.1 hP 2 rfl rfl 6 (by decide) hf58 (fun _ h9 => h9) rfl dX7_send_16 ?_
    refine lv_iload_n hx hb dX7_send_19 rfl (lv_at hl 2 rfl) ?_
    refine lv_iload_n hx hb dX7_send_20 rfl (lv_at hl 1 rfl) ?_
    refine lv_iload_n hx hb dX7_send_21 rfl (lv_at hl 3 rfl) ?_
    refine zcall (wr := [(wa, .inr (6, [.ref ro, .int 0, .int 0])), (x, .inr (7, [.ref wa, .ref wb, .ref su, .ref cu, .ref tr, .ref co, .ref lo, .ref pk])), (pk, .inl (G.2.1, 4, .inl (upd (upd (upd (upd fp 0 p0) 1 p1) 2 p2) 3 p3)))]) (va_runV (As := [.int p1, .int p0, .int p2]) (rest := []) ⟨hx, hb, hml, hown, hts⟩ (z_X2_placeOf l G lo lr p1 p0 p2 H.size) (cwV 3 hts gX7_send_X2_placeOf rfl rfl rfl (by decide +kernel) ⟨Nat.le_of_ble_eq_true rfl, Nat.le_of_ble_eq_true rfl⟩) (zPreV (Wc := [(lo, .inr (2, [.ref lr, .int 0, .int 0, .int 0, .int 0, .int 0]))]) (q0 := 1) (ci := 2) (q := (RX2, TX2, 6)) hP hD hE hS hA [1] rfl (by decide) rfl rfl) rfl rfl hl.1 rfl (lv_room (Nat.le_of_ble_eq_true rfl)) dX7_send_22 ⟨Nat.le_of_ble_eq_true rfl, Nat.le_of_ble_eq_true rfl⟩) hP hD hS hA [1] [0, 2, 3] rfl rfl (by decide) (by decide) (fun u2 H locs hP hD hS => ?_)
    have hP : va_P G.1 vwCl [(wa, .inr (6, [.ref ro, .int 0, .int 0])), (x, .inr (7, [.ref wa, .ref wb, .ref su, .ref cu, .ref tr, .ref co, .ref lo, .ref pk])), (pk, .inl (G.2.1, 4, .inl (upd (upd (upd (upd fp 0 p0) 1 p1) 2 p2) 3 p3))), (lo, .inr (2, [.ref lr, .int 0, .int 0, .int 0, .int 0, .int 0]))] H := hP
    have hD : va_D A [(wa, .inr (6, [.ref ro, .int 0, .int 0])), (x, .inr (7, [.ref wa, .ref wb, .ref su, .ref cu, .ref tr, .ref co, .ref lo, .ref pk])), (pk, .inl (G.2.1, 4, .inl (upd (upd (upd (upd fp 0 p0) 1 p1) 2 p2) 3 p3))), (lo, .inr (2, [.ref lr, .int 0, .int 0, .int 0, .int 0, .int 0]))] := hD
    refine W.eq (g2 := F0 m 25 ls [.int (-1)]) rfl ?_
    refine lv_if_lt (tgt := 37) hx hb dX7_send_25 (by decide) (fun _ => ?_) (fun h9 => absurd (by decide) h9)
    refine lv_aload_n hx hb dX7_send_37 rfl (lv_at hl 0 rfl) ?_
    refine va_get (D := G.1) (ci := 7) (v := .ref wa) (C := RX7) (T := TX7) (N := 8) hx hb hts hw7 hown hE.1 hP 1 rfl rfl 0 (by decide) hf10 (fun _ h9 => h9) rfl dX7_send_38 ?_
    refine lv_aload_n hx hb dX7_send_41 rfl (lv_at hl 0 rfl) ?_
    refine va_get (D := G.1) (ci := 7) (v := .ref pk) (C := RX7) (T := TX7) (N := 8) hx hb hts hw7 hown hE.1 hP 1 rfl rfl 7 (by decide) hf62 (fun _ h9 => h9) rfl dX7_send_42 ?_
    refine zcall (wr := [(x, .inr (7, [.ref wa, .ref wb, .ref su, .ref cu, .ref tr, .ref co, .ref lo, .ref pk])), (pk, .inl (G.2.1, 4, .inl (upd (upd (upd (upd fp 0 p0) 1 p1) 2 p2) 3 p3))), (lo, .inr (2, [.ref lr, .int 0, .int 0, .int 0, .int 0, .int 0]))]) (va_runV (As := [.ref pk]) (rest := []) ⟨hx, hb, hml, hown, hts⟩ (z_X6_hit l G wa ro pk H.size) (cwV 1 hts gX7_send_X6_hit rfl rfl rfl (by decide +kernel) ⟨Nat.le_of_ble_eq_true rfl, Nat.le_of_ble_eq_true rfl⟩) (zPreV (Wc := [(wa, .inr (6, [.ref ro, .int 0, .int 0]))]) (q0 := 0) (ci := 6) (q := (RX6, TX6, 3)) hP hD hE hS hA [0] rfl (by decide) rfl rfl) rfl rfl hl.1 rfl (lv_room (Nat.le_of_ble_eq_true rfl)) dX7_send_45 ⟨Nat.le_of_ble_eq_true rfl, Nat.le_of_ble_eq_true rfl⟩) hP hD hS hA [0] [1, 2, 3] rfl rfl (by decide) (by decide) (fun u3 H locs hP hD hS => ?_)
    have hP : va_P G.1 vwCl [(x, .inr (7, [.ref wa, .ref wb, .ref su, .ref cu, .ref tr, .ref co, .ref lo, .ref pk])), (pk, .inl (G.2.1, 4, .inl (upd (upd (upd (upd fp 0 p0) 1 p1) 2 p2) 3 p3))), (lo, .inr (2, [.ref lr, .int 0, .int 0, .int 0, .int 0, .int 0])), (wa, .inr (6, [.ref ro, .int 0, .int 0]))] H := hP
    have hD : va_D A [(x, .inr (7, [.ref wa, .ref wb, .ref su, .ref cu, .ref tr, .ref co, .ref lo, .ref pk])), (pk, .inl (G.2.1, 4, .inl (upd (upd (upd (upd fp 0 p0) 1 p1) 2 p2) 3 p3))), (lo, .inr (2, [.ref lr, .int 0, .int 0, .int 0, .int 0, .int 0])), (wa, .inr (6, [.ref ro, .int 0, .int 0]))] := hD
    refine W.eq (g2 := F0 m 48 ls [.int (-1)]) rfl ?_
    refine lv_istore (lv' := [(5, .int (-1)), (0, .ref x), (1, .int p0), (2, .int p1), (3, .int p2), (4, .int p3)]) hx hb dX7_send_48 hl (by decide) rfl (fun ls hl => ?_)
    refine lv_iload hx hb dX7_send_50 (lv_at hl 0 rfl) ?_
    refine lv_if_ge (tgt := 65) hx hb dX7_send_52 (by decide) (fun h9 => absurd h9 (by decide)) (fun _ => ?_)
    refine lv_aload_n hx hb dX7_send_55 rfl (lv_at hl 1 rfl) ?_
    refine va_get (D := G.1) (ci := 7) (v := .ref wa) (C := RX7) (T := TX7) (N := 8) hx hb hts hw7 hown hE.1 hP 0 rfl rfl 0 (by decide) hf10 (fun _ h9 => h9) rfl dX7_send_56 ?_
    refine va_get (D := G.1) (ci := 6) (v := .int 0) (C := RX6) (T := TX6) (N := 3) hx hb hts hw6 hown hE.1 hP 3 rfl rfl 2 (by decide) hf135 (fun _ h9 => h9) rfl dX7_send_59 ?_
    refine lv_goto (tgt := 87) hx hb dX7_send_62 (by decide) ?_
    refine lv_istore (lv' := [(6, .int 0), (5, .int (-1)), (0, .ref x), (1, .int p0), (2, .int p1), (3, .int p2), (4, .int p3)]) hx hb dX7_send_87 hl (by decide) rfl (fun ls hl => ?_)
    refine lv_aload_n hx hb dX7_send_89 rfl (lv_at hl 2 rfl) ?_
    refine va_get (D := G.1) (ci := 7) (v := .ref lo) (C := RX7) (T := TX7) (N := 8) hx hb hts hw7 hown hE.1 hP 0 rfl rfl 6 (by decide) hf58 (fun _ h9 => h9) rfl dX7_send_90 ?_
    refine lv_iload hx hb dX7_send_93 (lv_at hl 0 rfl) ?_
    refine lv_iload hx hb dX7_send_95 (lv_at hl 1 rfl) ?_
    refine lv_if_ge (tgt := 104) hx hb dX7_send_97 (by decide) (fun h9 => absurd h9 (by decide)) (fun _ => ?_)
    refine lv_iconst (v := 1) hx hb dX7_send_100 (by decide) ?_
    refine lv_goto (tgt := 105) hx hb dX7_send_101 (by decide) ?_
    refine zcall (wr := [(x, .inr (7, [.ref wa, .ref wb, .ref su, .ref cu, .ref tr, .ref co, .ref lo, .ref pk])), (pk, .inl (G.2.1, 4, .inl (upd (upd (upd (upd fp 0 p0) 1 p1) 2 p2) 3 p3))), (wa, .inr (6, [.ref ro, .int 0, .int 0]))]) (va_runV (As := [.int 0, .int 1]) (rest := []) ⟨hx, hb, hml, hown, hts⟩ (z_X2_count l G lo lr H.size) (cwV 2 hts gX7_send_X2_count rfl rfl rfl (by decide +kernel) ⟨Nat.le_of_ble_eq_true rfl, Nat.le_of_ble_eq_true rfl⟩) (zPreV (Wc := [(lo, .inr (2, [.ref lr, .int 0, .int 0, .int 0, .int 0, .int 0]))]) (q0 := 2) (ci := 2) (q := (RX2, TX2, 6)) hP hD hE hS hA [2] rfl (by decide) rfl rfl) rfl rfl hl.1 rfl (lv_room (Nat.le_of_ble_eq_true rfl)) dX7_send_105 ⟨Nat.le_of_ble_eq_true rfl, Nat.le_of_ble_eq_true rfl⟩) hP hD hS hA [2] [0, 1, 3] rfl rfl (by decide) (by decide) (fun u4 H locs hP hD hS => ?_)
    have hP : va_P G.1 vwCl [(x, .inr (7, [.ref wa, .ref wb, .ref su, .ref cu, .ref tr, .ref co, .ref lo, .ref pk])), (pk, .inl (G.2.1, 4, .inl (upd (upd (upd (upd fp 0 p0) 1 p1) 2 p2) 3 p3))), (wa, .inr (6, [.ref ro, .int 0, .int 0])), (lo, .inr (2, [.ref lr, .int 0, .int 1, .int 0, .int 0, .int 1]))] H := hP
    have hD : va_D A [(x, .inr (7, [.ref wa, .ref wb, .ref su, .ref cu, .ref tr, .ref co, .ref lo, .ref pk])), (pk, .inl (G.2.1, 4, .inl (upd (upd (upd (upd fp 0 p0) 1 p1) 2 p2) 3 p3))), (wa, .inr (6, [.ref ro, .int 0, .int 0])), (lo, .inr (2, [.ref lr, .int 0, .int 1, .int 0, .int 0, .int 1]))] := hD
    refine W.eq (g2 := F0 m 108 ls []) rfl ?_
    refine lv_iload hx hb dX7_send_108 (lv_at hl 0 rfl) ?_
    refine lv_if_eq (tgt := 128) hx hb dX7_send_110 (by decide) (fun _ => ?_) (fun h9 => absurd (by decide) h9)
    refine lv_iload hx hb dX7_send_128 (lv_at hl 0 rfl) ?_
    refine lv_if_eq (tgt := 137) hx hb dX7_send_130 (by decide) (fun _ => ?_) (fun h9 => absurd (by decide) h9)
    refine lv_iconst (v := 0) hx hb dX7_send_137 (by decide) ?_
    exact zend_i hx hb hr hlocks (fun k => [].getD k 0) hP hD hS (Nat.le_of_ble_eq_true rfl) (Nat.le_of_ble_eq_true rfl) dX7_send_138
  · refine lv_aload_n hx hb dX7_send_0 rfl (lv_at hl 0 rfl) ?_
    refine lv_iload_n hx hb dX7_send_1 rfl (lv_at hl 1 rfl) ?_
    refine lv_iload_n hx hb dX7_send_2 rfl (lv_at hl 2 rfl) ?_
    refine lv_iload_n hx hb dX7_send_3 rfl (lv_at hl 3 rfl) ?_
    refine lv_iload hx hb dX7_send_4 (lv_at hl 4 rfl) ?_
    refine zcall (wr := [(wa, .inr (6, [.ref ro, .int 0, .int 0])), (lo, .inr (2, [.ref lr, .int 0, .int 0, .int 0, .int 0, .int 0]))]) (va_runV (As := [.int p0, .int p1, .int p2, .int p3]) (rest := []) ⟨hx, hb, hml, hown, hts⟩ (z_X7_takePacket l G x wa wb su cu tr co lo pk p0 p1 p2 p3 (fp) hok s.heap.size) (cwV 4 hts gX7_send_X7_takePacket rfl rfl rfl (by decide +kernel) ⟨Nat.le_of_ble_eq_true rfl, Nat.le_of_ble_eq_true rfl⟩) (zPreV (Wc := [(x, .inr (7, [.ref wa, .ref wb, .ref su, .ref cu, .ref tr, .ref co, .ref lo, .ref pk])), (pk, .inl (G.2.1, 4, .inl (fp)))]) (q0 := 0) (ci := 7) (q := (RX7, TX7, 8)) hP hD hE hS hA [0, 1] rfl (by decide) rfl rfl) rfl rfl hl.1 rfl (lv_room (Nat.le_of_ble_eq_true rfl)) dX7_send_6 ⟨Nat.le_of_ble_eq_true rfl, Nat.le_of_ble_eq_true rfl⟩) hP hD hS hA [0, 1] [2, 3] rfl rfl (by decide) (by decide) (fun u1 H locs hP hD hS => ?_)
    have hP : va_P G.1 vwCl [(wa, .inr (6, [.ref ro, .int 0, .int 0])), (lo, .inr (2, [.ref lr, .int 0, .int 0, .int 0, .int 0, .int 0])), (x, .inr (7, [.ref wa, .ref wb, .ref su, .ref cu, .ref tr, .ref co, .ref lo, .ref pk])), (pk, .inl (G.2.1, 4, .inl (upd (upd (upd (upd fp 0 p0) 1 p1) 2 p2) 3 p3)))] H := hP
    have hD : va_D A [(wa, .inr (6, [.ref ro, .int 0, .int 0])), (lo, .inr (2, [.ref lr, .int 0, .int 0, .int 0, .int 0, .int 0])), (x, .inr (7, [.ref wa, .ref wb, .ref su, .ref cu, .ref tr, .ref co, .ref lo, .ref pk])), (pk, .inl (G.2.1, 4, .inl (upd (upd (upd (upd fp 0 p0) 1 p1) 2 p2) 3 p3)))] := hD
    refine W.eq (g2 := F0 m 9 ls []) rfl ?_
    refine lv_iload hx hb dX7_send_9 (lv_at hl 4 rfl) ?_
    refine lv_iconst (v := 1) hx hb dX7_send_11 (by decide) ?_
    refine lv_icmp_ne (tgt := 37) hx hb dX7_send_12 (by decide) (fun _ => ?_) (fun h9 => absurd h9 h1)
    refine lv_aload_n hx hb dX7_send_37 rfl (lv_at hl 0 rfl) ?_
    refine va_get (D := G.1) (ci := 7) (v := .ref wa) (C := RX7) (T := TX7) (N := 8) hx hb hts hw7 hown hE.1 hP 2 rfl rfl 0 (by decide) hf10 (fun _ h9 => h9) rfl dX7_send_38 ?_
    refine lv_aload_n hx hb dX7_send_41 rfl (lv_at hl 0 rfl) ?_
    refine va_get (D := G.1) (ci := 7) (v := .ref pk) (C := RX7) (T := TX7) (N := 8) hx hb hts hw7 hown hE.1 hP 2 rfl rfl 7 (by decide) hf62 (fun _ h9 => h9) rfl dX7_send_42 ?_
    refine zcall (wr := [(lo, .inr (2, [.ref lr, .int 0, .int 0, .int 0, .int 0, .int 0])), (x, .inr (7, [.ref wa, .ref wb, .ref su, .ref cu, .ref tr, .ref co, .ref lo, .ref pk])), (pk, .inl (G.2.1, 4, .inl (upd (upd (upd (upd fp 0 p0) 1 p1) 2 p2) 3 p3)))]) (va_runV (As := [.ref pk]) (rest := []) ⟨hx, hb, hml, hown, hts⟩ (z_X6_hit l G wa ro pk H.size) (cwV 1 hts gX7_send_X6_hit rfl rfl rfl (by decide +kernel) ⟨Nat.le_of_ble_eq_true rfl, Nat.le_of_ble_eq_true rfl⟩) (zPreV (Wc := [(wa, .inr (6, [.ref ro, .int 0, .int 0]))]) (q0 := 0) (ci := 6) (q := (RX6, TX6, 3)) hP hD hE hS hA [0] rfl (by decide) rfl rfl) rfl rfl hl.1 rfl (lv_room (Nat.le_of_ble_eq_true rfl)) dX7_send_45 ⟨Nat.le_of_ble_eq_true rfl, Nat.le_of_ble_eq_true rfl⟩) hP hD hS hA [0] [1, 2, 3] rfl rfl (by decide) (by decide) (fun u2 H locs hP hD hS => ?_)
    have hP : va_P G.1 vwCl [(lo, .inr (2, [.ref lr, .int 0, .int 0, .int 0, .int 0, .int 0])), (x, .inr (7, [.ref wa, .ref wb, .ref su, .ref cu, .ref tr, .ref co, .ref lo, .ref pk])), (pk, .inl (G.2.1, 4, .inl (upd (upd (upd (upd fp 0 p0) 1 p1) 2 p2) 3 p3))), (wa, .inr (6, [.ref ro, .int 0, .int 0]))] H := hP
    have hD : va_D A [(lo, .inr (2, [.ref lr, .int 0, .int 0, .int 0, .int 0, .int 0])), (x, .inr (7, [.ref wa, .ref wb, .ref su, .ref cu, .ref tr, .ref co, .ref lo, .ref pk])), (pk, .inl (G.2.1, 4, .inl (upd (upd (upd (upd fp 0 p0) 1 p1) 2 p2) 3 p3))), (wa, .inr (6, [.ref ro, .int 0, .int 0]))] := hD
    refine W.eq (g2 := F0 m 48 ls [.int (-1)]) rfl ?_
    refine lv_istore (lv' := [(5, .int (-1)), (0, .ref x), (1, .int p0), (2, .int p1), (3, .int p2), (4, .int p3)]) hx hb dX7_send_48 hl (by decide) rfl (fun ls hl => ?_)
    refine lv_iload hx hb dX7_send_50 (lv_at hl 0 rfl) ?_
    refine lv_if_ge (tgt := 65) hx hb dX7_send_52 (by decide) (fun h9 => absurd h9 (by decide)) (fun _ => ?_)
    refine lv_aload_n hx hb dX7_send_55 rfl (lv_at hl 1 rfl) ?_
    refine va_get (D := G.1) (ci := 7) (v := .ref wa) (C := RX7) (T := TX7) (N := 8) hx hb hts hw7 hown hE.1 hP 1 rfl rfl 0 (by decide) hf10 (fun _ h9 => h9) rfl dX7_send_56 ?_
    refine va_get (D := G.1) (ci := 6) (v := .int 0) (C := RX6) (T := TX6) (N := 3) hx hb hts hw6 hown hE.1 hP 3 rfl rfl 2 (by decide) hf135 (fun _ h9 => h9) rfl dX7_send_59 ?_
    refine lv_goto (tgt := 87) hx hb dX7_send_62 (by decide) ?_
    refine lv_istore (lv' := [(6, .int 0), (5, .int (-1)), (0, .ref x), (1, .int p0), (2, .int p1), (3, .int p2), (4, .int p3)]) hx hb dX7_send_87 hl (by decide) rfl (fun ls hl => ?_)
    refine lv_aload_n hx hb dX7_send_89 rfl (lv_at hl 2 rfl) ?_
    refine va_get (D := G.1) (ci := 7) (v := .ref lo) (C := RX7) (T := TX7) (N := 8) hx hb hts hw7 hown hE.1 hP 1 rfl rfl 6 (by decide) hf58 (fun _ h9 => h9) rfl dX7_send_90 ?_
    refine lv_iload hx hb dX7_send_93 (lv_at hl 0 rfl) ?_
    refine lv_iload hx hb dX7_send_95 (lv_at hl 1 rfl) ?_
    refine lv_if_ge (tgt := 104) hx hb dX7_send_97 (by decide) (fun h9 => absurd h9 (by decide)) (fun _ => ?_)
    refine lv_iconst (v := 1) hx hb dX7_send_100 (by decide) ?_
    refine lv_goto (tgt := 105) hx hb dX7_send_101 (by decide) ?_
    refine zcall (wr := [(x, .inr (7, [.ref wa, .ref wb, .ref su, .ref cu, .ref tr, .ref co, .ref lo, .ref pk])), (pk, .inl (G.2.1, 4, .inl (upd (upd (upd (upd fp 0 p0) 1 p1) 2 p2) 3 p3))), (wa, .inr (6, [.ref ro, .int 0, .int 0]))]) (va_runV (As := [.int 0, .int 1]) (rest := []) ⟨hx, hb, hml, hown, hts⟩ (z_X2_count l G lo lr H.size) (cwV 2 hts gX7_send_X2_count rfl rfl rfl (by decide +kernel) ⟨Nat.le_of_ble_eq_true rfl, Nat.le_of_ble_eq_true rfl⟩) (zPreV (Wc := [(lo, .inr (2, [.ref lr, .int 0, .int 0, .int 0, .int 0, .int 0]))]) (q0 := 0) (ci := 2) (q := (RX2, TX2, 6)) hP hD hE hS hA [0] rfl (by decide) rfl rfl) rfl rfl hl.1 rfl (lv_room (Nat.le_of_ble_eq_true rfl)) dX7_send_105 ⟨Nat.le_of_ble_eq_true rfl, Nat.le_of_ble_eq_true rfl⟩) hP hD hS hA [0] [1, 2, 3] rfl rfl (by decide) (by decide) (fun u3 H locs hP hD hS => ?_)
    have hP : va_P G.1 vwCl [(x, .inr (7, [.ref wa, .ref wb, .ref su, .ref cu, .ref tr, .ref co, .ref lo, .ref pk])), (pk, .inl (G.2.1, 4, .inl (upd (upd (upd (upd fp 0 p0) 1 p1) 2 p2) 3 p3))), (wa, .inr (6, [.ref ro, .int 0, .int 0])), (lo, .inr (2, [.ref lr, .int 0, .int 1, .int 0, .int 0, .int 1]))] H := hP
    have hD : va_D A [(x, .inr (7, [.ref wa, .ref wb, .ref su, .ref cu, .ref tr, .ref co, .ref lo, .ref pk])), (pk, .inl (G.2.1, 4, .inl (upd (upd (upd (upd fp 0 p0) 1 p1) 2 p2) 3 p3))), (wa, .inr (6, [.ref ro, .int 0, .int 0])), (lo, .inr (2, [.ref lr, .int 0, .int 1, .int 0, .int 0, .int 1]))] := hD
    refine W.eq (g2 := F0 m 108 ls []) rfl ?_
    refine lv_iload hx hb dX7_send_108 (lv_at hl 0 rfl) ?_
    refine lv_if_eq (tgt := 128) hx hb dX7_send_110 (by decide) (fun _ => ?_) (fun h9 => absurd (by decide) h9)
    refine lv_iload hx hb dX7_send_128 (lv_at hl 0 rfl) ?_
    refine lv_if_eq (tgt := 137) hx hb dX7_send_130 (by decide) (fun _ => ?_) (fun h9 => absurd (by decide) h9)
    refine lv_iconst (v := 0) hx hb dX7_send_137 (by decide) ?_
    exact zend_i hx hb hr hlocks (fun k => [].getD k 0) hP hD hS (Nat.le_of_ble_eq_true rfl) (Nat.le_of_ble_eq_true rfl) dX7_send_138

set_option maxHeartbeats 4000000 in
set_option maxRecDepth 100000 in
theorem z_X7_sendT (l : Launch) (G : zG) (x : Nat) (wa : Nat) (wb : Nat) (su : Nat) (cu : Nat) (tr : Nat) (co : Nat) (lo : Nat) (pk : Nat) (p0 : Int32) (p1 : Int32) (p2 : Int32) (p3 : Int32) (hl0 : l.stackTraces = false) (hbad : zBad p0 p1 p2 p3) : zT l G yX7_send wsX7_send { frames := 7, cells := 1, slots := 6, locals := 106 } [(x, .inr (7, [.ref wa, .ref wb, .ref su, .ref cu, .ref tr, .ref co, .ref lo, .ref pk]))] [.ref x, .int p0, .int p1, .int p2, .int p3] "java/lang/IllegalArgumentException" [(x, .inr (7, [.ref wa, .ref wb, .ref su, .ref cu, .ref tr, .ref co, .ref lo, .ref pk]))] 1 6 := by
  refine zT_of (cc := cX7_send) (maxL := 7) (rt := (some .int)) (by decide) rfl (Nat.le_of_ble_eq_true rfl) ?_
  intro p e s m below meth c A ls hx hb hml hr hts hown hlocks ht hA hE hP hD hS hl
  have hl : lv_has ls 7 [(0, .ref x), (1, .int p0), (2, .int p1), (3, .int p2), (4, .int p3)] := hl
  have hown : s.vm.findClass RX7 = some m.cls := hown
  have hP : va_P G.1 vwCl [(x, .inr (7, [.ref wa, .ref wb, .ref su, .ref cu, .ref tr, .ref co, .ref lo, .ref pk]))] s.heap := hP
  refine lv_aload_n hx hb dX7_send_0 rfl (lv_at hl 0 rfl) ?_
  refine lv_iload_n hx hb dX7_send_1 rfl (lv_at hl 1 rfl) ?_
  refine lv_iload_n hx hb dX7_send_2 rfl (lv_at hl 2 rfl) ?_
  refine lv_iload_n hx hb dX7_send_3 rfl (lv_at hl 3 rfl) ?_
  refine lv_iload hx hb dX7_send_4 (lv_at hl 4 rfl) ?_
  refine zcallT (wr := []) (vx_runV (As := [.int p0, .int p1, .int p2, .int p3]) (rest := []) ⟨hx, hb, hml, hown, hts⟩ (z_X7_takePacketT l G x wa wb su cu tr co lo pk p0 p1 p2 p3 hl0 hbad s.heap.size) (cwV 4 hts gX7_send_X7_takePacket rfl rfl rfl (by decide +kernel) ⟨Nat.le_of_ble_eq_true rfl, Nat.le_of_ble_eq_true rfl⟩) (zPreV (Wc := [(x, .inr (7, [.ref wa, .ref wb, .ref su, .ref cu, .ref tr, .ref co, .ref lo, .ref pk]))]) (q0 := 0) (ci := 7) (q := (RX7, TX7, 8)) hP hD hE hS hA [0] rfl (by decide) rfl rfl) rfl rfl hl.1 rfl (lv_room (Nat.le_of_ble_eq_true rfl)) dX7_send_6 ⟨Nat.le_of_ble_eq_true rfl, Nat.le_of_ble_eq_true rfl⟩) hP hD hS hA [0] [] rfl rfl (by decide) (by decide) (fun ce q9 H locs hP hD hS hce hcv hcl => ?_)
  have hP : va_P G.1 vwCl [(x, .inr (7, [.ref wa, .ref wb, .ref su, .ref cu, .ref tr, .ref co, .ref lo, .ref pk]))] H := hP
  have hD : va_D A [(x, .inr (7, [.ref wa, .ref wb, .ref su, .ref cu, .ref tr, .ref co, .ref lo, .ref pk]))] := hD
  exact zout ht hlocks hP hD hS hce hcv hcl (Nat.le_of_ble_eq_true rfl) (Nat.le_of_ble_eq_true rfl)

set_option maxHeartbeats 4000000 in
set_option maxRecDepth 100000 in
theorem z_X7_sent0 (l : Launch) (G : zG) (x : Nat) (wa : Nat) (wb : Nat) (su : Nat) (cu : Nat) (tr : Nat) (co : Nat) (lo : Nat) (pk : Nat) (lr : Nat) : zR l G yX7_sent wsX7_sent { frames := 1, cells := 0, slots := 0, locals := 21 } [(x, .inr (7, [.ref wa, .ref wb, .ref su, .ref cu, .ref tr, .ref co, .ref lo, .ref pk])), (lo, .inr (2, [.ref lr, .int 0, .int 0, .int 0, .int 0, .int 0]))] [.ref x, .int 0] (some (.int 0)) (fun u => [(x, .inr (7, [.ref wa, .ref wb, .ref su, .ref cu, .ref tr, .ref co, .ref lo, .ref pk])), (lo, .inr (2, [.ref lr, .int 0, .int 0, .int 0, .int 0, .int 0]))]) 0 0 := by
  refine zR_of (cc := cX7_sent) (maxL := 2) (rt := (some .int)) (by decide) rfl (Nat.le_of_ble_eq_true rfl) ?_
  intro p e s m below meth c A ls hx hb hml hr hts hown hlocks hin hA hE hP hD hS hl
  have hl : lv_has ls 2 [(0, .ref x), (1, .int 0)] := hl
  have hown : s.vm.findClass RX7 = some m.cls := hown
  have hP : va_P G.1 vwCl [(x, .inr (7, [.ref wa, .ref wb, .ref su, .ref cu, .ref tr, .ref co, .ref lo, .ref pk])), (lo, .inr (2, [.ref lr, .int 0, .int 0, .int 0, .int 0, .int 0]))] s.heap := hP
  have hw7 : ∀ w ∈ u_ws RX7 TX7 8, w ∈ wsX7_sent := by decide +kernel
  have hf58 := hts (.fieldLink RX7 58 "Nettle" "log" "LNettle$Log;") (by decide +kernel)
  have hw2 : ∀ w ∈ u_ws RX2 TX2 6, w ∈ wsX7_sent := by decide +kernel
  have hf255 := hts (.fieldLink RX7 255 "Nettle$Log" "all" "I") (by decide +kernel)
  refine lv_iload_n hx hb dX7_sent_0 rfl (lv_at hl 1 rfl) ?_
  refine lv_iconst (v := 4) hx hb dX7_sent_1 (by decide) ?_
  refine zcall (wr := [(x, .inr (7, [.ref wa, .ref wb, .ref su, .ref cu, .ref tr, .ref co, .ref lo, .ref pk])), (lo, .inr (2, [.ref lr, .int 0, .int 0, .int 0, .int 0, .int 0]))]) (va_runS (As := [.int 0, .int 4]) (rest := []) ⟨hx, hb, hml, hown, hts⟩ (z_X7_needWhat4 l G 0 (by decide) (by decide) s.heap.size) (va_cwS 2 hts gX7_sent_X7_needWhat rfl rfl rfl (by decide +kernel) ⟨Nat.le_of_ble_eq_true rfl, Nat.le_of_ble_eq_true rfl⟩) (zPre (Wc := []) hP hD hE hS hA [] rfl (by decide)) rfl rfl hl.1 rfl (lv_room (Nat.le_of_ble_eq_true rfl)) dX7_sent_2 ⟨Nat.le_of_ble_eq_true rfl, Nat.le_of_ble_eq_true rfl⟩) hP hD hS hA [] [0, 1] rfl rfl (by decide) (by decide) (fun u1 H locs hP hD hS => ?_)
  have hP : va_P G.1 vwCl [(x, .inr (7, [.ref wa, .ref wb, .ref su, .ref cu, .ref tr, .ref co, .ref lo, .ref pk])), (lo, .inr (2, [.ref lr, .int 0, .int 0, .int 0, .int 0, .int 0]))] H := hP
  have hD : va_D A [(x, .inr (7, [.ref wa, .ref wb, .ref su, .ref cu, .ref tr, .ref co, .ref lo, .ref pk])), (lo, .inr (2, [.ref lr, .int 0, .int 0, .int 0, .int 0, .int 0]))] := hD
  refine W.eq (g2 := F0 m 5 ls []) rfl ?_
  refine lv_iload_n hx hb dX7_sent_5 rfl (lv_at hl 1 rfl) ?_
  refine lv_tableIn (off := 30) (tgt := 36) hx hb dX7_sent_6 (by decide) (by decide) rfl (by decide) ?_
  refine lv_aload_n hx hb dX7_sent_36 rfl (lv_at hl 0 rfl) ?_
  refine va_get (D := G.1) (ci := 7) (v := .ref lo) (C := RX7) (T := TX7) (N := 8) hx hb hts hw7 hown hE.1 hP 0 rfl rfl 6 (by decide) hf58 (fun _ h9 => h9) rfl dX7_sent_37 ?_
  refine va_get (D := G.1) (ci := 2) (v := .int 0) (C := RX2) (T := TX2) (N := 6) hx hb hts hw2 hown hE.1 hP 1 rfl rfl 2 (by decide) hf255 (fun _ h9 => h9) rfl dX7_sent_40 ?_
  exact zend_i hx hb hr hlocks (fun k => [].getD k 0) hP hD hS (Nat.le_of_ble_eq_true rfl) (Nat.le_of_ble_eq_true rfl) dX7_sent_43

set_option maxHeartbeats 4000000 in
set_option maxRecDepth 100000 in
theorem z_X7_sent1 (l : Launch) (G : zG) (x : Nat) (wa : Nat) (wb : Nat) (su : Nat) (cu : Nat) (tr : Nat) (co : Nat) (lo : Nat) (pk : Nat) (lr : Nat) : zR l G yX7_sent wsX7_sent { frames := 1, cells := 0, slots := 0, locals := 21 } [(x, .inr (7, [.ref wa, .ref wb, .ref su, .ref cu, .ref tr, .ref co, .ref lo, .ref pk])), (lo, .inr (2, [.ref lr, .int 0, .int 0, .int 0, .int 0, .int 0]))] [.ref x, .int 1] (some (.int 0)) (fun u => [(x, .inr (7, [.ref wa, .ref wb, .ref su, .ref cu, .ref tr, .ref co, .ref lo, .ref pk])), (lo, .inr (2, [.ref lr, .int 0, .int 0, .int 0, .int 0, .int 0]))]) 0 0 := by
  refine zR_of (cc := cX7_sent) (maxL := 2) (rt := (some .int)) (by decide) rfl (Nat.le_of_ble_eq_true rfl) ?_
  intro p e s m below meth c A ls hx hb hml hr hts hown hlocks hin hA hE hP hD hS hl
  have hl : lv_has ls 2 [(0, .ref x), (1, .int 1)] := hl
  have hown : s.vm.findClass RX7 = some m.cls := hown
  have hP : va_P G.1 vwCl [(x, .inr (7, [.ref wa, .ref wb, .ref su, .ref cu, .ref tr, .ref co, .ref lo, .ref pk])), (lo, .inr (2, [.ref lr, .int 0, .int 0, .int 0, .int 0, .int 0]))] s.heap := hP
  have hw7 : ∀ w ∈ u_ws RX7 TX7 8, w ∈ wsX7_sent := by decide +kernel
  have hf58 := hts (.fieldLink RX7 58 "Nettle" "log" "LNettle$Log;") (by decide +kernel)
  have hw2 : ∀ w ∈ u_ws RX2 TX2 6, w ∈ wsX7_sent := by decide +kernel
  have hf258 := hts (.fieldLink RX7 258 "Nettle$Log" "passed" "I") (by decide +kernel)
  refine lv_iload_n hx hb dX7_sent_0 rfl (lv_at hl 1 rfl) ?_
  refine lv_iconst (v := 4) hx hb dX7_sent_1 (by decide) ?_
  refine zcall (wr := [(x, .inr (7, [.ref wa, .ref wb, .ref su, .ref cu, .ref tr, .ref co, .ref lo, .ref pk])), (lo, .inr (2, [.ref lr, .int 0, .int 0, .int 0, .int 0, .int 0]))]) (va_runS (As := [.int 1, .int 4]) (rest := []) ⟨hx, hb, hml, hown, hts⟩ (z_X7_needWhat4 l G 1 (by decide) (by decide) s.heap.size) (va_cwS 2 hts gX7_sent_X7_needWhat rfl rfl rfl (by decide +kernel) ⟨Nat.le_of_ble_eq_true rfl, Nat.le_of_ble_eq_true rfl⟩) (zPre (Wc := []) hP hD hE hS hA [] rfl (by decide)) rfl rfl hl.1 rfl (lv_room (Nat.le_of_ble_eq_true rfl)) dX7_sent_2 ⟨Nat.le_of_ble_eq_true rfl, Nat.le_of_ble_eq_true rfl⟩) hP hD hS hA [] [0, 1] rfl rfl (by decide) (by decide) (fun u1 H locs hP hD hS => ?_)
  have hP : va_P G.1 vwCl [(x, .inr (7, [.ref wa, .ref wb, .ref su, .ref cu, .ref tr, .ref co, .ref lo, .ref pk])), (lo, .inr (2, [.ref lr, .int 0, .int 0, .int 0, .int 0, .int 0]))] H := hP
  have hD : va_D A [(x, .inr (7, [.ref wa, .ref wb, .ref su, .ref cu, .ref tr, .ref co, .ref lo, .ref pk])), (lo, .inr (2, [.ref lr, .int 0, .int 0, .int 0, .int 0, .int 0]))] := hD
  refine W.eq (g2 := F0 m 5 ls []) rfl ?_
  refine lv_iload_n hx hb dX7_sent_5 rfl (lv_at hl 1 rfl) ?_
  refine lv_tableIn (off := 38) (tgt := 44) hx hb dX7_sent_6 (by decide) (by decide) rfl (by decide) ?_
  refine lv_aload_n hx hb dX7_sent_44 rfl (lv_at hl 0 rfl) ?_
  refine va_get (D := G.1) (ci := 7) (v := .ref lo) (C := RX7) (T := TX7) (N := 8) hx hb hts hw7 hown hE.1 hP 0 rfl rfl 6 (by decide) hf58 (fun _ h9 => h9) rfl dX7_sent_45 ?_
  refine va_get (D := G.1) (ci := 2) (v := .int 0) (C := RX2) (T := TX2) (N := 6) hx hb hts hw2 hown hE.1 hP 1 rfl rfl 3 (by decide) hf258 (fun _ h9 => h9) rfl dX7_sent_48 ?_
  exact zend_i hx hb hr hlocks (fun k => [].getD k 0) hP hD hS (Nat.le_of_ble_eq_true rfl) (Nat.le_of_ble_eq_true rfl) dX7_sent_51

set_option maxHeartbeats 4000000 in
set_option maxRecDepth 100000 in
theorem z_X7_sent2 (l : Launch) (G : zG) (x : Nat) (wa : Nat) (wb : Nat) (su : Nat) (cu : Nat) (tr : Nat) (co : Nat) (lo : Nat) (pk : Nat) (lr : Nat) : zR l G yX7_sent wsX7_sent { frames := 1, cells := 0, slots := 0, locals := 21 } [(x, .inr (7, [.ref wa, .ref wb, .ref su, .ref cu, .ref tr, .ref co, .ref lo, .ref pk])), (lo, .inr (2, [.ref lr, .int 0, .int 0, .int 0, .int 0, .int 0]))] [.ref x, .int 2] (some (.int 0)) (fun u => [(x, .inr (7, [.ref wa, .ref wb, .ref su, .ref cu, .ref tr, .ref co, .ref lo, .ref pk])), (lo, .inr (2, [.ref lr, .int 0, .int 0, .int 0, .int 0, .int 0]))]) 0 0 := by
  refine zR_of (cc := cX7_sent) (maxL := 2) (rt := (some .int)) (by decide) rfl (Nat.le_of_ble_eq_true rfl) ?_
  intro p e s m below meth c A ls hx hb hml hr hts hown hlocks hin hA hE hP hD hS hl
  have hl : lv_has ls 2 [(0, .ref x), (1, .int 2)] := hl
  have hown : s.vm.findClass RX7 = some m.cls := hown
  have hP : va_P G.1 vwCl [(x, .inr (7, [.ref wa, .ref wb, .ref su, .ref cu, .ref tr, .ref co, .ref lo, .ref pk])), (lo, .inr (2, [.ref lr, .int 0, .int 0, .int 0, .int 0, .int 0]))] s.heap := hP
  have hw7 : ∀ w ∈ u_ws RX7 TX7 8, w ∈ wsX7_sent := by decide +kernel
  have hf58 := hts (.fieldLink RX7 58 "Nettle" "log" "LNettle$Log;") (by decide +kernel)
  have hw2 : ∀ w ∈ u_ws RX2 TX2 6, w ∈ wsX7_sent := by decide +kernel
  have hf261 := hts (.fieldLink RX7 261 "Nettle$Log" "remembered" "I") (by decide +kernel)
  refine lv_iload_n hx hb dX7_sent_0 rfl (lv_at hl 1 rfl) ?_
  refine lv_iconst (v := 4) hx hb dX7_sent_1 (by decide) ?_
  refine zcall (wr := [(x, .inr (7, [.ref wa, .ref wb, .ref su, .ref cu, .ref tr, .ref co, .ref lo, .ref pk])), (lo, .inr (2, [.ref lr, .int 0, .int 0, .int 0, .int 0, .int 0]))]) (va_runS (As := [.int 2, .int 4]) (rest := []) ⟨hx, hb, hml, hown, hts⟩ (z_X7_needWhat4 l G 2 (by decide) (by decide) s.heap.size) (va_cwS 2 hts gX7_sent_X7_needWhat rfl rfl rfl (by decide +kernel) ⟨Nat.le_of_ble_eq_true rfl, Nat.le_of_ble_eq_true rfl⟩) (zPre (Wc := []) hP hD hE hS hA [] rfl (by decide)) rfl rfl hl.1 rfl (lv_room (Nat.le_of_ble_eq_true rfl)) dX7_sent_2 ⟨Nat.le_of_ble_eq_true rfl, Nat.le_of_ble_eq_true rfl⟩) hP hD hS hA [] [0, 1] rfl rfl (by decide) (by decide) (fun u1 H locs hP hD hS => ?_)
  have hP : va_P G.1 vwCl [(x, .inr (7, [.ref wa, .ref wb, .ref su, .ref cu, .ref tr, .ref co, .ref lo, .ref pk])), (lo, .inr (2, [.ref lr, .int 0, .int 0, .int 0, .int 0, .int 0]))] H := hP
  have hD : va_D A [(x, .inr (7, [.ref wa, .ref wb, .ref su, .ref cu, .ref tr, .ref co, .ref lo, .ref pk])), (lo, .inr (2, [.ref lr, .int 0, .int 0, .int 0, .int 0, .int 0]))] := hD
  refine W.eq (g2 := F0 m 5 ls []) rfl ?_
  refine lv_iload_n hx hb dX7_sent_5 rfl (lv_at hl 1 rfl) ?_
  refine lv_tableIn (off := 46) (tgt := 52) hx hb dX7_sent_6 (by decide) (by decide) rfl (by decide) ?_
  refine lv_aload_n hx hb dX7_sent_52 rfl (lv_at hl 0 rfl) ?_
  refine va_get (D := G.1) (ci := 7) (v := .ref lo) (C := RX7) (T := TX7) (N := 8) hx hb hts hw7 hown hE.1 hP 0 rfl rfl 6 (by decide) hf58 (fun _ h9 => h9) rfl dX7_sent_53 ?_
  refine va_get (D := G.1) (ci := 2) (v := .int 0) (C := RX2) (T := TX2) (N := 6) hx hb hts hw2 hown hE.1 hP 1 rfl rfl 4 (by decide) hf261 (fun _ h9 => h9) rfl dX7_sent_56 ?_
  exact zend_i hx hb hr hlocks (fun k => [].getD k 0) hP hD hS (Nat.le_of_ble_eq_true rfl) (Nat.le_of_ble_eq_true rfl) dX7_sent_59

set_option maxHeartbeats 4000000 in
set_option maxRecDepth 100000 in
theorem z_X7_sent3 (l : Launch) (G : zG) (x : Nat) (wa : Nat) (wb : Nat) (su : Nat) (cu : Nat) (tr : Nat) (co : Nat) (lo : Nat) (pk : Nat) (lr : Nat) : zR l G yX7_sent wsX7_sent { frames := 1, cells := 0, slots := 0, locals := 21 } [(x, .inr (7, [.ref wa, .ref wb, .ref su, .ref cu, .ref tr, .ref co, .ref lo, .ref pk])), (lo, .inr (2, [.ref lr, .int 0, .int 0, .int 0, .int 0, .int 0]))] [.ref x, .int 3] (some (.int 0)) (fun u => [(x, .inr (7, [.ref wa, .ref wb, .ref su, .ref cu, .ref tr, .ref co, .ref lo, .ref pk])), (lo, .inr (2, [.ref lr, .int 0, .int 0, .int 0, .int 0, .int 0]))]) 0 0 := by
  refine zR_of (cc := cX7_sent) (maxL := 2) (rt := (some .int)) (by decide) rfl (Nat.le_of_ble_eq_true rfl) ?_
  intro p e s m below meth c A ls hx hb hml hr hts hown hlocks hin hA hE hP hD hS hl
  have hl : lv_has ls 2 [(0, .ref x), (1, .int 3)] := hl
  have hown : s.vm.findClass RX7 = some m.cls := hown
  have hP : va_P G.1 vwCl [(x, .inr (7, [.ref wa, .ref wb, .ref su, .ref cu, .ref tr, .ref co, .ref lo, .ref pk])), (lo, .inr (2, [.ref lr, .int 0, .int 0, .int 0, .int 0, .int 0]))] s.heap := hP
  have hw7 : ∀ w ∈ u_ws RX7 TX7 8, w ∈ wsX7_sent := by decide +kernel
  have hf58 := hts (.fieldLink RX7 58 "Nettle" "log" "LNettle$Log;") (by decide +kernel)
  have hw2 : ∀ w ∈ u_ws RX2 TX2 6, w ∈ wsX7_sent := by decide +kernel
  have hf264 := hts (.fieldLink RX7 264 "Nettle$Log" "size" "I") (by decide +kernel)
  refine lv_iload_n hx hb dX7_sent_0 rfl (lv_at hl 1 rfl) ?_
  refine lv_iconst (v := 4) hx hb dX7_sent_1 (by decide) ?_
  refine zcall (wr := [(x, .inr (7, [.ref wa, .ref wb, .ref su, .ref cu, .ref tr, .ref co, .ref lo, .ref pk])), (lo, .inr (2, [.ref lr, .int 0, .int 0, .int 0, .int 0, .int 0]))]) (va_runS (As := [.int 3, .int 4]) (rest := []) ⟨hx, hb, hml, hown, hts⟩ (z_X7_needWhat4 l G 3 (by decide) (by decide) s.heap.size) (va_cwS 2 hts gX7_sent_X7_needWhat rfl rfl rfl (by decide +kernel) ⟨Nat.le_of_ble_eq_true rfl, Nat.le_of_ble_eq_true rfl⟩) (zPre (Wc := []) hP hD hE hS hA [] rfl (by decide)) rfl rfl hl.1 rfl (lv_room (Nat.le_of_ble_eq_true rfl)) dX7_sent_2 ⟨Nat.le_of_ble_eq_true rfl, Nat.le_of_ble_eq_true rfl⟩) hP hD hS hA [] [0, 1] rfl rfl (by decide) (by decide) (fun u1 H locs hP hD hS => ?_)
  have hP : va_P G.1 vwCl [(x, .inr (7, [.ref wa, .ref wb, .ref su, .ref cu, .ref tr, .ref co, .ref lo, .ref pk])), (lo, .inr (2, [.ref lr, .int 0, .int 0, .int 0, .int 0, .int 0]))] H := hP
  have hD : va_D A [(x, .inr (7, [.ref wa, .ref wb, .ref su, .ref cu, .ref tr, .ref co, .ref lo, .ref pk])), (lo, .inr (2, [.ref lr, .int 0, .int 0, .int 0, .int 0, .int 0]))] := hD
  refine W.eq (g2 := F0 m 5 ls []) rfl ?_
  refine lv_iload_n hx hb dX7_sent_5 rfl (lv_at hl 1 rfl) ?_
  refine lv_tableIn (off := 54) (tgt := 60) hx hb dX7_sent_6 (by decide) (by decide) rfl (by decide) ?_
  refine lv_aload_n hx hb dX7_sent_60 rfl (lv_at hl 0 rfl) ?_
  refine va_get (D := G.1) (ci := 7) (v := .ref lo) (C := RX7) (T := TX7) (N := 8) hx hb hts hw7 hown hE.1 hP 0 rfl rfl 6 (by decide) hf58 (fun _ h9 => h9) rfl dX7_sent_61 ?_
  refine va_get (D := G.1) (ci := 2) (v := .int 0) (C := RX2) (T := TX2) (N := 6) hx hb hts hw2 hown hE.1 hP 1 rfl rfl 1 (by decide) hf264 (fun _ h9 => h9) rfl dX7_sent_64 ?_
  exact zend_i hx hb hr hlocks (fun k => [].getD k 0) hP hD hS (Nat.le_of_ble_eq_true rfl) (Nat.le_of_ble_eq_true rfl) dX7_sent_67

set_option maxHeartbeats 4000000 in
set_option maxRecDepth 100000 in
theorem z_X7_sent4 (l : Launch) (G : zG) (x : Nat) (wa : Nat) (wb : Nat) (su : Nat) (cu : Nat) (tr : Nat) (co : Nat) (lo : Nat) (pk : Nat) (lr : Nat) : zR l G yX7_sent wsX7_sent { frames := 1, cells := 0, slots := 0, locals := 21 } [(x, .inr (7, [.ref wa, .ref wb, .ref su, .ref cu, .ref tr, .ref co, .ref lo, .ref pk])), (lo, .inr (2, [.ref lr, .int 0, .int 0, .int 0, .int 0, .int 0]))] [.ref x, .int 4] (some (.int 0)) (fun u => [(x, .inr (7, [.ref wa, .ref wb, .ref su, .ref cu, .ref tr, .ref co, .ref lo, .ref pk])), (lo, .inr (2, [.ref lr, .int 0, .int 0, .int 0, .int 0, .int 0]))]) 0 0 := by
  refine zR_of (cc := cX7_sent) (maxL := 2) (rt := (some .int)) (by decide) rfl (Nat.le_of_ble_eq_true rfl) ?_
  intro p e s m below meth c A ls hx hb hml hr hts hown hlocks hin hA hE hP hD hS hl
  have hl : lv_has ls 2 [(0, .ref x), (1, .int 4)] := hl
  have hown : s.vm.findClass RX7 = some m.cls := hown
  have hP : va_P G.1 vwCl [(x, .inr (7, [.ref wa, .ref wb, .ref su, .ref cu, .ref tr, .ref co, .ref lo, .ref pk])), (lo, .inr (2, [.ref lr, .int 0, .int 0, .int 0, .int 0, .int 0]))] s.heap := hP
  have hw7 : ∀ w ∈ u_ws RX7 TX7 8, w ∈ wsX7_sent := by decide +kernel
  have hf58 := hts (.fieldLink RX7 58 "Nettle" "log" "LNettle$Log;") (by decide +kernel)
  have hw2 : ∀ w ∈ u_ws RX2 TX2 6, w ∈ wsX7_sent := by decide +kernel
  have hf267 := hts (.fieldLink RX7 267 "Nettle$Log" "byLastWord" "I") (by decide +kernel)
  refine lv_iload_n hx hb dX7_sent_0 rfl (lv_at hl 1 rfl) ?_
  refine lv_iconst (v := 4) hx hb dX7_sent_1 (by decide) ?_
  refine zcall (wr := [(x, .inr (7, [.ref wa, .ref wb, .ref su, .ref cu, .ref tr, .ref co, .ref lo, .ref pk])), (lo, .inr (2, [.ref lr, .int 0, .int 0, .int 0, .int 0, .int 0]))]) (va_runS (As := [.int 4, .int 4]) (rest := []) ⟨hx, hb, hml, hown, hts⟩ (z_X7_needWhat4 l G 4 (by decide) (by decide) s.heap.size) (va_cwS 2 hts gX7_sent_X7_needWhat rfl rfl rfl (by decide +kernel) ⟨Nat.le_of_ble_eq_true rfl, Nat.le_of_ble_eq_true rfl⟩) (zPre (Wc := []) hP hD hE hS hA [] rfl (by decide)) rfl rfl hl.1 rfl (lv_room (Nat.le_of_ble_eq_true rfl)) dX7_sent_2 ⟨Nat.le_of_ble_eq_true rfl, Nat.le_of_ble_eq_true rfl⟩) hP hD hS hA [] [0, 1] rfl rfl (by decide) (by decide) (fun u1 H locs hP hD hS => ?_)
  have hP : va_P G.1 vwCl [(x, .inr (7, [.ref wa, .ref wb, .ref su, .ref cu, .ref tr, .ref co, .ref lo, .ref pk])), (lo, .inr (2, [.ref lr, .int 0, .int 0, .int 0, .int 0, .int 0]))] H := hP
  have hD : va_D A [(x, .inr (7, [.ref wa, .ref wb, .ref su, .ref cu, .ref tr, .ref co, .ref lo, .ref pk])), (lo, .inr (2, [.ref lr, .int 0, .int 0, .int 0, .int 0, .int 0]))] := hD
  refine W.eq (g2 := F0 m 5 ls []) rfl ?_
  refine lv_iload_n hx hb dX7_sent_5 rfl (lv_at hl 1 rfl) ?_
  refine lv_tableOut (tgt := 68) hx hb dX7_sent_6 (by decide) (by decide) ?_
  refine lv_aload_n hx hb dX7_sent_68 rfl (lv_at hl 0 rfl) ?_
  refine va_get (D := G.1) (ci := 7) (v := .ref lo) (C := RX7) (T := TX7) (N := 8) hx hb hts hw7 hown hE.1 hP 0 rfl rfl 6 (by decide) hf58 (fun _ h9 => h9) rfl dX7_sent_69 ?_
  refine va_get (D := G.1) (ci := 2) (v := .int 0) (C := RX2) (T := TX2) (N := 6) hx hb hts hw2 hown hE.1 hP 1 rfl rfl 5 (by decide) hf267 (fun _ h9 => h9) rfl dX7_sent_72 ?_
  exact zend_i hx hb hr hlocks (fun k => [].getD k 0) hP hD hS (Nat.le_of_ble_eq_true rfl) (Nat.le_of_ble_eq_true rfl) dX7_sent_75

set_option maxHeartbeats 4000000 in
set_option maxRecDepth 100000 in
theorem z_X7_sentT (l : Launch) (G : zG) (x : Nat) (wa : Nat) (wb : Nat) (su : Nat) (cu : Nat) (tr : Nat) (co : Nat) (lo : Nat) (pk : Nat) (p0 : Int32) (hl0 : l.stackTraces = false) (hv : p0 < 0 ∨ (¬ p0 < 0 ∧ ¬ p0 ≤ 4)) : zT l G yX7_sent wsX7_sent { frames := 7, cells := 1, slots := 6, locals := 103 } [(x, .inr (7, [.ref wa, .ref wb, .ref su, .ref cu, .ref tr, .ref co, .ref lo, .ref pk]))] [.ref x, .int p0] "java/lang/IllegalArgumentException" [(x, .inr (7, [.ref wa, .ref wb, .ref su, .ref cu, .ref tr, .ref co, .ref lo, .ref pk]))] 1 6 := by
  refine zT_of (cc := cX7_sent) (maxL := 2) (rt := (some .int)) (by decide) rfl (Nat.le_of_ble_eq_true rfl) ?_
  intro p e s m below meth c A ls hx hb hml hr hts hown hlocks ht hA hE hP hD hS hl
  have hl : lv_has ls 2 [(0, .ref x), (1, .int p0)] := hl
  have hown : s.vm.findClass RX7 = some m.cls := hown
  have hP : va_P G.1 vwCl [(x, .inr (7, [.ref wa, .ref wb, .ref su, .ref cu, .ref tr, .ref co, .ref lo, .ref pk]))] s.heap := hP
  refine lv_iload_n hx hb dX7_sent_0 rfl (lv_at hl 1 rfl) ?_
  refine lv_iconst (v := 4) hx hb dX7_sent_1 (by decide) ?_
  refine zcallT (wr := [(x, .inr (7, [.ref wa, .ref wb, .ref su, .ref cu, .ref tr, .ref co, .ref lo, .ref pk]))]) (vx_runS (As := [.int p0, .int 4]) (rest := []) ⟨hx, hb, hml, hown, hts⟩ (z_X7_needWhatT4 l G p0 hl0 hv s.heap.size) (va_cwS 2 hts gX7_sent_X7_needWhat rfl rfl rfl (by decide +kernel) ⟨Nat.le_of_ble_eq_true rfl, Nat.le_of_ble_eq_true rfl⟩) (zPre (Wc := []) hP hD hE hS hA [] rfl (by decide)) rfl rfl hl.1 rfl (lv_room (Nat.le_of_ble_eq_true rfl)) dX7_sent_2 ⟨Nat.le_of_ble_eq_true rfl, Nat.le_of_ble_eq_true rfl⟩) hP hD hS hA [] [0] rfl rfl (by decide) (by decide) (fun ce q9 H locs hP hD hS hce hcv hcl => ?_)
  have hP : va_P G.1 vwCl [(x, .inr (7, [.ref wa, .ref wb, .ref su, .ref cu, .ref tr, .ref co, .ref lo, .ref pk]))] H := hP
  have hD : va_D A [(x, .inr (7, [.ref wa, .ref wb, .ref su, .ref cu, .ref tr, .ref co, .ref lo, .ref pk]))] := hD
  exact zout ht hlocks hP hD hS hce hcv hcl (Nat.le_of_ble_eq_true rfl) (Nat.le_of_ble_eq_true rfl)

set_option maxHeartbeats 4000000 in
set_option maxRecDepth 100000 in
theorem z_X7_kept (l : Launch) (G : zG) (x : Nat) (wa : Nat) (wb : Nat) (su : Nat) (cu : Nat) (tr : Nat) (co : Nat) (lo : Nat) (pk : Nat) (lr : Nat) (p0 : Int32) (p1 : Int32) (hl0 : l.stackTraces = false) : zT l G yX7_kept wsX7_kept { frames := 6, cells := 1, slots := 6, locals := 82 } [(x, .inr (7, [.ref wa, .ref wb, .ref su, .ref cu, .ref tr, .ref co, .ref lo, .ref pk])), (lo, .inr (2, [.ref lr, .int 0, .int 0, .int 0, .int 0, .int 0]))] [.ref x, .int p0, .int p1] "java/lang/IndexOutOfBoundsException" [(x, .inr (7, [.ref wa, .ref wb, .ref su, .ref cu, .ref tr, .ref co, .ref lo, .ref pk])), (lo, .inr (2, [.ref lr, .int 0, .int 0, .int 0, .int 0, .int 0]))] 1 6 := by
  refine zT_of (cc := cX7_kept) (maxL := 3) (rt := (some .int)) (by decide) rfl (Nat.le_of_ble_eq_true rfl) ?_
  intro p e s m below meth c A ls hx hb hml hr hts hown hlocks ht hA hE hP hD hS hl
  have hl : lv_has ls 3 [(0, .ref x), (1, .int p0), (2, .int p1)] := hl
  have hown : s.vm.findClass RX7 = some m.cls := hown
  have hP : va_P G.1 vwCl [(x, .inr (7, [.ref wa, .ref wb, .ref su, .ref cu, .ref tr, .ref co, .ref lo, .ref pk])), (lo, .inr (2, [.ref lr, .int 0, .int 0, .int 0, .int 0, .int 0]))] s.heap := hP
  have hcl90 := hts (.classLink RX7 90 "java/lang/IndexOutOfBoundsException") (by decide +kernel)
  have hiniIndexOutOfBoundsException := hts (.initialized "java/lang/IndexOutOfBoundsException") (by decide +kernel)
  have hw7 : ∀ w ∈ u_ws RX7 TX7 8, w ∈ wsX7_kept := by decide +kernel
  have hf58 := hts (.fieldLink RX7 58 "Nettle" "log" "LNettle$Log;") (by decide +kernel)
  have hw2 : ∀ w ∈ u_ws RX2 TX2 6, w ∈ wsX7_kept := by decide +kernel
  have hf264 := hts (.fieldLink RX7 264 "Nettle$Log" "size" "I") (by decide +kernel)
  by_cases h1 : p0 < 0
  · refine lv_iload_n hx hb dX7_kept_0 rfl (lv_at hl 1 rfl) ?_
    refine lv_if_lt (tgt := 15) hx hb dX7_kept_1 (by decide) (fun _ => ?_) (fun h9 => absurd h1 h9)
    exact zthrowW (ik := 90) (ic := 94) hx hb hl0 hown (by decide +kernel) hcl90 hiniIndexOutOfBoundsException (fun w h => hts w (List.mem_cons_of_mem _ (List.mem_append_left _ (List.mem_append_right _ h)))) (by decide +kernel) (va_Nw.use rfl hE.2.2.2.2.2.2.2.2.2.1) (by decide +kernel) (hE.2.2.2.2.2.1 (270, "no such place") (by simp)) hE hP hD hS (hl.1.trans hml.symm) dX7_kept_15 dX7_kept_18 dX7_kept_19 dX7_kept_22 dX7_kept_25 ht (Nat.le_of_ble_eq_true rfl) (Nat.le_of_ble_eq_true rfl) (Nat.le_of_ble_eq_true rfl) (Nat.le_of_ble_eq_true rfl) hlocks (Nat.le_of_ble_eq_true rfl) (Nat.le_of_ble_eq_true rfl)
  · refine lv_iload_n hx hb dX7_kept_0 rfl (lv_at hl 1 rfl) ?_
    refine lv_if_lt (tgt := 15) hx hb dX7_kept_1 (by decide) (fun h9 => absurd h9 h1) (fun _ => ?_)
    refine lv_iload_n hx hb dX7_kept_4 rfl (lv_at hl 1 rfl) ?_
    refine lv_aload_n hx hb dX7_kept_5 rfl (lv_at hl 0 rfl) ?_
    refine va_get (D := G.1) (ci := 7) (v := .ref lo) (C := RX7) (T := TX7) (N := 8) hx hb hts hw7 hown hE.1 hP 0 rfl rfl 6 (by decide) hf58 (fun _ h9 => h9) rfl dX7_kept_6 ?_
    refine va_get (D := G.1) (ci := 2) (v := .int 0) (C := RX2) (T := TX2) (N := 6) hx hb hts hw2 hown hE.1 hP 1 rfl rfl 1 (by decide) hf264 (fun _ h9 => h9) rfl dX7_kept_9 ?_
    refine lv_icmp_lt (tgt := 26) hx hb dX7_kept_12 (by decide) (fun h9 => absurd h9 h1) (fun _ => ?_)
    exact zthrowW (ik := 90) (ic := 94) hx hb hl0 hown (by decide +kernel) hcl90 hiniIndexOutOfBoundsException (fun w h => hts w (List.mem_cons_of_mem _ (List.mem_append_left _ (List.mem_append_right _ h)))) (by decide +kernel) (va_Nw.use rfl hE.2.2.2.2.2.2.2.2.2.1) (by decide +kernel) (hE.2.2.2.2.2.1 (270, "no such place") (by simp)) hE hP hD hS (hl.1.trans hml.symm) dX7_kept_15 dX7_kept_18 dX7_kept_19 dX7_kept_22 dX7_kept_25 ht (Nat.le_of_ble_eq_true rfl) (Nat.le_of_ble_eq_true rfl) (Nat.le_of_ble_eq_true rfl) (Nat.le_of_ble_eq_true rfl) hlocks (Nat.le_of_ble_eq_true rfl) (Nat.le_of_ble_eq_true rfl)

set_option maxHeartbeats 4000000 in
set_option maxRecDepth 100000 in
theorem z_X7_forget (l : Launch) (G : zG) (x : Nat) (wa : Nat) (wb : Nat) (su : Nat) (cu : Nat) (tr : Nat) (co : Nat) (lo : Nat) (pk : Nat) (lr : Nat) : zR l G yX7_forget wsX7_forget { frames := 0, cells := 0, slots := 0, locals := 0 } [(x, .inr (7, [.ref wa, .ref wb, .ref su, .ref cu, .ref tr, .ref co, .ref lo, .ref pk])), (lo, .inr (2, [.ref lr, .int 0, .int 0, .int 0, .int 0, .int 0]))] [.ref x] (some (.int 0)) (fun u => [(x, .inr (7, [.ref wa, .ref wb, .ref su, .ref cu, .ref tr, .ref co, .ref lo, .ref pk])), (lo, .inr (2, [.ref lr, .int 0, .int 0, .int 0, .int 0, .int 0]))]) 0 0 := by
  refine zR_of (cc := cX7_forget) (maxL := 2) (rt := (some .int)) (by decide) rfl (Nat.le_of_ble_eq_true rfl) ?_
  intro p e s m below meth c A ls hx hb hml hr hts hown hlocks hin hA hE hP hD hS hl
  have hl : lv_has ls 2 [(0, .ref x)] := hl
  have hown : s.vm.findClass RX7 = some m.cls := hown
  have hP : va_P G.1 vwCl [(x, .inr (7, [.ref wa, .ref wb, .ref su, .ref cu, .ref tr, .ref co, .ref lo, .ref pk])), (lo, .inr (2, [.ref lr, .int 0, .int 0, .int 0, .int 0, .int 0]))] s.heap := hP
  have hw7 : ∀ w ∈ u_ws RX7 TX7 8, w ∈ wsX7_forget := by decide +kernel
  have hf58 := hts (.fieldLink RX7 58 "Nettle" "log" "LNettle$Log;") (by decide +kernel)
  have hw2 : ∀ w ∈ u_ws RX2 TX2 6, w ∈ wsX7_forget := by decide +kernel
  have hf264 := hts (.fieldLink RX7 264 "Nettle$Log" "size" "I") (by decide +kernel)
  refine lv_aload_n hx hb dX7_forget_0 rfl (lv_at hl 0 rfl) ?_
  refine va_get (D := G.1) (ci := 7) (v := .ref lo) (C := RX7) (T := TX7) (N := 8) hx hb hts hw7 hown hE.1 hP 0 rfl rfl 6 (by decide) hf58 (fun _ h9 => h9) rfl dX7_forget_1 ?_
  refine va_get (D := G.1) (ci := 2) (v := .int 0) (C := RX2) (T := TX2) (N := 6) hx hb hts hw2 hown hE.1 hP 1 rfl rfl 1 (by decide) hf264 (fun _ h9 => h9) rfl dX7_forget_4 ?_
  refine lv_istore_n (lv' := [(1, .int 0), (0, .ref x)]) hx hb dX7_forget_7 rfl hl (by decide) rfl (fun ls hl => ?_)
  refine lv_aload_n hx hb dX7_forget_8 rfl (lv_at hl 1 rfl) ?_
  refine va_get (D := G.1) (ci := 7) (v := .ref lo) (C := RX7) (T := TX7) (N := 8) hx hb hts hw7 hown hE.1 hP 0 rfl rfl 6 (by decide) hf58 (fun _ h9 => h9) rfl dX7_forget_9 ?_
  refine lv_iconst (v := 0) hx hb dX7_forget_12 (by decide) ?_
  refine va_put (D := G.1) (ci := 2) (v := .int 0) (ty := tyX2 1) (C := RX2) (T := TX2) (N := 6) hx hb hts hw2 tyX2 tyX2_ok nmX2 hown hE.1 hP hD hS 1 rfl rfl 1 (by decide) hf264 (fun _ h9 => h9) rfl (by decide +kernel) rfl rfl (Nat.le_of_ble_eq_true rfl) dX7_forget_13 (fun H locs hP hD hS => ?_)
  have hP : va_P G.1 vwCl [(x, .inr (7, [.ref wa, .ref wb, .ref su, .ref cu, .ref tr, .ref co, .ref lo, .ref pk])), (lo, .inr (2, [.ref lr, .int 0, .int 0, .int 0, .int 0, .int 0]))] H := hP
  have hD : va_D A [(x, .inr (7, [.ref wa, .ref wb, .ref su, .ref cu, .ref tr, .ref co, .ref lo, .ref pk])), (lo, .inr (2, [.ref lr, .int 0, .int 0, .int 0, .int 0, .int 0]))] := hD
  refine lv_iload_n hx hb dX7_forget_16 rfl (lv_at hl 0 rfl) ?_
  exact zend_i hx hb hr hlocks (fun k => [].getD k 0) hP hD hS (Nat.le_of_ble_eq_true rfl) (Nat.le_of_ble_eq_true rfl) dX7_forget_17

set_option maxHeartbeats 4000000 in
set_option maxRecDepth 100000 in
theorem z_X7_copy (l : Launch) (G : zG) (x : Nat) (wa : Nat) (wb : Nat) (su : Nat) (cu : Nat) (tr : Nat) (co : Nat) (lo : Nat) (pk : Nat) (ro : Nat) (rb : Nat) (sl : Nat) (sh : Nat) (sa : Nat) (cc : Nat) (cs : Nat) (cm : Nat) (tn : Nat) (tc : Nat) (ts : Nat) (cf : Nat) (cp : Nat) (f1 : Int32) (f2 : Int32) (f3 : Int32) (f4 : Int32) : zR l G yX7_copy wsX7_copy { frames := 1, cells := 0, slots := 0, locals := 22 } [(x, .inr (7, [.ref wa, .ref wb, .ref su, .ref cu, .ref tr, .ref co, .ref lo, .ref pk])), (wa, .inr (6, [.ref ro, .int 0, .int 0])), (wb, .inr (6, [.ref rb, .int 0, .int 0])), (su, .inr (4, [.ref wa, .ref sl, .ref sh, .ref sa, .int f1])), (cu, .inr (1, [.ref wa, .ref wb, .ref cc, .ref cs, .ref cm, .int f2])), (tr, .inr (5, [.ref wa, .ref cu, .ref tn, .ref tc, .ref ts, .int 0, .int f3])), (co, .inr (0, [.ref wa, .ref wb, .ref cu, .ref cf, .ref cp, .int 0, .int f4]))] [.ref x] (some (.int 0)) (fun u => [(wa, .inr (6, [.ref ro, .int 0, .int 0])), (wb, .inr (6, [.ref rb, .int 0, .int 0])), (x, .inr (7, [.ref wa, .ref wb, .ref su, .ref cu, .ref tr, .ref co, .ref lo, .ref pk])), (su, .inr (4, [.ref wa, .ref sl, .ref sh, .ref sa, .int 0])), (cu, .inr (1, [.ref wa, .ref wb, .ref cc, .ref cs, .ref cm, .int 0])), (tr, .inr (5, [.ref wa, .ref cu, .ref tn, .ref tc, .ref ts, .int 0, .int 0])), (co, .inr (0, [.ref wa, .ref wb, .ref cu, .ref cf, .ref cp, .int 0, .int 0]))]) 0 0 := by
  refine zR_of (cc := cX7_copy) (maxL := 1) (rt := (some .int)) (by decide) rfl (Nat.le_of_ble_eq_true rfl) ?_
  intro p e s m below meth c A ls hx hb hml hr hts hown hlocks hin hA hE hP hD hS hl
  have hl : lv_has ls 1 [(0, .ref x)] := hl
  have hown : s.vm.findClass RX7 = some m.cls := hown
  have hP : va_P G.1 vwCl [(x, .inr (7, [.ref wa, .ref wb, .ref su, .ref cu, .ref tr, .ref co, .ref lo, .ref pk])), (wa, .inr (6, [.ref ro, .int 0, .int 0])), (wb, .inr (6, [.ref rb, .int 0, .int 0])), (su, .inr (4, [.ref wa, .ref sl, .ref sh, .ref sa, .int f1])), (cu, .inr (1, [.ref wa, .ref wb, .ref cc, .ref cs, .ref cm, .int f2])), (tr, .inr (5, [.ref wa, .ref cu, .ref tn, .ref tc, .ref ts, .int 0, .int f3])), (co, .inr (0, [.ref wa, .ref wb, .ref cu, .ref cf, .ref cp, .int 0, .int f4]))] s.heap := hP
  have hw7 : ∀ w ∈ u_ws RX7 TX7 8, w ∈ wsX7_copy := by decide +kernel
  have hf16 := hts (.fieldLink RX7 16 "Nettle" "copied" "LNettle$Wall;") (by decide +kernel)
  have hf10 := hts (.fieldLink RX7 10 "Nettle" "wall" "LNettle$Wall;") (by decide +kernel)
  have hw6 : ∀ w ∈ u_ws RX6 TX6 3, w ∈ wsX7_copy := by decide +kernel
  have hf70 := hts (.fieldLink RX7 70 "Nettle$Wall" "count" "I") (by decide +kernel)
  refine lv_aload_n hx hb dX7_copy_0 rfl (lv_at hl 0 rfl) ?_
  refine va_get (D := G.1) (ci := 7) (v := .ref wb) (C := RX7) (T := TX7) (N := 8) hx hb hts hw7 hown hE.1 hP 0 rfl rfl 1 (by decide) hf16 (fun _ h9 => h9) rfl dX7_copy_1 ?_
  refine lv_aload_n hx hb dX7_copy_4 rfl (lv_at hl 0 rfl) ?_
  refine va_get (D := G.1) (ci := 7) (v := .ref wa) (C := RX7) (T := TX7) (N := 8) hx hb hts hw7 hown hE.1 hP 0 rfl rfl 0 (by decide) hf10 (fun _ h9 => h9) rfl dX7_copy_5 ?_
  refine zcall (wr := [(x, .inr (7, [.ref wa, .ref wb, .ref su, .ref cu, .ref tr, .ref co, .ref lo, .ref pk])), (su, .inr (4, [.ref wa, .ref sl, .ref sh, .ref sa, .int f1])), (cu, .inr (1, [.ref wa, .ref wb, .ref cc, .ref cs, .ref cm, .int f2])), (tr, .inr (5, [.ref wa, .ref cu, .ref tn, .ref tc, .ref ts, .int 0, .int f3])), (co, .inr (0, [.ref wa, .ref wb, .ref cu, .ref cf, .ref cp, .int 0, .int f4]))]) (va_runV (As := [.ref wa]) (rest := []) ⟨hx, hb, hml, hown, hts⟩ (z_X6_takeFrom l G wa wb ro rb s.heap.size) (cwV 1 hts gX7_copy_X6_takeFrom rfl rfl rfl (by decide +kernel) ⟨Nat.le_of_ble_eq_true rfl, Nat.le_of_ble_eq_true rfl⟩) (zPreV (Wc := [(wa, .inr (6, [.ref ro, .int 0, .int 0])), (wb, .inr (6, [.ref rb, .int 0, .int 0]))]) (q0 := 2) (ci := 6) (q := (RX6, TX6, 3)) hP hD hE hS hA [1, 2] rfl (by decide) rfl rfl) rfl rfl hl.1 rfl (lv_room (Nat.le_of_ble_eq_true rfl)) dX7_copy_8 ⟨Nat.le_of_ble_eq_true rfl, Nat.le_of_ble_eq_true rfl⟩) hP hD hS hA [1, 2] [0, 3, 4, 5, 6] rfl rfl (by decide) (by decide) (fun u1 H locs hP hD hS => ?_)
  have hP : va_P G.1 vwCl [(x, .inr (7, [.ref wa, .ref wb, .ref su, .ref cu, .ref tr, .ref co, .ref lo, .ref pk])), (su, .inr (4, [.ref wa, .ref sl, .ref sh, .ref sa, .int f1])), (cu, .inr (1, [.ref wa, .ref wb, .ref cc, .ref cs, .ref cm, .int f2])), (tr, .inr (5, [.ref wa, .ref cu, .ref tn, .ref tc, .ref ts, .int 0, .int f3])), (co, .inr (0, [.ref wa, .ref wb, .ref cu, .ref cf, .ref cp, .int 0, .int f4])), (wa, .inr (6, [.ref ro, .int 0, .int 0])), (wb, .inr (6, [.ref rb, .int 0, .int 0]))] H := hP
  have hD : va_D A [(x, .inr (7, [.ref wa, .ref wb, .ref su, .ref cu, .ref tr, .ref co, .ref lo, .ref pk])), (su, .inr (4, [.ref wa, .ref sl, .ref sh, .ref sa, .int f1])), (cu, .inr (1, [.ref wa, .ref wb, .ref cc, .ref cs, .ref cm, .int f2])), (tr, .inr (5, [.ref wa, .ref cu, .ref tn, .ref tc, .ref ts, .int 0, .int f3])), (co, .inr (0, [.ref wa, .ref wb, .ref cu, .ref cf, .ref cp, .int 0, .int f4])), (wa, .inr (6, [.ref ro, .int 0, .int 0])), (wb, .inr (6, [.ref rb, .int 0, .int 0]))] := hD
  refine W.eq (g2 := F0 m 11 ls []) rfl ?_
  refine lv_aload_n hx hb dX7_copy_11 rfl (lv_at hl 0 rfl) ?_
  refine zcall (wr := [(wa, .inr (6, [.ref ro, .int 0, .int 0])), (wb, .inr (6, [.ref rb, .int 0, .int 0]))]) (va_runV (As := []) (rest := []) ⟨hx, hb, hml, hown, hts⟩ (z_X7_outdate l G x wa wb su cu tr co lo pk sl sh sa cc cs cm tn tc ts cf cp f1 f2 f3 f4 H.size) (cwV 0 hts gX7_copy_X7_outdate rfl rfl rfl (by decide +kernel) ⟨Nat.le_of_ble_eq_true rfl, Nat.le_of_ble_eq_true rfl⟩) (zPreV (Wc := [(x, .inr (7, [.ref wa, .ref wb, .ref su, .ref cu, .ref tr, .ref co, .ref lo, .ref pk])), (su, .inr (4, [.ref wa, .ref sl, .ref sh, .ref sa, .int f1])), (cu, .inr (1, [.ref wa, .ref wb, .ref cc, .ref cs, .ref cm, .int f2])), (tr, .inr (5, [.ref wa, .ref cu, .ref tn, .ref tc, .ref ts, .int 0, .int f3])), (co, .inr (0, [.ref wa, .ref wb, .ref cu, .ref cf, .ref cp, .int 0, .int f4]))]) (q0 := 0) (ci := 7) (q := (RX7, TX7, 8)) hP hD hE hS hA [0, 1, 2, 3, 4] rfl (by decide) rfl rfl) rfl rfl hl.1 rfl (lv_room (Nat.le_of_ble_eq_true rfl)) dX7_copy_12 ⟨Nat.le_of_ble_eq_true rfl, Nat.le_of_ble_eq_true rfl⟩) hP hD hS hA [0, 1, 2, 3, 4] [5, 6] rfl rfl (by decide) (by decide) (fun u2 H locs hP hD hS => ?_)
  have hP : va_P G.1 vwCl [(wa, .inr (6, [.ref ro, .int 0, .int 0])), (wb, .inr (6, [.ref rb, .int 0, .int 0])), (x, .inr (7, [.ref wa, .ref wb, .ref su, .ref cu, .ref tr, .ref co, .ref lo, .ref pk])), (su, .inr (4, [.ref wa, .ref sl, .ref sh, .ref sa, .int 0])), (cu, .inr (1, [.ref wa, .ref wb, .ref cc, .ref cs, .ref cm, .int 0])), (tr, .inr (5, [.ref wa, .ref cu, .ref tn, .ref tc, .ref ts, .int 0, .int 0])), (co, .inr (0, [.ref wa, .ref wb, .ref cu, .ref cf, .ref cp, .int 0, .int 0]))] H := hP
  have hD : va_D A [(wa, .inr (6, [.ref ro, .int 0, .int 0])), (wb, .inr (6, [.ref rb, .int 0, .int 0])), (x, .inr (7, [.ref wa, .ref wb, .ref su, .ref cu, .ref tr, .ref co, .ref lo, .ref pk])), (su, .inr (4, [.ref wa, .ref sl, .ref sh, .ref sa, .int 0])), (cu, .inr (1, [.ref wa, .ref wb, .ref cc, .ref cs, .ref cm, .int 0])), (tr, .inr (5, [.ref wa, .ref cu, .ref tn, .ref tc, .ref ts, .int 0, .int 0])), (co, .inr (0, [.ref wa, .ref wb, .ref cu, .ref cf, .ref cp, .int 0, .int 0]))] := hD
  refine W.eq (g2 := F0 m 15 ls []) rfl ?_
  refine lv_aload_n hx hb dX7_copy_15 rfl (lv_at hl 0 rfl) ?_
  refine va_get (D := G.1) (ci := 7) (v := .ref wb) (C := RX7) (T := TX7) (N := 8) hx hb hts hw7 hown hE.1 hP 2 rfl rfl 1 (by decide) hf16 (fun _ h9 => h9) rfl dX7_copy_16 ?_
  refine va_get (D := G.1) (ci := 6) (v := .int 0) (C := RX6) (T := TX6) (N := 3) hx hb hts hw6 hown hE.1 hP 1 rfl rfl 1 (by decide) hf70 (fun _ h9 => h9) rfl dX7_copy_19 ?_
  exact zend_i hx hb hr hlocks (fun k => [].getD k 0) hP hD hS (Nat.le_of_ble_eq_true rfl) (Nat.le_of_ble_eq_true rfl) dX7_copy_22

set_option maxHeartbeats 4000000 in
set_option maxRecDepth 100000 in
theorem z_X7_changed0 (l : Launch) (G : zG) (x : Nat) (wa : Nat) (wb : Nat) (su : Nat) (cu : Nat) (tr : Nat) (co : Nat) (lo : Nat) (pk : Nat) (ro : Nat) (rb : Nat) (cc : Nat) (cs : Nat) (cm : Nat) (fc : Nat → Int32) (fs : Nat → Int32) (fm : Nat → Int32) (cf : Nat) (cp : Nat) (ff : Nat → Int32) : zR l G yX7_changed wsX7_changed { frames := 6, cells := 0, slots := 0, locals := 136 } [(x, .inr (7, [.ref wa, .ref wb, .ref su, .ref cu, .ref tr, .ref co, .ref lo, .ref pk])), (cu, .inr (1, [.ref wa, .ref wb, .ref cc, .ref cs, .ref cm, .int 0])), (wa, .inr (6, [.ref ro, .int 0, .int 0])), (wb, .inr (6, [.ref rb, .int 0, .int 0])), (cc, .inl (G.2.1, 4, .inl (fc))), (cs, .inl (G.2.1, 132, .inl (fs))), (cm, .inl (G.2.1, 132, .inl (fm))), (co, .inr (0, [.ref wa, .ref wb, .ref cu, .ref cf, .ref cp, .int 0, .int 0])), (cf, .inl (G.2.1, 4, .inl (ff)))] [.ref x] (some (.int 0)) (fun u => [(x, .inr (7, [.ref wa, .ref wb, .ref su, .ref cu, .ref tr, .ref co, .ref lo, .ref pk])), (cu, .inr (1, [.ref wa, .ref wb, .ref cc, .ref cs, .ref cm, .int 1])), (cc, .inl (G.2.1, 4, .inl (upd (upd (upd (upd fc 0 1) 1 1) 2 1) 3 1))), (cs, .inl (G.2.1, 132, .inl (upd (upd (upd (upd fs 0 0) 33 0) 66 0) 99 0))), (cm, .inl (G.2.1, 132, .inl (upd (upd (upd (upd fm 0 0) 33 0) 66 0) 99 0))), (cf, .inl (G.2.1, 4, .inl (upd (upd (upd (upd ff 0 (-1)) 1 (-1)) 2 (-1)) 3 (-1)))), (co, .inr (0, [.ref wa, .ref wb, .ref cu, .ref cf, .ref cp, .int 0, .int 1])), (wa, .inr (6, [.ref ro, .int 0, .int 0])), (wb, .inr (6, [.ref rb, .int 0, .int 0]))]) 0 0 := by
  refine zR_of (cc := cX7_changed) (maxL := 1) (rt := (some .int)) (by decide) rfl (Nat.le_of_ble_eq_true rfl) ?_
  intro p e s m below meth c A ls hx hb hml hr hts hown hlocks hin hA hE hP hD hS hl
  have hl : lv_has ls 1 [(0, .ref x)] := hl
  have hown : s.vm.findClass RX7 = some m.cls := hown
  have hP : va_P G.1 vwCl [(x, .inr (7, [.ref wa, .ref wb, .ref su, .ref cu, .ref tr, .ref co, .ref lo, .ref pk])), (cu, .inr (1, [.ref wa, .ref wb, .ref cc, .ref cs, .ref cm, .int 0])), (wa, .inr (6, [.ref ro, .int 0, .int 0])), (wb, .inr (6, [.ref rb, .int 0, .int 0])), (cc, .inl (G.2.1, 4, .inl (fc))), (cs, .inl (G.2.1, 132, .inl (fs))), (cm, .inl (G.2.1, 132, .inl (fm))), (co, .inr (0, [.ref wa, .ref wb, .ref cu, .ref cf, .ref cp, .int 0, .int 0])), (cf, .inl (G.2.1, 4, .inl (ff)))] s.heap := hP
  have hw0 : ∀ w ∈ u_ws RX0 TX0 7, w ∈ wsX7_changed := by decide +kernel
  have hf283 := hts (.fieldLink RX7 283 "Nettle$Comparison" "amount" "I") (by decide +kernel)
  refine lv_aload_n hx hb dX7_changed_0 rfl (lv_at hl 0 rfl) ?_
  refine zcall (wr := []) (va_runV (As := []) (rest := []) ⟨hx, hb, hml, hown, hts⟩ (z_X7_compared0 l G x wa wb su cu tr co lo pk ro rb cc cs cm (fc) (fs) (fm) cf cp (ff) s.heap.size) (cwV 0 hts gX7_changed_X7_compared rfl rfl rfl (by decide +kernel) ⟨Nat.le_of_ble_eq_true rfl, Nat.le_of_ble_eq_true rfl⟩) (zPreV (Wc := [(x, .inr (7, [.ref wa, .ref wb, .ref su, .ref cu, .ref tr, .ref co, .ref lo, .ref pk])), (cu, .inr (1, [.ref wa, .ref wb, .ref cc, .ref cs, .ref cm, .int 0])), (wa, .inr (6, [.ref ro, .int 0, .int 0])), (wb, .inr (6, [.ref rb, .int 0, .int 0])), (cc, .inl (G.2.1, 4, .inl (fc))), (cs, .inl (G.2.1, 132, .inl (fs))), (cm, .inl (G.2.1, 132, .inl (fm))), (co, .inr (0, [.ref wa, .ref wb, .ref cu, .ref cf, .ref cp, .int 0, .int 0])), (cf, .inl (G.2.1, 4, .inl (ff)))]) (q0 := 0) (ci := 7) (q := (RX7, TX7, 8)) hP hD hE hS hA [0, 1, 2, 3, 4, 5, 6, 7, 8] rfl (by decide) rfl rfl) rfl rfl hl.1 rfl (lv_room (Nat.le_of_ble_eq_true rfl)) dX7_changed_1 ⟨Nat.le_of_ble_eq_true rfl, Nat.le_of_ble_eq_true rfl⟩) hP hD hS hA [0, 1, 2, 3, 4, 5, 6, 7, 8] [] rfl rfl (by decide) (by decide) (fun u1 H locs hP hD hS => ?_)
  have hP : va_P G.1 vwCl [(x, .inr (7, [.ref wa, .ref wb, .ref su, .ref cu, .ref tr, .ref co, .ref lo, .ref pk])), (cu, .inr (1, [.ref wa, .ref wb, .ref cc, .ref cs, .ref cm, .int 1])), (cc, .inl (G.2.1, 4, .inl (upd (upd (upd (upd fc 0 1) 1 1) 2 1) 3 1))), (cs, .inl (G.2.1, 132, .inl (upd (upd (upd (upd fs 0 0) 33 0) 66 0) 99 0))), (cm, .inl (G.2.1, 132, .inl (upd (upd (upd (upd fm 0 0) 33 0) 66 0) 99 0))), (cf, .inl (G.2.1, 4, .inl (upd (upd (upd (upd ff 0 (-1)) 1 (-1)) 2 (-1)) 3 (-1)))), (co, .inr (0, [.ref wa, .ref wb, .ref cu, .ref cf, .ref cp, .int 0, .int 1])), (wa, .inr (6, [.ref ro, .int 0, .int 0])), (wb, .inr (6, [.ref rb, .int 0, .int 0]))] H := hP
  have hD : va_D A [(x, .inr (7, [.ref wa, .ref wb, .ref su, .ref cu, .ref tr, .ref co, .ref lo, .ref pk])), (cu, .inr (1, [.ref wa, .ref wb, .ref cc, .ref cs, .ref cm, .int 1])), (cc, .inl (G.2.1, 4, .inl (upd (upd (upd (upd fc 0 1) 1 1) 2 1) 3 1))), (cs, .inl (G.2.1, 132, .inl (upd (upd (upd (upd fs 0 0) 33 0) 66 0) 99 0))), (cm, .inl (G.2.1, 132, .inl (upd (upd (upd (upd fm 0 0) 33 0) 66 0) 99 0))), (cf, .inl (G.2.1, 4, .inl (upd (upd (upd (upd ff 0 (-1)) 1 (-1)) 2 (-1)) 3 (-1)))), (co, .inr (0, [.ref wa, .ref wb, .ref cu, .ref cf, .ref cp, .int 0, .int 1])), (wa, .inr (6, [.ref ro, .int 0, .int 0])), (wb, .inr (6, [.ref rb, .int 0, .int 0]))] := hD
  refine W.eq (g2 := F0 m 4 ls [.ref co]) rfl ?_
  refine va_get (D := G.1) (ci := 0) (v := .int 0) (C := RX0) (T := TX0) (N := 7) hx hb hts hw0 hown hE.1 hP 6 rfl rfl 5 (by decide) hf283 (fun _ h9 => h9) rfl dX7_changed_4 ?_
  exact zend_i hx hb hr hlocks (fun k => [].getD k 0) hP hD hS (Nat.le_of_ble_eq_true rfl) (Nat.le_of_ble_eq_true rfl) dX7_changed_7

set_option maxHeartbeats 4000000 in
set_option maxRecDepth 100000 in
theorem z_X7_changed01 (l : Launch) (G : zG) (x : Nat) (wa : Nat) (wb : Nat) (su : Nat) (cu : Nat) (tr : Nat) (co : Nat) (lo : Nat) (pk : Nat) (ro : Nat) (rb : Nat) (cc : Nat) (cs : Nat) (cm : Nat) (cf : Nat) (cp : Nat) (ff : Nat → Int32) : zR l G yX7_changed wsX7_changed { frames := 6, cells := 0, slots := 0, locals := 136 } [(x, .inr (7, [.ref wa, .ref wb, .ref su, .ref cu, .ref tr, .ref co, .ref lo, .ref pk])), (cu, .inr (1, [.ref wa, .ref wb, .ref cc, .ref cs, .ref cm, .int 1])), (wa, .inr (6, [.ref ro, .int 0, .int 0])), (wb, .inr (6, [.ref rb, .int 0, .int 0])), (co, .inr (0, [.ref wa, .ref wb, .ref cu, .ref cf, .ref cp, .int 0, .int 0])), (cf, .inl (G.2.1, 4, .inl (ff)))] [.ref x] (some (.int 0)) (fun u => [(x, .inr (7, [.ref wa, .ref wb, .ref su, .ref cu, .ref tr, .ref co, .ref lo, .ref pk])), (cu, .inr (1, [.ref wa, .ref wb, .ref cc, .ref cs, .ref cm, .int 1])), (cf, .inl (G.2.1, 4, .inl (upd (upd (upd (upd ff 0 (-1)) 1 (-1)) 2 (-1)) 3 (-1)))), (co, .inr (0, [.ref wa, .ref wb, .ref cu, .ref cf, .ref cp, .int 0, .int 1])), (wa, .inr (6, [.ref ro, .int 0, .int 0])), (wb, .inr (6, [.ref rb, .int 0, .int 0]))]) 0 0 := by
  refine zR_of (cc := cX7_changed) (maxL := 1) (rt := (some .int)) (by decide) rfl (Nat.le_of_ble_eq_true rfl) ?_
  intro p e s m below meth c A ls hx hb hml hr hts hown hlocks hin hA hE hP hD hS hl
  have hl : lv_has ls 1 [(0, .ref x)] := hl
  have hown : s.vm.findClass RX7 = some m.cls := hown
  have hP : va_P G.1 vwCl [(x, .inr (7, [.ref wa, .ref wb, .ref su, .ref cu, .ref tr, .ref co, .ref lo, .ref pk])), (cu, .inr (1, [.ref wa, .ref wb, .ref cc, .ref cs, .ref cm, .int 1])), (wa, .inr (6, [.ref ro, .int 0, .int 0])), (wb, .inr (6, [.ref rb, .int 0, .int 0])), (co, .inr (0, [.ref wa, .ref wb, .ref cu, .ref cf, .ref cp, .int 0, .int 0])), (cf, .inl (G.2.1, 4, .inl (ff)))] s.heap := hP
  have hw0 : ∀ w ∈ u_ws RX0 TX0 7, w ∈ wsX7_changed := by decide +kernel
  have hf283 := hts (.fieldLink RX7 283 "Nettle$Comparison" "amount" "I") (by decide +kernel)
  refine lv_aload_n hx hb dX7_changed_0 rfl (lv_at hl 0 rfl) ?_
  refine zcall (wr := []) (va_runV (As := []) (rest := []) ⟨hx, hb, hml, hown, hts⟩ (z_X7_compared01 l G x wa wb su cu tr co lo pk ro rb cc cs cm cf cp (ff) s.heap.size) (cwV 0 hts gX7_changed_X7_compared rfl rfl rfl (by decide +kernel) ⟨Nat.le_of_ble_eq_true rfl, Nat.le_of_ble_eq_true rfl⟩) (zPreV (Wc := [(x, .inr (7, [.ref wa, .ref wb, .ref su, .ref cu, .ref tr, .ref co, .ref lo, .ref pk])), (cu, .inr (1, [.ref wa, .ref wb, .ref cc, .ref cs, .ref cm, .int 1])), (wa, .inr (6, [.ref ro, .int 0, .int 0])), (wb, .inr (6, [.ref rb, .int 0, .int 0])), (co, .inr (0, [.ref wa, .ref wb, .ref cu, .ref cf, .ref cp, .int 0, .int 0])), (cf, .inl (G.2.1, 4, .inl (ff)))]) (q0 := 0) (ci := 7) (q := (RX7, TX7, 8)) hP hD hE hS hA [0, 1, 2, 3, 4, 5] rfl (by decide) rfl rfl) rfl rfl hl.1 rfl (lv_room (Nat.le_of_ble_eq_true rfl)) dX7_changed_1 ⟨Nat.le_of_ble_eq_true rfl, Nat.le_of_ble_eq_true rfl⟩) hP hD hS hA [0, 1, 2, 3, 4, 5] [] rfl rfl (by decide) (by decide) (fun u1 H locs hP hD hS => ?_)
  have hP : va_P G.1 vwCl [(x, .inr (7, [.ref wa, .ref wb, .ref su, .ref cu, .ref tr, .ref co, .ref lo, .ref pk])), (cu, .inr (1, [.ref wa, .ref wb, .ref cc, .ref cs, .ref cm, .int 1])), (cf, .inl (G.2.1, 4, .inl (upd (upd (upd (upd ff 0 (-1)) 1 (-1)) 2 (-1)) 3 (-1)))), (co, .inr (0, [.ref wa, .ref wb, .ref cu, .ref cf, .ref cp, .int 0, .int 1])), (wa, .inr (6, [.ref ro, .int 0, .int 0])), (wb, .inr (6, [.ref rb, .int 0, .int 0]))] H := hP
  have hD : va_D A [(x, .inr (7, [.ref wa, .ref wb, .ref su, .ref cu, .ref tr, .ref co, .ref lo, .ref pk])), (cu, .inr (1, [.ref wa, .ref wb, .ref cc, .ref cs, .ref cm, .int 1])), (cf, .inl (G.2.1, 4, .inl (upd (upd (upd (upd ff 0 (-1)) 1 (-1)) 2 (-1)) 3 (-1)))), (co, .inr (0, [.ref wa, .ref wb, .ref cu, .ref cf, .ref cp, .int 0, .int 1])), (wa, .inr (6, [.ref ro, .int 0, .int 0])), (wb, .inr (6, [.ref rb, .int 0, .int 0]))] := hD
  refine W.eq (g2 := F0 m 4 ls [.ref co]) rfl ?_
  refine va_get (D := G.1) (ci := 0) (v := .int 0) (C := RX0) (T := TX0) (N := 7) hx hb hts hw0 hown hE.1 hP 3 rfl rfl 5 (by decide) hf283 (fun _ h9 => h9) rfl dX7_changed_4 ?_
  exact zend_i hx hb hr hlocks (fun k => [].getD k 0) hP hD hS (Nat.le_of_ble_eq_true rfl) (Nat.le_of_ble_eq_true rfl) dX7_changed_7

set_option maxHeartbeats 4000000 in
set_option maxRecDepth 100000 in
theorem z_X7_witness00 (l : Launch) (G : zG) (x : Nat) (wa : Nat) (wb : Nat) (su : Nat) (cu : Nat) (tr : Nat) (co : Nat) (lo : Nat) (pk : Nat) (ro : Nat) (rb : Nat) (cc : Nat) (cs : Nat) (cm : Nat) (fc : Nat → Int32) (fs : Nat → Int32) (fm : Nat → Int32) (cf : Nat) (cp : Nat) (ff : Nat → Int32) : zR l G yX7_witness wsX7_witness { frames := 6, cells := 0, slots := 0, locals := 136 } [(x, .inr (7, [.ref wa, .ref wb, .ref su, .ref cu, .ref tr, .ref co, .ref lo, .ref pk])), (cu, .inr (1, [.ref wa, .ref wb, .ref cc, .ref cs, .ref cm, .int 0])), (wa, .inr (6, [.ref ro, .int 0, .int 0])), (wb, .inr (6, [.ref rb, .int 0, .int 0])), (cc, .inl (G.2.1, 4, .inl (fc))), (cs, .inl (G.2.1, 132, .inl (fs))), (cm, .inl (G.2.1, 132, .inl (fm))), (co, .inr (0, [.ref wa, .ref wb, .ref cu, .ref cf, .ref cp, .int 0, .int 0])), (cf, .inl (G.2.1, 4, .inl (ff)))] [.ref x, .int 0] (some (.int (-1))) (fun u => [(x, .inr (7, [.ref wa, .ref wb, .ref su, .ref cu, .ref tr, .ref co, .ref lo, .ref pk])), (cu, .inr (1, [.ref wa, .ref wb, .ref cc, .ref cs, .ref cm, .int 1])), (cc, .inl (G.2.1, 4, .inl (upd (upd (upd (upd fc 0 1) 1 1) 2 1) 3 1))), (cs, .inl (G.2.1, 132, .inl (upd (upd (upd (upd fs 0 0) 33 0) 66 0) 99 0))), (cm, .inl (G.2.1, 132, .inl (upd (upd (upd (upd fm 0 0) 33 0) 66 0) 99 0))), (cf, .inl (G.2.1, 4, .inl (upd (upd (upd (upd ff 0 (-1)) 1 (-1)) 2 (-1)) 3 (-1)))), (co, .inr (0, [.ref wa, .ref wb, .ref cu, .ref cf, .ref cp, .int 0, .int 1])), (wa, .inr (6, [.ref ro, .int 0, .int 0])), (wb, .inr (6, [.ref rb, .int 0, .int 0]))]) 0 0 := by
  refine zR_of (cc := cX7_witness) (maxL := 2) (rt := (some .int)) (by decide) rfl (Nat.le_of_ble_eq_true rfl) ?_
  intro p e s m below meth c A ls hx hb hml hr hts hown hlocks hin hA hE hP hD hS hl
  have hl : lv_has ls 2 [(0, .ref x), (1, .int 0)] := hl
  have hown : s.vm.findClass RX7 = some m.cls := hown
  have hP : va_P G.1 vwCl [(x, .inr (7, [.ref wa, .ref wb, .ref su, .ref cu, .ref tr, .ref co, .ref lo, .ref pk])), (cu, .inr (1, [.ref wa, .ref wb, .ref cc, .ref cs, .ref cm, .int 0])), (wa, .inr (6, [.ref ro, .int 0, .int 0])), (wb, .inr (6, [.ref rb, .int 0, .int 0])), (cc, .inl (G.2.1, 4, .inl (fc))), (cs, .inl (G.2.1, 132, .inl (fs))), (cm, .inl (G.2.1, 132, .inl (fm))), (co, .inr (0, [.ref wa, .ref wb, .ref cu, .ref cf, .ref cp, .int 0, .int 0])), (cf, .inl (G.2.1, 4, .inl (ff)))] s.heap := hP
  have hw0 : ∀ w ∈ u_ws RX0 TX0 7, w ∈ wsX7_witness := by decide +kernel
  have hf286 := hts (.fieldLink RX7 286 "Nettle$Comparison" "first" "[I") (by decide +kernel)
  refine lv_iload_n hx hb dX7_witness_0 rfl (lv_at hl 1 rfl) ?_
  refine lv_if_lt (tgt := 9) hx hb dX7_witness_1 (by decide) (fun h9 => absurd h9 (by decide)) (fun _ => ?_)
  refine lv_iload_n hx hb dX7_witness_4 rfl (lv_at hl 1 rfl) ?_
  refine lv_iconst (v := 4) hx hb dX7_witness_5 (by decide) ?_
  refine lv_icmp_lt (tgt := 19) hx hb dX7_witness_6 (by decide) (fun _ => ?_) (fun h9 => absurd (by decide) h9)
  refine lv_aload_n hx hb dX7_witness_19 rfl (lv_at hl 0 rfl) ?_
  refine zcall (wr := []) (va_runV (As := []) (rest := []) ⟨hx, hb, hml, hown, hts⟩ (z_X7_compared0 l G x wa wb su cu tr co lo pk ro rb cc cs cm (fc) (fs) (fm) cf cp (ff) s.heap.size) (cwV 0 hts gX7_witness_X7_compared rfl rfl rfl (by decide +kernel) ⟨Nat.le_of_ble_eq_true rfl, Nat.le_of_ble_eq_true rfl⟩) (zPreV (Wc := [(x, .inr (7, [.ref wa, .ref wb, .ref su, .ref cu, .ref tr, .ref co, .ref lo, .ref pk])), (cu, .inr (1, [.ref wa, .ref wb, .ref cc, .ref cs, .ref cm, .int 0])), (wa, .inr (6, [.ref ro, .int 0, .int 0])), (wb, .inr (6, [.ref rb, .int 0, .int 0])), (cc, .inl (G.2.1, 4, .inl (fc))), (cs, .inl (G.2.1, 132, .inl (fs))), (cm, .inl (G.2.1, 132, .inl (fm))), (co, .inr (0, [.ref wa, .ref wb, .ref cu, .ref cf, .ref cp, .int 0, .int 0])), (cf, .inl (G.2.1, 4, .inl (ff)))]) (q0 := 0) (ci := 7) (q := (RX7, TX7, 8)) hP hD hE hS hA [0, 1, 2, 3, 4, 5, 6, 7, 8] rfl (by decide) rfl rfl) rfl rfl hl.1 rfl (lv_room (Nat.le_of_ble_eq_true rfl)) dX7_witness_20 ⟨Nat.le_of_ble_eq_true rfl, Nat.le_of_ble_eq_true rfl⟩) hP hD hS hA [0, 1, 2, 3, 4, 5, 6, 7, 8] [] rfl rfl (by decide) (by decide) (fun u1 H locs hP hD hS => ?_)
  have hP : va_P G.1 vwCl [(x, .inr (7, [.ref wa, .ref wb, .ref su, .ref cu, .ref tr, .ref co, .ref lo, .ref pk])), (cu, .inr (1, [.ref wa, .ref wb, .ref cc, .ref cs, .ref cm, .int 1])), (cc, .inl (G.2.1, 4, .inl (upd (upd (upd (upd fc 0 1) 1 1) 2 1) 3 1))), (cs, .inl (G.2.1, 132, .inl (upd (upd (upd (upd fs 0 0) 33 0) 66 0) 99 0))), (cm, .inl (G.2.1, 132, .inl (upd (upd (upd (upd fm 0 0) 33 0) 66 0) 99 0))), (cf, .inl (G.2.1, 4, .inl (upd (upd (upd (upd ff 0 (-1)) 1 (-1)) 2 (-1)) 3 (-1)))), (co, .inr (0, [.ref wa, .ref wb, .ref cu, .ref cf, .ref cp, .int 0, .int 1])), (wa, .inr (6, [.ref ro, .int 0, .int 0])), (wb, .inr (6, [.ref rb, .int 0, .int 0]))] H := hP
  have hD : va_D A [(x, .inr (7, [.ref wa, .ref wb, .ref su, .ref cu, .ref tr, .ref co, .ref lo, .ref pk])), (cu, .inr (1, [.ref wa, .ref wb, .ref cc, .ref cs, .ref cm, .int 1])), (cc, .inl (G.2.1, 4, .inl (upd (upd (upd (upd fc 0 1) 1 1) 2 1) 3 1))), (cs, .inl (G.2.1, 132, .inl (upd (upd (upd (upd fs 0 0) 33 0) 66 0) 99 0))), (cm, .inl (G.2.1, 132, .inl (upd (upd (upd (upd fm 0 0) 33 0) 66 0) 99 0))), (cf, .inl (G.2.1, 4, .inl (upd (upd (upd (upd ff 0 (-1)) 1 (-1)) 2 (-1)) 3 (-1)))), (co, .inr (0, [.ref wa, .ref wb, .ref cu, .ref cf, .ref cp, .int 0, .int 1])), (wa, .inr (6, [.ref ro, .int 0, .int 0])), (wb, .inr (6, [.ref rb, .int 0, .int 0]))] := hD
  refine W.eq (g2 := F0 m 23 ls [.ref co]) rfl ?_
  refine va_get (D := G.1) (ci := 0) (v := .ref cf) (C := RX0) (T := TX0) (N := 7) hx hb hts hw0 hown hE.1 hP 6 rfl rfl 3 (by decide) hf286 (fun _ h9 => h9) rfl dX7_witness_23 ?_
  refine lv_iload_n hx hb dX7_witness_26 rfl (lv_at hl 1 rfl) ?_
  refine va_iald hx hb hE.1 hP 5 0 rfl rfl (zin (by decide +kernel)) dX7_witness_27 ?_
  refine zti (v := (-1)) rfl ?_
  exact zend_i hx hb hr hlocks (fun k => [].getD k 0) hP hD hS (Nat.le_of_ble_eq_true rfl) (Nat.le_of_ble_eq_true rfl) dX7_witness_28

set_option maxHeartbeats 4000000 in
set_option maxRecDepth 100000 in
theorem z_X7_witness10 (l : Launch) (G : zG) (x : Nat) (wa : Nat) (wb : Nat) (su : Nat) (cu : Nat) (tr : Nat) (co : Nat) (lo : Nat) (pk : Nat) (cc : Nat) (cs : Nat) (cm : Nat) (cf : Nat) (cp : Nat) (ff : Nat → Int32) : zR l G yX7_witness wsX7_witness { frames := 2, cells := 0, slots := 0, locals := 41 } [(x, .inr (7, [.ref wa, .ref wb, .ref su, .ref cu, .ref tr, .ref co, .ref lo, .ref pk])), (cu, .inr (1, [.ref wa, .ref wb, .ref cc, .ref cs, .ref cm, .int 1])), (co, .inr (0, [.ref wa, .ref wb, .ref cu, .ref cf, .ref cp, .int 0, .int 1])), (cf, .inl (G.2.1, 4, .inl (upd (upd (upd (upd ff 0 (-1)) 1 (-1)) 2 (-1)) 3 (-1))))] [.ref x, .int 0] (some (.int (-1))) (fun u => [(cf, .inl (G.2.1, 4, .inl (upd (upd (upd (upd ff 0 (-1)) 1 (-1)) 2 (-1)) 3 (-1)))), (x, .inr (7, [.ref wa, .ref wb, .ref su, .ref cu, .ref tr, .ref co, .ref lo, .ref pk])), (cu, .inr (1, [.ref wa, .ref wb, .ref cc, .ref cs, .ref cm, .int 1])), (co, .inr (0, [.ref wa, .ref wb, .ref cu, .ref cf, .ref cp, .int 0, .int 1]))]) 0 0 := by
  refine zR_of (cc := cX7_witness) (maxL := 2) (rt := (some .int)) (by decide) rfl (Nat.le_of_ble_eq_true rfl) ?_
  intro p e s m below meth c A ls hx hb hml hr hts hown hlocks hin hA hE hP hD hS hl
  have hl : lv_has ls 2 [(0, .ref x), (1, .int 0)] := hl
  have hown : s.vm.findClass RX7 = some m.cls := hown
  have hP : va_P G.1 vwCl [(x, .inr (7, [.ref wa, .ref wb, .ref su, .ref cu, .ref tr, .ref co, .ref lo, .ref pk])), (cu, .inr (1, [.ref wa, .ref wb, .ref cc, .ref cs, .ref cm, .int 1])), (co, .inr (0, [.ref wa, .ref wb, .ref cu, .ref cf, .ref cp, .int 0, .int 1])), (cf, .inl (G.2.1, 4, .inl (upd (upd (upd (upd ff 0 (-1)) 1 (-1)) 2 (-1)) 3 (-1))))] s.heap := hP
  have hw0 : ∀ w ∈ u_ws RX0 TX0 7, w ∈ wsX7_witness := by decide +kernel
  have hf286 := hts (.fieldLink RX7 286 "Nettle$Comparison" "first" "[I") (by decide +kernel)
  refine lv_iload_n hx hb dX7_witness_0 rfl (lv_at hl 1 rfl) ?_
  refine lv_if_lt (tgt := 9) hx hb dX7_witness_1 (by decide) (fun h9 => absurd h9 (by decide)) (fun _ => ?_)
  refine lv_iload_n hx hb dX7_witness_4 rfl (lv_at hl 1 rfl) ?_
  refine lv_iconst (v := 4) hx hb dX7_witness_5 (by decide) ?_
  refine lv_icmp_lt (tgt := 19) hx hb dX7_witness_6 (by decide) (fun _ => ?_) (fun h9 => absurd (by decide) h9)
  refine lv_aload_n hx hb dX7_witness_19 rfl (lv_at hl 0 rfl) ?_
  refine zcall (wr := [(cf, .inl (G.2.1, 4, .inl (upd (upd (upd (upd ff 0 (-1)) 1 (-1)) 2 (-1)) 3 (-1))))]) (va_runV (As := []) (rest := []) ⟨hx, hb, hml, hown, hts⟩ (z_X7_compared1 l G x wa wb su cu tr co lo pk cc cs cm cf cp s.heap.size) (cwV 0 hts gX7_witness_X7_compared rfl rfl rfl (by decide +kernel) ⟨Nat.le_of_ble_eq_true rfl, Nat.le_of_ble_eq_true rfl⟩) (zPreV (Wc := [(x, .inr (7, [.ref wa, .ref wb, .ref su, .ref cu, .ref tr, .ref co, .ref lo, .ref pk])), (cu, .inr (1, [.ref wa, .ref wb, .ref cc, .ref cs, .ref cm, .int 1])), (co, .inr (0, [.ref wa, .ref wb, .ref cu, .ref cf, .ref cp, .int 0, .int 1]))]) (q0 := 0) (ci := 7) (q := (RX7, TX7, 8)) hP hD hE hS hA [0, 1, 2] rfl (by decide) rfl rfl) rfl rfl hl.1 rfl (lv_room (Nat.le_of_ble_eq_true rfl)) dX7_witness_20 ⟨Nat.le_of_ble_eq_true rfl, Nat.le_of_ble_eq_true rfl⟩) hP hD hS hA [0, 1, 2] [3] rfl rfl (by decide) (by decide) (fun u1 H locs hP hD hS => ?_)
  have hP : va_P G.1 vwCl [(cf, .inl (G.2.1, 4, .inl (upd (upd (upd (upd ff 0 (-1)) 1 (-1)) 2 (-1)) 3 (-1)))), (x, .inr (7, [.ref wa, .ref wb, .ref su, .ref cu, .ref tr, .ref co, .ref lo, .ref pk])), (cu, .inr (1, [.ref wa, .ref wb, .ref cc, .ref cs, .ref cm, .int 1])), (co, .inr (0, [.ref wa, .ref wb, .ref cu, .ref cf, .ref cp, .int 0, .int 1]))] H := hP
  have hD : va_D A [(cf, .inl (G.2.1, 4, .inl (upd (upd (upd (upd ff 0 (-1)) 1 (-1)) 2 (-1)) 3 (-1)))), (x, .inr (7, [.ref wa, .ref wb, .ref su, .ref cu, .ref tr, .ref co, .ref lo, .ref pk])), (cu, .inr (1, [.ref wa, .ref wb, .ref cc, .ref cs, .ref cm, .int 1])), (co, .inr (0, [.ref wa, .ref wb, .ref cu, .ref cf, .ref cp, .int 0, .int 1]))] := hD
  refine W.eq (g2 := F0 m 23 ls [.ref co]) rfl ?_
  refine va_get (D := G.1) (ci := 0) (v := .ref cf) (C := RX0) (T := TX0) (N := 7) hx hb hts hw0 hown hE.1 hP 3 rfl rfl 3 (by decide) hf286 (fun _ h9 => h9) rfl dX7_witness_23 ?_
  refine lv_iload_n hx hb dX7_witness_26 rfl (lv_at hl 1 rfl) ?_
  refine va_iald hx hb hE.1 hP 0 0 rfl rfl (zin (by decide +kernel)) dX7_witness_27 ?_
  refine zti (v := (-1)) rfl ?_
  exact zend_i hx hb hr hlocks (fun k => [].getD k 0) hP hD hS (Nat.le_of_ble_eq_true rfl) (Nat.le_of_ble_eq_true rfl) dX7_witness_28

set_option maxHeartbeats 4000000 in
set_option maxRecDepth 100000 in
theorem z_X7_witness01 (l : Launch) (G : zG) (x : Nat) (wa : Nat) (wb : Nat) (su : Nat) (cu : Nat) (tr : Nat) (co : Nat) (lo : Nat) (pk : Nat) (ro : Nat) (rb : Nat) (cc : Nat) (cs : Nat) (cm : Nat) (fc : Nat → Int32) (fs : Nat → Int32) (fm : Nat → Int32) (cf : Nat) (cp : Nat) (ff : Nat → Int32) : zR l G yX7_witness wsX7_witness { frames := 6, cells := 0, slots := 0, locals := 136 } [(x, .inr (7, [.ref wa, .ref wb, .ref su, .ref cu, .ref tr, .ref co, .ref lo, .ref pk])), (cu, .inr (1, [.ref wa, .ref wb, .ref cc, .ref cs, .ref cm, .int 0])), (wa, .inr (6, [.ref ro, .int 0, .int 0])), (wb, .inr (6, [.ref rb, .int 0, .int 0])), (cc, .inl (G.2.1, 4, .inl (fc))), (cs, .inl (G.2.1, 132, .inl (fs))), (cm, .inl (G.2.1, 132, .inl (fm))), (co, .inr (0, [.ref wa, .ref wb, .ref cu, .ref cf, .ref cp, .int 0, .int 0])), (cf, .inl (G.2.1, 4, .inl (ff)))] [.ref x, .int 1] (some (.int (-1))) (fun u => [(x, .inr (7, [.ref wa, .ref wb, .ref su, .ref cu, .ref tr, .ref co, .ref lo, .ref pk])), (cu, .inr (1, [.ref wa, .ref wb, .ref cc, .ref cs, .ref cm, .int 1])), (cc, .inl (G.2.1, 4, .inl (upd (upd (upd (upd fc 0 1) 1 1) 2 1) 3 1))), (cs, .inl (G.2.1, 132, .inl (upd (upd (upd (upd fs 0 0) 33 0) 66 0) 99 0))), (cm, .inl (G.2.1, 132, .inl (upd (upd (upd (upd fm 0 0) 33 0) 66 0) 99 0))), (cf, .inl (G.2.1, 4, .inl (upd (upd (upd (upd ff 0 (-1)) 1 (-1)) 2 (-1)) 3 (-1)))), (co, .inr (0, [.ref wa, .ref wb, .ref cu, .ref cf, .ref cp, .int 0, .int 1])), (wa, .inr (6, [.ref ro, .int 0, .int 0])), (wb, .inr (6, [.ref rb, .int 0, .int 0]))]) 0 0 := by
  refine zR_of (cc := cX7_witness) (maxL := 2) (rt := (some .int)) (by decide) rfl (Nat.le_of_ble_eq_true rfl) ?_
  intro p e s m below meth c A ls hx hb hml hr hts hown hlocks hin hA hE hP hD hS hl
  have hl : lv_has ls 2 [(0, .ref x), (1, .int 1)] := hl
  have hown : s.vm.findClass RX7 = some m.cls := hown
  have hP : va_P G.1 vwCl [(x, .inr (7, [.ref wa, .ref wb, .ref su, .ref cu, .ref tr, .ref co, .ref lo, .ref pk])), (cu, .inr (1, [.ref wa, .ref wb, .ref cc, .ref cs, .ref cm, .int 0])), (wa, .inr (6, [.ref ro, .int 0, .int 0])), (wb, .inr (6, [.ref rb, .int 0, .int 0])), (cc, .inl (G.2.1, 4, .inl (fc))), (cs, .inl (G.2.1, 132, .inl (fs))), (cm, .inl (G.2.1, 132, .inl (fm))), (co, .inr (0, [.ref wa, .ref wb, .ref cu, .ref cf, .ref cp, .int 0, .int 0])), (cf, .inl (G.2.1, 4, .inl (ff)))] s.heap := hP
  have hw0 : ∀ w ∈ u_ws RX0 TX0 7, w ∈ wsX7_witness := by decide +kernel
  have hf286 := hts (.fieldLink RX7 286 "Nettle$Comparison" "first" "[I") (by decide +kernel)
  refine lv_iload_n hx hb dX7_witness_0 rfl (lv_at hl 1 rfl) ?_
  refine lv_if_lt (tgt := 9) hx hb dX7_witness_1 (by decide) (fun h9 => absurd h9 (by decide)) (fun _ => ?_)
  refine lv_iload_n hx hb dX7_witness_4 rfl (lv_at hl 1 rfl) ?_
  refine lv_iconst (v := 4) hx hb dX7_witness_5 (by decide) ?_
  refine lv_icmp_lt (tgt := 19) hx hb dX7_witness_6 (by decide) (fun _ => ?_) (fun h9 => absurd (by decide) h9)
  refine lv_aload_n hx hb dX7_witness_19 rfl (lv_at hl 0 rfl) ?_
  refine zcall (wr := []) (va_runV (As := []) (rest := []) ⟨hx, hb, hml, hown, hts⟩ (z_X7_compared0 l G x wa wb su cu tr co lo pk ro rb cc cs cm (fc) (fs) (fm) cf cp (ff) s.heap.size) (cwV 0 hts gX7_witness_X7_compared rfl rfl rfl (by decide +kernel) ⟨Nat.le_of_ble_eq_true rfl, Nat.le_of_ble_eq_true rfl⟩) (zPreV (Wc := [(x, .inr (7, [.ref wa, .ref wb, .ref su, .ref cu, .ref tr, .ref co, .ref lo, .ref pk])), (cu, .inr (1, [.ref wa, .ref wb, .ref cc, .ref cs, .ref cm, .int 0])), (wa, .inr (6, [.ref ro, .int 0, .int 0])), (wb, .inr (6, [.ref rb, .int 0, .int 0])), (cc, .inl (G.2.1, 4, .inl (fc))), (cs, .inl (G.2.1, 132, .inl (fs))), (cm, .inl (G.2.1, 132, .inl (fm))), (co, .inr (0, [.ref wa, .ref wb, .ref cu, .ref cf, .ref cp, .int 0, .int 0])), (cf, .inl (G.2.1, 4, .inl (ff)))]) (q0 := 0) (ci := 7) (q := (RX7, TX7, 8)) hP hD hE hS hA [0, 1, 2, 3, 4, 5, 6, 7, 8] rfl (by decide) rfl rfl) rfl rfl hl.1 rfl (lv_room (Nat.le_of_ble_eq_true rfl)) dX7_witness_20 ⟨Nat.le_of_ble_eq_true rfl, Nat.le_of_ble_eq_true rfl⟩) hP hD hS hA [0, 1, 2, 3, 4, 5, 6, 7, 8] [] rfl rfl (by decide) (by decide) (fun u1 H locs hP hD hS => ?_)
  have hP : va_P G.1 vwCl [(x, .inr (7, [.ref wa, .ref wb, .ref su, .ref cu, .ref tr, .ref co, .ref lo, .ref pk])), (cu, .inr (1, [.ref wa, .ref wb, .ref cc, .ref cs, .ref cm, .int 1])), (cc, .inl (G.2.1, 4, .inl (upd (upd (upd (upd fc 0 1) 1 1) 2 1) 3 1))), (cs, .inl (G.2.1, 132, .inl (upd (upd (upd (upd fs 0 0) 33 0) 66 0) 99 0))), (cm, .inl (G.2.1, 132, .inl (upd (upd (upd (upd fm 0 0) 33 0) 66 0) 99 0))), (cf, .inl (G.2.1, 4, .inl (upd (upd (upd (upd ff 0 (-1)) 1 (-1)) 2 (-1)) 3 (-1)))), (co, .inr (0, [.ref wa, .ref wb, .ref cu, .ref cf, .ref cp, .int 0, .int 1])), (wa, .inr (6, [.ref ro, .int 0, .int 0])), (wb, .inr (6, [.ref rb, .int 0, .int 0]))] H := hP
  have hD : va_D A [(x, .inr (7, [.ref wa, .ref wb, .ref su, .ref cu, .ref tr, .ref co, .ref lo, .ref pk])), (cu, .inr (1, [.ref wa, .ref wb, .ref cc, .ref cs, .ref cm, .int 1])), (cc, .inl (G.2.1, 4, .inl (upd (upd (upd (upd fc 0 1) 1 1) 2 1) 3 1))), (cs, .inl (G.2.1, 132, .inl (upd (upd (upd (upd fs 0 0) 33 0) 66 0) 99 0))), (cm, .inl (G.2.1, 132, .inl (upd (upd (upd (upd fm 0 0) 33 0) 66 0) 99 0))), (cf, .inl (G.2.1, 4, .inl (upd (upd (upd (upd ff 0 (-1)) 1 (-1)) 2 (-1)) 3 (-1)))), (co, .inr (0, [.ref wa, .ref wb, .ref cu, .ref cf, .ref cp, .int 0, .int 1])), (wa, .inr (6, [.ref ro, .int 0, .int 0])), (wb, .inr (6, [.ref rb, .int 0, .int 0]))] := hD
  refine W.eq (g2 := F0 m 23 ls [.ref co]) rfl ?_
  refine va_get (D := G.1) (ci := 0) (v := .ref cf) (C := RX0) (T := TX0) (N := 7) hx hb hts hw0 hown hE.1 hP 6 rfl rfl 3 (by decide) hf286 (fun _ h9 => h9) rfl dX7_witness_23 ?_
  refine lv_iload_n hx hb dX7_witness_26 rfl (lv_at hl 1 rfl) ?_
  refine va_iald hx hb hE.1 hP 5 0 rfl rfl (zin (by decide +kernel)) dX7_witness_27 ?_
  refine zti (v := (-1)) rfl ?_
  exact zend_i hx hb hr hlocks (fun k => [].getD k 0) hP hD hS (Nat.le_of_ble_eq_true rfl) (Nat.le_of_ble_eq_true rfl) dX7_witness_28

set_option maxHeartbeats 4000000 in
set_option maxRecDepth 100000 in
theorem z_X7_witness11 (l : Launch) (G : zG) (x : Nat) (wa : Nat) (wb : Nat) (su : Nat) (cu : Nat) (tr : Nat) (co : Nat) (lo : Nat) (pk : Nat) (cc : Nat) (cs : Nat) (cm : Nat) (cf : Nat) (cp : Nat) (ff : Nat → Int32) : zR l G yX7_witness wsX7_witness { frames := 2, cells := 0, slots := 0, locals := 41 } [(x, .inr (7, [.ref wa, .ref wb, .ref su, .ref cu, .ref tr, .ref co, .ref lo, .ref pk])), (cu, .inr (1, [.ref wa, .ref wb, .ref cc, .ref cs, .ref cm, .int 1])), (co, .inr (0, [.ref wa, .ref wb, .ref cu, .ref cf, .ref cp, .int 0, .int 1])), (cf, .inl (G.2.1, 4, .inl (upd (upd (upd (upd ff 0 (-1)) 1 (-1)) 2 (-1)) 3 (-1))))] [.ref x, .int 1] (some (.int (-1))) (fun u => [(cf, .inl (G.2.1, 4, .inl (upd (upd (upd (upd ff 0 (-1)) 1 (-1)) 2 (-1)) 3 (-1)))), (x, .inr (7, [.ref wa, .ref wb, .ref su, .ref cu, .ref tr, .ref co, .ref lo, .ref pk])), (cu, .inr (1, [.ref wa, .ref wb, .ref cc, .ref cs, .ref cm, .int 1])), (co, .inr (0, [.ref wa, .ref wb, .ref cu, .ref cf, .ref cp, .int 0, .int 1]))]) 0 0 := by
  refine zR_of (cc := cX7_witness) (maxL := 2) (rt := (some .int)) (by decide) rfl (Nat.le_of_ble_eq_true rfl) ?_
  intro p e s m below meth c A ls hx hb hml hr hts hown hlocks hin hA hE hP hD hS hl
  have hl : lv_has ls 2 [(0, .ref x), (1, .int 1)] := hl
  have hown : s.vm.findClass RX7 = some m.cls := hown
  have hP : va_P G.1 vwCl [(x, .inr (7, [.ref wa, .ref wb, .ref su, .ref cu, .ref tr, .ref co, .ref lo, .ref pk])), (cu, .inr (1, [.ref wa, .ref wb, .ref cc, .ref cs, .ref cm, .int 1])), (co, .inr (0, [.ref wa, .ref wb, .ref cu, .ref cf, .ref cp, .int 0, .int 1])), (cf, .inl (G.2.1, 4, .inl (upd (upd (upd (upd ff 0 (-1)) 1 (-1)) 2 (-1)) 3 (-1))))] s.heap := hP
  have hw0 : ∀ w ∈ u_ws RX0 TX0 7, w ∈ wsX7_witness := by decide +kernel
  have hf286 := hts (.fieldLink RX7 286 "Nettle$Comparison" "first" "[I") (by decide +kernel)
  refine lv_iload_n hx hb dX7_witness_0 rfl (lv_at hl 1 rfl) ?_
  refine lv_if_lt (tgt := 9) hx hb dX7_witness_1 (by decide) (fun h9 => absurd h9 (by decide)) (fun _ => ?_)
  refine lv_iload_n hx hb dX7_witness_4 rfl (lv_at hl 1 rfl) ?_
  refine lv_iconst (v := 4) hx hb dX7_witness_5 (by decide) ?_
  refine lv_icmp_lt (tgt := 19) hx hb dX7_witness_6 (by decide) (fun _ => ?_) (fun h9 => absurd (by decide) h9)
  refine lv_aload_n hx hb dX7_witness_19 rfl (lv_at hl 0 rfl) ?_
  refine zcall (wr := [(cf, .inl (G.2.1, 4, .inl (upd (upd (upd (upd ff 0 (-1)) 1 (-1)) 2 (-1)) 3 (-1))))]) (va_runV (As := []) (rest := []) ⟨hx, hb, hml, hown, hts⟩ (z_X7_compared1 l G x wa wb su cu tr co lo pk cc cs cm cf cp s.heap.size) (cwV 0 hts gX7_witness_X7_compared rfl rfl rfl (by decide +kernel) ⟨Nat.le_of_ble_eq_true rfl, Nat.le_of_ble_eq_true rfl⟩) (zPreV (Wc := [(x, .inr (7, [.ref wa, .ref wb, .ref su, .ref cu, .ref tr, .ref co, .ref lo, .ref pk])), (cu, .inr (1, [.ref wa, .ref wb, .ref cc, .ref cs, .ref cm, .int 1])), (co, .inr (0, [.ref wa, .ref wb, .ref cu, .ref cf, .ref cp, .int 0, .int 1]))]) (q0 := 0) (ci := 7) (q := (RX7, TX7, 8)) hP hD hE hS hA [0, 1, 2] rfl (by decide) rfl rfl) rfl rfl hl.1 rfl (lv_room (Nat.le_of_ble_eq_true rfl)) dX7_witness_20 ⟨Nat.le_of_ble_eq_true rfl, Nat.le_of_ble_eq_true rfl⟩) hP hD hS hA [0, 1, 2] [3] rfl rfl (by decide) (by decide) (fun u1 H locs hP hD hS => ?_)
  have hP : va_P G.1 vwCl [(cf, .inl (G.2.1, 4, .inl (upd (upd (upd (upd ff 0 (-1)) 1 (-1)) 2 (-1)) 3 (-1)))), (x, .inr (7, [.ref wa, .ref wb, .ref su, .ref cu, .ref tr, .ref co, .ref lo, .ref pk])), (cu, .inr (1, [.ref wa, .ref wb, .ref cc, .ref cs, .ref cm, .int 1])), (co, .inr (0, [.ref wa, .ref wb, .ref cu, .ref cf, .ref cp, .int 0, .int 1]))] H := hP
  have hD : va_D A [(cf, .inl (G.2.1, 4, .inl (upd (upd (upd (upd ff 0 (-1)) 1 (-1)) 2 (-1)) 3 (-1)))), (x, .inr (7, [.ref wa, .ref wb, .ref su, .ref cu, .ref tr, .ref co, .ref lo, .ref pk])), (cu, .inr (1, [.ref wa, .ref wb, .ref cc, .ref cs, .ref cm, .int 1])), (co, .inr (0, [.ref wa, .ref wb, .ref cu, .ref cf, .ref cp, .int 0, .int 1]))] := hD
  refine W.eq (g2 := F0 m 23 ls [.ref co]) rfl ?_
  refine va_get (D := G.1) (ci := 0) (v := .ref cf) (C := RX0) (T := TX0) (N := 7) hx hb hts hw0 hown hE.1 hP 3 rfl rfl 3 (by decide) hf286 (fun _ h9 => h9) rfl dX7_witness_23 ?_
  refine lv_iload_n hx hb dX7_witness_26 rfl (lv_at hl 1 rfl) ?_
  refine va_iald hx hb hE.1 hP 0 0 rfl rfl (zin (by decide +kernel)) dX7_witness_27 ?_
  refine zti (v := (-1)) rfl ?_
  exact zend_i hx hb hr hlocks (fun k => [].getD k 0) hP hD hS (Nat.le_of_ble_eq_true rfl) (Nat.le_of_ble_eq_true rfl) dX7_witness_28

set_option maxHeartbeats 4000000 in
set_option maxRecDepth 100000 in
theorem z_X7_witness02 (l : Launch) (G : zG) (x : Nat) (wa : Nat) (wb : Nat) (su : Nat) (cu : Nat) (tr : Nat) (co : Nat) (lo : Nat) (pk : Nat) (ro : Nat) (rb : Nat) (cc : Nat) (cs : Nat) (cm : Nat) (fc : Nat → Int32) (fs : Nat → Int32) (fm : Nat → Int32) (cf : Nat) (cp : Nat) (ff : Nat → Int32) : zR l G yX7_witness wsX7_witness { frames := 6, cells := 0, slots := 0, locals := 136 } [(x, .inr (7, [.ref wa, .ref wb, .ref su, .ref cu, .ref tr, .ref co, .ref lo, .ref pk])), (cu, .inr (1, [.ref wa, .ref wb, .ref cc, .ref cs, .ref cm, .int 0])), (wa, .inr (6, [.ref ro, .int 0, .int 0])), (wb, .inr (6, [.ref rb, .int 0, .int 0])), (cc, .inl (G.2.1, 4, .inl (fc))), (cs, .inl (G.2.1, 132, .inl (fs))), (cm, .inl (G.2.1, 132, .inl (fm))), (co, .inr (0, [.ref wa, .ref wb, .ref cu, .ref cf, .ref cp, .int 0, .int 0])), (cf, .inl (G.2.1, 4, .inl (ff)))] [.ref x, .int 2] (some (.int (-1))) (fun u => [(x, .inr (7, [.ref wa, .ref wb, .ref su, .ref cu, .ref tr, .ref co, .ref lo, .ref pk])), (cu, .inr (1, [.ref wa, .ref wb, .ref cc, .ref cs, .ref cm, .int 1])), (cc, .inl (G.2.1, 4, .inl (upd (upd (upd (upd fc 0 1) 1 1) 2 1) 3 1))), (cs, .inl (G.2.1, 132, .inl (upd (upd (upd (upd fs 0 0) 33 0) 66 0) 99 0))), (cm, .inl (G.2.1, 132, .inl (upd (upd (upd (upd fm 0 0) 33 0) 66 0) 99 0))), (cf, .inl (G.2.1, 4, .inl (upd (upd (upd (upd ff 0 (-1)) 1 (-1)) 2 (-1)) 3 (-1)))), (co, .inr (0, [.ref wa, .ref wb, .ref cu, .ref cf, .ref cp, .int 0, .int 1])), (wa, .inr (6, [.ref ro, .int 0, .int 0])), (wb, .inr (6, [.ref rb, .int 0, .int 0]))]) 0 0 := by
  refine zR_of (cc := cX7_witness) (maxL := 2) (rt := (some .int)) (by decide) rfl (Nat.le_of_ble_eq_true rfl) ?_
  intro p e s m below meth c A ls hx hb hml hr hts hown hlocks hin hA hE hP hD hS hl
  have hl : lv_has ls 2 [(0, .ref x), (1, .int 2)] := hl
  have hown : s.vm.findClass RX7 = some m.cls := hown
  have hP : va_P G.1 vwCl [(x, .inr (7, [.ref wa, .ref wb, .ref su, .ref cu, .ref tr, .ref co, .ref lo, .ref pk])), (cu, .inr (1, [.ref wa, .ref wb, .ref cc, .ref cs, .ref cm, .int 0])), (wa, .inr (6, [.ref ro, .int 0, .int 0])), (wb, .inr (6, [.ref rb, .int 0, .int 0])), (cc, .inl (G.2.1, 4, .inl (fc))), (cs, .inl (G.2.1, 132, .inl (fs))), (cm, .inl (G.2.1, 132, .inl (fm))), (co, .inr (0, [.ref wa, .ref wb, .ref cu, .ref cf, .ref cp, .int 0, .int 0])), (cf, .inl (G.2.1, 4, .inl (ff)))] s.heap := hP
  have hw0 : ∀ w ∈ u_ws RX0 TX0 7, w ∈ wsX7_witness := by decide +kernel
  have hf286 := hts (.fieldLink RX7 286 "Nettle$Comparison" "first" "[I") (by decide +kernel)
  refine lv_iload_n hx hb dX7_witness_0 rfl (lv_at hl 1 rfl) ?_
  refine lv_if_lt (tgt := 9) hx hb dX7_witness_1 (by decide) (fun h9 => absurd h9 (by decide)) (fun _ => ?_)
  refine lv_iload_n hx hb dX7_witness_4 rfl (lv_at hl 1 rfl) ?_
  refine lv_iconst (v := 4) hx hb dX7_witness_5 (by decide) ?_
  refine lv_icmp_lt (tgt := 19) hx hb dX7_witness_6 (by decide) (fun _ => ?_) (fun h9 => absurd (by decide) h9)
  refine lv_aload_n hx hb dX7_witness_19 rfl (lv_at hl 0 rfl) ?_
  refine zcall (wr := []) (va_runV (As := []) (rest := []) ⟨hx, hb, hml, hown, hts⟩ (z_X7_compared0 l G x wa wb su cu tr co lo pk ro rb cc cs cm (fc) (fs) (fm) cf cp (ff) s.heap.size) (cwV 0 hts gX7_witness_X7_compared rfl rfl rfl (by decide +kernel) ⟨Nat.le_of_ble_eq_true rfl, Nat.le_of_ble_eq_true rfl⟩) (zPreV (Wc := [(x, .inr (7, [.ref wa, .ref wb, .ref su, .ref cu, .ref tr, .ref co, .ref lo, .ref pk])), (cu, .inr (1, [.ref wa, .ref wb, .ref cc, .ref cs, .ref cm, .int 0])), (wa, .inr (6, [.ref ro, .int 0, .int 0])), (wb, .inr (6, [.ref rb, .int 0, .int 0])), (cc, .inl (G.2.1, 4, .inl (fc))), (cs, .inl (G.2.1, 132, .inl (fs))), (cm, .inl (G.2.1, 132, .inl (fm))), (co, .inr (0, [.ref wa, .ref wb, .ref cu, .ref cf, .ref cp, .int 0, .int 0])), (cf, .inl (G.2.1, 4, .inl (ff)))]) (q0 := 0) (ci := 7) (q := (RX7, TX7, 8)) hP hD hE hS hA [0, 1, 2, 3, 4, 5, 6, 7, 8] rfl (by decide) rfl rfl) rfl rfl hl.1 rfl (lv_room (Nat.le_of_ble_eq_true rfl)) dX7_witness_20 ⟨Nat.le_of_ble_eq_true rfl, Nat.le_of_ble_eq_true rfl⟩) hP hD hS hA [0, 1, 2, 3, 4, 5, 6, 7, 8] [] rfl rfl (by decide) (by decide) (fun u1 H locs hP hD hS => ?_)
  have hP : va_P G.1 vwCl [(x, .inr (7, [.ref wa, .ref wb, .ref su, .ref cu, .ref tr, .ref co, .ref lo, .ref pk])), (cu, .inr (1, [.ref wa, .ref wb, .ref cc, .ref cs, .ref cm, .int 1])), (cc, .inl (G.2.1, 4, .inl (upd (upd (upd (upd fc 0 1) 1 1) 2 1) 3 1))), (cs, .inl (G.2.1, 132, .inl (upd (upd (upd (upd fs 0 0) 33 0) 66 0) 99 0))), (cm, .inl (G.2.1, 132, .inl (upd (upd (upd (upd fm 0 0) 33 0) 66 0) 99 0))), (cf, .inl (G.2.1, 4, .inl (upd (upd (upd (upd ff 0 (-1)) 1 (-1)) 2 (-1)) 3 (-1)))), (co, .inr (0, [.ref wa, .ref wb, .ref cu, .ref cf, .ref cp, .int 0, .int 1])), (wa, .inr (6, [.ref ro, .int 0, .int 0])), (wb, .inr (6, [.ref rb, .int 0, .int 0]))] H := hP
  have hD : va_D A [(x, .inr (7, [.ref wa, .ref wb, .ref su, .ref cu, .ref tr, .ref co, .ref lo, .ref pk])), (cu, .inr (1, [.ref wa, .ref wb, .ref cc, .ref cs, .ref cm, .int 1])), (cc, .inl (G.2.1, 4, .inl (upd (upd (upd (upd fc 0 1) 1 1) 2 1) 3 1))), (cs, .inl (G.2.1, 132, .inl (upd (upd (upd (upd fs 0 0) 33 0) 66 0) 99 0))), (cm, .inl (G.2.1, 132, .inl (upd (upd (upd (upd fm 0 0) 33 0) 66 0) 99 0))), (cf, .inl (G.2.1, 4, .inl (upd (upd (upd (upd ff 0 (-1)) 1 (-1)) 2 (-1)) 3 (-1)))), (co, .inr (0, [.ref wa, .ref wb, .ref cu, .ref cf, .ref cp, .int 0, .int 1])), (wa, .inr (6, [.ref ro, .int 0, .int 0])), (wb, .inr (6, [.ref rb, .int 0, .int 0]))] := hD
  refine W.eq (g2 := F0 m 23 ls [.ref co]) rfl ?_
  refine va_get (D := G.1) (ci := 0) (v := .ref cf) (C := RX0) (T := TX0) (N := 7) hx hb hts hw0 hown hE.1 hP 6 rfl rfl 3 (by decide) hf286 (fun _ h9 => h9) rfl dX7_witness_23 ?_
  refine lv_iload_n hx hb dX7_witness_26 rfl (lv_at hl 1 rfl) ?_
  refine va_iald hx hb hE.1 hP 5 0 rfl rfl (zin (by decide +kernel)) dX7_witness_27 ?_
  refine zti (v := (-1)) rfl ?_
  exact zend_i hx hb hr hlocks (fun k => [].getD k 0) hP hD hS (Nat.le_of_ble_eq_true rfl) (Nat.le_of_ble_eq_true rfl) dX7_witness_28

set_option maxHeartbeats 4000000 in
set_option maxRecDepth 100000 in
theorem z_X7_witness12 (l : Launch) (G : zG) (x : Nat) (wa : Nat) (wb : Nat) (su : Nat) (cu : Nat) (tr : Nat) (co : Nat) (lo : Nat) (pk : Nat) (cc : Nat) (cs : Nat) (cm : Nat) (cf : Nat) (cp : Nat) (ff : Nat → Int32) : zR l G yX7_witness wsX7_witness { frames := 2, cells := 0, slots := 0, locals := 41 } [(x, .inr (7, [.ref wa, .ref wb, .ref su, .ref cu, .ref tr, .ref co, .ref lo, .ref pk])), (cu, .inr (1, [.ref wa, .ref wb, .ref cc, .ref cs, .ref cm, .int 1])), (co, .inr (0, [.ref wa, .ref wb, .ref cu, .ref cf, .ref cp, .int 0, .int 1])), (cf, .inl (G.2.1, 4, .inl (upd (upd (upd (upd ff 0 (-1)) 1 (-1)) 2 (-1)) 3 (-1))))] [.ref x, .int 2] (some (.int (-1))) (fun u => [(cf, .inl (G.2.1, 4, .inl (upd (upd (upd (upd ff 0 (-1)) 1 (-1)) 2 (-1)) 3 (-1)))), (x, .inr (7, [.ref wa, .ref wb, .ref su, .ref cu, .ref tr, .ref co, .ref lo, .ref pk])), (cu, .inr (1, [.ref wa, .ref wb, .ref cc, .ref cs, .ref cm, .int 1])), (co, .inr (0, [.ref wa, .ref wb, .ref cu, .ref cf, .ref cp, .int 0, .int 1]))]) 0 0 := by
  refine zR_of (cc := cX7_witness) (maxL := 2) (rt := (some .int)) (by decide) rfl (Nat.le_of_ble_eq_true rfl) ?_
  intro p e s m below meth c A ls hx hb hml hr hts hown hlocks hin hA hE hP hD hS hl
  have hl : lv_has ls 2 [(0, .ref x), (1, .int 2)] := hl
  have hown : s.vm.findClass RX7 = some m.cls := hown
  have hP : va_P G.1 vwCl [(x, .inr (7, [.ref wa, .ref wb, .ref su, .ref cu, .ref tr, .ref co, .ref lo, .ref pk])), (cu, .inr (1, [.ref wa, .ref wb, .ref cc, .ref cs, .ref cm, .int 1])), (co, .inr (0, [.ref wa, .ref wb, .ref cu, .ref cf, .ref cp, .int 0, .int 1])), (cf, .inl (G.2.1, 4, .inl (upd (upd (upd (upd ff 0 (-1)) 1 (-1)) 2 (-1)) 3 (-1))))] s.heap := hP
  have hw0 : ∀ w ∈ u_ws RX0 TX0 7, w ∈ wsX7_witness := by decide +kernel
  have hf286 := hts (.fieldLink RX7 286 "Nettle$Comparison" "first" "[I") (by decide +kernel)
  refine lv_iload_n hx hb dX7_witness_0 rfl (lv_at hl 1 rfl) ?_
  refine lv_if_lt (tgt := 9) hx hb dX7_witness_1 (by decide) (fun h9 => absurd h9 (by decide)) (fun _ => ?_)
  refine lv_iload_n hx hb dX7_witness_4 rfl (lv_at hl 1 rfl) ?_
  refine lv_iconst (v := 4) hx hb dX7_witness_5 (by decide) ?_
  refine lv_icmp_lt (tgt := 19) hx hb dX7_witness_6 (by decide) (fun _ => ?_) (fun h9 => absurd (by decide) h9)
  refine lv_aload_n hx hb dX7_witness_19 rfl (lv_at hl 0 rfl) ?_
  refine zcall (wr := [(cf, .inl (G.2.1, 4, .inl (upd (upd (upd (upd ff 0 (-1)) 1 (-1)) 2 (-1)) 3 (-1))))]) (va_runV (As := []) (rest := []) ⟨hx, hb, hml, hown, hts⟩ (z_X7_compared1 l G x wa wb su cu tr co lo pk cc cs cm cf cp s.heap.size) (cwV 0 hts gX7_witness_X7_compared rfl rfl rfl (by decide +kernel) ⟨Nat.le_of_ble_eq_true rfl, Nat.le_of_ble_eq_true rfl⟩) (zPreV (Wc := [(x, .inr (7, [.ref wa, .ref wb, .ref su, .ref cu, .ref tr, .ref co, .ref lo, .ref pk])), (cu, .inr (1, [.ref wa, .ref wb, .ref cc, .ref cs, .ref cm, .int 1])), (co, .inr (0, [.ref wa, .ref wb, .ref cu, .ref cf, .ref cp, .int 0, .int 1]))]) (q0 := 0) (ci := 7) (q := (RX7, TX7, 8)) hP hD hE hS hA [0, 1, 2] rfl (by decide) rfl rfl) rfl rfl hl.1 rfl (lv_room (Nat.le_of_ble_eq_true rfl)) dX7_witness_20 ⟨Nat.le_of_ble_eq_true rfl, Nat.le_of_ble_eq_true rfl⟩) hP hD hS hA [0, 1, 2] [3] rfl rfl (by decide) (by decide) (fun u1 H locs hP hD hS => ?_)
  have hP : va_P G.1 vwCl [(cf, .inl (G.2.1, 4, .inl (upd (upd (upd (upd ff 0 (-1)) 1 (-1)) 2 (-1)) 3 (-1)))), (x, .inr (7, [.ref wa, .ref wb, .ref su, .ref cu, .ref tr, .ref co, .ref lo, .ref pk])), (cu, .inr (1, [.ref wa, .ref wb, .ref cc, .ref cs, .ref cm, .int 1])), (co, .inr (0, [.ref wa, .ref wb, .ref cu, .ref cf, .ref cp, .int 0, .int 1]))] H := hP
  have hD : va_D A [(cf, .inl (G.2.1, 4, .inl (upd (upd (upd (upd ff 0 (-1)) 1 (-1)) 2 (-1)) 3 (-1)))), (x, .inr (7, [.ref wa, .ref wb, .ref su, .ref cu, .ref tr, .ref co, .ref lo, .ref pk])), (cu, .inr (1, [.ref wa, .ref wb, .ref cc, .ref cs, .ref cm, .int 1])), (co, .inr (0, [.ref wa, .ref wb, .ref cu, .ref cf, .ref cp, .int 0, .int 1]))] := hD
  refine W.eq (g2 := F0 m 23 ls [.ref co]) rfl ?_
  refine va_get (D := G.1) (ci := 0) (v := .ref cf) (C := RX0) (T := TX0) (N := 7) hx hb hts hw0 hown hE.1 hP 3 rfl rfl 3 (by decide) hf286 (fun _ h9 => h9) rfl dX7_witness_23 ?_
  refine lv_iload_n hx hb dX7_witness_26 rfl (lv_at hl 1 rfl) ?_
  refine va_iald hx hb hE.1 hP 0 0 rfl rfl (zin (by decide +kernel)) dX7_witness_27 ?_
  refine zti (v := (-1)) rfl ?_
  exact zend_i hx hb hr hlocks (fun k => [].getD k 0) hP hD hS (Nat.le_of_ble_eq_true rfl) (Nat.le_of_ble_eq_true rfl) dX7_witness_28

set_option maxHeartbeats 4000000 in
set_option maxRecDepth 100000 in
theorem z_X7_witness03 (l : Launch) (G : zG) (x : Nat) (wa : Nat) (wb : Nat) (su : Nat) (cu : Nat) (tr : Nat) (co : Nat) (lo : Nat) (pk : Nat) (ro : Nat) (rb : Nat) (cc : Nat) (cs : Nat) (cm : Nat) (fc : Nat → Int32) (fs : Nat → Int32) (fm : Nat → Int32) (cf : Nat) (cp : Nat) (ff : Nat → Int32) : zR l G yX7_witness wsX7_witness { frames := 6, cells := 0, slots := 0, locals := 136 } [(x, .inr (7, [.ref wa, .ref wb, .ref su, .ref cu, .ref tr, .ref co, .ref lo, .ref pk])), (cu, .inr (1, [.ref wa, .ref wb, .ref cc, .ref cs, .ref cm, .int 0])), (wa, .inr (6, [.ref ro, .int 0, .int 0])), (wb, .inr (6, [.ref rb, .int 0, .int 0])), (cc, .inl (G.2.1, 4, .inl (fc))), (cs, .inl (G.2.1, 132, .inl (fs))), (cm, .inl (G.2.1, 132, .inl (fm))), (co, .inr (0, [.ref wa, .ref wb, .ref cu, .ref cf, .ref cp, .int 0, .int 0])), (cf, .inl (G.2.1, 4, .inl (ff)))] [.ref x, .int 3] (some (.int (-1))) (fun u => [(x, .inr (7, [.ref wa, .ref wb, .ref su, .ref cu, .ref tr, .ref co, .ref lo, .ref pk])), (cu, .inr (1, [.ref wa, .ref wb, .ref cc, .ref cs, .ref cm, .int 1])), (cc, .inl (G.2.1, 4, .inl (upd (upd (upd (upd fc 0 1) 1 1) 2 1) 3 1))), (cs, .inl (G.2.1, 132, .inl (upd (upd (upd (upd fs 0 0) 33 0) 66 0) 99 0))), (cm, .inl (G.2.1, 132, .inl (upd (upd (upd (upd fm 0 0) 33 0) 66 0) 99 0))), (cf, .inl (G.2.1, 4, .inl (upd (upd (upd (upd ff 0 (-1)) 1 (-1)) 2 (-1)) 3 (-1)))), (co, .inr (0, [.ref wa, .ref wb, .ref cu, .ref cf, .ref cp, .int 0, .int 1])), (wa, .inr (6, [.ref ro, .int 0, .int 0])), (wb, .inr (6, [.ref rb, .int 0, .int 0]))]) 0 0 := by
  refine zR_of (cc := cX7_witness) (maxL := 2) (rt := (some .int)) (by decide) rfl (Nat.le_of_ble_eq_true rfl) ?_
  intro p e s m below meth c A ls hx hb hml hr hts hown hlocks hin hA hE hP hD hS hl
  have hl : lv_has ls 2 [(0, .ref x), (1, .int 3)] := hl
  have hown : s.vm.findClass RX7 = some m.cls := hown
  have hP : va_P G.1 vwCl [(x, .inr (7, [.ref wa, .ref wb, .ref su, .ref cu, .ref tr, .ref co, .ref lo, .ref pk])), (cu, .inr (1, [.ref wa, .ref wb, .ref cc, .ref cs, .ref cm, .int 0])), (wa, .inr (6, [.ref ro, .int 0, .int 0])), (wb, .inr (6, [.ref rb, .int 0, .int 0])), (cc, .inl (G.2.1, 4, .inl (fc))), (cs, .inl (G.2.1, 132, .inl (fs))), (cm, .inl (G.2.1, 132, .inl (fm))), (co, .inr (0, [.ref wa, .ref wb, .ref cu, .ref cf, .ref cp, .int 0, .int 0])), (cf, .inl (G.2.1, 4, .inl (ff)))] s.heap := hP
  have hw0 : ∀ w ∈ u_ws RX0 TX0 7, w ∈ wsX7_witness := by decide +kernel
  have hf286 := hts (.fieldLink RX7 286 "Nettle$Comparison" "first" "[I") (by decide +kernel)
  refine lv_iload_n hx hb dX7_witness_0 rfl (lv_at hl 1 rfl) ?_
  refine lv_if_lt (tgt := 9) hx hb dX7_witness_1 (by decide) (fun h9 => absurd h9 (by decide)) (fun _ => ?_)
  refine lv_iload_n hx hb dX7_witness_4 rfl (lv_at hl 1 rfl) ?_
  refine lv_iconst (v := 4) hx hb dX7_witness_5 (by decide) ?_
  refine lv_icmp_lt (tgt := 19) hx hb dX7_witness_6 (by decide) (fun _ => ?_) (fun h9 => absurd (by decide) h9)
  refine lv_aload_n hx hb dX7_witness_19 rfl (lv_at hl 0 rfl) ?_
  refine zcall (wr := []) (va_runV (As := []) (rest := []) ⟨hx, hb, hml, hown, hts⟩ (z_X7_compared0 l G x wa wb su cu tr co lo pk ro rb cc cs cm (fc) (fs) (fm) cf cp (ff) s.heap.size) (cwV 0 hts gX7_witness_X7_compared rfl rfl rfl (by decide +kernel) ⟨Nat.le_of_ble_eq_true rfl, Nat.le_of_ble_eq_true rfl⟩) (zPreV (Wc := [(x, .inr (7, [.ref wa, .ref wb, .ref su, .ref cu, .ref tr, .ref co, .ref lo, .ref pk])), (cu, .inr (1, [.ref wa, .ref wb, .ref cc, .ref cs, .ref cm, .int 0])), (wa, .inr (6, [.ref ro, .int 0, .int 0])), (wb, .inr (6, [.ref rb, .int 0, .int 0])), (cc, .inl (G.2.1, 4, .inl (fc))), (cs, .inl (G.2.1, 132, .inl (fs))), (cm, .inl (G.2.1, 132, .inl (fm))), (co, .inr (0, [.ref wa, .ref wb, .ref cu, .ref cf, .ref cp, .int 0, .int 0])), (cf, .inl (G.2.1, 4, .inl (ff)))]) (q0 := 0) (ci := 7) (q := (RX7, TX7, 8)) hP hD hE hS hA [0, 1, 2, 3, 4, 5, 6, 7, 8] rfl (by decide) rfl rfl) rfl rfl hl.1 rfl (lv_room (Nat.le_of_ble_eq_true rfl)) dX7_witness_20 ⟨Nat.le_of_ble_eq_true rfl, Nat.le_of_ble_eq_true rfl⟩) hP hD hS hA [0, 1, 2, 3, 4, 5, 6, 7, 8] [] rfl rfl (by decide) (by decide) (fun u1 H locs hP hD hS => ?_)
  have hP : va_P G.1 vwCl [(x, .inr (7, [.ref wa, .ref wb, .ref su, .ref cu, .ref tr, .ref co, .ref lo, .ref pk])), (cu, .inr (1, [.ref wa, .ref wb, .ref cc, .ref cs, .ref cm, .int 1])), (cc, .inl (G.2.1, 4, .inl (upd (upd (upd (upd fc 0 1) 1 1) 2 1) 3 1))), (cs, .inl (G.2.1, 132, .inl (upd (upd (upd (upd fs 0 0) 33 0) 66 0) 99 0))), (cm, .inl (G.2.1, 132, .inl (upd (upd (upd (upd fm 0 0) 33 0) 66 0) 99 0))), (cf, .inl (G.2.1, 4, .inl (upd (upd (upd (upd ff 0 (-1)) 1 (-1)) 2 (-1)) 3 (-1)))), (co, .inr (0, [.ref wa, .ref wb, .ref cu, .ref cf, .ref cp, .int 0, .int 1])), (wa, .inr (6, [.ref ro, .int 0, .int 0])), (wb, .inr (6, [.ref rb, .int 0, .int 0]))] H := hP
  have hD : va_D A [(x, .inr (7, [.ref wa, .ref wb, .ref su, .ref cu, .ref tr, .ref co, .ref lo, .ref pk])), (cu, .inr (1, [.ref wa, .ref wb, .ref cc, .ref cs, .ref cm, .int 1])), (cc, .inl (G.2.1, 4, .inl (upd (upd (upd (upd fc 0 1) 1 1) 2 1) 3 1))), (cs, .inl (G.2.1, 132, .inl (upd (upd (upd (upd fs 0 0) 33 0) 66 0) 99 0))), (cm, .inl (G.2.1, 132, .inl (upd (upd (upd (upd fm 0 0) 33 0) 66 0) 99 0))), (cf, .inl (G.2.1, 4, .inl (upd (upd (upd (upd ff 0 (-1)) 1 (-1)) 2 (-1)) 3 (-1)))), (co, .inr (0, [.ref wa, .ref wb, .ref cu, .ref cf, .ref cp, .int 0, .int 1])), (wa, .inr (6, [.ref ro, .int 0, .int 0])), (wb, .inr (6, [.ref rb, .int 0, .int 0]))] := hD
  refine W.eq (g2 := F0 m 23 ls [.ref co]) rfl ?_
  refine va_get (D := G.1) (ci := 0) (v := .ref cf) (C := RX0) (T := TX0) (N := 7) hx hb hts hw0 hown hE.1 hP 6 rfl rfl 3 (by decide) hf286 (fun _ h9 => h9) rfl dX7_witness_23 ?_
  refine lv_iload_n hx hb dX7_witness_26 rfl (lv_at hl 1 rfl) ?_
  refine va_iald hx hb hE.1 hP 5 0 rfl rfl (zin (by decide +kernel)) dX7_witness_27 ?_
  refine zti (v := (-1)) rfl ?_
  exact zend_i hx hb hr hlocks (fun k => [].getD k 0) hP hD hS (Nat.le_of_ble_eq_true rfl) (Nat.le_of_ble_eq_true rfl) dX7_witness_28

set_option maxHeartbeats 4000000 in
set_option maxRecDepth 100000 in
theorem z_X7_witness13 (l : Launch) (G : zG) (x : Nat) (wa : Nat) (wb : Nat) (su : Nat) (cu : Nat) (tr : Nat) (co : Nat) (lo : Nat) (pk : Nat) (cc : Nat) (cs : Nat) (cm : Nat) (cf : Nat) (cp : Nat) (ff : Nat → Int32) : zR l G yX7_witness wsX7_witness { frames := 2, cells := 0, slots := 0, locals := 41 } [(x, .inr (7, [.ref wa, .ref wb, .ref su, .ref cu, .ref tr, .ref co, .ref lo, .ref pk])), (cu, .inr (1, [.ref wa, .ref wb, .ref cc, .ref cs, .ref cm, .int 1])), (co, .inr (0, [.ref wa, .ref wb, .ref cu, .ref cf, .ref cp, .int 0, .int 1])), (cf, .inl (G.2.1, 4, .inl (upd (upd (upd (upd ff 0 (-1)) 1 (-1)) 2 (-1)) 3 (-1))))] [.ref x, .int 3] (some (.int (-1))) (fun u => [(cf, .inl (G.2.1, 4, .inl (upd (upd (upd (upd ff 0 (-1)) 1 (-1)) 2 (-1)) 3 (-1)))), (x, .inr (7, [.ref wa, .ref wb, .ref su, .ref cu, .ref tr, .ref co, .ref lo, .ref pk])), (cu, .inr (1, [.ref wa, .ref wb, .ref cc, .ref cs, .ref cm, .int 1])), (co, .inr (0, [.ref wa, .ref wb, .ref cu, .ref cf, .ref cp, .int 0, .int 1]))]) 0 0 := by
  refine zR_of (cc := cX7_witness) (maxL := 2) (rt := (some .int)) (by decide) rfl (Nat.le_of_ble_eq_true rfl) ?_
  intro p e s m below meth c A ls hx hb hml hr hts hown hlocks hin hA hE hP hD hS hl
  have hl : lv_has ls 2 [(0, .ref x), (1, .int 3)] := hl
  have hown : s.vm.findClass RX7 = some m.cls := hown
  have hP : va_P G.1 vwCl [(x, .inr (7, [.ref wa, .ref wb, .ref su, .ref cu, .ref tr, .ref co, .ref lo, .ref pk])), (cu, .inr (1, [.ref wa, .ref wb, .ref cc, .ref cs, .ref cm, .int 1])), (co, .inr (0, [.ref wa, .ref wb, .ref cu, .ref cf, .ref cp, .int 0, .int 1])), (cf, .inl (G.2.1, 4, .inl (upd (upd (upd (upd ff 0 (-1)) 1 (-1)) 2 (-1)) 3 (-1))))] s.heap := hP
  have hw0 : ∀ w ∈ u_ws RX0 TX0 7, w ∈ wsX7_witness := by decide +kernel
  have hf286 := hts (.fieldLink RX7 286 "Nettle$Comparison" "first" "[I") (by decide +kernel)
  refine lv_iload_n hx hb dX7_witness_0 rfl (lv_at hl 1 rfl) ?_
  refine lv_if_lt (tgt := 9) hx hb dX7_witness_1 (by decide) (fun h9 => absurd h9 (by decide)) (fun _ => ?_)
  refine lv_iload_n hx hb dX7_witness_4 rfl (lv_at hl 1 rfl) ?_
  refine lv_iconst (v := 4) hx hb dX7_witness_5 (by decide) ?_
  refine lv_icmp_lt (tgt := 19) hx hb dX7_witness_6 (by decide) (fun _ => ?_) (fun h9 => absurd (by decide) h9)
  refine lv_aload_n hx hb dX7_witness_19 rfl (lv_at hl 0 rfl) ?_
  refine zcall (wr := [(cf, .inl (G.2.1, 4, .inl (upd (upd (upd (upd ff 0 (-1)) 1 (-1)) 2 (-1)) 3 (-1))))]) (va_runV (As := []) (rest := []) ⟨hx, hb, hml, hown, hts⟩ (z_X7_compared1 l G x wa wb su cu tr co lo pk cc cs cm cf cp s.heap.size) (cwV 0 hts gX7_witness_X7_compared rfl rfl rfl (by decide +kernel) ⟨Nat.le_of_ble_eq_true rfl, Nat.le_of_ble_eq_true rfl⟩) (zPreV (Wc := [(x, .inr (7, [.ref wa, .ref wb, .ref su, .ref cu, .ref tr, .ref co, .ref lo, .ref pk])), (cu, .inr (1, [.ref wa, .ref wb, .ref cc, .ref cs, .ref cm, .int 1])), (co, .inr (0, [.ref wa, .ref wb, .ref cu, .ref cf, .ref cp, .int 0, .int 1]))]) (q0 := 0) (ci := 7) (q := (RX7, TX7, 8)) hP hD hE hS hA [0, 1, 2] rfl (by decide) rfl rfl) rfl rfl hl.1 rfl (lv_room (Nat.le_of_ble_eq_true rfl)) dX7_witness_20 ⟨Nat.le_of_ble_eq_true rfl, Nat.le_of_ble_eq_true rfl⟩) hP hD hS hA [0, 1, 2] [3] rfl rfl (by decide) (by decide) (fun u1 H locs hP hD hS => ?_)
  have hP : va_P G.1 vwCl [(cf, .inl (G.2.1, 4, .inl (upd (upd (upd (upd ff 0 (-1)) 1 (-1)) 2 (-1)) 3 (-1)))), (x, .inr (7, [.ref wa, .ref wb, .ref su, .ref cu, .ref tr, .ref co, .ref lo, .ref pk])), (cu, .inr (1, [.ref wa, .ref wb, .ref cc, .ref cs, .ref cm, .int 1])), (co, .inr (0, [.ref wa, .ref wb, .ref cu, .ref cf, .ref cp, .int 0, .int 1]))] H := hP
  have hD : va_D A [(cf, .inl (G.2.1, 4, .inl (upd (upd (upd (upd ff 0 (-1)) 1 (-1)) 2 (-1)) 3 (-1)))), (x, .inr (7, [.ref wa, .ref wb, .ref su, .ref cu, .ref tr, .ref co, .ref lo, .ref pk])), (cu, .inr (1, [.ref wa, .ref wb, .ref cc, .ref cs, .ref cm, .int 1])), (co, .inr (0, [.ref wa, .ref wb, .ref cu, .ref cf, .ref cp, .int 0, .int 1]))] := hD
  refine W.eq (g2 := F0 m 23 ls [.ref co]) rfl ?_
  refine va_get (D := G.1) (ci := 0) (v := .ref cf) (C := RX0) (T := TX0) (N := 7) hx hb hts hw0 hown hE.1 hP 3 rfl rfl 3 (by decide) hf286 (fun _ h9 => h9) rfl dX7_witness_23 ?_
  refine lv_iload_n hx hb dX7_witness_26 rfl (lv_at hl 1 rfl) ?_
  refine va_iald hx hb hE.1 hP 0 0 rfl rfl (zin (by decide +kernel)) dX7_witness_27 ?_
  refine zti (v := (-1)) rfl ?_
  exact zend_i hx hb hr hlocks (fun k => [].getD k 0) hP hD hS (Nat.le_of_ble_eq_true rfl) (Nat.le_of_ble_eq_true rfl) dX7_witness_28

set_option maxHeartbeats 4000000 in
set_option maxRecDepth 100000 in
theorem z_X7_witnessT (l : Launch) (G : zG) (x : Nat) (wa : Nat) (wb : Nat) (su : Nat) (cu : Nat) (tr : Nat) (co : Nat) (lo : Nat) (pk : Nat) (p0 : Int32) (hl0 : l.stackTraces = false) (hv : p0 < 0 ∨ (¬ p0 < 0 ∧ ¬ p0 < 4)) : zT l G yX7_witness wsX7_witness { frames := 6, cells := 1, slots := 6, locals := 82 } [(x, .inr (7, [.ref wa, .ref wb, .ref su, .ref cu, .ref tr, .ref co, .ref lo, .ref pk]))] [.ref x, .int p0] "java/lang/IllegalArgumentException" [(x, .inr (7, [.ref wa, .ref wb, .ref su, .ref cu, .ref tr, .ref co, .ref lo, .ref pk]))] 1 6 := by
  refine zT_of (cc := cX7_witness) (maxL := 2) (rt := (some .int)) (by decide) rfl (Nat.le_of_ble_eq_true rfl) ?_
  intro p e s m below meth c A ls hx hb hml hr hts hown hlocks ht hA hE hP hD hS hl
  have hl : lv_has ls 2 [(0, .ref x), (1, .int p0)] := hl
  have hown : s.vm.findClass RX7 = some m.cls := hown
  have hP : va_P G.1 vwCl [(x, .inr (7, [.ref wa, .ref wb, .ref su, .ref cu, .ref tr, .ref co, .ref lo, .ref pk]))] s.heap := hP
  have hcl99 := hts (.classLink RX7 99 "java/lang/IllegalArgumentException") (by decide +kernel)
  have hiniIllegalArgumentException := hts (.initialized "java/lang/IllegalArgumentException") (by decide +kernel)
  rcases hv with h1 | ⟨h1, h2⟩
  · refine lv_iload_n hx hb dX7_witness_0 rfl (lv_at hl 1 rfl) ?_
    refine lv_if_lt (tgt := 9) hx hb dX7_witness_1 (by decide) (fun _ => ?_) (fun h9 => absurd h1 h9)
    exact zthrow (ik := 99) (ic := 103) hx hb hl0 hown (by decide +kernel) hcl99 hiniIllegalArgumentException (fun w h => hts w (List.mem_cons_of_mem _ (List.mem_append_right _ h))) (by decide +kernel) (va_Nw.use rfl hE.2.2.2.2.2.2.2.2.2.2.1) (by decide +kernel) (hE.2.2.2.2.2.1 (92, "no such field") (by simp)) hE hP hD hS (hl.1.trans hml.symm) dX7_witness_9 dX7_witness_12 dX7_witness_13 dX7_witness_15 dX7_witness_18 ht (Nat.le_of_ble_eq_true rfl) (Nat.le_of_ble_eq_true rfl) (Nat.le_of_ble_eq_true rfl) (Nat.le_of_ble_eq_true rfl) hlocks (Nat.le_of_ble_eq_true rfl) (Nat.le_of_ble_eq_true rfl)
  · refine lv_iload_n hx hb dX7_witness_0 rfl (lv_at hl 1 rfl) ?_
    refine lv_if_lt (tgt := 9) hx hb dX7_witness_1 (by decide) (fun h9 => absurd h9 h1) (fun _ => ?_)
    refine lv_iload_n hx hb dX7_witness_4 rfl (lv_at hl 1 rfl) ?_
    refine lv_iconst (v := 4) hx hb dX7_witness_5 (by decide) ?_
    refine lv_icmp_lt (tgt := 19) hx hb dX7_witness_6 (by decide) (fun h9 => absurd h9 h2) (fun _ => ?_)
    exact zthrow (ik := 99) (ic := 103) hx hb hl0 hown (by decide +kernel) hcl99 hiniIllegalArgumentException (fun w h => hts w (List.mem_cons_of_mem _ (List.mem_append_right _ h))) (by decide +kernel) (va_Nw.use rfl hE.2.2.2.2.2.2.2.2.2.2.1) (by decide +kernel) (hE.2.2.2.2.2.1 (92, "no such field") (by simp)) hE hP hD hS (hl.1.trans hml.symm) dX7_witness_9 dX7_witness_12 dX7_witness_13 dX7_witness_15 dX7_witness_18 ht (Nat.le_of_ble_eq_true rfl) (Nat.le_of_ble_eq_true rfl) (Nat.le_of_ble_eq_true rfl) (Nat.le_of_ble_eq_true rfl) hlocks (Nat.le_of_ble_eq_true rfl) (Nat.le_of_ble_eq_true rfl)
