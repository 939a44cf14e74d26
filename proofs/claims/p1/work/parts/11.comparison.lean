/-! Comparison and Log -/
theorem dX0_isSettled_0 : decode cX0_isSettled 0 = .ok (.aload_n 0, 1) := by decide +kernel
theorem dX0_isSettled_1 : decode cX0_isSettled 1 = .ok (.getfield 18, 3) := by decide +kernel
theorem dX0_isSettled_4 : decode cX0_isSettled 4 = .ok (.iload_n 1, 1) := by decide +kernel
theorem dX0_isSettled_5 : decode cX0_isSettled 5 = .ok (.iload_n 2, 1) := by decide +kernel
theorem dX0_isSettled_6 : decode cX0_isSettled 6 = .ok (.sipush 256, 3) := by decide +kernel
theorem dX0_isSettled_9 : decode cX0_isSettled 9 = .ok (.irem, 1) := by decide +kernel
set_option maxRecDepth 20000 in
theorem ggX0_isSettled_X6_isSettled : GoodIn wsX0_isSettled wsX6_isSettled := goodIn_r _ [7, 8, 9, 10, 11, 6, 12, 13, 14, 15, 16, 17, 18, 19, 20, 28, 29, 30, 31, 32, 33, 34] (by decide +kernel) (by decide +kernel)
set_option maxRecDepth 20000 in
theorem gX0_isSettled_X6_isSettled : GoodIn wsX0_isSettled (wsV RX0 75 RX6 yX6_isSettled wsX6_isSettled) := goodIn_app (goodIn_of _ (by decide +kernel)) ggX0_isSettled_X6_isSettled
theorem dX0_isSettled_10 : decode cX0_isSettled 10 = .ok (.invokevirtual 75, 3) := by decide +kernel
theorem dX0_isSettled_13 : decode cX0_isSettled 13 = .ok (.ifCond .eq 23, 3) := by decide +kernel
theorem dX0_isSettled_16 : decode cX0_isSettled 16 = .ok (.aload_n 0, 1) := by decide +kernel
theorem dX0_isSettled_17 : decode cX0_isSettled 17 = .ok (.getfield 22, 3) := by decide +kernel
theorem dX0_isSettled_20 : decode cX0_isSettled 20 = .ok (.iload_n 1, 1) := by decide +kernel
theorem dX0_isSettled_21 : decode cX0_isSettled 21 = .ok (.iload_n 2, 1) := by decide +kernel
theorem dX0_isSettled_22 : decode cX0_isSettled 22 = .ok (.sipush 256, 3) := by decide +kernel
theorem dX0_isSettled_25 : decode cX0_isSettled 25 = .ok (.idiv, 1) := by decide +kernel
theorem dX0_isSettled_26 : decode cX0_isSettled 26 = .ok (.invokevirtual 75, 3) := by decide +kernel
theorem dX0_isSettled_29 : decode cX0_isSettled 29 = .ok (.ifCond .eq 7, 3) := by decide +kernel
theorem dX0_isSettled_32 : decode cX0_isSettled 32 = .ok (.iconst 1, 1) := by decide +kernel
theorem dX0_isSettled_33 : decode cX0_isSettled 33 = .ok (.goto 4, 3) := by decide +kernel
theorem dX0_isSettled_37 : decode cX0_isSettled 37 = .ok (.ireturn, 1) := by decide +kernel
theorem dX0_judge_0 : decode cX0_judge 0 = .ok (.aload_n 0, 1) := by decide +kernel
theorem dX0_judge_1 : decode cX0_judge 1 = .ok (.getfield 18, 3) := by decide +kernel
theorem dX0_judge_4 : decode cX0_judge 4 = .ok (.iload_n 2, 1) := by decide +kernel
theorem dX0_judge_5 : decode cX0_judge 5 = .ok (.sipush 256, 3) := by decide +kernel
theorem dX0_judge_8 : decode cX0_judge 8 = .ok (.irem, 1) := by decide +kernel
set_option maxRecDepth 20000 in
theorem ggX0_judge_X6_allows : GoodIn wsX0_judge wsX6_allows := goodIn_r _ [10, 11, 12, 13, 14, 15, 16, 9, 17, 18, 26, 27, 28, 29, 30, 31, 32] (by decide +kernel) (by decide +kernel)
set_option maxRecDepth 20000 in
theorem gX0_judge_X6_allows : GoodIn wsX0_judge (wsV RX0 76 RX6 yX6_allows wsX6_allows) := goodIn_app (goodIn_of _ (by decide +kernel)) ggX0_judge_X6_allows
theorem dX0_judge_9 : decode cX0_judge 9 = .ok (.invokevirtual 76, 3) := by decide +kernel
theorem dX0_judge_12 : decode cX0_judge 12 = .ok (.aload_n 0, 1) := by decide +kernel
theorem dX0_judge_13 : decode cX0_judge 13 = .ok (.getfield 22, 3) := by decide +kernel
theorem dX0_judge_16 : decode cX0_judge 16 = .ok (.iload_n 2, 1) := by decide +kernel
theorem dX0_judge_17 : decode cX0_judge 17 = .ok (.sipush 256, 3) := by decide +kernel
theorem dX0_judge_20 : decode cX0_judge 20 = .ok (.idiv, 1) := by decide +kernel
theorem dX0_judge_21 : decode cX0_judge 21 = .ok (.invokevirtual 76, 3) := by decide +kernel
theorem dX0_judge_24 : decode cX0_judge 24 = .ok (.if_icmp .ne 4, 3) := by decide +kernel
theorem dX0_judge_27 : decode cX0_judge 27 = .ok (.return_, 1) := by decide +kernel
theorem dX0_walk_0 : decode cX0_walk 0 = .ok (.iload_n 1, 1) := by decide +kernel
theorem dX0_walk_1 : decode cX0_walk 1 = .ok (.iconst 4, 1) := by decide +kernel
theorem dX0_walk_2 : decode cX0_walk 2 = .ok (.if_icmp .ge 12, 3) := by decide +kernel
theorem dX0_walk_5 : decode cX0_walk 5 = .ok (.aload_n 0, 1) := by decide +kernel
theorem dX0_walk_6 : decode cX0_walk 6 = .ok (.iload_n 1, 1) := by decide +kernel
theorem dX0_walk_7 : decode cX0_walk 7 = .ok (.iload_n 2, 1) := by decide +kernel
set_option maxRecDepth 20000 in
theorem ggX0_walk_X0_isSettled : GoodIn wsX0_walk wsX0_isSettled := goodIn_r _ [8, 9, 10, 11, 12, 13, 14, 15, 16, 17, 18, 19, 20, 21, 22, 23, 24, 25, 26, 27, 28, 66, 67, 68, 69, 70, 71, 72, 79, 80, 81, 82, 83, 84, 85] (by decide +kernel) (by decide +kernel)
set_option maxRecDepth 20000 in
theorem gX0_walk_X0_isSettled : GoodIn wsX0_walk (wsV RX0 47 RX0 yX0_isSettled wsX0_isSettled) := goodIn_app (goodIn_of _ (by decide +kernel)) ggX0_walk_X0_isSettled
theorem dX0_walk_8 : decode cX0_walk 8 = .ok (.invokevirtual 47, 3) := by decide +kernel
theorem dX0_walk_11 : decode cX0_walk 11 = .ok (.ifCond .eq 11, 3) := by decide +kernel
theorem dX0_walk_14 : decode cX0_walk 14 = .ok (.aload_n 0, 1) := by decide +kernel
theorem dX0_walk_15 : decode cX0_walk 15 = .ok (.iload_n 1, 1) := by decide +kernel
theorem dX0_walk_16 : decode cX0_walk 16 = .ok (.iload_n 2, 1) := by decide +kernel
theorem dX0_walk_17 : decode cX0_walk 17 = .ok (.iload_n 3, 1) := by decide +kernel
set_option maxRecDepth 20000 in
theorem ggX0_walk_X0_judge : GoodIn wsX0_walk wsX0_judge := goodIn_r _ [32, 9, 10, 33, 34, 3, 35, 36, 37, 14, 38, 39, 16, 40, 17, 18, 19, 20, 21, 66, 67, 68, 69, 70, 71, 72, 79, 80, 81, 82, 83, 84, 85] (by decide +kernel) (by decide +kernel)
set_option maxRecDepth 20000 in
theorem gX0_walk_X0_judge : GoodIn wsX0_walk (wsV RX0 51 RX0 yX0_judge wsX0_judge) := goodIn_app (goodIn_of _ (by decide +kernel)) ggX0_walk_X0_judge
theorem dX0_walk_18 : decode cX0_walk 18 = .ok (.invokevirtual 51, 3) := by decide +kernel
theorem dX0_walk_21 : decode cX0_walk 21 = .ok (.return_, 1) := by decide +kernel
theorem dX0_refresh_0 : decode cX0_refresh 0 = .ok (.aload_n 0, 1) := by decide +kernel
theorem dX0_refresh_1 : decode cX0_refresh 1 = .ok (.getfield 29, 3) := by decide +kernel
theorem dX0_refresh_4 : decode cX0_refresh 4 = .ok (.ifCond .eq 4, 3) := by decide +kernel
theorem dX0_refresh_8 : decode cX0_refresh 8 = .ok (.aload_n 0, 1) := by decide +kernel
theorem dX0_refresh_9 : decode cX0_refresh 9 = .ok (.iconst 0, 1) := by decide +kernel
theorem dX0_refresh_10 : decode cX0_refresh 10 = .ok (.putfield 33, 3) := by decide +kernel
theorem dX0_refresh_13 : decode cX0_refresh 13 = .ok (.iconst 0, 1) := by decide +kernel
theorem dX0_refresh_14 : decode cX0_refresh 14 = .ok (.istore_n 1, 1) := by decide +kernel
theorem dX0_refresh_15 : decode cX0_refresh 15 = .ok (.iload_n 1, 1) := by decide +kernel
theorem dX0_refresh_16 : decode cX0_refresh 16 = .ok (.iconst 4, 1) := by decide +kernel
theorem dX0_refresh_17 : decode cX0_refresh 17 = .ok (.if_icmp .ge 16, 3) := by decide +kernel
theorem dX0_refresh_20 : decode cX0_refresh 20 = .ok (.aload_n 0, 1) := by decide +kernel
theorem dX0_refresh_21 : decode cX0_refresh 21 = .ok (.getfield 9, 3) := by decide +kernel
theorem dX0_refresh_24 : decode cX0_refresh 24 = .ok (.iload_n 1, 1) := by decide +kernel
theorem dX0_refresh_25 : decode cX0_refresh 25 = .ok (.iconst (-1), 1) := by decide +kernel
theorem dX0_refresh_26 : decode cX0_refresh 26 = .ok (.iastore, 1) := by decide +kernel
theorem dX0_refresh_27 : decode cX0_refresh 27 = .ok (.iinc 1 1, 3) := by decide +kernel
theorem dX0_refresh_30 : decode cX0_refresh 30 = .ok (.goto (-15), 3) := by decide +kernel
theorem dX0_refresh_33 : decode cX0_refresh 33 = .ok (.aload_n 0, 1) := by decide +kernel
theorem dX0_refresh_34 : decode cX0_refresh 34 = .ok (.iconst 0, 1) := by decide +kernel
theorem dX0_refresh_35 : decode cX0_refresh 35 = .ok (.aload_n 0, 1) := by decide +kernel
theorem dX0_refresh_36 : decode cX0_refresh 36 = .ok (.getfield 18, 3) := by decide +kernel
set_option maxRecDepth 20000 in
theorem ggX0_refresh_X6_deciders : GoodIn wsX0_refresh wsX6_deciders := goodIn_r _ [10, 11, 12, 13, 14, 15, 16, 17, 18, 84, 85, 86, 87, 88, 89, 90] (by decide +kernel) (by decide +kernel)
set_option maxRecDepth 20000 in
theorem gX0_refresh_X6_deciders : GoodIn wsX0_refresh (wsV RX0 37 RX6 yX6_deciders wsX6_deciders) := goodIn_app (goodIn_of _ (by decide +kernel)) ggX0_refresh_X6_deciders
theorem dX0_refresh_39 : decode cX0_refresh 39 = .ok (.invokevirtual 37, 3) := by decide +kernel
theorem dX0_refresh_42 : decode cX0_refresh 42 = .ok (.aload_n 0, 1) := by decide +kernel
theorem dX0_refresh_43 : decode cX0_refresh 43 = .ok (.getfield 22, 3) := by decide +kernel
theorem dX0_refresh_46 : decode cX0_refresh 46 = .ok (.invokevirtual 37, 3) := by decide +kernel
theorem dX0_refresh_49 : decode cX0_refresh 49 = .ok (.bipush 8, 2) := by decide +kernel
theorem dX0_refresh_51 : decode cX0_refresh 51 = .ok (.ishl, 1) := by decide +kernel
theorem dX0_refresh_52 : decode cX0_refresh 52 = .ok (.ior, 1) := by decide +kernel
theorem dX0_refresh_53 : decode cX0_refresh 53 = .ok (.iconst 1, 1) := by decide +kernel
set_option maxRecDepth 20000 in
theorem ggX0_refresh_X0_walk : GoodIn wsX0_refresh wsX0_walk := goodIn_r _ [22, 23, 24, 25, 26, 27, 28, 21, 29, 4, 5, 30, 31, 32, 9, 33, 12, 34, 35, 36, 37, 11, 38, 39, 40, 16, 41, 42, 43, 44, 45, 46, 47, 2, 3, 48, 49, 50, 51, 52, 53, 54, 55, 56, 57, 58, 59, 60, 61, 62, 63, 64, 65, 66, 67, 68, 69, 70, 71, 72, 73, 74, 75, 76, 19, 20, 77, 78, 79, 80, 81, 82, 83, 91, 92, 93, 94, 95, 96, 84, 85, 86, 87, 88, 89, 90] (by decide +kernel) (by decide +kernel)
set_option maxRecDepth 20000 in
theorem gX0_refresh_X0_walk : GoodIn wsX0_refresh (va_wsS RX0 43 yX0_walk wsX0_walk) := goodIn_app (goodIn_of _ (by decide +kernel)) ggX0_refresh_X0_walk
theorem dX0_refresh_54 : decode cX0_refresh 54 = .ok (.invokestatic 43, 3) := by decide +kernel
theorem dX0_refresh_57 : decode cX0_refresh 57 = .ok (.aload_n 0, 1) := by decide +kernel
theorem dX0_refresh_58 : decode cX0_refresh 58 = .ok (.iconst 1, 1) := by decide +kernel
theorem dX0_refresh_59 : decode cX0_refresh 59 = .ok (.putfield 29, 3) := by decide +kernel
theorem dX0_refresh_62 : decode cX0_refresh 62 = .ok (.return_, 1) := by decide +kernel
theorem dX0_refresh_7 : decode cX0_refresh 7 = .ok (.return_, 1) := by decide +kernel
theorem dX2_placeOf_0 : decode cX2_placeOf 0 = .ok (.iconst 0, 1) := by decide +kernel
theorem dX2_placeOf_1 : decode cX2_placeOf 1 = .ok (.istore 4, 2) := by decide +kernel
theorem dX2_placeOf_3 : decode cX2_placeOf 3 = .ok (.iload 4, 2) := by decide +kernel
theorem dX2_placeOf_5 : decode cX2_placeOf 5 = .ok (.aload_n 0, 1) := by decide +kernel
theorem dX2_placeOf_6 : decode cX2_placeOf 6 = .ok (.getfield 28, 3) := by decide +kernel
theorem dX2_placeOf_9 : decode cX2_placeOf 9 = .ok (.if_icmp .ge 55, 3) := by decide +kernel
theorem dX2_placeOf_64 : decode cX2_placeOf 64 = .ok (.iconst (-1), 1) := by decide +kernel
theorem dX2_placeOf_65 : decode cX2_placeOf 65 = .ok (.ireturn, 1) := by decide +kernel
theorem dX2_count_0 : decode cX2_count 0 = .ok (.aload_n 0, 1) := by decide +kernel
theorem dX2_count_1 : decode cX2_count 1 = .ok (.dup, 1) := by decide +kernel
theorem dX2_count_2 : decode cX2_count 2 = .ok (.getfield 15, 3) := by decide +kernel
theorem dX2_count_5 : decode cX2_count 5 = .ok (.iconst 1, 1) := by decide +kernel
theorem dX2_count_6 : decode cX2_count 6 = .ok (.iadd, 1) := by decide +kernel
theorem dX2_count_7 : decode cX2_count 7 = .ok (.putfield 15, 3) := by decide +kernel
theorem dX2_count_10 : decode cX2_count 10 = .ok (.iload_n 1, 1) := by decide +kernel
theorem dX2_count_11 : decode cX2_count 11 = .ok (.ifCond .eq 13, 3) := by decide +kernel
theorem dX2_count_24 : decode cX2_count 24 = .ok (.iload_n 2, 1) := by decide +kernel
theorem dX2_count_25 : decode cX2_count 25 = .ok (.ifCond .eq 13, 3) := by decide +kernel
theorem dX2_count_28 : decode cX2_count 28 = .ok (.aload_n 0, 1) := by decide +kernel
theorem dX2_count_29 : decode cX2_count 29 = .ok (.dup, 1) := by decide +kernel
theorem dX2_count_30 : decode cX2_count 30 = .ok (.getfield 22, 3) := by decide +kernel
theorem dX2_count_33 : decode cX2_count 33 = .ok (.iconst 1, 1) := by decide +kernel
theorem dX2_count_34 : decode cX2_count 34 = .ok (.iadd, 1) := by decide +kernel
theorem dX2_count_35 : decode cX2_count 35 = .ok (.putfield 22, 3) := by decide +kernel
theorem dX2_count_38 : decode cX2_count 38 = .ok (.return_, 1) := by decide +kernel
set_option maxHeartbeats 4000000 in
set_option maxRecDepth 100000 in
theorem z_X0_isSettled (l : Launch) (G : zG) (co : Nat) (wa : Nat) (wb : Nat) (cu : Nat) (ro : Nat) (rb : Nat) (cf : Nat) (cp : Nat) (fsh : Int32) : zR l G yX0_isSettled wsX0_isSettled { frames := 2, cells := 0, slots := 0, locals := 45 } [(co, .inr (0, [.ref wa, .ref wb, .ref cu, .ref cf, .ref cp, .int 0, .int fsh])), (wa, .inr (6, [.ref ro, .int 0, .int 0])), (wb, .inr (6, [.ref rb, .int 0, .int 0]))] [.ref co, .int 0, .int 0] (some (.int 1)) (fun u => [(co, .inr (0, [.ref wa, .ref wb, .ref cu, .ref cf, .ref cp, .int 0, .int fsh])), (wa, .inr (6, [.ref ro, .int 0, .int 0])), (wb, .inr (6, [.ref rb, .int 0, .int 0]))]) 0 0 := by
  refine zR_of (cc := cX0_isSettled) (maxL := 3) (rt := (some .boolean)) (by decide) rfl (Nat.le_of_ble_eq_true rfl) ?_
  intro p e s m below meth c A ls hx hb hml hr hts hown hlocks hin hA hE hP hD hS hl
  have hl : lv_has ls 3 [(0, .ref co), (1, .int 0), (2, .int 0)] := hl
  have hown : s.vm.findClass RX0 = some m.cls := hown
  have hP : va_P G.1 vwCl [(co, .inr (0, [.ref wa, .ref wb, .ref cu, .ref cf, .ref cp, .int 0, .int fsh])), (wa, .inr (6, [.ref ro, .int 0, .int 0])), (wb, .inr (6, [.ref rb, .int 0, .int 0]))] s.heap := hP
  have hw0 : ∀ w ∈ u_ws RX0 TX0 7, w ∈ wsX0_isSettled := by decide +kernel
  have hf18 := hts (.fieldLink RX0 18 "Nettle$Comparison" "now" "LNettle$Wall;") (by decide +kernel)
  have hf22 := hts (.fieldLink RX0 22 "Nettle$Comparison" "old" "LNettle$Wall;") (by decide +kernel)
  refine lv_aload_n hx hb dX0_isSettled_0 rfl (lv_at hl 0 rfl) ?_
  refine va_get (D := G.1) (ci := 0) (v := .ref wa) (C := RX0) (T := TX0) (N := 7) hx hb hts hw0 hown hE.1 hP 0 rfl rfl 0 (by decide) hf18 (fun _ h9 => h9) rfl dX0_isSettled_1 ?_
  refine lv_iload_n hx hb dX0_isSettled_4 rfl (lv_at hl 1 rfl) ?_
  refine lv_iload_n hx hb dX0_isSettled_5 rfl (lv_at hl 2 rfl) ?_
  refine lv_sipush (v := 256) hx hb dX0_isSettled_6 (by decide) ?_
  refine lv_irem hx hb dX0_isSettled_9 (by decide) ?_
  refine zti (v := 0) (by decide) ?_
  refine zcall (wr := [(co, .inr (0, [.ref wa, .ref wb, .ref cu, .ref cf, .ref cp, .int 0, .int fsh])), (wb, .inr (6, [.ref rb, .int 0, .int 0]))]) (va_runV (As := [.int 0, .int 0]) (rest := []) ⟨hx, hb, hml, hown, hts⟩ (z_X6_isSettled l G wa ro 0 0 s.heap.size) (cwV 2 hts gX0_isSettled_X6_isSettled rfl rfl rfl (by decide +kernel) ⟨Nat.le_of_ble_eq_true rfl, Nat.le_of_ble_eq_true rfl⟩) (zPreV (Wc := [(wa, .inr (6, [.ref ro, .int 0, .int 0]))]) (q0 := 1) (ci := 6) (q := (RX6, TX6, 3)) hP hD hE hS hA [1] rfl (by decide) rfl rfl) rfl rfl hl.1 rfl (lv_room (Nat.le_of_ble_eq_true rfl)) dX0_isSettled_10 ⟨Nat.le_of_ble_eq_true rfl, Nat.le_of_ble_eq_true rfl⟩) hP hD hS hA [1] [0, 2] rfl rfl (by decide) (by decide) (fun u1 H locs hP hD hS => ?_)
  have hP : va_P G.1 vwCl [(co, .inr (0, [.ref wa, .ref wb, .ref cu, .ref cf, .ref cp, .int 0, .int fsh])), (wb, .inr (6, [.ref rb, .int 0, .int 0])), (wa, .inr (6, [.ref ro, .int 0, .int 0]))] H := hP
  have hD : va_D A [(co, .inr (0, [.ref wa, .ref wb, .ref cu, .ref cf, .ref cp, .int 0, .int fsh])), (wb, .inr (6, [.ref rb, .int 0, .int 0])), (wa, .inr (6, [.ref ro, .int 0, .int 0]))] := hD
  refine W.eq (g2 := F0 m 13 ls [.int 1]) rfl ?_
  refine lv_if_eq (tgt := 36) hx hb dX0_isSettled_13 (by decide) (fun h9 => absurd h9 (by decide)) (fun _ => ?_)
  refine lv_aload_n hx hb dX0_isSettled_16 rfl (lv_at hl 0 rfl) ?_
  refine va_get (D := G.1) (ci := 0) (v := .ref wb) (C := RX0) (T := TX0) (N := 7) hx hb hts hw0 hown hE.1 hP 0 rfl rfl 1 (by decide) hf22 (fun _ h9 => h9) rfl dX0_isSettled_17 ?_
  refine lv_iload_n hx hb dX0_isSettled_20 rfl (lv_at hl 1 rfl) ?_
  refine lv_iload_n hx hb dX0_isSettled_21 rfl (lv_at hl 2 rfl) ?_
  refine lv_sipush (v := 256) hx hb dX0_isSettled_22 (by decide) ?_
  refine lv_idiv hx hb dX0_isSettled_25 (by decide) ?_
  refine zti (v := 0) (by decide) ?_
  refine zcall (wr := [(co, .inr (0, [.ref wa, .ref wb, .ref cu, .ref cf, .ref cp, .int 0, .int fsh])), (wa, .inr (6, [.ref ro, .int 0, .int 0]))]) (va_runV (As := [.int 0, .int 0]) (rest := []) ⟨hx, hb, hml, hown, hts⟩ (z_X6_isSettled l G wb rb 0 0 H.size) (cwV 2 hts gX0_isSettled_X6_isSettled rfl rfl rfl (by decide +kernel) ⟨Nat.le_of_ble_eq_true rfl, Nat.le_of_ble_eq_true rfl⟩) (zPreV (Wc := [(wb, .inr (6, [.ref rb, .int 0, .int 0]))]) (q0 := 1) (ci := 6) (q := (RX6, TX6, 3)) hP hD hE hS hA [1] rfl (by decide) rfl rfl) rfl rfl hl.1 rfl (lv_room (Nat.le_of_ble_eq_true rfl)) dX0_isSettled_26 ⟨Nat.le_of_ble_eq_true rfl, Nat.le_of_ble_eq_true rfl⟩) hP hD hS hA [1] [0, 2] rfl rfl (by decide) (by decide) (fun u2 H locs hP hD hS => ?_)
  have hP : va_P G.1 vwCl [(co, .inr (0, [.ref wa, .ref wb, .ref cu, .ref cf, .ref cp, .int 0, .int fsh])), (wa, .inr (6, [.ref ro, .int 0, .int 0])), (wb, .inr (6, [.ref rb, .int 0, .int 0]))] H := hP
  have hD : va_D A [(co, .inr (0, [.ref wa, .ref wb, .ref cu, .ref cf, .ref cp, .int 0, .int fsh])), (wa, .inr (6, [.ref ro, .int 0, .int 0])), (wb, .inr (6, [.ref rb, .int 0, .int 0]))] := hD
  refine W.eq (g2 := F0 m 29 ls [.int 1]) rfl ?_
  refine lv_if_eq (tgt := 36) hx hb dX0_isSettled_29 (by decide) (fun h9 => absurd h9 (by decide)) (fun _ => ?_)
  refine lv_iconst (v := 1) hx hb dX0_isSettled_32 (by decide) ?_
  refine lv_goto (tgt := 37) hx hb dX0_isSettled_33 (by decide) ?_
  exact zend_z hx hb hr hlocks rfl (fun k => [].getD k 0) hP hD hS (Nat.le_of_ble_eq_true rfl) (Nat.le_of_ble_eq_true rfl) dX0_isSettled_37

set_option maxHeartbeats 4000000 in
set_option maxRecDepth 100000 in
theorem z_X0_judge (l : Launch) (G : zG) (co : Nat) (wa : Nat) (wb : Nat) (cu : Nat) (ro : Nat) (rb : Nat) (cf : Nat) (cp : Nat) (fsh : Int32) : zR l G yX0_judge wsX0_judge { frames := 2, cells := 0, slots := 0, locals := 44 } [(co, .inr (0, [.ref wa, .ref wb, .ref cu, .ref cf, .ref cp, .int 0, .int fsh])), (wa, .inr (6, [.ref ro, .int 0, .int 0])), (wb, .inr (6, [.ref rb, .int 0, .int 0]))] [.ref co, .int 0, .int 0, .int 1] none (fun u => [(co, .inr (0, [.ref wa, .ref wb, .ref cu, .ref cf, .ref cp, .int 0, .int fsh])), (wa, .inr (6, [.ref ro, .int 0, .int 0])), (wb, .inr (6, [.ref rb, .int 0, .int 0]))]) 0 0 := by
  refine zR_of (cc := cX0_judge) (maxL := 5) (rt := none) (by decide) rfl (Nat.le_of_ble_eq_true rfl) ?_
  intro p e s m below meth c A ls hx hb hml hr hts hown hlocks hin hA hE hP hD hS hl
  have hl : lv_has ls 5 [(0, .ref co), (1, .int 0), (2, .int 0), (3, .int 1)] := hl
  have hown : s.vm.findClass RX0 = some m.cls := hown
  have hP : va_P G.1 vwCl [(co, .inr (0, [.ref wa, .ref wb, .ref cu, .ref cf, .ref cp, .int 0, .int fsh])), (wa, .inr (6, [.ref ro, .int 0, .int 0])), (wb, .inr (6, [.ref rb, .int 0, .int 0]))] s.heap := hP
  have hw0 : ∀ w ∈ u_ws RX0 TX0 7, w ∈ wsX0_judge := by decide +kernel
  have hf18 := hts (.fieldLink RX0 18 "Nettle$Comparison" "now" "LNettle$Wall;") (by decide +kernel)
  have hf22 := hts (.fieldLink RX0 22 "Nettle$Comparison" "old" "LNettle$Wall;") (by decide +kernel)
  refine lv_aload_n hx hb dX0_judge_0 rfl (lv_at hl 0 rfl) ?_
  refine va_get (D := G.1) (ci := 0) (v := .ref wa) (C := RX0) (T := TX0) (N := 7) hx hb hts hw0 hown hE.1 hP 0 rfl rfl 0 (by decide) hf18 (fun _ h9 => h9) rfl dX0_judge_1 ?_
  refine lv_iload_n hx hb dX0_judge_4 rfl (lv_at hl 2 rfl) ?_
  refine lv_sipush (v := 256) hx hb dX0_judge_5 (by decide) ?_
  refine lv_irem hx hb dX0_judge_8 (by decide) ?_
  refine zti (v := 0) (by decide) ?_
  refine zcall (wr := [(co, .inr (0, [.ref wa, .ref wb, .ref cu, .ref cf, .ref cp, .int 0, .int fsh])), (wb, .inr (6, [.ref rb, .int 0, .int 0]))]) (va_runV (As := [.int 0]) (rest := []) ⟨hx, hb, hml, hown, hts⟩ (z_X6_allows l G wa ro 0 s.heap.size) (cwV 1 hts gX0_judge_X6_allows rfl rfl rfl (by decide +kernel) ⟨Nat.le_of_ble_eq_true rfl, Nat.le_of_ble_eq_true rfl⟩) (zPreV (Wc := [(wa, .inr (6, [.ref ro, .int 0, .int 0]))]) (q0 := 1) (ci := 6) (q := (RX6, TX6, 3)) hP hD hE hS hA [1] rfl (by decide) rfl rfl) rfl rfl hl.1 rfl (lv_room (Nat.le_of_ble_eq_true rfl)) dX0_judge_9 ⟨Nat.le_of_ble_eq_true rfl, Nat.le_of_ble_eq_true rfl⟩) hP hD hS hA [1] [0, 2] rfl rfl (by decide) (by decide) (fun u1 H locs hP hD hS => ?_)
  have hP : va_P G.1 vwCl [(co, .inr (0, [.ref wa, .ref wb, .ref cu, .ref cf, .ref cp, .int 0, .int fsh])), (wb, .inr (6, [.ref rb, .int 0, .int 0])), (wa, .inr (6, [.ref ro, .int 0, .int 0]))] H := hP
  have hD : va_D A [(co, .inr (0, [.ref wa, .ref wb, .ref cu, .ref cf, .ref cp, .int 0, .int fsh])), (wb, .inr (6, [.ref rb, .int 0, .int 0])), (wa, .inr (6, [.ref ro, .int 0, .int 0]))] := hD
  refine W.eq (g2 := F0 m 12 ls [.int 0]) rfl ?_
  refine lv_aload_n hx hb dX0_judge_12 rfl (lv_at hl 0 rfl) ?_
  refine va_get (D := G.1) (ci := 0) (v := .ref wb) (C := RX0) (T := TX0) (N := 7) hx hb hts hw0 hown hE.1 hP 0 rfl rfl 1 (by decide) hf22 (fun _ h9 => h9) rfl dX0_judge_13 ?_
  refine lv_iload_n hx hb dX0_judge_16 rfl (lv_at hl 2 rfl) ?_
  refine lv_sipush (v := 256) hx hb dX0_judge_17 (by decide) ?_
  refine lv_idiv hx hb dX0_judge_20 (by decide) ?_
  refine zti (v := 0) (by decide) ?_
  refine zcall (wr := [(co, .inr (0, [.ref wa, .ref wb, .ref cu, .ref cf, .ref cp, .int 0, .int fsh])), (wa, .inr (6, [.ref ro, .int 0, .int 0]))]) (va_runV (As := [.int 0]) (rest := [.int 0]) ⟨hx, hb, hml, hown, hts⟩ (z_X6_allows l G wb rb 0 H.size) (cwV 1 hts gX0_judge_X6_allows rfl rfl rfl (by decide +kernel) ⟨Nat.le_of_ble_eq_true rfl, Nat.le_of_ble_eq_true rfl⟩) (zPreV (Wc := [(wb, .inr (6, [.ref rb, .int 0, .int 0]))]) (q0 := 1) (ci := 6) (q := (RX6, TX6, 3)) hP hD hE hS hA [1] rfl (by decide) rfl rfl) rfl rfl hl.1 rfl (lv_room (Nat.le_of_ble_eq_true rfl)) dX0_judge_21 ⟨Nat.le_of_ble_eq_true rfl, Nat.le_of_ble_eq_true rfl⟩) hP hD hS hA [1] [0, 2] rfl rfl (by decide) (by decide) (fun u2 H locs hP hD hS => ?_)
  have hP : va_P G.1 vwCl [(co, .inr (0, [.ref wa, .ref wb, .ref cu, .ref cf, .ref cp, .int 0, .int fsh])), (wa, .inr (6, [.ref ro, .int 0, .int 0])), (wb, .inr (6, [.ref rb, .int 0, .int 0]))] H := hP
  have hD : va_D A [(co, .inr (0, [.ref wa, .ref wb, .ref cu, .ref cf, .ref cp, .int 0, .int fsh])), (wa, .inr (6, [.ref ro, .int 0, .int 0])), (wb, .inr (6, [.ref rb, .int 0, .int 0]))] := hD
  refine W.eq (g2 := F0 m 24 ls [.int 0, .int 0]) rfl ?_
  refine lv_icmp_ne (tgt := 28) hx hb dX0_judge_24 (by decide) (fun h9 => absurd (by decide) h9) (fun _ => ?_)
  exact zend_v hx hb hr hlocks (fun k => [].getD k 0) hP hD hS (Nat.le_of_ble_eq_true rfl) (Nat.le_of_ble_eq_true rfl) dX0_judge_27

set_option maxHeartbeats 4000000 in
set_option maxRecDepth 100000 in
theorem z_X0_walk (l : Launch) (G : zG) (co : Nat) (wa : Nat) (wb : Nat) (cu : Nat) (ro : Nat) (rb : Nat) (cf : Nat) (cp : Nat) (fsh : Int32) : zR l G yX0_walk wsX0_walk { frames := 3, cells := 0, slots := 0, locals := 68 } [(co, .inr (0, [.ref wa, .ref wb, .ref cu, .ref cf, .ref cp, .int 0, .int fsh])), (wa, .inr (6, [.ref ro, .int 0, .int 0])), (wb, .inr (6, [.ref rb, .int 0, .int 0]))] [.ref co, .int 0, .int 0, .int 1] none (fun u => [(co, .inr (0, [.ref wa, .ref wb, .ref cu, .ref cf, .ref cp, .int 0, .int fsh])), (wa, .inr (6, [.ref ro, .int 0, .int 0])), (wb, .inr (6, [.ref rb, .int 0, .int 0]))]) 0 0 := by
  refine zR_of (cc := cX0_walk) (maxL := 8) (rt := none) (by decide) rfl (Nat.le_of_ble_eq_true rfl) ?_
  intro p e s m below meth c A ls hx hb hml hr hts hown hlocks hin hA hE hP hD hS hl
  have hl : lv_has ls 8 [(0, .ref co), (1, .int 0), (2, .int 0), (3, .int 1)] := hl
  have hown : s.vm.findClass RX0 = some m.cls := hown
  have hP : va_P G.1 vwCl [(co, .inr (0, [.ref wa, .ref wb, .ref cu, .ref cf, .ref cp, .int 0, .int fsh])), (wa, .inr (6, [.ref ro, .int 0, .int 0])), (wb, .inr (6, [.ref rb, .int 0, .int 0]))] s.heap := hP
  refine lv_iload_n hx hb dX0_walk_0 rfl (lv_at hl 1 rfl) ?_
  refine lv_iconst (v := 4) hx hb dX0_walk_1 (by decide) ?_
  refine lv_icmp_ge (tgt := 14) hx hb dX0_walk_2 (by decide) (fun h9 => absurd h9 (by decide)) (fun _ => ?_)
  refine lv_aload_n hx hb dX0_walk_5 rfl (lv_at hl 0 rfl) ?_
  refine lv_iload_n hx hb dX0_walk_6 rfl (lv_at hl 1 rfl) ?_
  refine lv_iload_n hx hb dX0_walk_7 rfl (lv_at hl 2 rfl) ?_
  refine zcall (wr := []) (va_runV (As := [.int 0, .int 0]) (rest := []) ⟨hx, hb, hml, hown, hts⟩ (z_X0_isSettled l G co wa wb cu ro rb cf cp fsh s.heap.size) (cwV 2 hts gX0_walk_X0_isSettled rfl rfl rfl (by decide +kernel) ⟨Nat.le_of_ble_eq_true rfl, Nat.le_of_ble_eq_true rfl⟩) (zPreV (Wc := [(co, .inr (0, [.ref wa, .ref wb, .ref cu, .ref cf, .ref cp, .int 0, .int fsh])), (wa, .inr (6, [.ref ro, .int 0, .int 0])), (wb, .inr (6, [.ref rb, .int 0, .int 0]))]) (q0 := 0) (ci := 0) (q := (RX0, TX0, 7)) hP hD hE hS hA [0, 1, 2] rfl (by decide) rfl rfl) rfl rfl hl.1 rfl (lv_room (Nat.le_of_ble_eq_true rfl)) dX0_walk_8 ⟨Nat.le_of_ble_eq_true rfl, Nat.le_of_ble_eq_true rfl⟩) hP hD hS hA [0, 1, 2] [] rfl rfl (by decide) (by decide) (fun u1 H locs hP hD hS => ?_)
  have hP : va_P G.1 vwCl [(co, .inr (0, [.ref wa, .ref wb, .ref cu, .ref cf, .ref cp, .int 0, .int fsh])), (wa, .inr (6, [.ref ro, .int 0, .int 0])), (wb, .inr (6, [.ref rb, .int 0, .int 0]))] H := hP
  have hD : va_D A [(co, .inr (0, [.ref wa, .ref wb, .ref cu, .ref cf, .ref cp, .int 0, .int fsh])), (wa, .inr (6, [.ref ro, .int 0, .int 0])), (wb, .inr (6, [.ref rb, .int 0, .int 0]))] := hD
  refine W.eq (g2 := F0 m 11 ls [.int 1]) rfl ?_
  refine lv_if_eq (tgt := 22) hx hb dX0_walk_11 (by decide) (fun h9 => absurd h9 (by decide)) (fun _ => ?_)
  refine lv_aload_n hx hb dX0_walk_14 rfl (lv_at hl 0 rfl) ?_
  refine lv_iload_n hx hb dX0_walk_15 rfl (lv_at hl 1 rfl) ?_
  refine lv_iload_n hx hb dX0_walk_16 rfl (lv_at hl 2 rfl) ?_
  refine lv_iload_n hx hb dX0_walk_17 rfl (lv_at hl 3 rfl) ?_
  refine zcall (wr := []) (va_runV (As := [.int 0, .int 0, .int 1]) (rest := []) ⟨hx, hb, hml, hown, hts⟩ (z_X0_judge l G co wa wb cu ro rb cf cp fsh H.size) (cwV 3 hts gX0_walk_X0_judge rfl rfl rfl (by decide +kernel) ⟨Nat.le_of_ble_eq_true rfl, Nat.le_of_ble_eq_true rfl⟩) (zPreV (Wc := [(co, .inr (0, [.ref wa, .ref wb, .ref cu, .ref cf, .ref cp, .int 0, .int fsh])), (wa, .inr (6, [.ref ro, .int 0, .int 0])), (wb, .inr (6, [.ref rb, .int 0, .int 0]))]) (q0 := 0) (ci := 0) (q := (RX0, TX0, 7)) hP hD hE hS hA [0, 1, 2] rfl (by decide) rfl rfl) rfl rfl hl.1 rfl (lv_room (Nat.le_of_ble_eq_true rfl)) dX0_walk_18 ⟨Nat.le_of_ble_eq_true rfl, Nat.le_of_ble_eq_true rfl⟩) hP hD hS hA [0, 1, 2] [] rfl rfl (by decide) (by decide) (fun u2 H locs hP hD hS => ?_)
  have hP : va_P G.1 vwCl [(co, .inr (0, [.ref wa, .ref wb, .ref cu, .ref cf, .ref cp, .int 0, .int fsh])), (wa, .inr (6, [.ref ro, .int 0, .int 0])), (wb, .inr (6, [.ref rb, .int 0, .int 0]))] H := hP
  have hD : va_D A [(co, .inr (0, [.ref wa, .ref wb, .ref cu, .ref cf, .ref cp, .int 0, .int fsh])), (wa, .inr (6, [.ref ro, .int 0, .int 0])), (wb, .inr (6, [.ref rb, .int 0, .int 0]))] := hD
  refine W.eq (g2 := F0 m 21 ls []) rfl ?_
  exact zend_v hx hb hr hlocks (fun k => [].getD k 0) hP hD hS (Nat.le_of_ble_eq_true rfl) (Nat.le_of_ble_eq_true rfl) dX0_walk_21

set_option maxHeartbeats 4000000 in
set_option maxRecDepth 100000 in
theorem z_X0_refresh0 (l : Launch) (G : zG) (co : Nat) (wa : Nat) (wb : Nat) (cu : Nat) (ro : Nat) (rb : Nat) (cf : Nat) (cp : Nat) (ff : Nat → Int32) : zR l G yX0_refresh wsX0_refresh { frames := 4, cells := 0, slots := 0, locals := 95 } [(co, .inr (0, [.ref wa, .ref wb, .ref cu, .ref cf, .ref cp, .int 0, .int 0])), (wa, .inr (6, [.ref ro, .int 0, .int 0])), (wb, .inr (6, [.ref rb, .int 0, .int 0])), (cf, .inl (G.2.1, 4, .inl (ff)))] [.ref co] none (fun u => [(cf, .inl (G.2.1, 4, .inl (upd (upd (upd (upd ff 0 (-1)) 1 (-1)) 2 (-1)) 3 (-1)))), (co, .inr (0, [.ref wa, .ref wb, .ref cu, .ref cf, .ref cp, .int 0, .int 1])), (wa, .inr (6, [.ref ro, .int 0, .int 0])), (wb, .inr (6, [.ref rb, .int 0, .int 0]))]) 0 0 := by
  refine zR_of (cc := cX0_refresh) (maxL := 2) (rt := none) (by decide) rfl (Nat.le_of_ble_eq_true rfl) ?_
  intro p e s m below meth c A ls hx hb hml hr hts hown hlocks hin hA hE hP hD hS hl
  have hl : lv_has ls 2 [(0, .ref co)] := hl
  have hown : s.vm.findClass RX0 = some m.cls := hown
  have hP : va_P G.1 vwCl [(co, .inr (0, [.ref wa, .ref wb, .ref cu, .ref cf, .ref cp, .int 0, .int 0])), (wa, .inr (6, [.ref ro, .int 0, .int 0])), (wb, .inr (6, [.ref rb, .int 0, .int 0])), (cf, .inl (G.2.1, 4, .inl (ff)))] s.heap := hP
  have hw0 : ∀ w ∈ u_ws RX0 TX0 7, w ∈ wsX0_refresh := by decide +kernel
  have hf29 := hts (.fieldLink RX0 29 "Nettle$Comparison" "isFresh" "Z") (by decide +kernel)
  have hf33 := hts (.fieldLink RX0 33 "Nettle$Comparison" "amount" "I") (by decide +kernel)
  have hf9 := hts (.fieldLink RX0 9 "Nettle$Comparison" "first" "[I") (by decide +kernel)
  have hf18 := hts (.fieldLink RX0 18 "Nettle$Comparison" "now" "LNettle$Wall;") (by decide +kernel)
  have hf22 := hts (.fieldLink RX0 22 "Nettle$Comparison" "old" "LNettle$Wall;") (by decide +kernel)
  refine lv_aload_n hx hb dX0_refresh_0 rfl (lv_at hl 0 rfl) ?_
  refine va_get (D := G.1) (ci := 0) (v := .int 0) (C := RX0) (T := TX0) (N := 7) hx hb hts hw0 hown hE.1 hP 0 rfl rfl 6 (by decide) hf29 (fun _ h9 => h9) rfl dX0_refresh_1 ?_
  refine lv_if_eq (tgt := 8) hx hb dX0_refresh_4 (by decide) (fun _ => ?_) (fun h9 => absurd (by decide) h9)
  refine lv_aload_n hx hb dX0_refresh_8 rfl (lv_at hl 0 rfl) ?_
  refine lv_iconst (v := 0) hx hb dX0_refresh_9 (by decide) ?_
  refine va_put (D := G.1) (ci := 0) (v := .int 0) (ty := tyX0 5) (C := RX0) (T := TX0) (N := 7) hx hb hts hw0 tyX0 tyX0_ok nmX0 hown hE.1 hP hD hS 0 rfl rfl 5 (by decide) hf33 (fun _ h9 => h9) rfl (by decide +kernel) rfl rfl (Nat.le_of_ble_eq_true rfl) dX0_refresh_10 (fun H locs hP hD hS => ?_)
  have hP : va_P G.1 vwCl [(co, .inr (0, [.ref wa, .ref wb, .ref cu, .ref cf, .ref cp, .int 0, .int 0])), (wa, .inr (6, [.ref ro, .int 0, .int 0])), (wb, .inr (6, [.ref rb, .int 0, .int 0])), (cf, .inl (G.2.1, 4, .inl (ff)))] H := hP
  have hD : va_D A [(co, .inr (0, [.ref wa, .ref wb, .ref cu, .ref cf, .ref cp, .int 0, .int 0])), (wa, .inr (6, [.ref ro, .int 0, .int 0])), (wb, .inr (6, [.ref rb, .int 0, .int 0])), (cf, .inl (G.2.1, 4, .inl (ff)))] := hD
  refine lv_iconst (v := 0) hx hb dX0_refresh_13 (by decide) ?_
  refine lv_istore_n (lv' := [(1, .int 0), (0, .ref co)]) hx hb dX0_refresh_14 rfl hl (by decide) rfl (fun ls hl => ?_)
  refine lv_iload_n hx hb dX0_refresh_15 rfl (lv_at hl 0 rfl) ?_
  refine lv_iconst (v := 4) hx hb dX0_refresh_16 (by decide) ?_
  refine lv_icmp_ge (tgt := 33) hx hb dX0_refresh_17 (by decide) (fun h9 => absurd h9 (by decide)) (fun _ => ?_)
  refine lv_aload_n hx hb dX0_refresh_20 rfl (lv_at hl 1 rfl) ?_
  refine va_get (D := G.1) (ci := 0) (v := .ref cf) (C := RX0) (T := TX0) (N := 7) hx hb hts hw0 hown hE.1 hP 0 rfl rfl 3 (by decide) hf9 (fun _ h9 => h9) rfl dX0_refresh_21 ?_
  refine lv_iload_n hx hb dX0_refresh_24 rfl (lv_at hl 0 rfl) ?_
  refine lv_iconst (v := (-1)) hx hb dX0_refresh_25 (by decide) ?_
  refine va_iast hx hb hE.1 hP hD hS 3 0 rfl rfl (zin (by decide +kernel)) dX0_refresh_26 (fun H locs hP hD hS => ?_)
  have hP : va_P G.1 vwCl [(co, .inr (0, [.ref wa, .ref wb, .ref cu, .ref cf, .ref cp, .int 0, .int 0])), (wa, .inr (6, [.ref ro, .int 0, .int 0])), (wb, .inr (6, [.ref rb, .int 0, .int 0])), (cf, .inl (G.2.1, 4, .inl (upd ff 0 (-1))))] H := hP
  have hD : va_D A [(co, .inr (0, [.ref wa, .ref wb, .ref cu, .ref cf, .ref cp, .int 0, .int 0])), (wa, .inr (6, [.ref ro, .int 0, .int 0])), (wb, .inr (6, [.ref rb, .int 0, .int 0])), (cf, .inl (G.2.1, 4, .inl (upd ff 0 (-1))))] := hD
  refine lv_iinc (v := 1) (lv' := [(1, .int 1), (0, .ref co)]) hx hb dX0_refresh_27 hl (k := 0) rfl (by decide) (by decide) rfl (fun ls hl => ?_)
  refine lv_goto (tgt := 15) hx hb dX0_refresh_30 (by decide) ?_
  refine lv_iload_n hx hb dX0_refresh_15 rfl (lv_at hl 0 rfl) ?_
  refine lv_iconst (v := 4) hx hb dX0_refresh_16 (by decide) ?_
  refine lv_icmp_ge (tgt := 33) hx hb dX0_refresh_17 (by decide) (fun h9 => absurd h9 (by decide)) (fun _ => ?_)
  refine lv_aload_n hx hb dX0_refresh_20 rfl (lv_at hl 1 rfl) ?_
  refine va_get (D := G.1) (ci := 0) (v := .ref cf) (C := RX0) (T := TX0) (N := 7) hx hb hts hw0 hown hE.1 hP 0 rfl rfl 3 (by decide) hf9 (fun _ h9 => h9) rfl dX0_refresh_21 ?_
  refine lv_iload_n hx hb dX0_refresh_24 rfl (lv_at hl 0 rfl) ?_
  refine lv_iconst (v := (-1)) hx hb dX0_refresh_25 (by decide) ?_
  refine va_iast hx hb hE.1 hP hD hS 3 0 rfl rfl (zin (by decide +kernel)) dX0_refresh_26 (fun H locs hP hD hS => ?_)
  have hP : va_P G.1 vwCl [(co, .inr (0, [.ref wa, .ref wb, .ref cu, .ref cf, .ref cp, .int 0, .int 0])), (wa, .inr (6, [.ref ro, .int 0, .int 0])), (wb, .inr (6, [.ref rb, .int 0, .int 0])), (cf, .inl (G.2.1, 4, .inl (upd (upd ff 0 (-1)) 1 (-1))))] H := hP
  have hD : va_D A [(co, .inr (0, [.ref wa, .ref wb, .ref cu, .ref cf, .ref cp, .int 0, .int 0])), (wa, .inr (6, [.ref ro, .int 0, .int 0])), (wb, .inr (6, [.ref rb, .int 0, .int 0])), (cf, .inl (G.2.1, 4, .inl (upd (upd ff 0 (-1)) 1 (-1))))] := hD
  refine lv_iinc (v := 2) (lv' := [(1, .int 2), (0, .ref co)]) hx hb dX0_refresh_27 hl (k := 0) rfl (by decide) (by decide) rfl (fun ls hl => ?_)
  refine lv_goto (tgt := 15) hx hb dX0_refresh_30 (by decide) ?_
  refine lv_iload_n hx hb dX0_refresh_15 rfl (lv_at hl 0 rfl) ?_
  refine lv_iconst (v := 4) hx hb dX0_refresh_16 (by decide) ?_
  refine lv_icmp_ge (tgt := 33) hx hb dX0_refresh_17 (by decide) (fun h9 => absurd h9 (by decide)) (fun _ => ?_)
  refine lv_aload_n hx hb dX0_refresh_20 rfl (lv_at hl 1 rfl) ?_
  refine va_get (D := G.1) (ci := 0) (v := .ref cf) (C := RX0) (T := TX0) (N := 7) hx hb hts hw0 hown hE.1 hP 0 rfl rfl 3 (by decide) hf9 (fun _ h9 => h9) rfl dX0_refresh_21 ?_
  refine lv_iload_n hx hb dX0_refresh_24 rfl (lv_at hl 0 rfl) ?_
  refine lv_iconst (v := (-1)) hx hb dX0_refresh_25 (by decide) ?_
  refine va_iast hx hb hE.1 hP hD hS 3 0 rfl rfl (zin (by decide +kernel)) dX0_refresh_26 (fun H locs hP hD hS => ?_)
  have hP : va_P G.1 vwCl [(co, .inr (0, [.ref wa, .ref wb, .ref cu, .ref cf, .ref cp, .int 0, .int 0])), (wa, .inr (6, [.ref ro, .int 0, .int 0])), (wb, .inr (6, [.ref rb, .int 0, .int 0])), (cf, .inl (G.2.1, 4, .inl (upd (upd (upd ff 0 (-1)) 1 (-1)) 2 (-1))))] H := hP
  have hD : va_D A [(co, .inr (0, [.ref wa, .ref wb, .ref cu, .ref cf, .ref cp, .int 0, .int 0])), (wa, .inr (6, [.ref ro, .int 0, .int 0])), (wb, .inr (6, [.ref rb, .int 0, .int 0])), (cf, .inl (G.2.1, 4, .inl (upd (upd (upd ff 0 (-1)) 1 (-1)) 2 (-1))))] := hD
  refine lv_iinc (v := 3) (lv' := [(1, .int 3), (0, .ref co)]) hx hb dX0_refresh_27 hl (k := 0) rfl (by decide) (by decide) rfl (fun ls hl => ?_)
  refine lv_goto (tgt := 15) hx hb dX0_refresh_30 (by decide) ?_
  refine lv_iload_n hx hb dX0_refresh_15 rfl (lv_at hl 0 rfl) ?_
  refine lv_iconst (v := 4) hx hb dX0_refresh_16 (by decide) ?_
  refine lv_icmp_ge (tgt := 33) hx hb dX0_refresh_17 (by decide) (fun h9 => absurd h9 (by decide)) (fun _ => ?_)
  refine lv_aload_n hx hb dX0_refresh_20 rfl (lv_at hl 1 rfl) ?_
  refine va_get (D := G.1) (ci := 0) (v := .ref cf) (C := RX0) (T := TX0) (N := 7) hx hb hts hw0 hown hE.1 hP 0 rfl rfl 3 (by decide) hf9 (fun _ h9 => h9) rfl dX0_refresh_21 ?_
  refine lv_iload_n hx hb dX0_refresh_24 rfl (lv_at hl 0 rfl) ?_
  refine lv_iconst (v := (-1)) hx hb dX0_refresh_25 (by decide) ?_
  refine va_iast hx hb hE.1 hP hD hS 3 0 rfl rfl (zin (by decide +kernel)) dX0_refresh_26 (fun H locs hP hD hS => ?_)
  have hP : va_P G.1 vwCl [(co, .inr (0, [.ref wa, .ref wb, .ref cu, .ref cf, .ref cp, .int 0, .int 0])), (wa, .inr (6, [.ref ro, .int 0, .int 0])), (wb, .inr (6, [.ref rb, .int 0, .int 0])), (cf, .inl (G.2.1, 4, .inl (upd (upd (upd (upd ff 0 (-1)) 1 (-1)) 2 (-1)) 3 (-1))))] H := hP
  have hD : va_D A [(co, .inr (0, [.ref wa, .ref wb, .ref cu, .ref cf, .ref cp, .int 0, .int 0])), (wa, .inr (6, [.ref ro, .int 0, .int 0])), (wb, .inr (6, [.ref rb, .int 0, .int 0])), (cf, .inl (G.2.1, 4, .inl (upd (upd (upd (upd ff 0 (-1)) 1 (-1)) 2 (-1)) 3 (-1))))] := hD
  refine lv_iinc (v := 4) (lv' := [(1, .int 4), (0, .ref co)]) hx hb dX0_refresh_27 hl (k := 0) rfl (by decide) (by decide) rfl (fun ls hl => ?_)
  refine lv_goto (tgt := 15) hx hb dX0_refresh_30 (by decide) ?_
  refine lv_iload_n hx hb dX0_refresh_15 rfl (lv_at hl 0 rfl) ?_
  refine lv_iconst (v := 4) hx hb dX0_refresh_16 (by decide) ?_
  refine lv_icmp_ge (tgt := 33) hx hb dX0_refresh_17 (by decide) (fun _ => ?_) (fun h9 => absurd (by decide) h9)
  refine lv_aload_n hx hb dX0_refresh_33 rfl (lv_at hl 1 rfl) ?_
  refine lv_iconst (v := 0) hx hb dX0_refresh_34 (by decide) ?_
  refine lv_aload_n hx hb dX0_refresh_35 rfl (lv_at hl 1 rfl) ?_
  refine va_get (D := G.1) (ci := 0) (v := .ref wa) (C := RX0) (T := TX0) (N := 7) hx hb hts hw0 hown hE.1 hP 0 rfl rfl 0 (by decide) hf18 (fun _ h9 => h9) rfl dX0_refresh_36 ?_
  refine zcall (wr := [(co, .inr (0, [.ref wa, .ref wb, .ref cu, .ref cf, .ref cp, .int 0, .int 0])), (wb, .inr (6, [.ref rb, .int 0, .int 0])), (cf, .inl (G.2.1, 4, .inl (upd (upd (upd (upd ff 0 (-1)) 1 (-1)) 2 (-1)) 3 (-1))))]) (va_runV (As := []) (rest := [.int 0, .ref co]) ⟨hx, hb, hml, hown, hts⟩ (z_X6_deciders l G wa ro H.size) (cwV 0 hts gX0_refresh_X6_deciders rfl rfl rfl (by decide +kernel) ⟨Nat.le_of_ble_eq_true rfl, Nat.le_of_ble_eq_true rfl⟩) (zPreV (Wc := [(wa, .inr (6, [.ref ro, .int 0, .int 0]))]) (q0 := 1) (ci := 6) (q := (RX6, TX6, 3)) hP hD hE hS hA [1] rfl (by decide) rfl rfl) rfl rfl hl.1 rfl (lv_room (Nat.le_of_ble_eq_true rfl)) dX0_refresh_39 ⟨Nat.le_of_ble_eq_true rfl, Nat.le_of_ble_eq_true rfl⟩) hP hD hS hA [1] [0, 2, 3] rfl rfl (by decide) (by decide) (fun u1 H locs hP hD hS => ?_)
  have hP : va_P G.1 vwCl [(co, .inr (0, [.ref wa, .ref wb, .ref cu, .ref cf, .ref cp, .int 0, .int 0])), (wb, .inr (6, [.ref rb, .int 0, .int 0])), (cf, .inl (G.2.1, 4, .inl (upd (upd (upd (upd ff 0 (-1)) 1 (-1)) 2 (-1)) 3 (-1)))), (wa, .inr (6, [.ref ro, .int 0, .int 0]))] H := hP
  have hD : va_D A [(co, .inr (0, [.ref wa, .ref wb, .ref cu, .ref cf, .ref cp, .int 0, .int 0])), (wb, .inr (6, [.ref rb, .int 0, .int 0])), (cf, .inl (G.2.1, 4, .inl (upd (upd (upd (upd ff 0 (-1)) 1 (-1)) 2 (-1)) 3 (-1)))), (wa, .inr (6, [.ref ro, .int 0, .int 0]))] := hD
  refine W.eq (g2 := F0 m 42 ls [.int 0, .int 0, .ref co]) rfl ?_
  refine lv_aload_n hx hb dX0_refresh_42 rfl (lv_at hl 1 rfl) ?_
  refine va_get (D := G.1) (ci := 0) (v := .ref wb) (C := RX0) (T := TX0) (N := 7) hx hb hts hw0 hown hE.1 hP 0 rfl rfl 1 (by decide) hf22 (fun _ h9 => h9) rfl dX0_refresh_43 ?_
  refine zcall (wr := [(co, .inr (0, [.ref wa, .ref wb, .ref cu, .ref cf, .ref cp, .int 0, .int 0])), (cf, .inl (G.2.1, 4, .inl (upd (upd (upd (upd ff 0 (-1)) 1 (-1)) 2 (-1)) 3 (-1)))), (wa, .inr (6, [.ref ro, .int 0, .int 0]))]) (va_runV (As := []) (rest := [.int 0, .int 0, .ref co]) ⟨hx, hb, hml, hown, hts⟩ (z_X6_deciders l G wb rb H.size) (cwV 0 hts gX0_refresh_X6_deciders rfl rfl rfl (by decide +kernel) ⟨Nat.le_of_ble_eq_true rfl, Nat.le_of_ble_eq_true rfl⟩) (zPreV (Wc := [(wb, .inr (6, [.ref rb, .int 0, .int 0]))]) (q0 := 1) (ci := 6) (q := (RX6, TX6, 3)) hP hD hE hS hA [1] rfl (by decide) rfl rfl) rfl rfl hl.1 rfl (lv_room (Nat.le_of_ble_eq_true rfl)) dX0_refresh_46 ⟨Nat.le_of_ble_eq_true rfl, Nat.le_of_ble_eq_true rfl⟩) hP hD hS hA [1] [0, 2, 3] rfl rfl (by decide) (by decide) (fun u2 H locs hP hD hS => ?_)
  have hP : va_P G.1 vwCl [(co, .inr (0, [.ref wa, .ref wb, .ref cu, .ref cf, .ref cp, .int 0, .int 0])), (cf, .inl (G.2.1, 4, .inl (upd (upd (upd (upd ff 0 (-1)) 1 (-1)) 2 (-1)) 3 (-1)))), (wa, .inr (6, [.ref ro, .int 0, .int 0])), (wb, .inr (6, [.ref rb, .int 0, .int 0]))] H := hP
  have hD : va_D A [(co, .inr (0, [.ref wa, .ref wb, .ref cu, .ref cf, .ref cp, .int 0, .int 0])), (cf, .inl (G.2.1, 4, .inl (upd (upd (upd (upd ff 0 (-1)) 1 (-1)) 2 (-1)) 3 (-1)))), (wa, .inr (6, [.ref ro, .int 0, .int 0])), (wb, .inr (6, [.ref rb, .int 0, .int 0]))] := hD
  refine W.eq (g2 := F0 m 49 ls [.int 0, .int 0, .int 0, .ref co]) rfl ?_
  refine lv_bipush (v := 8) hx hb dX0_refresh_49 (by decide) ?_
  refine lv_ishl hx hb dX0_refresh_51 ?_
  refine zti (v := 0) (by decide) ?_
  refine lv_ior hx hb dX0_refresh_52 ?_
  refine zti (v := 0) (by decide) ?_
  refine lv_iconst (v := 1) hx hb dX0_refresh_53 (by decide) ?_
  refine zcall (wr := [(cf, .inl (G.2.1, 4, .inl (upd (upd (upd (upd ff 0 (-1)) 1 (-1)) 2 (-1)) 3 (-1))))]) (va_runS (As := [.ref co, .int 0, .int 0, .int 1]) (rest := []) ⟨hx, hb, hml, hown, hts⟩ (z_X0_walk l G co wa wb cu ro rb cf cp 0 H.size) (va_cwS 4 hts gX0_refresh_X0_walk rfl rfl rfl (by decide +kernel) ⟨Nat.le_of_ble_eq_true rfl, Nat.le_of_ble_eq_true rfl⟩) (zPre (Wc := [(co, .inr (0, [.ref wa, .ref wb, .ref cu, .ref cf, .ref cp, .int 0, .int 0])), (wa, .inr (6, [.ref ro, .int 0, .int 0])), (wb, .inr (6, [.ref rb, .int 0, .int 0]))]) hP hD hE hS hA [0, 2, 3] rfl (by decide)) rfl rfl hl.1 rfl (lv_room (Nat.le_of_ble_eq_true rfl)) dX0_refresh_54 ⟨Nat.le_of_ble_eq_true rfl, Nat.le_of_ble_eq_true rfl⟩) hP hD hS hA [0, 2, 3] [1] rfl rfl (by decide) (by decide) (fun u3 H locs hP hD hS => ?_)
  have hP : va_P G.1 vwCl [(cf, .inl (G.2.1, 4, .inl (upd (upd (upd (upd ff 0 (-1)) 1 (-1)) 2 (-1)) 3 (-1)))), (co, .inr (0, [.ref wa, .ref wb, .ref cu, .ref cf, .ref cp, .int 0, .int 0])), (wa, .inr (6, [.ref ro, .int 0, .int 0])), (wb, .inr (6, [.ref rb, .int 0, .int 0]))] H := hP
  have hD : va_D A [(cf, .inl (G.2.1, 4, .inl (upd (upd (upd (upd ff 0 (-1)) 1 (-1)) 2 (-1)) 3 (-1)))), (co, .inr (0, [.ref wa, .ref wb, .ref cu, .ref cf, .ref cp, .int 0, .int 0])), (wa, .inr (6, [.ref ro, .int 0, .int 0])), (wb, .inr (6, [.ref rb, .int 0, .int 0]))] := hD
  refine W.eq (g2 := F0 m 57 ls []) rfl ?_
  refine lv_aload_n hx hb dX0_refresh_57 rfl (lv_at hl 1 rfl) ?_
  refine lv_iconst (v := 1) hx hb dX0_refresh_58 (by decide) ?_
  refine va_put (D := G.1) (ci := 0) (v := .int 1) (ty := tyX0 6) (C := RX0) (T := TX0) (N := 7) hx hb hts hw0 tyX0 tyX0_ok nmX0 hown hE.1 hP hD hS 1 rfl rfl 6 (by decide) hf29 (fun _ h9 => h9) rfl (by decide +kernel) rfl rfl (Nat.le_of_ble_eq_true rfl) dX0_refresh_59 (fun H locs hP hD hS => ?_)
  have hP : va_P G.1 vwCl [(cf, .inl (G.2.1, 4, .inl (upd (upd (upd (upd ff 0 (-1)) 1 (-1)) 2 (-1)) 3 (-1)))), (co, .inr (0, [.ref wa, .ref wb, .ref cu, .ref cf, .ref cp, .int 0, .int 1])), (wa, .inr (6, [.ref ro, .int 0, .int 0])), (wb, .inr (6, [.ref rb, .int 0, .int 0]))] H := hP
  have hD : va_D A [(cf, .inl (G.2.1, 4, .inl (upd (upd (upd (upd ff 0 (-1)) 1 (-1)) 2 (-1)) 3 (-1)))), (co, .inr (0, [.ref wa, .ref wb, .ref cu, .ref cf, .ref cp, .int 0, .int 1])), (wa, .inr (6, [.ref ro, .int 0, .int 0])), (wb, .inr (6, [.ref rb, .int 0, .int 0]))] := hD
  exact zend_v hx hb hr hlocks (fun k => [].getD k 0) hP hD hS (Nat.le_of_ble_eq_true rfl) (Nat.le_of_ble_eq_true rfl) dX0_refresh_62

set_option maxHeartbeats 4000000 in
set_option maxRecDepth 100000 in
theorem z_X0_refresh1 (l : Launch) (G : zG) (co : Nat) (wa : Nat) (wb : Nat) (cu : Nat) (cf : Nat) (cp : Nat) : zR l G yX0_refresh wsX0_refresh { frames := 0, cells := 0, slots := 0, locals := 0 } [(co, .inr (0, [.ref wa, .ref wb, .ref cu, .ref cf, .ref cp, .int 0, .int 1]))] [.ref co] none (fun u => [(co, .inr (0, [.ref wa, .ref wb, .ref cu, .ref cf, .ref cp, .int 0, .int 1]))]) 0 0 := by
  refine zR_of (cc := cX0_refresh) (maxL := 2) (rt := none) (by decide) rfl (Nat.le_of_ble_eq_true rfl) ?_
  intro p e s m below meth c A ls hx hb hml hr hts hown hlocks hin hA hE hP hD hS hl
  have hl : lv_has ls 2 [(0, .ref co)] := hl
  have hown : s.vm.findClass RX0 = some m.cls := hown
  have hP : va_P G.1 vwCl [(co, .inr (0, [.ref wa, .ref wb, .ref cu, .ref cf, .ref cp, .int 0, .int 1]))] s.heap := hP
  have hw0 : ∀ w ∈ u_ws RX0 TX0 7, w ∈ wsX0_refresh := by decide +kernel
  have hf29 := hts (.fieldLink RX0 29 "Nettle$Comparison" "isFresh" "Z") (by decide +kernel)
  refine lv_aload_n hx hb dX0_refresh_0 rfl (lv_at hl 0 rfl) ?_
  refine va_get (D := G.1) (ci := 0) (v := .int 1) (C := RX0) (T := TX0) (N := 7) hx hb hts hw0 hown hE.1 hP 0 rfl rfl 6 (by decide) hf29 (fun _ h9 => h9) rfl dX0_refresh_1 ?_
  refine lv_if_eq (tgt := 8) hx hb dX0_refresh_4 (by decide) (fun h9 => absurd h9 (by decide)) (fun _ => ?_)
  exact zend_v hx hb hr hlocks (fun k => [].getD k 0) hP hD hS (Nat.le_of_ble_eq_true rfl) (Nat.le_of_ble_eq_true rfl) dX0_refresh_7

set_option maxHeartbeats 4000000 in
set_option maxRecDepth 100000 in
theorem z_X2_placeOf (l : Launch) (G : zG) (lo : Nat) (lr : Nat) (p0 : Int32) (p1 : Int32) (p2 : Int32) : zR l G yX2_placeOf wsX2_placeOf { frames := 0, cells := 0, slots := 0, locals := 0 } [(lo, .inr (2, [.ref lr, .int 0, .int 0, .int 0, .int 0, .int 0]))] [.ref lo, .int p0, .int p1, .int p2] (some (.int (-1))) (fun u => [(lo, .inr (2, [.ref lr, .int 0, .int 0, .int 0, .int 0, .int 0]))]) 0 0 := by
  refine zR_of (cc := cX2_placeOf) (maxL := 6) (rt := (some .int)) (by decide) rfl (Nat.le_of_ble_eq_true rfl) ?_
  intro p e s m below meth c A ls hx hb hml hr hts hown hlocks hin hA hE hP hD hS hl
  have hl : lv_has ls 6 [(0, .ref lo), (1, .int p0), (2, .int p1), (3, .int p2)] := hl
  have hown : s.vm.findClass RX2 = some m.cls := hown
  have hP : va_P G.1 vwCl [(lo, .inr (2, [.ref lr, .int 0, .int 0, .int 0, .int 0, .int 0]))] s.heap := hP
  have hw2 : ∀ w ∈ u_ws RX2 TX2 6, w ∈ wsX2_placeOf := by decide +kernel
  have hf28 := hts (.fieldLink RX2 28 "Nettle$Log" "size" "I") (by decide +kernel)
  refine lv_iconst (v := 0) hx hb dX2_placeOf_0 (by decide) ?_
  refine lv_istore (lv' := [(4, .int 0), (0, .ref lo), (1, .int p0), (2, .int p1), (3, .int p2)]) hx hb dX2_placeOf_1 hl (by decide) rfl (fun ls hl => ?_)
  refine lv_iload hx hb dX2_placeOf_3 (lv_at hl 0 rfl) ?_
  refine lv_aload_n hx hb dX2_placeOf_5 rfl (lv_at hl 1 rfl) ?_
  refine va_get (D := G.1) (ci := 2) (v := .int 0) (C := RX2) (T := TX2) (N := 6) hx hb hts hw2 hown hE.1 hP 0 rfl rfl 1 (by decide) hf28 (fun _ h9 => h9) rfl dX2_placeOf_6 ?_
  refine lv_icmp_ge (tgt := 64) hx hb dX2_placeOf_9 (by decide) (fun _ => ?_) (fun h9 => absurd (by decide) h9)
  refine lv_iconst (v := (-1)) hx hb dX2_placeOf_64 (by decide) ?_
  exact zend_i hx hb hr hlocks (fun k => [].getD k 0) hP hD hS (Nat.le_of_ble_eq_true rfl) (Nat.le_of_ble_eq_true rfl) dX2_placeOf_65

set_option maxHeartbeats 4000000 in
set_option maxRecDepth 100000 in
theorem z_X2_count (l : Launch) (G : zG) (lo : Nat) (lr : Nat) : zR l G yX2_count wsX2_count { frames := 0, cells := 0, slots := 0, locals := 0 } [(lo, .inr (2, [.ref lr, .int 0, .int 0, .int 0, .int 0, .int 0]))] [.ref lo, .int 0, .int 1] none (fun u => [(lo, .inr (2, [.ref lr, .int 0, .int 1, .int 0, .int 0, .int 1]))]) 0 0 := by
  refine zR_of (cc := cX2_count) (maxL := 3) (rt := none) (by decide) rfl (Nat.le_of_ble_eq_true rfl) ?_
  intro p e s m below meth c A ls hx hb hml hr hts hown hlocks hin hA hE hP hD hS hl
  have hl : lv_has ls 3 [(0, .ref lo), (1, .int 0), (2, .int 1)] := hl
  have hown : s.vm.findClass RX2 = some m.cls := hown
  have hP : va_P G.1 vwCl [(lo, .inr (2, [.ref lr, .int 0, .int 0, .int 0, .int 0, .int 0]))] s.heap := hP
  have hw2 : ∀ w ∈ u_ws RX2 TX2 6, w ∈ wsX2_count := by decide +kernel
  have hf15 := hts (.fieldLink RX2 15 "Nettle$Log" "all" "I") (by decide +kernel)
  have hf22 := hts (.fieldLink RX2 22 "Nettle$Log" "byLastWord" "I") (by decide +kernel)
  refine lv_aload_n hx hb dX2_count_0 rfl (lv_at hl 0 rfl) ?_
  refine lv_dup hx hb dX2_count_1 rfl ?_
  refine va_get (D := G.1) (ci := 2) (v := .int 0) (C := RX2) (T := TX2) (N := 6) hx hb hts hw2 hown hE.1 hP 0 rfl rfl 2 (by decide) hf15 (fun _ h9 => h9) rfl dX2_count_2 ?_
  refine lv_iconst (v := 1) hx hb dX2_count_5 (by decide) ?_
  refine lv_iadd hx hb dX2_count_6 ?_
  refine zti (v := 1) (by decide) ?_
  refine va_put (D := G.1) (ci := 2) (v := .int 1) (ty := tyX2 2) (C := RX2) (T := TX2) (N := 6) hx hb hts hw2 tyX2 tyX2_ok nmX2 hown hE.1 hP hD hS 0 rfl rfl 2 (by decide) hf15 (fun _ h9 => h9) rfl (by decide +kernel) rfl rfl (Nat.le_of_ble_eq_true rfl) dX2_count_7 (fun H locs hP hD hS => ?_)
  have hP : va_P G.1 vwCl [(lo, .inr (2, [.ref lr, .int 0, .int 1, .int 0, .int 0, .int 0]))] H := hP
  have hD : va_D A [(lo, .inr (2, [.ref lr, .int 0, .int 1, .int 0, .int 0, .int 0]))] := hD
  refine lv_iload_n hx hb dX2_count_10 rfl (lv_at hl 1 rfl) ?_
  refine lv_if_eq (tgt := 24) hx hb dX2_count_11 (by decide) (fun _ => ?_) (fun h9 => absurd (by decide) h9)
  refine lv_iload_n hx hb dX2_count_24 rfl (lv_at hl 2 rfl) ?_
  refine lv_if_eq (tgt := 38) hx hb dX2_count_25 (by decide) (fun h9 => absurd h9 (by decide)) (fun _ => ?_)
  refine lv_aload_n hx hb dX2_count_28 rfl (lv_at hl 0 rfl) ?_
  refine lv_dup hx hb dX2_count_29 rfl ?_
  refine va_get (D := G.1) (ci := 2) (v := .int 0) (C := RX2) (T := TX2) (N := 6) hx hb hts hw2 hown hE.1 hP 0 rfl rfl 5 (by decide) hf22 (fun _ h9 => h9) rfl dX2_count_30 ?_
  refine lv_iconst (v := 1) hx hb dX2_count_33 (by decide) ?_
  refine lv_iadd hx hb dX2_count_34 ?_
  refine zti (v := 1) (by decide) ?_
  refine va_put (D := G.1) (ci := 2) (v := .int 1) (ty := tyX2 5) (C := RX2) (T := TX2) (N := 6) hx hb hts hw2 tyX2 tyX2_ok nmX2 hown hE.1 hP hD hS 0 rfl rfl 5 (by decide) hf22 (fun _ h9 => h9) rfl (by decide +kernel) rfl rfl (Nat.le_of_ble_eq_true rfl) dX2_count_35 (fun H locs hP hD hS => ?_)
  have hP : va_P G.1 vwCl [(lo, .inr (2, [.ref lr, .int 0, .int 1, .int 0, .int 0, .int 1]))] H := hP
  have hD : va_D A [(lo, .inr (2, [.ref lr, .int 0, .int 1, .int 0, .int 0, .int 1]))] := hD
  exact zend_v hx hb hr hlocks (fun k => [].getD k 0) hP hD hS (Nat.le_of_ble_eq_true rfl) (Nat.le_of_ble_eq_true rfl) dX2_count_38
