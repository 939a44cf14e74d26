/-! the cuts are made, and asked -/
theorem dX1_cut_0 : decode cX1_cut 0 = .ok (.iconst 0, 1) := by decide +kernel
theorem dX1_cut_1 : decode cX1_cut 1 = .ok (.istore_n 2, 1) := by decide +kernel
theorem dX1_cut_2 : decode cX1_cut 2 = .ok (.iconst 0, 1) := by decide +kernel
theorem dX1_cut_3 : decode cX1_cut 3 = .ok (.istore_n 3, 1) := by decide +kernel
theorem dX1_cut_4 : decode cX1_cut 4 = .ok (.iload_n 3, 1) := by decide +kernel
theorem dX1_cut_5 : decode cX1_cut 5 = .ok (.bipush 33, 2) := by decide +kernel
theorem dX1_cut_7 : decode cX1_cut 7 = .ok (.if_icmp .ge 85, 3) := by decide +kernel
theorem dX1_cut_92 : decode cX1_cut 92 = .ok (.aload_n 0, 1) := by decide +kernel
theorem dX1_cut_93 : decode cX1_cut 93 = .ok (.getfield 9, 3) := by decide +kernel
theorem dX1_cut_96 : decode cX1_cut 96 = .ok (.iload_n 1, 1) := by decide +kernel
theorem dX1_cut_97 : decode cX1_cut 97 = .ok (.iload_n 3, 1) := by decide +kernel
theorem dX1_cut_98 : decode cX1_cut 98 = .ok (.iastore, 1) := by decide +kernel
theorem dX1_cut_99 : decode cX1_cut 99 = .ok (.return_, 1) := by decide +kernel
theorem dX1_cut_10 : decode cX1_cut 10 = .ok (.iload_n 2, 1) := by decide +kernel
theorem dX1_cut_11 : decode cX1_cut 11 = .ok (.getstatic 36, 3) := by decide +kernel
theorem dX1_cut_14 : decode cX1_cut 14 = .ok (.iload_n 1, 1) := by decide +kernel
theorem dX1_cut_15 : decode cX1_cut 15 = .ok (.iaload, 1) := by decide +kernel
theorem dX1_cut_16 : decode cX1_cut 16 = .ok (.if_icmp .ge 76, 3) := by decide +kernel
theorem dX1_cut_19 : decode cX1_cut 19 = .ok (.aload_n 0, 1) := by decide +kernel
theorem dX1_cut_20 : decode cX1_cut 20 = .ok (.getfield 15, 3) := by decide +kernel
theorem dX1_cut_23 : decode cX1_cut 23 = .ok (.iload_n 1, 1) := by decide +kernel
theorem dX1_cut_24 : decode cX1_cut 24 = .ok (.bipush 33, 2) := by decide +kernel
theorem dX1_cut_26 : decode cX1_cut 26 = .ok (.imul, 1) := by decide +kernel
theorem dX1_cut_27 : decode cX1_cut 27 = .ok (.iload_n 3, 1) := by decide +kernel
theorem dX1_cut_28 : decode cX1_cut 28 = .ok (.iadd, 1) := by decide +kernel
theorem dX1_cut_29 : decode cX1_cut 29 = .ok (.iload_n 2, 1) := by decide +kernel
theorem dX1_cut_30 : decode cX1_cut 30 = .ok (.iastore, 1) := by decide +kernel
theorem dX1_cut_31 : decode cX1_cut 31 = .ok (.aload_n 0, 1) := by decide +kernel
theorem dX1_cut_32 : decode cX1_cut 32 = .ok (.getfield 18, 3) := by decide +kernel
theorem dX1_cut_35 : decode cX1_cut 35 = .ok (.iload_n 1, 1) := by decide +kernel
theorem dX1_cut_36 : decode cX1_cut 36 = .ok (.bipush 33, 2) := by decide +kernel
theorem dX1_cut_38 : decode cX1_cut 38 = .ok (.imul, 1) := by decide +kernel
theorem dX1_cut_39 : decode cX1_cut 39 = .ok (.iload_n 3, 1) := by decide +kernel
theorem dX1_cut_40 : decode cX1_cut 40 = .ok (.iadd, 1) := by decide +kernel
theorem dX1_cut_41 : decode cX1_cut 41 = .ok (.aload_n 0, 1) := by decide +kernel
theorem dX1_cut_42 : decode cX1_cut 42 = .ok (.getfield 21, 3) := by decide +kernel
theorem dX1_cut_45 : decode cX1_cut 45 = .ok (.iload_n 1, 1) := by decide +kernel
theorem dX1_cut_46 : decode cX1_cut 46 = .ok (.iload_n 2, 1) := by decide +kernel
set_option maxRecDepth 20000 in
theorem ggX1_cut_X6_having : GoodIn wsX1_cut wsX6_having := goodIn_r _ [14, 15, 16, 17, 18, 19, 20, 21, 22, 23, 37, 38, 39, 40, 41, 42, 43] (by decide +kernel) (by decide +kernel)
set_option maxRecDepth 20000 in
theorem gX1_cut_X6_having : GoodIn wsX1_cut (wsV RX1 39 RX6 yX6_having wsX6_having) := goodIn_app (goodIn_of _ (by decide +kernel)) ggX1_cut_X6_having
theorem dX1_cut_47 : decode cX1_cut 47 = .ok (.invokevirtual 39, 3) := by decide +kernel
theorem dX1_cut_50 : decode cX1_cut 50 = .ok (.aload_n 0, 1) := by decide +kernel
theorem dX1_cut_51 : decode cX1_cut 51 = .ok (.getfield 25, 3) := by decide +kernel
theorem dX1_cut_54 : decode cX1_cut 54 = .ok (.iload_n 1, 1) := by decide +kernel
theorem dX1_cut_55 : decode cX1_cut 55 = .ok (.iload_n 2, 1) := by decide +kernel
theorem dX1_cut_56 : decode cX1_cut 56 = .ok (.invokevirtual 39, 3) := by decide +kernel
theorem dX1_cut_59 : decode cX1_cut 59 = .ok (.bipush 8, 2) := by decide +kernel
theorem dX1_cut_61 : decode cX1_cut 61 = .ok (.ishl, 1) := by decide +kernel
theorem dX1_cut_62 : decode cX1_cut 62 = .ok (.ior, 1) := by decide +kernel
theorem dX1_cut_63 : decode cX1_cut 63 = .ok (.iastore, 1) := by decide +kernel
theorem dX1_cut_64 : decode cX1_cut 64 = .ok (.iinc 3 1, 3) := by decide +kernel
theorem dX1_cut_67 : decode cX1_cut 67 = .ok (.aload_n 0, 1) := by decide +kernel
theorem dX1_cut_68 : decode cX1_cut 68 = .ok (.getfield 21, 3) := by decide +kernel
theorem dX1_cut_71 : decode cX1_cut 71 = .ok (.iload_n 1, 1) := by decide +kernel
theorem dX1_cut_72 : decode cX1_cut 72 = .ok (.iload_n 2, 1) := by decide +kernel
set_option maxRecDepth 20000 in
theorem ggX1_cut_X6_nextCut : GoodIn wsX1_cut wsX6_nextCut := goodIn_r _ [27, 15, 16, 28, 29, 6, 7, 8, 30, 37, 38, 39, 40, 41, 42, 43] (by decide +kernel) (by decide +kernel)
set_option maxRecDepth 20000 in
theorem gX1_cut_X6_nextCut : GoodIn wsX1_cut (wsV RX1 45 RX6 yX6_nextCut wsX6_nextCut) := goodIn_app (goodIn_of _ (by decide +kernel)) ggX1_cut_X6_nextCut
theorem dX1_cut_73 : decode cX1_cut 73 = .ok (.invokevirtual 45, 3) := by decide +kernel
theorem dX1_cut_76 : decode cX1_cut 76 = .ok (.aload_n 0, 1) := by decide +kernel
theorem dX1_cut_77 : decode cX1_cut 77 = .ok (.getfield 25, 3) := by decide +kernel
theorem dX1_cut_80 : decode cX1_cut 80 = .ok (.iload_n 1, 1) := by decide +kernel
theorem dX1_cut_81 : decode cX1_cut 81 = .ok (.iload_n 2, 1) := by decide +kernel
theorem dX1_cut_82 : decode cX1_cut 82 = .ok (.invokevirtual 45, 3) := by decide +kernel
theorem dX1_cut_85 : decode cX1_cut 85 = .ok (.invokestatic 48, 3) := by decide +kernel
theorem dX1_cut_88 : decode cX1_cut 88 = .ok (.istore_n 2, 1) := by decide +kernel
theorem dX1_cut_89 : decode cX1_cut 89 = .ok (.goto (-85), 3) := by decide +kernel
theorem dX1_refresh_0 : decode cX1_refresh 0 = .ok (.aload_n 0, 1) := by decide +kernel
theorem dX1_refresh_1 : decode cX1_refresh 1 = .ok (.getfield 28, 3) := by decide +kernel
theorem dX1_refresh_4 : decode cX1_refresh 4 = .ok (.ifCond .eq 4, 3) := by decide +kernel
theorem dX1_refresh_8 : decode cX1_refresh 8 = .ok (.iconst 0, 1) := by decide +kernel
theorem dX1_refresh_9 : decode cX1_refresh 9 = .ok (.istore_n 1, 1) := by decide +kernel
theorem dX1_refresh_10 : decode cX1_refresh 10 = .ok (.iload_n 1, 1) := by decide +kernel
theorem dX1_refresh_11 : decode cX1_refresh 11 = .ok (.iconst 4, 1) := by decide +kernel
theorem dX1_refresh_12 : decode cX1_refresh 12 = .ok (.if_icmp .ge 14, 3) := by decide +kernel
theorem dX1_refresh_26 : decode cX1_refresh 26 = .ok (.aload_n 0, 1) := by decide +kernel
theorem dX1_refresh_27 : decode cX1_refresh 27 = .ok (.iconst 1, 1) := by decide +kernel
theorem dX1_refresh_28 : decode cX1_refresh 28 = .ok (.putfield 28, 3) := by decide +kernel
theorem dX1_refresh_31 : decode cX1_refresh 31 = .ok (.return_, 1) := by decide +kernel
theorem dX1_refresh_15 : decode cX1_refresh 15 = .ok (.aload_n 0, 1) := by decide +kernel
theorem dX1_refresh_16 : decode cX1_refresh 16 = .ok (.iload_n 1, 1) := by decide +kernel
set_option maxRecDepth 20000 in
theorem ggX1_refresh_X1_cut : GoodIn wsX1_refresh wsX1_cut := goodIn_r _ [6, 7, 8, 9, 10, 11, 12, 13, 14, 15, 16, 17, 18, 19, 20, 21, 22, 23, 24, 25, 26, 27, 28, 29, 30, 31, 32, 33, 34, 35, 36, 37, 38, 39, 40, 41, 42, 43, 44, 45, 46, 47, 48, 49] (by decide +kernel) (by decide +kernel)
set_option maxRecDepth 20000 in
theorem gX1_refresh_X1_cut : GoodIn wsX1_refresh (wsV RX1 32 RX1 yX1_cut wsX1_cut) := goodIn_app (goodIn_of _ (by decide +kernel)) ggX1_refresh_X1_cut
theorem dX1_refresh_17 : decode cX1_refresh 17 = .ok (.invokevirtual 32, 3) := by decide +kernel
theorem dX1_refresh_20 : decode cX1_refresh 20 = .ok (.iinc 1 1, 3) := by decide +kernel
theorem dX1_refresh_23 : decode cX1_refresh 23 = .ok (.goto (-13), 3) := by decide +kernel
theorem dX1_refresh_7 : decode cX1_refresh 7 = .ok (.return_, 1) := by decide +kernel
theorem dX1_start_0 : decode cX1_start 0 = .ok (.iload_n 2, 1) := by decide +kernel
theorem dX1_start_1 : decode cX1_start 1 = .ok (.aload_n 0, 1) := by decide +kernel
theorem dX1_start_2 : decode cX1_start 2 = .ok (.getfield 9, 3) := by decide +kernel
theorem dX1_start_5 : decode cX1_start 5 = .ok (.iload_n 1, 1) := by decide +kernel
theorem dX1_start_6 : decode cX1_start 6 = .ok (.iaload, 1) := by decide +kernel
theorem dX1_start_7 : decode cX1_start 7 = .ok (.if_icmp .ge 17, 3) := by decide +kernel
theorem dX1_start_24 : decode cX1_start 24 = .ok (.getstatic 36, 3) := by decide +kernel
theorem dX1_start_27 : decode cX1_start 27 = .ok (.iload_n 1, 1) := by decide +kernel
theorem dX1_start_28 : decode cX1_start 28 = .ok (.iaload, 1) := by decide +kernel
theorem dX1_start_29 : decode cX1_start 29 = .ok (.ireturn, 1) := by decide +kernel
theorem dX1_start_10 : decode cX1_start 10 = .ok (.aload_n 0, 1) := by decide +kernel
theorem dX1_start_11 : decode cX1_start 11 = .ok (.getfield 15, 3) := by decide +kernel
theorem dX1_start_14 : decode cX1_start 14 = .ok (.iload_n 1, 1) := by decide +kernel
theorem dX1_start_15 : decode cX1_start 15 = .ok (.bipush 33, 2) := by decide +kernel
theorem dX1_start_17 : decode cX1_start 17 = .ok (.imul, 1) := by decide +kernel
theorem dX1_start_18 : decode cX1_start 18 = .ok (.iload_n 2, 1) := by decide +kernel
theorem dX1_start_19 : decode cX1_start 19 = .ok (.iadd, 1) := by decide +kernel
theorem dX1_start_20 : decode cX1_start 20 = .ok (.iaload, 1) := by decide +kernel
theorem dX1_start_21 : decode cX1_start 21 = .ok (.goto 8, 3) := by decide +kernel
theorem dX1_mask_0 : decode cX1_mask 0 = .ok (.aload_n 0, 1) := by decide +kernel
theorem dX1_mask_1 : decode cX1_mask 1 = .ok (.getfield 18, 3) := by decide +kernel
theorem dX1_mask_4 : decode cX1_mask 4 = .ok (.iload_n 1, 1) := by decide +kernel
theorem dX1_mask_5 : decode cX1_mask 5 = .ok (.bipush 33, 2) := by decide +kernel
theorem dX1_mask_7 : decode cX1_mask 7 = .ok (.imul, 1) := by decide +kernel
theorem dX1_mask_8 : decode cX1_mask 8 = .ok (.iload_n 2, 1) := by decide +kernel
theorem dX1_mask_9 : decode cX1_mask 9 = .ok (.iadd, 1) := by decide +kernel
theorem dX1_mask_10 : decode cX1_mask 10 = .ok (.iaload, 1) := by decide +kernel
theorem dX1_mask_11 : decode cX1_mask 11 = .ok (.ireturn, 1) := by decide +kernel
theorem dX1_startsRun_0 : decode cX1_startsRun 0 = .ok (.iload_n 2, 1) := by decide +kernel
theorem dX1_startsRun_1 : decode cX1_startsRun 1 = .ok (.ifCond .eq 23, 3) := by decide +kernel
theorem dX1_startsRun_24 : decode cX1_startsRun 24 = .ok (.iconst 1, 1) := by decide +kernel
theorem dX1_startsRun_25 : decode cX1_startsRun 25 = .ok (.goto 4, 3) := by decide +kernel
theorem dX1_startsRun_29 : decode cX1_startsRun 29 = .ok (.ireturn, 1) := by decide +kernel
theorem dX1_startsRun_4 : decode cX1_startsRun 4 = .ok (.aload_n 0, 1) := by decide +kernel
theorem dX1_startsRun_5 : decode cX1_startsRun 5 = .ok (.iload_n 1, 1) := by decide +kernel
theorem dX1_startsRun_6 : decode cX1_startsRun 6 = .ok (.iload_n 2, 1) := by decide +kernel
set_option maxRecDepth 20000 in
theorem ggX1_startsRun_X1_mask : GoodIn wsX1_startsRun wsX1_mask := goodIn_r _ [5, 6, 7, 8, 9, 10, 11, 12] (by decide +kernel) (by decide +kernel)
set_option maxRecDepth 20000 in
theorem gX1_startsRun_X1_mask : GoodIn wsX1_startsRun (wsV RX1 53 RX1 yX1_mask wsX1_mask) := goodIn_app (goodIn_of _ (by decide +kernel)) ggX1_startsRun_X1_mask
theorem dX1_startsRun_7 : decode cX1_startsRun 7 = .ok (.invokevirtual 53, 3) := by decide +kernel
theorem dX1_startsRun_10 : decode cX1_startsRun 10 = .ok (.aload_n 0, 1) := by decide +kernel
theorem dX1_startsRun_11 : decode cX1_startsRun 11 = .ok (.iload_n 1, 1) := by decide +kernel
theorem dX1_startsRun_12 : decode cX1_startsRun 12 = .ok (.iload_n 2, 1) := by decide +kernel
theorem dX1_startsRun_13 : decode cX1_startsRun 13 = .ok (.iconst 1, 1) := by decide +kernel
theorem dX1_startsRun_14 : decode cX1_startsRun 14 = .ok (.isub, 1) := by decide +kernel
theorem dX1_startsRun_15 : decode cX1_startsRun 15 = .ok (.invokevirtual 53, 3) := by decide +kernel
theorem dX1_startsRun_18 : decode cX1_startsRun 18 = .ok (.ixor, 1) := by decide +kernel
theorem dX1_startsRun_19 : decode cX1_startsRun 19 = .ok (.iload_n 3, 1) := by decide +kernel
theorem dX1_startsRun_20 : decode cX1_startsRun 20 = .ok (.iand, 1) := by decide +kernel
theorem dX1_startsRun_21 : decode cX1_startsRun 21 = .ok (.ifCond .eq 7, 3) := by decide +kernel
theorem dX1_startsRun_28 : decode cX1_startsRun 28 = .ok (.iconst 0, 1) := by decide +kernel
theorem dX1_runEnd_0 : decode cX1_runEnd 0 = .ok (.iload_n 2, 1) := by decide +kernel
theorem dX1_runEnd_1 : decode cX1_runEnd 1 = .ok (.iconst 1, 1) := by decide +kernel
theorem dX1_runEnd_2 : decode cX1_runEnd 2 = .ok (.iadd, 1) := by decide +kernel
theorem dX1_runEnd_3 : decode cX1_runEnd 3 = .ok (.istore 4, 2) := by decide +kernel
theorem dX1_runEnd_5 : decode cX1_runEnd 5 = .ok (.iload 4, 2) := by decide +kernel
theorem dX1_runEnd_7 : decode cX1_runEnd 7 = .ok (.aload_n 0, 1) := by decide +kernel
theorem dX1_runEnd_8 : decode cX1_runEnd 8 = .ok (.getfield 9, 3) := by decide +kernel
theorem dX1_runEnd_11 : decode cX1_runEnd 11 = .ok (.iload_n 1, 1) := by decide +kernel
theorem dX1_runEnd_12 : decode cX1_runEnd 12 = .ok (.iaload, 1) := by decide +kernel
theorem dX1_runEnd_13 : decode cX1_runEnd 13 = .ok (.if_icmp .ge 28, 3) := by decide +kernel
theorem dX1_runEnd_41 : decode cX1_runEnd 41 = .ok (.getstatic 36, 3) := by decide +kernel
theorem dX1_runEnd_44 : decode cX1_runEnd 44 = .ok (.iload_n 1, 1) := by decide +kernel
theorem dX1_runEnd_45 : decode cX1_runEnd 45 = .ok (.iaload, 1) := by decide +kernel
theorem dX1_runEnd_46 : decode cX1_runEnd 46 = .ok (.ireturn, 1) := by decide +kernel
theorem dX1_runEnd_16 : decode cX1_runEnd 16 = .ok (.aload_n 0, 1) := by decide +kernel
theorem dX1_runEnd_17 : decode cX1_runEnd 17 = .ok (.iload_n 1, 1) := by decide +kernel
theorem dX1_runEnd_18 : decode cX1_runEnd 18 = .ok (.iload 4, 2) := by decide +kernel
theorem dX1_runEnd_20 : decode cX1_runEnd 20 = .ok (.iload_n 3, 1) := by decide +kernel
set_option maxRecDepth 20000 in
theorem ggX1_runEnd_X1_startsRun : GoodIn wsX1_runEnd wsX1_startsRun := goodIn_r _ [6, 7, 8, 9, 5, 10, 11, 17, 18, 19, 20, 21, 22] (by decide +kernel) (by decide +kernel)
set_option maxRecDepth 20000 in
theorem gX1_runEnd_X1_startsRun : GoodIn wsX1_runEnd (wsV RX1 56 RX1 yX1_startsRun wsX1_startsRun) := goodIn_app (goodIn_of _ (by decide +kernel)) ggX1_runEnd_X1_startsRun
theorem dX1_runEnd_21 : decode cX1_runEnd 21 = .ok (.invokevirtual 56, 3) := by decide +kernel
theorem dX1_runEnd_24 : decode cX1_runEnd 24 = .ok (.ifCond .eq 11, 3) := by decide +kernel
theorem dX1_runEnd_35 : decode cX1_runEnd 35 = .ok (.iinc 4 1, 3) := by decide +kernel
theorem dX1_runEnd_38 : decode cX1_runEnd 38 = .ok (.goto (-33), 3) := by decide +kernel
theorem dX1_runEnd_27 : decode cX1_runEnd 27 = .ok (.aload_n 0, 1) := by decide +kernel
theorem dX1_runEnd_28 : decode cX1_runEnd 28 = .ok (.iload_n 1, 1) := by decide +kernel
theorem dX1_runEnd_29 : decode cX1_runEnd 29 = .ok (.iload 4, 2) := by decide +kernel
set_option maxRecDepth 20000 in
theorem ggX1_runEnd_X1_start : GoodIn wsX1_runEnd wsX1_start := goodIn_r _ [15, 1, 16, 17, 18, 19, 20, 21, 22] (by decide +kernel) (by decide +kernel)
set_option maxRecDepth 20000 in
theorem gX1_runEnd_X1_start : GoodIn wsX1_runEnd (wsV RX1 60 RX1 yX1_start wsX1_start) := goodIn_app (goodIn_of _ (by decide +kernel)) ggX1_runEnd_X1_start
theorem dX1_runEnd_31 : decode cX1_runEnd 31 = .ok (.invokevirtual 60, 3) := by decide +kernel
theorem dX1_runEnd_34 : decode cX1_runEnd 34 = .ok (.ireturn, 1) := by decide +kernel
set_option maxHeartbeats 4000000 in
set_option maxRecDepth 100000 in
/-- cut -/
theorem c_X1_cut (l : Launch) (G : zG) (ad : Nat → Nat) (X : Nat → Nat → Int) (f : Nat) (hV : zV X) (hf : f < 4) : zR l G yX1_cut wsX1_cut { frames := 2, cells := 0, slots := 0, locals := 46 } (zpic G ad X) [.ref (ad 57), .int (zi (f : Int))] (zv G ad (fun Y => (∀ c : Nat, c ≠ 58 → c ≠ 59 → c ≠ 60 → Y c = X c) ∧ (∀ g : Nat, g ≠ f → Y 58 g = X 58 g) ∧ (∀ j : Nat, j < 33 * f ∨ 33 * f + 33 ≤ j → Y 59 j = X 59 j ∧ Y 60 j = X 60 j) ∧ zCt X Y f)) 0 0 := by
  refine zR_of (cc := cX1_cut) (maxL := 4) (rt := none) (by decide) rfl (Nat.le_of_ble_eq_true rfl) ?_
  intro p e s m below meth c A ls hx hb hml hr hts hown hlocks hin0 hA hE hP hD hS hl
  have hl : lv_has ls 4 [(0, .ref (ad 57)), (1, .int (zi (f : Int)))] := hl
  have hown : s.vm.findClass RX1 = some m.cls := hown
  have hsf := zS_le f
  have hk0 := zK_bd hV f 0
  have hw1 : ∀ w ∈ u_ws RX1 TX1 6, w ∈ wsX1_cut := by decide +kernel
  have hf9 := hts (.fieldLink RX1 9 "Nettle$Cuts" "counts" "[I") (by decide +kernel)
  have hf15 := hts (.fieldLink RX1 15 "Nettle$Cuts" "starts" "[I") (by decide +kernel)
  have hf18 := hts (.fieldLink RX1 18 "Nettle$Cuts" "masks" "[I") (by decide +kernel)
  have hf21 := hts (.fieldLink RX1 21 "Nettle$Cuts" "now" "LNettle$Wall;") (by decide +kernel)
  have hf25 := hts (.fieldLink RX1 25 "Nettle$Cuts" "old" "LNettle$Wall;") (by decide +kernel)
  have hmamin := hts (.code Lib.Math.min.name Lib.Math.min.code 2 (some .int)) (by decide +kernel)
  have hml48 := hts (.methodLink RX1 48 Lib.Math.min.name) (by decide +kernel)
  have hstmin := hts (.static Lib.Math.min.name) (by decide +kernel)
  have hiniMath := hts (.initialized "java/lang/Math") (by decide +kernel)
  refine lv_iconst (v := zi 0) hx hb dX1_cut_0 rfl ?_
  refine lv_istore_n (lv' := [(2, .int (zi 0)), (0, .ref (ad 57)), (1, .int (zi (f : Int)))]) hx hb dX1_cut_1 rfl hl (by decide) rfl (fun ls hl => ?_)
  refine lv_iconst (v := zi 0) hx hb dX1_cut_2 rfl ?_
  refine lv_istore_n (lv' := [(3, .int (zi 0)), (2, .int (zi 0)), (0, .ref (ad 57)), (1, .int (zi (f : Int)))]) hx hb dX1_cut_3 rfl hl (by decide) rfl (fun ls hl => ?_)
  refine zloop3 (fun (k : Nat) (v : Int) (Y : Nat → Nat → Int) => 33 - k) (fun (k : Nat) (v : Int) (Y : Nat → Nat → Int) (H : Heap) (locs : List Loc) (ls : Array Slot) => va_P G.1 vwCl (zpic G ad Y) H ∧ va_D A (zpic G ad Y) ∧ va_S A s.heap H locs ∧ lv_has ls 4 [(3, .int (zi (k : Int))), (2, .int (zi v)), (1, .int (zi (f : Int))), (0, .ref (ad 57))] ∧ (k ≤ 33 ∧ 0 ≤ v ∧ v ≤ zS f) ∧ (v < zS f → (k : Int) + zK X f v ≤ 32) ∧ (∀ c : Nat, c ≠ 59 → c ≠ 60 → Y c = X c) ∧ (∀ j : Nat, j < 33 * f ∨ 33 * f + 33 ≤ j → Y 59 j = X 59 j ∧ Y 60 j = X 60 j) ∧ (zCg X Y f k v)) ?_ 0 0 X ⟨hP, hD, hS, lv_sub hl [0, 1, 3, 2] rfl, (by omega), (fun _ => by omega), (fun c h1 h2 => rfl), (fun j h1 => ⟨rfl, rfl⟩), (zCg_0 X X f)⟩
  intro k v Y ih H locs ls ⟨hP, hD, hS, hl, hk, hK, hyc, hfr, hg⟩
  have hwY : zWe X Y := fun c h9 => hyc c (by omega) (by omega)
  have hVY : zV Y := hwY.v hV
  refine lv_iload_n hx hb dX1_cut_4 rfl (lv_at hl 0 rfl) ?_
  refine lv_bipush (v := zi 33) hx hb dX1_cut_5 (by decide +kernel) ?_
  refine zc_ge (tgt := 92) hx hb dX1_cut_7 (by decide) (by omega) (by decide) (fun h7 => ?_) (fun h7 => ?_)
  · have hkz : ¬ v < zS f := fun q => by have h8 := hK q; have h7 := zK_bd hV f v; omega
    refine lv_aload_n hx hb dX1_cut_92 rfl (lv_at hl 3 rfl) ?_
    refine va_get (D := G.1) (ci := 1) (v := .ref (ad 58)) (C := RX1) (T := TX1) (N := 6) hx hb hts hw1 hown hE.1 hP 57 p_57 rfl 2 (by decide) hf9 (fun _ h9 => h9) rfl dX1_cut_93 ?_
    refine lv_iload_n hx hb dX1_cut_96 rfl (lv_at hl 2 rfl) ?_
    refine lv_iload_n hx hb dX1_cut_97 rfl (lv_at hl 0 rfl) ?_
    refine zist hx hb hE hP hD hS 58 4 (fun _ => rfl) (by decide) f rfl (by omega) (by decide) dX1_cut_98 (fun H locs hP hD hS => ?_)
    exact zend_v hx hb hr hlocks hP hD hS (Nat.le_of_ble_eq_true rfl) (Nat.le_of_ble_eq_true rfl) dX1_cut_99 ⟨_, rfl, (by have hvs : v = zS f := (by omega); have hy58 : Y 58 = X 58 := hyc 58 (by omega) (by omega); refine ⟨fun c h1 h2 h3 => by rw [zw_cell h1]; exact hyc c h2 h3, fun g hg => by rw [zw_ne hg, hy58], fun j hj => by rw [zw_cell (show (59 : Nat) ≠ 58 by decide), zw_cell (show (60 : Nat) ≠ 58 by decide)]; exact hfr j hj, ?_⟩; have hk1 : 1 ≤ k := (by have h0 := hg.1; omega); unfold zCt; rw [zw_at]; refine ⟨rfl, hk1, by omega, ?_⟩; rw [← hvs]; exact hg.keep (by omega) (fun j _ _ => ⟨by rw [zw_cell (show (59 : Nat) ≠ 58 by decide)], by rw [zw_cell (show (60 : Nat) ≠ 58 by decide)]⟩)), rfl⟩
  · refine lv_iload_n hx hb dX1_cut_10 rfl (lv_at hl 1 rfl) ?_
    refine va_getsN hx hb hE.2.1.1 hS hown (va_Nw.use rfl hE.2.2.2.1.2.2.2.2.1) (fun _ h9 => h9) dX1_cut_11 ?_
    refine lv_iload_n hx hb dX1_cut_14 rfl (lv_at hl 2 rfl) ?_
    refine zsz_ld hx hb hE hS f rfl (by omega) dX1_cut_15 ?_
    refine zc_ge (tgt := 92) hx hb dX1_cut_16 (by decide) (by omega) (by omega) (fun h16 => ?_) (fun h16 => ?_)
    · refine lv_aload_n hx hb dX1_cut_92 rfl (lv_at hl 3 rfl) ?_
      refine va_get (D := G.1) (ci := 1) (v := .ref (ad 58)) (C := RX1) (T := TX1) (N := 6) hx hb hts hw1 hown hE.1 hP 57 p_57 rfl 2 (by decide) hf9 (fun _ h9 => h9) rfl dX1_cut_93 ?_
      refine lv_iload_n hx hb dX1_cut_96 rfl (lv_at hl 2 rfl) ?_
      refine lv_iload_n hx hb dX1_cut_97 rfl (lv_at hl 0 rfl) ?_
      refine zist hx hb hE hP hD hS 58 4 (fun _ => rfl) (by decide) f rfl (by omega) (by decide) dX1_cut_98 (fun H locs hP hD hS => ?_)
      exact zend_v hx hb hr hlocks hP hD hS (Nat.le_of_ble_eq_true rfl) (Nat.le_of_ble_eq_true rfl) dX1_cut_99 ⟨_, rfl, (by have hvs : v = zS f := (by omega); have hy58 : Y 58 = X 58 := hyc 58 (by omega) (by omega); refine ⟨fun c h1 h2 h3 => by rw [zw_cell h1]; exact hyc c h2 h3, fun g hg => by rw [zw_ne hg, hy58], fun j hj => by rw [zw_cell (show (59 : Nat) ≠ 58 by decide), zw_cell (show (60 : Nat) ≠ 58 by decide)]; exact hfr j hj, ?_⟩; have hk1 : 1 ≤ k := (by have h0 := hg.1; omega); unfold zCt; rw [zw_at]; refine ⟨rfl, hk1, by omega, ?_⟩; rw [← hvs]; exact hg.keep (by omega) (fun j _ _ => ⟨by rw [zw_cell (show (59 : Nat) ≠ 58 by decide)], by rw [zw_cell (show (60 : Nat) ≠ 58 by decide)]⟩)), rfl⟩
    · have hK1 := hK (by omega)
      have hK2 := zK_bd hV f v
      refine lv_aload_n hx hb dX1_cut_19 rfl (lv_at hl 3 rfl) ?_
      refine va_get (D := G.1) (ci := 1) (v := .ref (ad 59)) (C := RX1) (T := TX1) (N := 6) hx hb hts hw1 hown hE.1 hP 57 p_57 rfl 3 (by decide) hf15 (fun _ h9 => h9) rfl dX1_cut_20 ?_
      refine lv_iload_n hx hb dX1_cut_23 rfl (lv_at hl 2 rfl) ?_
      refine lv_bipush (v := zi 33) hx hb dX1_cut_24 (by decide +kernel) ?_
      refine lv_imul hx hb dX1_cut_26 (zti (v := zi ((f : Int) * 33)) (zi_mul _ _) ?_)
      refine lv_iload_n hx hb dX1_cut_27 rfl (lv_at hl 0 rfl) ?_
      refine lv_iadd hx hb dX1_cut_28 (zti (v := zi (((f : Int) * 33) + (k : Int))) (zi_add _ _) ?_)
      refine lv_iload_n hx hb dX1_cut_29 rfl (lv_at hl 1 rfl) ?_
      refine zist hx hb hE hP hD hS 59 132 (fun _ => rfl) (by decide) (33 * f + k) (by omega) (by omega) (by decide) dX1_cut_30 (fun H locs hP hD hS => ?_)
      generalize eX1 : (zw Y 59 (33 * f + k) v) = X1 at hP hD
      have hx11 : ∀ c : Nat, c ≠ 59 → X1 c = Y c := fun c h9 => by rw [← eX1]; exact zw_cell h9
      have hwe1 : zWe X X1 := fun c h9 => by rw [hx11 c (by omega)]; exact hyc c (by omega) (by omega)
      have hV1 : zV X1 := hwe1.v hV
      refine lv_aload_n hx hb dX1_cut_31 rfl (lv_at hl 3 rfl) ?_
      refine va_get (D := G.1) (ci := 1) (v := .ref (ad 60)) (C := RX1) (T := TX1) (N := 6) hx hb hts hw1 hown hE.1 hP 57 p_57 rfl 4 (by decide) hf18 (fun _ h9 => h9) rfl dX1_cut_32 ?_
      refine lv_iload_n hx hb dX1_cut_35 rfl (lv_at hl 2 rfl) ?_
      refine lv_bipush (v := zi 33) hx hb dX1_cut_36 (by decide +kernel) ?_
      refine lv_imul hx hb dX1_cut_38 (zti (v := zi ((f : Int) * 33)) (zi_mul _ _) ?_)
      refine lv_iload_n hx hb dX1_cut_39 rfl (lv_at hl 0 rfl) ?_
      refine lv_iadd hx hb dX1_cut_40 (zti (v := zi (((f : Int) * 33) + (k : Int))) (zi_add _ _) ?_)
      refine lv_aload_n hx hb dX1_cut_41 rfl (lv_at hl 3 rfl) ?_
      refine va_get (D := G.1) (ci := 1) (v := .ref (ad 0)) (C := RX1) (T := TX1) (N := 6) hx hb hts hw1 hown hE.1 hP 57 p_57 rfl 0 (by decide) hf21 (fun _ h9 => h9) rfl dX1_cut_42 ?_
      refine lv_iload_n hx hb dX1_cut_45 rfl (lv_at hl 2 rfl) ?_
      refine lv_iload_n hx hb dX1_cut_46 rfl (lv_at hl 1 rfl) ?_
      refine zcall (wr := []) (va_runV (As := [.int (zi (f : Int)), .int (zi v)]) (rest := [.int (zi (((f : Int) * 33) + (k : Int))), .ref (ad 60)]) ⟨hx, hb, hml, hown, hts⟩ (c_X6_having l G ad X1 0 f v hV1 (Or.inl rfl) (by omega) (by omega) H.size) (cwV 2 hts gX1_cut_X6_having rfl rfl rfl (by decide +kernel) ⟨Nat.le_of_ble_eq_true rfl, Nat.le_of_ble_eq_true rfl⟩) (zPreV (wr := []) (wc := zpic G ad X1) (q0 := 0) (ci := 6) (q := (RX6, TX6, 3)) hP hD hE hS hA rfl (p_w (Or.inl rfl))) rfl rfl hl.1 rfl (lv_room (Nat.le_of_ble_eq_true rfl)) dX1_cut_47 ⟨Nat.le_of_ble_eq_true rfl, Nat.le_of_ble_eq_true rfl⟩) hP hD hS hA (fun _ _ H locs hf hP hD hS => ?_)
      obtain ⟨v1, rfl, hv1, rfl⟩ := hf
      have hP : va_P G.1 vwCl (zpic G ad X1) H := hP
      have hD : va_D A (zpic G ad X1) := hD
      refine W.eq (g2 := F0 m 50 ls [.int (zi v1), .int (zi (((f : Int) * 33) + (k : Int))), .ref (ad 60)]) rfl ?_
      rw [hwe1.hav hV (Or.inl rfl : zIsW 0) f v] at hv1
      rw [hv1]
      refine lv_aload_n hx hb dX1_cut_50 rfl (lv_at hl 3 rfl) ?_
      refine va_get (D := G.1) (ci := 1) (v := .ref (ad 26)) (C := RX1) (T := TX1) (N := 6) hx hb hts hw1 hown hE.1 hP 57 p_57 rfl 1 (by decide) hf25 (fun _ h9 => h9) rfl dX1_cut_51 ?_
      refine lv_iload_n hx hb dX1_cut_54 rfl (lv_at hl 2 rfl) ?_
      refine lv_iload_n hx hb dX1_cut_55 rfl (lv_at hl 1 rfl) ?_
      refine zcall (wr := []) (va_runV (As := [.int (zi (f : Int)), .int (zi v)]) (rest := [.int (zi ((zHav X 0 f v : Nat) : Int)), .int (zi (((f : Int) * 33) + (k : Int))), .ref (ad 60)]) ⟨hx, hb, hml, hown, hts⟩ (c_X6_having l G ad X1 26 f v hV1 (Or.inr rfl) (by omega) (by omega) H.size) (cwV 2 hts gX1_cut_X6_having rfl rfl rfl (by decide +kernel) ⟨Nat.le_of_ble_eq_true rfl, Nat.le_of_ble_eq_true rfl⟩) (zPreV (wr := []) (wc := zpic G ad X1) (q0 := 26) (ci := 6) (q := (RX6, TX6, 3)) hP hD hE hS hA rfl (p_w (Or.inr rfl))) rfl rfl hl.1 rfl (lv_room (Nat.le_of_ble_eq_true rfl)) dX1_cut_56 ⟨Nat.le_of_ble_eq_true rfl, Nat.le_of_ble_eq_true rfl⟩) hP hD hS hA (fun _ _ H locs hf hP hD hS => ?_)
      obtain ⟨v2, rfl, hv2, rfl⟩ := hf
      have hP : va_P G.1 vwCl (zpic G ad X1) H := hP
      have hD : va_D A (zpic G ad X1) := hD
      refine W.eq (g2 := F0 m 59 ls [.int (zi v2), .int (zi ((zHav X 0 f v : Nat) : Int)), .int (zi (((f : Int) * 33) + (k : Int))), .ref (ad 60)]) rfl ?_
      rw [hwe1.hav hV (Or.inr rfl : zIsW 26) f v] at hv2
      rw [hv2]
      refine lv_bipush (v := zi 8) hx hb dX1_cut_59 (by decide +kernel) ?_
      refine lv_ishl hx hb dX1_cut_61 (zti (v := zi ((zHav X 26 f v * 256 : Nat) : Int)) (zi_shl8 (zHav_lt hV (Or.inr rfl : zIsW 26) f v)) ?_)
      refine lv_ior hx hb dX1_cut_62 (zti (v := zi ((zMk X f v : Nat) : Int)) (zi_or _ _) ?_)
      refine zist hx hb hE hP hD hS 60 132 (fun _ => rfl) (by decide) (33 * f + k) (by omega) (by omega) (by decide) dX1_cut_63 (fun H locs hP hD hS => ?_)
      generalize eX2 : (zw X1 60 (33 * f + k) ((zMk X f v : Nat) : Int)) = X2 at hP hD
      have hx21 : ∀ c : Nat, c ≠ 60 → X2 c = X1 c := fun c h9 => by rw [← eX2]; exact zw_cell h9
      have hwe2 : zWe X X2 := fun c h9 => by rw [hx21 c (by omega)]; exact hwe1 c h9
      have hV2 : zV X2 := hwe2.v hV
      have h59 : ∀ j : Nat, X2 59 (33 * f + j) = if j = k then v else Y 59 (33 * f + j) := fun j => by rw [hx21 59 (by omega), ← eX1]; by_cases e9 : j = k; (rw [if_pos e9, e9, zw_at]); (rw [if_neg e9, zw_ne (show 33 * f + j ≠ 33 * f + k by omega)])
      have h60 : ∀ j : Nat, X2 60 (33 * f + j) = if j = k then (zMk X f v : Int) else Y 60 (33 * f + j) := fun j => by rw [← eX2]; by_cases e9 : j = k; (rw [if_pos e9, e9, zw_at]); (rw [if_neg e9, zw_ne (show 33 * f + j ≠ 33 * f + k by omega), hx11 60 (by omega)])
      refine lv_iinc (v := zi ((k : Int) + 1)) (lv' := [(3, .int (zi ((k : Int) + 1))), (2, .int (zi v)), (1, .int (zi (f : Int))), (0, .ref (ad 57))]) hx hb dX1_cut_64 hl (k := 0) rfl (zi_add _ _) (by decide) rfl (fun ls hl => ?_)
      refine lv_aload_n hx hb dX1_cut_67 rfl (lv_at hl 3 rfl) ?_
      refine va_get (D := G.1) (ci := 1) (v := .ref (ad 0)) (C := RX1) (T := TX1) (N := 6) hx hb hts hw1 hown hE.1 hP 57 p_57 rfl 0 (by decide) hf21 (fun _ h9 => h9) rfl dX1_cut_68 ?_
      refine lv_iload_n hx hb dX1_cut_71 rfl (lv_at hl 2 rfl) ?_
      refine lv_iload_n hx hb dX1_cut_72 rfl (lv_at hl 1 rfl) ?_
      refine zcall (wr := []) (va_runV (As := [.int (zi (f : Int)), .int (zi v)]) (rest := []) ⟨hx, hb, hml, hown, hts⟩ (c_X6_nextCut l G ad X2 0 f v hV2 (Or.inl rfl) (by omega) (by omega) H.size) (cwV 2 hts gX1_cut_X6_nextCut rfl rfl rfl (by decide +kernel) ⟨Nat.le_of_ble_eq_true rfl, Nat.le_of_ble_eq_true rfl⟩) (zPreV (wr := []) (wc := zpic G ad X2) (q0 := 0) (ci := 6) (q := (RX6, TX6, 3)) hP hD hE hS hA rfl (p_w (Or.inl rfl))) rfl rfl hl.1 rfl (lv_room (Nat.le_of_ble_eq_true rfl)) dX1_cut_73 ⟨Nat.le_of_ble_eq_true rfl, Nat.le_of_ble_eq_true rfl⟩) hP hD hS hA (fun _ _ H locs hf hP hD hS => ?_)
      obtain ⟨v3, rfl, hv3, rfl⟩ := hf
      have hP : va_P G.1 vwCl (zpic G ad X2) H := hP
      have hD : va_D A (zpic G ad X2) := hD
      refine W.eq (g2 := F0 m 76 ls [.int (zi v3)]) rfl ?_
      refine lv_aload_n hx hb dX1_cut_76 rfl (lv_at hl 3 rfl) ?_
      refine va_get (D := G.1) (ci := 1) (v := .ref (ad 26)) (C := RX1) (T := TX1) (N := 6) hx hb hts hw1 hown hE.1 hP 57 p_57 rfl 1 (by decide) hf25 (fun _ h9 => h9) rfl dX1_cut_77 ?_
      refine lv_iload_n hx hb dX1_cut_80 rfl (lv_at hl 2 rfl) ?_
      refine lv_iload_n hx hb dX1_cut_81 rfl (lv_at hl 1 rfl) ?_
      refine zcall (wr := []) (va_runV (As := [.int (zi (f : Int)), .int (zi v)]) (rest := [.int (zi v3)]) ⟨hx, hb, hml, hown, hts⟩ (c_X6_nextCut l G ad X2 26 f v hV2 (Or.inr rfl) (by omega) (by omega) H.size) (cwV 2 hts gX1_cut_X6_nextCut rfl rfl rfl (by decide +kernel) ⟨Nat.le_of_ble_eq_true rfl, Nat.le_of_ble_eq_true rfl⟩) (zPreV (wr := []) (wc := zpic G ad X2) (q0 := 26) (ci := 6) (q := (RX6, TX6, 3)) hP hD hE hS hA rfl (p_w (Or.inr rfl))) rfl rfl hl.1 rfl (lv_room (Nat.le_of_ble_eq_true rfl)) dX1_cut_82 ⟨Nat.le_of_ble_eq_true rfl, Nat.le_of_ble_eq_true rfl⟩) hP hD hS hA (fun _ _ H locs hf hP hD hS => ?_)
      obtain ⟨v4, rfl, hv4, rfl⟩ := hf
      have hP : va_P G.1 vwCl (zpic G ad X2) H := hP
      have hD : va_D A (zpic G ad X2) := hD
      refine W.eq (g2 := F0 m 85 ls [.int (zi v4), .int (zi v3)]) rfl ?_
      have hmn := zNc.min hV (hwe2.nc hV (Or.inl rfl : zIsW 0) hv3) (hwe2.nc hV (Or.inr rfl : zIsW 26) hv4)
      have hq3 := hv3.1
      have hq4 := hv4.1
      have hq5 := hv3.2.1
      have hq6 := hv4.2.1
      have hx11b : ∀ j : Nat, j ≠ 33 * f + k → X1 59 j = Y 59 j := fun j h9 => by rw [← eX1]; exact zw_ne h9
      have hx21b : ∀ j : Nat, j ≠ 33 * f + k → X2 60 j = X1 60 j := fun j h9 => by rw [← eX2]; exact zw_ne h9
      refine va_mmin hx hb (hml.trans hl.1.symm) hown hml48 hstmin hiniMath hmamin (Nat.le_of_ble_eq_true rfl) (Nat.le_of_ble_eq_true rfl) (Nat.le_of_ble_eq_true rfl) (Nat.le_of_ble_eq_true rfl) dX1_cut_85 ?_
      refine zti (v := zi (min v3 v4)) (zi_min (by omega) (by omega)) ?_
      refine lv_istore_n (lv' := [(2, .int (zi (min v3 v4))), (3, .int (zi ((k : Int) + 1))), (1, .int (zi (f : Int))), (0, .ref (ad 57))]) hx hb dX1_cut_88 rfl hl (by decide) rfl (fun ls hl => ?_)
      refine lv_goto (tgt := 4) hx hb dX1_cut_89 (by decide) ?_
      exact ih (k + 1) (min v3 v4) X2 (by omega) H locs ls ⟨hP, hD, hS, lv_sub hl [1, 0, 2, 3] rfl, (by omega), (fun h9 => by have h8 := hK (by omega); have h7 := hmn.2.2 h9; omega), (fun c h1 h2 => by rw [hx21 c h2, hx11 c h1]; exact hyc c h1 h2), (fun j h1 => by rw [hx21 59 (by omega), hx11b j (by omega), hx21b j (by omega), hx11 60 (by omega)]; exact hfr j h1), (zCg_step hg (by omega) hmn.1.1 hmn.1.2 h59 h60 (fun x q1 q2 => by unfold zMk; rw [(hmn.2.1 x q1 q2).1, (hmn.2.1 x q1 q2).2]))⟩

/-- the cuts' state; that they are made, nothing else changed -/
def zKC (X : Nat → Nat → Int) : Prop := X 57 5 = 0 ∨ (X 57 5 = 1 ∧ zCs X)
def zCd (X Y : Nat → Nat → Int) : Prop := (X 57 5 = 1 → Y = X) ∧ (∀ c : Nat, c ≠ 57 → c ≠ 58 → c ≠ 59 → c ≠ 60 → Y c = X c) ∧ Y 57 5 = 1 ∧ zCs Y
theorem zCd.we {X Y : Nat → Nat → Int} (h : zCd X Y) : zWe X Y := fun c hc => h.2.1 c (by omega) (by omega) (by omega) (by omega)

set_option maxHeartbeats 4000000 in
set_option maxRecDepth 100000 in
/-- refresh -/
theorem c_X1_refresh (l : Launch) (G : zG) (ad : Nat → Nat) (X : Nat → Nat → Int) (hV : zV X) (hKc : zKC X) : zR l G yX1_refresh wsX1_refresh { frames := 3, cells := 0, slots := 0, locals := 69 } (zpic G ad X) [.ref (ad 57)] (zv G ad (fun Y => zCd X Y)) 0 0 := by
  refine zR_of (cc := cX1_refresh) (maxL := 2) (rt := none) (by decide) rfl (Nat.le_of_ble_eq_true rfl) ?_
  intro p e s m below meth c A ls hx hb hml hr hts hown hlocks hin0 hA hE hP hD hS hl
  have hl : lv_has ls 2 [(0, .ref (ad 57))] := hl
  have hown : s.vm.findClass RX1 = some m.cls := hown
  have hc01 : X 57 5 = 0 ∨ X 57 5 = 1 := hKc.elim Or.inl (fun q => Or.inr q.1)
  have hw1 : ∀ w ∈ u_ws RX1 TX1 6, w ∈ wsX1_refresh := by decide +kernel
  have hf28 := hts (.fieldLink RX1 28 "Nettle$Cuts" "isFresh" "Z") (by decide +kernel)
  refine lv_aload_n hx hb dX1_refresh_0 rfl (lv_at hl 0 rfl) ?_
  refine va_get (D := G.1) (ci := 1) (v := .int (zi (X 57 5))) (C := RX1) (T := TX1) (N := 6) hx hb hts hw1 hown hE.1 hP 57 p_57 rfl 5 (by decide) hf28 (fun _ h9 => h9) rfl dX1_refresh_1 ?_
  refine z0_eq (tgt := 8) hx hb dX1_refresh_4 (by decide) (by omega) (fun h4 => ?_) (fun h4 => ?_)
  · refine lv_iconst (v := zi 0) hx hb dX1_refresh_8 rfl ?_
    refine lv_istore_n (lv' := [(1, .int (zi 0)), (0, .ref (ad 57))]) hx hb dX1_refresh_9 rfl hl (by decide) rfl (fun ls hl => ?_)
    refine zloop2 (fun (g : Nat) (Y : Nat → Nat → Int) => 4 - g) (fun (g : Nat) (Y : Nat → Nat → Int) (H : Heap) (locs : List Loc) (ls : Array Slot) => va_P G.1 vwCl (zpic G ad Y) H ∧ va_D A (zpic G ad Y) ∧ va_S A s.heap H locs ∧ lv_has ls 2 [(1, .int (zi (g : Int))), (0, .ref (ad 57))] ∧ (g ≤ 4) ∧ (∀ c : Nat, c ≠ 58 → c ≠ 59 → c ≠ 60 → Y c = X c) ∧ (∀ g2 : Nat, g2 < g → zCt X Y g2)) ?_ 0 X ⟨hP, hD, hS, lv_sub hl [0, 1] rfl, (by omega), (fun c h1 h2 h3 => rfl), (fun g2 h2 => by omega)⟩
    intro g Y ih H locs ls ⟨hP, hD, hS, hl, hg, hyc, hct⟩
    have hwY : zWe X Y := fun c h9 => hyc c (by omega) (by omega) (by omega)
    have hVY : zV Y := hwY.v hV
    refine lv_iload_n hx hb dX1_refresh_10 rfl (lv_at hl 0 rfl) ?_
    refine lv_iconst (v := zi 4) hx hb dX1_refresh_11 rfl ?_
    refine zc_ge (tgt := 26) hx hb dX1_refresh_12 (by decide) (by omega) (by decide) (fun h12 => ?_) (fun h12 => ?_)
    · refine lv_aload_n hx hb dX1_refresh_26 rfl (lv_at hl 1 rfl) ?_
      refine lv_iconst (v := zi 1) hx hb dX1_refresh_27 rfl ?_
      refine zput (C := RX1) (T := TX1) (N := 6) (ci := 1) (v := .int (zi 1)) (ty := tyX1 5) hx hb hts hw1 tyX1 tyX1_ok nmX1 hown hE hP hD hS 57 p_57 rfl 5 (by decide) hf28 (fun _ h9 => h9) rfl (by decide +kernel) rfl rfl (Nat.le_of_ble_eq_true rfl) (s_57 1) dX1_refresh_28 (fun H locs hP hD hS => ?_)
      exact zend_v hx hb hr hlocks hP hD hS (Nat.le_of_ble_eq_true rfl) (Nat.le_of_ble_eq_true rfl) dX1_refresh_31 ⟨_, rfl, (by have hg4 : g = 4 := (by omega); rw [hg4] at hct; have hwz : zWe X (zw Y 57 5 1) := (fun c h9 => by rw [zw_cell (show c ≠ 57 by omega)]; exact hwY c h9); exact ⟨fun h9 => by omega, fun c h1 h2 h3 h5 => by rw [zw_cell h1]; exact hyc c h2 h3 h5, zw_at _ _ _ _, fun g2 h2 => (hwz.ct hV).mpr ((hct g2 h2).keep (by rw [zw_cell (show (58 : Nat) ≠ 57 by decide)]) (fun j _ _ => ⟨by rw [zw_cell (show (59 : Nat) ≠ 57 by decide)], by rw [zw_cell (show (60 : Nat) ≠ 57 by decide)]⟩))⟩), rfl⟩
    · refine lv_aload_n hx hb dX1_refresh_15 rfl (lv_at hl 1 rfl) ?_
      refine lv_iload_n hx hb dX1_refresh_16 rfl (lv_at hl 0 rfl) ?_
      refine zcall (wr := []) (va_runV (As := [.int (zi (g : Int))]) (rest := []) ⟨hx, hb, hml, hown, hts⟩ (c_X1_cut l G ad Y g hVY (by omega) H.size) (cwV 1 hts gX1_refresh_X1_cut rfl rfl rfl (by decide +kernel) ⟨Nat.le_of_ble_eq_true rfl, Nat.le_of_ble_eq_true rfl⟩) (zPreV (wr := []) (wc := zpic G ad Y) (q0 := 57) (ci := 1) (q := (RX1, TX1, 6)) hP hD hE hS hA rfl p_57) rfl rfl hl.1 rfl (lv_room (Nat.le_of_ble_eq_true rfl)) dX1_refresh_17 ⟨Nat.le_of_ble_eq_true rfl, Nat.le_of_ble_eq_true rfl⟩) hP hD hS hA (fun _ _ H locs hf hP hD hS => ?_)
      obtain ⟨X1, rfl, hX1, rfl⟩ := hf
      have hP : va_P G.1 vwCl (zpic G ad X1) H := hP
      have hD : va_D A (zpic G ad X1) := hD
      refine W.eq (g2 := F0 m 20 ls []) rfl ?_
      refine lv_iinc (v := zi ((g : Int) + 1)) (lv' := [(1, .int (zi ((g : Int) + 1))), (0, .ref (ad 57))]) hx hb dX1_refresh_20 hl (k := 0) rfl (zi_add _ _) (by decide) rfl (fun ls hl => ?_)
      refine lv_goto (tgt := 10) hx hb dX1_refresh_23 (by decide) ?_
      exact ih (g + 1) X1 (by omega) H locs ls ⟨hP, hD, hS, lv_sub hl [0, 1] rfl, (by omega), (fun c h1 h2 h3 => by rw [hX1.1 c h1 h2 h3]; exact hyc c h1 h2 h3), (fun g2 h2 => by by_cases e9 : g2 = g; (rw [e9]; exact (hwY.ct hV).mp hX1.2.2.2); exact (hct g2 (by omega)).keep (hX1.2.1 g2 e9) (fun j q1 q2 => hX1.2.2.1 j (by omega)))⟩
  · exact zend_v hx hb hr hlocks hP hD hS (Nat.le_of_ble_eq_true rfl) (Nat.le_of_ble_eq_true rfl) dX1_refresh_7 ⟨_, rfl, (by rcases hKc with h | h; omega; exact ⟨fun _ => rfl, fun c _ _ _ _ => rfl, h.1, h.2⟩), rfl⟩

set_option maxHeartbeats 4000000 in
set_option maxRecDepth 100000 in
/-- start -/
theorem c_X1_start (l : Launch) (G : zG) (ad : Nat → Nat) (X : Nat → Nat → Int) (f : Nat) (j : Nat) (hCs : zCs X) (hf : f < 4) (hj : j ≤ 33) : zR l G yX1_start wsX1_start { frames := 0, cells := 0, slots := 0, locals := 0 } (zpic G ad X) [.ref (ad 57), .int (zi (f : Int)), .int (zi (j : Int))] (zq G ad X (fun w => w = zS0 X f j)) 0 0 := by
  refine zR_of (cc := cX1_start) (maxL := 3) (rt := (some .int)) (by decide) rfl (Nat.le_of_ble_eq_true rfl) ?_
  intro p e s m below meth c A ls hx hb hml hr hts hown hlocks hin0 hA hE hP hD hS hl
  have hl : lv_has ls 3 [(0, .ref (ad 57)), (1, .int (zi (f : Int))), (2, .int (zi (j : Int)))] := hl
  have hown : s.vm.findClass RX1 = some m.cls := hown
  have hcn := hCs.n hf
  have hw1 : ∀ w ∈ u_ws RX1 TX1 6, w ∈ wsX1_start := by decide +kernel
  have hf9 := hts (.fieldLink RX1 9 "Nettle$Cuts" "counts" "[I") (by decide +kernel)
  have hf15 := hts (.fieldLink RX1 15 "Nettle$Cuts" "starts" "[I") (by decide +kernel)
  refine lv_iload_n hx hb dX1_start_0 rfl (lv_at hl 2 rfl) ?_
  refine lv_aload_n hx hb dX1_start_1 rfl (lv_at hl 0 rfl) ?_
  refine va_get (D := G.1) (ci := 1) (v := .ref (ad 58)) (C := RX1) (T := TX1) (N := 6) hx hb hts hw1 hown hE.1 hP 57 p_57 rfl 2 (by decide) hf9 (fun _ h9 => h9) rfl dX1_start_2 ?_
  refine lv_iload_n hx hb dX1_start_5 rfl (lv_at hl 1 rfl) ?_
  refine zild hx hb hE hP 58 4 (fun _ => rfl) (by decide) f rfl (by omega) (by decide) dX1_start_6 ?_
  refine zc_ge (tgt := 24) hx hb dX1_start_7 (by decide) (by omega) (by omega) (fun h7 => ?_) (fun h7 => ?_)
  · refine va_getsN hx hb hE.2.1.1 hS hown (va_Nw.use rfl hE.2.2.2.1.2.2.2.2.1) (fun _ h9 => h9) dX1_start_24 ?_
    refine lv_iload_n hx hb dX1_start_27 rfl (lv_at hl 1 rfl) ?_
    refine zsz_ld hx hb hE hS f rfl (by omega) dX1_start_28 ?_
    exact zend_i hx hb hr hlocks hP hD hS (Nat.le_of_ble_eq_true rfl) (Nat.le_of_ble_eq_true rfl) dX1_start_29 ⟨_, rfl, (by unfold zS0; rw [if_neg (by omega)]), rfl⟩
  · refine lv_aload_n hx hb dX1_start_10 rfl (lv_at hl 0 rfl) ?_
    refine va_get (D := G.1) (ci := 1) (v := .ref (ad 59)) (C := RX1) (T := TX1) (N := 6) hx hb hts hw1 hown hE.1 hP 57 p_57 rfl 3 (by decide) hf15 (fun _ h9 => h9) rfl dX1_start_11 ?_
    refine lv_iload_n hx hb dX1_start_14 rfl (lv_at hl 1 rfl) ?_
    refine lv_bipush (v := zi 33) hx hb dX1_start_15 (by decide +kernel) ?_
    refine lv_imul hx hb dX1_start_17 (zti (v := zi ((f : Int) * 33)) (zi_mul _ _) ?_)
    refine lv_iload_n hx hb dX1_start_18 rfl (lv_at hl 2 rfl) ?_
    refine lv_iadd hx hb dX1_start_19 (zti (v := zi (((f : Int) * 33) + (j : Int))) (zi_add _ _) ?_)
    refine zild hx hb hE hP 59 132 (fun _ => rfl) (by decide) (33 * f + j) (by omega) (by omega) (by decide) dX1_start_20 ?_
    refine lv_goto (tgt := 29) hx hb dX1_start_21 (by decide) ?_
    exact zend_i hx hb hr hlocks hP hD hS (Nat.le_of_ble_eq_true rfl) (Nat.le_of_ble_eq_true rfl) dX1_start_29 ⟨_, rfl, (by unfold zS0; rw [if_pos (by omega)]), rfl⟩

set_option maxHeartbeats 4000000 in
set_option maxRecDepth 100000 in
/-- mask -/
theorem c_X1_mask (l : Launch) (G : zG) (ad : Nat → Nat) (X : Nat → Nat → Int) (f : Nat) (j : Nat) (hCs : zCs X) (hf : f < 4) (hj : j < zCn X f) : zR l G yX1_mask wsX1_mask { frames := 0, cells := 0, slots := 0, locals := 0 } (zpic G ad X) [.ref (ad 57), .int (zi (f : Int)), .int (zi (j : Int))] (zq G ad X (fun w => w = (zMa X f j : Int))) 0 0 := by
  refine zR_of (cc := cX1_mask) (maxL := 3) (rt := (some .int)) (by decide) rfl (Nat.le_of_ble_eq_true rfl) ?_
  intro p e s m below meth c A ls hx hb hml hr hts hown hlocks hin0 hA hE hP hD hS hl
  have hl : lv_has ls 3 [(0, .ref (ad 57)), (1, .int (zi (f : Int))), (2, .int (zi (j : Int)))] := hl
  have hown : s.vm.findClass RX1 = some m.cls := hown
  have hcn := hCs.n hf
  have hw1 : ∀ w ∈ u_ws RX1 TX1 6, w ∈ wsX1_mask := by decide +kernel
  have hf18 := hts (.fieldLink RX1 18 "Nettle$Cuts" "masks" "[I") (by decide +kernel)
  refine lv_aload_n hx hb dX1_mask_0 rfl (lv_at hl 0 rfl) ?_
  refine va_get (D := G.1) (ci := 1) (v := .ref (ad 60)) (C := RX1) (T := TX1) (N := 6) hx hb hts hw1 hown hE.1 hP 57 p_57 rfl 4 (by decide) hf18 (fun _ h9 => h9) rfl dX1_mask_1 ?_
  refine lv_iload_n hx hb dX1_mask_4 rfl (lv_at hl 1 rfl) ?_
  refine lv_bipush (v := zi 33) hx hb dX1_mask_5 (by decide +kernel) ?_
  refine lv_imul hx hb dX1_mask_7 (zti (v := zi ((f : Int) * 33)) (zi_mul _ _) ?_)
  refine lv_iload_n hx hb dX1_mask_8 rfl (lv_at hl 2 rfl) ?_
  refine lv_iadd hx hb dX1_mask_9 (zti (v := zi (((f : Int) * 33) + (j : Int))) (zi_add _ _) ?_)
  refine zild hx hb hE hP 60 132 (fun _ => rfl) (by decide) (33 * f + j) (by omega) (by omega) (by decide) dX1_mask_10 ?_
  exact zend_i hx hb hr hlocks hP hD hS (Nat.le_of_ble_eq_true rfl) (Nat.le_of_ble_eq_true rfl) dX1_mask_11 ⟨_, rfl, (hCs.ma hf hj).1, rfl⟩

set_option maxHeartbeats 4000000 in
set_option maxRecDepth 100000 in
/-- startsRun -/
theorem c_X1_startsRun (l : Launch) (G : zG) (ad : Nat → Nat) (X : Nat → Nat → Int) (f : Nat) (j : Nat) (u : Nat) (hV : zV X) (hCs : zCs X) (hf : f < 4) (hj : j < zCn X f) (hu : u < 65536) : zR l G yX1_startsRun wsX1_startsRun { frames := 1, cells := 0, slots := 0, locals := 22 } (zpic G ad X) [.ref (ad 57), .int (zi (f : Int)), .int (zi (j : Int)), .int (zi (u : Int))] (zq G ad X (fun w => (w = 1 ∧ zSR X f j u) ∨ (w = 0 ∧ ¬ zSR X f j u))) 0 0 := by
  refine zR_of (cc := cX1_startsRun) (maxL := 4) (rt := (some .boolean)) (by decide) rfl (Nat.le_of_ble_eq_true rfl) ?_
  intro p e s m below meth c A ls hx hb hml hr hts hown hlocks hin0 hA hE hP hD hS hl
  have hl : lv_has ls 4 [(0, .ref (ad 57)), (1, .int (zi (f : Int))), (2, .int (zi (j : Int))), (3, .int (zi (u : Int)))] := hl
  have hown : s.vm.findClass RX1 = some m.cls := hown
  have hcn := hCs.n hf
  refine lv_iload_n hx hb dX1_startsRun_0 rfl (lv_at hl 2 rfl) ?_
  refine z0_eq (tgt := 24) hx hb dX1_startsRun_1 (by decide) (by omega) (fun h1 => ?_) (fun h1 => ?_)
  · refine lv_iconst (v := zi 1) hx hb dX1_startsRun_24 rfl ?_
    refine lv_goto (tgt := 29) hx hb dX1_startsRun_25 (by decide) ?_
    exact zend_z hx hb hr hlocks (by decide +kernel) hP hD hS (Nat.le_of_ble_eq_true rfl) (Nat.le_of_ble_eq_true rfl) dX1_startsRun_29 ⟨_, rfl, (Or.inl ⟨rfl, Or.inl (by omega)⟩), rfl⟩
  · refine lv_aload_n hx hb dX1_startsRun_4 rfl (lv_at hl 0 rfl) ?_
    refine lv_iload_n hx hb dX1_startsRun_5 rfl (lv_at hl 1 rfl) ?_
    refine lv_iload_n hx hb dX1_startsRun_6 rfl (lv_at hl 2 rfl) ?_
    refine zcall (wr := []) (va_runV (As := [.int (zi (f : Int)), .int (zi (j : Int))]) (rest := []) ⟨hx, hb, hml, hown, hts⟩ (c_X1_mask l G ad X f j (by omega) (by omega) (by omega) s.heap.size) (cwV 2 hts gX1_startsRun_X1_mask rfl rfl rfl (by decide +kernel) ⟨Nat.le_of_ble_eq_true rfl, Nat.le_of_ble_eq_true rfl⟩) (zPreV (wr := []) (wc := zpic G ad X) (q0 := 57) (ci := 1) (q := (RX1, TX1, 6)) hP hD hE hS hA rfl p_57) rfl rfl hl.1 rfl (lv_room (Nat.le_of_ble_eq_true rfl)) dX1_startsRun_7 ⟨Nat.le_of_ble_eq_true rfl, Nat.le_of_ble_eq_true rfl⟩) hP hD hS hA (fun _ _ H locs hf hP hD hS => ?_)
    obtain ⟨v1, rfl, hv1, rfl⟩ := hf
    have hP : va_P G.1 vwCl (zpic G ad X) H := hP
    have hD : va_D A (zpic G ad X) := hD
    refine W.eq (g2 := F0 m 10 ls [.int (zi v1)]) rfl ?_
    refine lv_aload_n hx hb dX1_startsRun_10 rfl (lv_at hl 0 rfl) ?_
    refine lv_iload_n hx hb dX1_startsRun_11 rfl (lv_at hl 1 rfl) ?_
    refine lv_iload_n hx hb dX1_startsRun_12 rfl (lv_at hl 2 rfl) ?_
    refine lv_iconst (v := zi 1) hx hb dX1_startsRun_13 rfl ?_
    refine lv_isub hx hb dX1_startsRun_14 (zti (v := zi ((j : Int) - 1)) (zi_sub _ _) ?_)
    refine zti (v := zi ((j - 1 : Nat) : Int)) (congrArg zi (by omega)) ?_
    refine zcall (wr := []) (va_runV (As := [.int (zi (f : Int)), .int (zi ((j - 1 : Nat) : Int))]) (rest := [.int (zi v1)]) ⟨hx, hb, hml, hown, hts⟩ (c_X1_mask l G ad X f (j - 1 : Nat) (by omega) (by omega) (by omega) H.size) (cwV 2 hts gX1_startsRun_X1_mask rfl rfl rfl (by decide +kernel) ⟨Nat.le_of_ble_eq_true rfl, Nat.le_of_ble_eq_true rfl⟩) (zPreV (wr := []) (wc := zpic G ad X) (q0 := 57) (ci := 1) (q := (RX1, TX1, 6)) hP hD hE hS hA rfl p_57) rfl rfl hl.1 rfl (lv_room (Nat.le_of_ble_eq_true rfl)) dX1_startsRun_15 ⟨Nat.le_of_ble_eq_true rfl, Nat.le_of_ble_eq_true rfl⟩) hP hD hS hA (fun _ _ H locs hf hP hD hS => ?_)
    obtain ⟨v2, rfl, hv2, rfl⟩ := hf
    have hP : va_P G.1 vwCl (zpic G ad X) H := hP
    have hD : va_D A (zpic G ad X) := hD
    refine W.eq (g2 := F0 m 18 ls [.int (zi v2), .int (zi v1)]) rfl ?_
    refine lv_ixor hx hb dX1_startsRun_18 (zti (v := zi ((zMa X f j ^^^ zMa X f (j - 1) : Nat) : Int)) (by rw [hv1, hv2]; exact zi_xor _ _) ?_)
    have ha1 : (zMa X f j ^^^ zMa X f (j - 1)) &&& u ≤ u := Nat.and_le_right
    refine lv_iload_n hx hb dX1_startsRun_19 rfl (lv_at hl 3 rfl) ?_
    refine lv_iand hx hb dX1_startsRun_20 (zti (v := zi (((zMa X f j ^^^ zMa X f (j - 1)) &&& u : Nat) : Int)) (zi_and _ _) ?_)
    refine z0_eq (tgt := 28) hx hb dX1_startsRun_21 (by decide) (by omega) (fun h21 => ?_) (fun h21 => ?_)
    · refine lv_iconst (v := zi 0) hx hb dX1_startsRun_28 rfl ?_
      exact zend_z hx hb hr hlocks (by decide +kernel) hP hD hS (Nat.le_of_ble_eq_true rfl) (Nat.le_of_ble_eq_true rfl) dX1_startsRun_29 ⟨_, rfl, (Or.inr ⟨rfl, fun z => by rcases z with z | z; omega; exact z (by omega)⟩), rfl⟩
    · refine lv_iconst (v := zi 1) hx hb dX1_startsRun_24 rfl ?_
      refine lv_goto (tgt := 29) hx hb dX1_startsRun_25 (by decide) ?_
      exact zend_z hx hb hr hlocks (by decide +kernel) hP hD hS (Nat.le_of_ble_eq_true rfl) (Nat.le_of_ble_eq_true rfl) dX1_startsRun_29 ⟨_, rfl, (Or.inl ⟨rfl, Or.inr (by omega)⟩), rfl⟩

set_option maxHeartbeats 4000000 in
set_option maxRecDepth 100000 in
/-- runEnd -/
theorem c_X1_runEnd (l : Launch) (G : zG) (ad : Nat → Nat) (X : Nat → Nat → Int) (f : Nat) (j : Nat) (u : Nat) (hV : zV X) (hCs : zCs X) (hf : f < 4) (hj : j < zCn X f) (hu : u < 65536) : zR l G yX1_runEnd wsX1_runEnd { frames := 2, cells := 0, slots := 0, locals := 45 } (zpic G ad X) [.ref (ad 57), .int (zi (f : Int)), .int (zi (j : Int)), .int (zi (u : Int))] (zq G ad X (fun w => ∃ k : Nat, zRE X f j u k ∧ w = zS0 X f k)) 0 0 := by
  refine zR_of (cc := cX1_runEnd) (maxL := 5) (rt := (some .int)) (by decide) rfl (Nat.le_of_ble_eq_true rfl) ?_
  intro p e s m below meth c A ls hx hb hml hr hts hown hlocks hin0 hA hE hP hD hS hl
  have hl : lv_has ls 5 [(0, .ref (ad 57)), (1, .int (zi (f : Int))), (2, .int (zi (j : Int))), (3, .int (zi (u : Int)))] := hl
  have hown : s.vm.findClass RX1 = some m.cls := hown
  have hcn := hCs.n hf
  have hw1 : ∀ w ∈ u_ws RX1 TX1 6, w ∈ wsX1_runEnd := by decide +kernel
  have hf9 := hts (.fieldLink RX1 9 "Nettle$Cuts" "counts" "[I") (by decide +kernel)
  refine lv_iload_n hx hb dX1_runEnd_0 rfl (lv_at hl 2 rfl) ?_
  refine lv_iconst (v := zi 1) hx hb dX1_runEnd_1 rfl ?_
  refine lv_iadd hx hb dX1_runEnd_2 (zti (v := zi ((j : Int) + 1)) (zi_add _ _) ?_)
  refine lv_istore (lv' := [(4, .int (zi ((j : Int) + 1))), (0, .ref (ad 57)), (1, .int (zi (f : Int))), (2, .int (zi (j : Int))), (3, .int (zi (u : Int)))]) hx hb dX1_runEnd_3 hl (by decide) rfl (fun ls hl => ?_)
  refine zloop1 (fun (k : Nat) => 34 - k) (fun (k : Nat) (H : Heap) (locs : List Loc) (ls : Array Slot) => va_P G.1 vwCl (zpic G ad X) H ∧ va_D A (zpic G ad X) ∧ va_S A s.heap H locs ∧ lv_has ls 5 [(4, .int (zi (k : Int))), (3, .int (zi (u : Int))), (2, .int (zi (j : Int))), (1, .int (zi (f : Int))), (0, .ref (ad 57))] ∧ (j < k ∧ k ≤ zCn X f) ∧ (∀ q : Nat, j < q → q < k → ¬ zSR X f q u)) ?_ (j + 1) ⟨hP, hD, hS, lv_sub hl [0, 4, 3, 2, 1] rfl, (by omega), (fun q h1 h2 => by omega)⟩
  intro k ih H locs ls ⟨hP, hD, hS, hl, hk, hw⟩
  refine lv_iload hx hb dX1_runEnd_5 (lv_at hl 0 rfl) ?_
  refine lv_aload_n hx hb dX1_runEnd_7 rfl (lv_at hl 4 rfl) ?_
  refine va_get (D := G.1) (ci := 1) (v := .ref (ad 58)) (C := RX1) (T := TX1) (N := 6) hx hb hts hw1 hown hE.1 hP 57 p_57 rfl 2 (by decide) hf9 (fun _ h9 => h9) rfl dX1_runEnd_8 ?_
  refine lv_iload_n hx hb dX1_runEnd_11 rfl (lv_at hl 3 rfl) ?_
  refine zild hx hb hE hP 58 4 (fun _ => rfl) (by decide) f rfl (by omega) (by decide) dX1_runEnd_12 ?_
  refine zc_ge (tgt := 41) hx hb dX1_runEnd_13 (by decide) (by omega) (by omega) (fun h13 => ?_) (fun h13 => ?_)
  · refine va_getsN hx hb hE.2.1.1 hS hown (va_Nw.use rfl hE.2.2.2.1.2.2.2.2.1) (fun _ h9 => h9) dX1_runEnd_41 ?_
    refine lv_iload_n hx hb dX1_runEnd_44 rfl (lv_at hl 3 rfl) ?_
    refine zsz_ld hx hb hE hS f rfl (by omega) dX1_runEnd_45 ?_
    exact zend_i hx hb hr hlocks hP hD hS (Nat.le_of_ble_eq_true rfl) (Nat.le_of_ble_eq_true rfl) dX1_runEnd_46 ⟨_, rfl, ⟨k, ⟨by omega, by omega, hw, Or.inl (by omega)⟩, by have hkc : k = zCn X f := (by omega); rw [hkc, zCs.sn]⟩, rfl⟩
  · refine lv_aload_n hx hb dX1_runEnd_16 rfl (lv_at hl 4 rfl) ?_
    refine lv_iload_n hx hb dX1_runEnd_17 rfl (lv_at hl 3 rfl) ?_
    refine lv_iload hx hb dX1_runEnd_18 (lv_at hl 0 rfl) ?_
    refine lv_iload_n hx hb dX1_runEnd_20 rfl (lv_at hl 1 rfl) ?_
    refine zcall (wr := []) (va_runV (As := [.int (zi (f : Int)), .int (zi (k : Int)), .int (zi (u : Int))]) (rest := []) ⟨hx, hb, hml, hown, hts⟩ (c_X1_startsRun l G ad X f k u hV (by omega) (by omega) (by omega) (by omega) H.size) (cwV 3 hts gX1_runEnd_X1_startsRun rfl rfl rfl (by decide +kernel) ⟨Nat.le_of_ble_eq_true rfl, Nat.le_of_ble_eq_true rfl⟩) (zPreV (wr := []) (wc := zpic G ad X) (q0 := 57) (ci := 1) (q := (RX1, TX1, 6)) hP hD hE hS hA rfl p_57) rfl rfl hl.1 rfl (lv_room (Nat.le_of_ble_eq_true rfl)) dX1_runEnd_21 ⟨Nat.le_of_ble_eq_true rfl, Nat.le_of_ble_eq_true rfl⟩) hP hD hS hA (fun _ _ H locs hf hP hD hS => ?_)
    obtain ⟨v1, rfl, hv1, rfl⟩ := hf
    have hP : va_P G.1 vwCl (zpic G ad X) H := hP
    have hD : va_D A (zpic G ad X) := hD
    refine W.eq (g2 := F0 m 24 ls [.int (zi v1)]) rfl ?_
    refine z0_eq (tgt := 35) hx hb dX1_runEnd_24 (by decide) (by omega) (fun h24 => ?_) (fun h24 => ?_)
    · refine lv_iinc (v := zi ((k : Int) + 1)) (lv' := [(4, .int (zi ((k : Int) + 1))), (3, .int (zi (u : Int))), (2, .int (zi (j : Int))), (1, .int (zi (f : Int))), (0, .ref (ad 57))]) hx hb dX1_runEnd_35 hl (k := 0) rfl (zi_add _ _) (by decide) rfl (fun ls hl => ?_)
      refine lv_goto (tgt := 5) hx hb dX1_runEnd_38 (by decide) ?_
      exact ih (k + 1) (by omega) H locs ls ⟨hP, hD, hS, lv_sub hl [0, 1, 2, 3, 4] rfl, (by omega), (fun q h1 h2 => by by_cases e9 : q = k; (rw [e9]; rcases hv1 with h | h; omega; exact h.2); exact hw q h1 (by omega))⟩
    · refine lv_aload_n hx hb dX1_runEnd_27 rfl (lv_at hl 4 rfl) ?_
      refine lv_iload_n hx hb dX1_runEnd_28 rfl (lv_at hl 3 rfl) ?_
      refine lv_iload hx hb dX1_runEnd_29 (lv_at hl 0 rfl) ?_
      refine zcall (wr := []) (va_runV (As := [.int (zi (f : Int)), .int (zi (k : Int))]) (rest := []) ⟨hx, hb, hml, hown, hts⟩ (c_X1_start l G ad X f k (by omega) (by omega) (by omega) H.size) (cwV 2 hts gX1_runEnd_X1_start rfl rfl rfl (by decide +kernel) ⟨Nat.le_of_ble_eq_true rfl, Nat.le_of_ble_eq_true rfl⟩) (zPreV (wr := []) (wc := zpic G ad X) (q0 := 57) (ci := 1) (q := (RX1, TX1, 6)) hP hD hE hS hA rfl p_57) rfl rfl hl.1 rfl (lv_room (Nat.le_of_ble_eq_true rfl)) dX1_runEnd_31 ⟨Nat.le_of_ble_eq_true rfl, Nat.le_of_ble_eq_true rfl⟩) hP hD hS hA (fun _ _ H locs hf hP hD hS => ?_)
      obtain ⟨v2, rfl, hv2, rfl⟩ := hf
      have hP : va_P G.1 vwCl (zpic G ad X) H := hP
      have hD : va_D A (zpic G ad X) := hD
      refine W.eq (g2 := F0 m 34 ls [.int (zi v2)]) rfl ?_
      exact zend_i hx hb hr hlocks hP hD hS (Nat.le_of_ble_eq_true rfl) (Nat.le_of_ble_eq_true rfl) dX1_runEnd_34 ⟨_, rfl, ⟨k, ⟨by omega, by omega, hw, Or.inr (by rcases hv1 with h | h; exact h.2; omega)⟩, hv2⟩, rfl⟩
