/-! Rule and Wall, over a wall without rules -/
theorem dX3_reset_0 : decode cX3_reset 0 = .ok (.aload_n 0, 1) := by decide +kernel
theorem dX3_reset_1 : decode cX3_reset 1 = .ok (.iload_n 1, 1) := by decide +kernel
theorem dX3_reset_2 : decode cX3_reset 2 = .ok (.putfield 18, 3) := by decide +kernel
theorem dX3_reset_5 : decode cX3_reset 5 = .ok (.aload_n 0, 1) := by decide +kernel
theorem dX3_reset_6 : decode cX3_reset 6 = .ok (.iconst 0, 1) := by decide +kernel
theorem dX3_reset_7 : decode cX3_reset 7 = .ok (.putfield 22, 3) := by decide +kernel
theorem dX3_reset_10 : decode cX3_reset 10 = .ok (.iconst 0, 1) := by decide +kernel
theorem dX3_reset_11 : decode cX3_reset 11 = .ok (.istore_n 2, 1) := by decide +kernel
theorem dX3_reset_12 : decode cX3_reset 12 = .ok (.iload_n 2, 1) := by decide +kernel
theorem dX3_reset_13 : decode cX3_reset 13 = .ok (.iconst 4, 1) := by decide +kernel
theorem dX3_reset_14 : decode cX3_reset 14 = .ok (.if_icmp .ge 29, 3) := by decide +kernel
theorem dX3_reset_17 : decode cX3_reset 17 = .ok (.aload_n 0, 1) := by decide +kernel
theorem dX3_reset_18 : decode cX3_reset 18 = .ok (.getfield 9, 3) := by decide +kernel
theorem dX3_reset_21 : decode cX3_reset 21 = .ok (.iload_n 2, 1) := by decide +kernel
theorem dX3_reset_22 : decode cX3_reset 22 = .ok (.iconst 0, 1) := by decide +kernel
theorem dX3_reset_23 : decode cX3_reset 23 = .ok (.iastore, 1) := by decide +kernel
theorem dX3_reset_24 : decode cX3_reset 24 = .ok (.aload_n 0, 1) := by decide +kernel
theorem dX3_reset_25 : decode cX3_reset 25 = .ok (.getfield 15, 3) := by decide +kernel
theorem dX3_reset_28 : decode cX3_reset 28 = .ok (.iload_n 2, 1) := by decide +kernel
theorem dX3_reset_29 : decode cX3_reset 29 = .ok (.getstatic 25, 3) := by decide +kernel
theorem dX3_reset_32 : decode cX3_reset 32 = .ok (.iload_n 2, 1) := by decide +kernel
theorem dX3_reset_33 : decode cX3_reset 33 = .ok (.iaload, 1) := by decide +kernel
theorem dX3_reset_34 : decode cX3_reset 34 = .ok (.iconst 1, 1) := by decide +kernel
theorem dX3_reset_35 : decode cX3_reset 35 = .ok (.isub, 1) := by decide +kernel
theorem dX3_reset_36 : decode cX3_reset 36 = .ok (.iastore, 1) := by decide +kernel
theorem dX3_reset_37 : decode cX3_reset 37 = .ok (.iinc 2 1, 3) := by decide +kernel
theorem dX3_reset_40 : decode cX3_reset 40 = .ok (.goto (-28), 3) := by decide +kernel
theorem dX3_reset_43 : decode cX3_reset 43 = .ok (.return_, 1) := by decide +kernel
theorem dX6_add_0 : decode cX6_add 0 = .ok (.aload_n 0, 1) := by decide +kernel
theorem dX6_add_1 : decode cX6_add 1 = .ok (.getfield 11, 3) := by decide +kernel
theorem dX6_add_4 : decode cX6_add 4 = .ok (.aload_n 0, 1) := by decide +kernel
theorem dX6_add_5 : decode cX6_add 5 = .ok (.getfield 18, 3) := by decide +kernel
theorem dX6_add_8 : decode cX6_add 8 = .ok (.aaload, 1) := by decide +kernel
theorem dX6_add_9 : decode cX6_add 9 = .ok (.iload_n 1, 1) := by decide +kernel
set_option maxRecDepth 20000 in
theorem ggX6_add_X3_reset : GoodIn wsX6_add wsX3_reset := goodIn_r _ [7, 8, 9, 10, 11, 15, 16, 17, 18] (by decide +kernel) (by decide +kernel)
set_option maxRecDepth 20000 in
theorem gX6_add_X3_reset : GoodIn wsX6_add (wsV RX6 22 RX3 yX3_reset wsX3_reset) := goodIn_app (goodIn_of _ (by decide +kernel)) ggX6_add_X3_reset
theorem dX6_add_10 : decode cX6_add 10 = .ok (.invokevirtual 22, 3) := by decide +kernel
theorem dX6_add_13 : decode cX6_add 13 = .ok (.aload_n 0, 1) := by decide +kernel
theorem dX6_add_14 : decode cX6_add 14 = .ok (.dup, 1) := by decide +kernel
theorem dX6_add_15 : decode cX6_add 15 = .ok (.getfield 18, 3) := by decide +kernel
theorem dX6_add_18 : decode cX6_add 18 = .ok (.iconst 1, 1) := by decide +kernel
theorem dX6_add_19 : decode cX6_add 19 = .ok (.iadd, 1) := by decide +kernel
theorem dX6_add_20 : decode cX6_add 20 = .ok (.putfield 18, 3) := by decide +kernel
theorem dX6_add_23 : decode cX6_add 23 = .ok (.return_, 1) := by decide +kernel
theorem dX6_takeFrom_0 : decode cX6_takeFrom 0 = .ok (.iconst 0, 1) := by decide +kernel
theorem dX6_takeFrom_1 : decode cX6_takeFrom 1 = .ok (.istore_n 2, 1) := by decide +kernel
theorem dX6_takeFrom_2 : decode cX6_takeFrom 2 = .ok (.iload_n 2, 1) := by decide +kernel
theorem dX6_takeFrom_3 : decode cX6_takeFrom 3 = .ok (.aload_n 1, 1) := by decide +kernel
theorem dX6_takeFrom_4 : decode cX6_takeFrom 4 = .ok (.getfield 18, 3) := by decide +kernel
theorem dX6_takeFrom_7 : decode cX6_takeFrom 7 = .ok (.if_icmp .ge 24, 3) := by decide +kernel
theorem dX6_takeFrom_31 : decode cX6_takeFrom 31 = .ok (.aload_n 0, 1) := by decide +kernel
theorem dX6_takeFrom_32 : decode cX6_takeFrom 32 = .ok (.aload_n 1, 1) := by decide +kernel
theorem dX6_takeFrom_33 : decode cX6_takeFrom 33 = .ok (.getfield 18, 3) := by decide +kernel
theorem dX6_takeFrom_36 : decode cX6_takeFrom 36 = .ok (.putfield 18, 3) := by decide +kernel
theorem dX6_takeFrom_39 : decode cX6_takeFrom 39 = .ok (.aload_n 0, 1) := by decide +kernel
theorem dX6_takeFrom_40 : decode cX6_takeFrom 40 = .ok (.aload_n 1, 1) := by decide +kernel
theorem dX6_takeFrom_41 : decode cX6_takeFrom 41 = .ok (.getfield 34, 3) := by decide +kernel
theorem dX6_takeFrom_44 : decode cX6_takeFrom 44 = .ok (.putfield 34, 3) := by decide +kernel
theorem dX6_takeFrom_47 : decode cX6_takeFrom 47 = .ok (.return_, 1) := by decide +kernel
theorem dX6_deciders_0 : decode cX6_deciders 0 = .ok (.iconst 0, 1) := by decide +kernel
theorem dX6_deciders_1 : decode cX6_deciders 1 = .ok (.istore_n 1, 1) := by decide +kernel
theorem dX6_deciders_2 : decode cX6_deciders 2 = .ok (.iconst 0, 1) := by decide +kernel
theorem dX6_deciders_3 : decode cX6_deciders 3 = .ok (.istore_n 2, 1) := by decide +kernel
theorem dX6_deciders_4 : decode cX6_deciders 4 = .ok (.iload_n 2, 1) := by decide +kernel
theorem dX6_deciders_5 : decode cX6_deciders 5 = .ok (.aload_n 0, 1) := by decide +kernel
theorem dX6_deciders_6 : decode cX6_deciders 6 = .ok (.getfield 18, 3) := by decide +kernel
theorem dX6_deciders_9 : decode cX6_deciders 9 = .ok (.if_icmp .ge 27, 3) := by decide +kernel
theorem dX6_deciders_36 : decode cX6_deciders 36 = .ok (.iload_n 1, 1) := by decide +kernel
theorem dX6_deciders_37 : decode cX6_deciders 37 = .ok (.ireturn, 1) := by decide +kernel
theorem dX6_having_0 : decode cX6_having 0 = .ok (.iconst 0, 1) := by decide +kernel
theorem dX6_having_1 : decode cX6_having 1 = .ok (.istore_n 3, 1) := by decide +kernel
theorem dX6_having_2 : decode cX6_having 2 = .ok (.iconst 0, 1) := by decide +kernel
theorem dX6_having_3 : decode cX6_having 3 = .ok (.istore 4, 2) := by decide +kernel
theorem dX6_having_5 : decode cX6_having 5 = .ok (.iload 4, 2) := by decide +kernel
theorem dX6_having_7 : decode cX6_having 7 = .ok (.aload_n 0, 1) := by decide +kernel
theorem dX6_having_8 : decode cX6_having 8 = .ok (.getfield 18, 3) := by decide +kernel
theorem dX6_having_11 : decode cX6_having 11 = .ok (.if_icmp .ge 31, 3) := by decide +kernel
theorem dX6_having_42 : decode cX6_having 42 = .ok (.iload_n 3, 1) := by decide +kernel
theorem dX6_having_43 : decode cX6_having 43 = .ok (.ireturn, 1) := by decide +kernel
theorem dX6_nextCut_0 : decode cX6_nextCut 0 = .ok (.getstatic 46, 3) := by decide +kernel
theorem dX6_nextCut_3 : decode cX6_nextCut 3 = .ok (.iload_n 1, 1) := by decide +kernel
theorem dX6_nextCut_4 : decode cX6_nextCut 4 = .ok (.iaload, 1) := by decide +kernel
theorem dX6_nextCut_5 : decode cX6_nextCut 5 = .ok (.istore_n 3, 1) := by decide +kernel
theorem dX6_nextCut_6 : decode cX6_nextCut 6 = .ok (.iconst 0, 1) := by decide +kernel
theorem dX6_nextCut_7 : decode cX6_nextCut 7 = .ok (.istore 4, 2) := by decide +kernel
theorem dX6_nextCut_9 : decode cX6_nextCut 9 = .ok (.iload 4, 2) := by decide +kernel
theorem dX6_nextCut_11 : decode cX6_nextCut 11 = .ok (.aload_n 0, 1) := by decide +kernel
theorem dX6_nextCut_12 : decode cX6_nextCut 12 = .ok (.getfield 18, 3) := by decide +kernel
theorem dX6_nextCut_15 : decode cX6_nextCut 15 = .ok (.if_icmp .ge 77, 3) := by decide +kernel
theorem dX6_nextCut_92 : decode cX6_nextCut 92 = .ok (.iload_n 3, 1) := by decide +kernel
theorem dX6_nextCut_93 : decode cX6_nextCut 93 = .ok (.ireturn, 1) := by decide +kernel
theorem dX6_firstOf_0 : decode cX6_firstOf 0 = .ok (.iconst 0, 1) := by decide +kernel
theorem dX6_firstOf_1 : decode cX6_firstOf 1 = .ok (.istore_n 2, 1) := by decide +kernel
theorem dX6_firstOf_2 : decode cX6_firstOf 2 = .ok (.iload_n 2, 1) := by decide +kernel
theorem dX6_firstOf_3 : decode cX6_firstOf 3 = .ok (.aload_n 0, 1) := by decide +kernel
theorem dX6_firstOf_4 : decode cX6_firstOf 4 = .ok (.getfield 18, 3) := by decide +kernel
theorem dX6_firstOf_7 : decode cX6_firstOf 7 = .ok (.if_icmp .ge 20, 3) := by decide +kernel
theorem dX6_firstOf_27 : decode cX6_firstOf 27 = .ok (.iconst (-1), 1) := by decide +kernel
theorem dX6_firstOf_28 : decode cX6_firstOf 28 = .ok (.ireturn, 1) := by decide +kernel
theorem dX6_allows_0 : decode cX6_allows 0 = .ok (.aload_n 0, 1) := by decide +kernel
theorem dX6_allows_1 : decode cX6_allows 1 = .ok (.iload_n 1, 1) := by decide +kernel
set_option maxRecDepth 20000 in
theorem ggX6_allows_X6_firstOf : GoodIn wsX6_allows wsX6_firstOf := goodIn_r _ [8, 9, 10, 11, 12] (by decide +kernel) (by decide +kernel)
set_option maxRecDepth 20000 in
theorem gX6_allows_X6_firstOf : GoodIn wsX6_allows (wsV RX6 62 RX6 yX6_firstOf wsX6_firstOf) := goodIn_app (goodIn_of _ (by decide +kernel)) ggX6_allows_X6_firstOf
theorem dX6_allows_2 : decode cX6_allows 2 = .ok (.invokevirtual 62, 3) := by decide +kernel
theorem dX6_allows_5 : decode cX6_allows 5 = .ok (.istore_n 2, 1) := by decide +kernel
theorem dX6_allows_6 : decode cX6_allows 6 = .ok (.iload_n 2, 1) := by decide +kernel
theorem dX6_allows_7 : decode cX6_allows 7 = .ok (.ifCond .ge 10, 3) := by decide +kernel
theorem dX6_allows_10 : decode cX6_allows 10 = .ok (.aload_n 0, 1) := by decide +kernel
theorem dX6_allows_11 : decode cX6_allows 11 = .ok (.getfield 34, 3) := by decide +kernel
theorem dX6_allows_14 : decode cX6_allows 14 = .ok (.goto 21, 3) := by decide +kernel
theorem dX6_allows_35 : decode cX6_allows 35 = .ok (.ireturn, 1) := by decide +kernel
theorem dX6_isSettled_0 : decode cX6_isSettled 0 = .ok (.aload_n 0, 1) := by decide +kernel
theorem dX6_isSettled_1 : decode cX6_isSettled 1 = .ok (.iload_n 2, 1) := by decide +kernel
set_option maxRecDepth 20000 in
theorem ggX6_isSettled_X6_firstOf : GoodIn wsX6_isSettled wsX6_firstOf := goodIn_r _ [6, 7, 15, 16, 17] (by decide +kernel) (by decide +kernel)
set_option maxRecDepth 20000 in
theorem gX6_isSettled_X6_firstOf : GoodIn wsX6_isSettled (wsV RX6 62 RX6 yX6_firstOf wsX6_firstOf) := goodIn_app (goodIn_of _ (by decide +kernel)) ggX6_isSettled_X6_firstOf
theorem dX6_isSettled_2 : decode cX6_isSettled 2 = .ok (.invokevirtual 62, 3) := by decide +kernel
theorem dX6_isSettled_5 : decode cX6_isSettled 5 = .ok (.istore_n 3, 1) := by decide +kernel
theorem dX6_isSettled_6 : decode cX6_isSettled 6 = .ok (.iload_n 3, 1) := by decide +kernel
theorem dX6_isSettled_7 : decode cX6_isSettled 7 = .ok (.ifCond .lt 16, 3) := by decide +kernel
theorem dX6_isSettled_23 : decode cX6_isSettled 23 = .ok (.iconst 1, 1) := by decide +kernel
theorem dX6_isSettled_24 : decode cX6_isSettled 24 = .ok (.goto 4, 3) := by decide +kernel
theorem dX6_isSettled_28 : decode cX6_isSettled 28 = .ok (.ireturn, 1) := by decide +kernel
theorem dX6_hit_0 : decode cX6_hit 0 = .ok (.iconst 0, 1) := by decide +kernel
theorem dX6_hit_1 : decode cX6_hit 1 = .ok (.istore_n 2, 1) := by decide +kernel
theorem dX6_hit_2 : decode cX6_hit 2 = .ok (.iload_n 2, 1) := by decide +kernel
theorem dX6_hit_3 : decode cX6_hit 3 = .ok (.aload_n 0, 1) := by decide +kernel
theorem dX6_hit_4 : decode cX6_hit 4 = .ok (.getfield 18, 3) := by decide +kernel
theorem dX6_hit_7 : decode cX6_hit 7 = .ok (.if_icmp .ge 51, 3) := by decide +kernel
theorem dX6_hit_58 : decode cX6_hit 58 = .ok (.iconst (-1), 1) := by decide +kernel
theorem dX6_hit_59 : decode cX6_hit 59 = .ok (.ireturn, 1) := by decide +kernel
set_option maxHeartbeats 4000000 in
set_option maxRecDepth 100000 in
theorem z_X3_reset (l : Launch) (G : zG) (r0 : Nat) (l0 : Nat) (g0 : Nat) (rv : Int32) (rh : Int32) (p0 : Int32) (f0 : Nat → Int32) (f1 : Nat → Int32) : zR l G yX3_reset wsX3_reset { frames := 0, cells := 0, slots := 0, locals := 0 } [(r0, .inr (3, [.int rv, .int rh, .ref l0, .ref g0])), (l0, .inl (G.2.1, 4, .inl (f0))), (g0, .inl (G.2.1, 4, .inl (f1)))] [.ref r0, .int p0] none (fun u => [(r0, .inr (3, [.int p0, .int 0, .ref l0, .ref g0])), (l0, .inl (G.2.1, 4, .inl (upd (upd (upd (upd f0 0 0) 1 0) 2 0) 3 0))), (g0, .inl (G.2.1, 4, .inl (upd (upd (upd (upd f1 0 255) 1 255) 2 1023) 3 3)))]) 0 0 := by
  refine zR_of (cc := cX3_reset) (maxL := 3) (rt := none) (by decide) rfl (Nat.le_of_ble_eq_true rfl) ?_
  intro p e s m below meth c A ls hx hb hml hr hts hown hlocks hin hA hE hP hD hS hl
  have hl : lv_has ls 3 [(0, .ref r0), (1, .int p0)] := hl
  have hown : s.vm.findClass RX3 = some m.cls := hown
  have hP : va_P G.1 vwCl [(r0, .inr (3, [.int rv, .int rh, .ref l0, .ref g0])), (l0, .inl (G.2.1, 4, .inl (f0))), (g0, .inl (G.2.1, 4, .inl (f1)))] s.heap := hP
  have hw3 : ∀ w ∈ u_ws RX3 TX3 4, w ∈ wsX3_reset := by decide +kernel
  have hf18 := hts (.fieldLink RX3 18 "Nettle$Rule" "verdict" "I") (by decide +kernel)
  have hf22 := hts (.fieldLink RX3 22 "Nettle$Rule" "hits" "I") (by decide +kernel)
  have hf9 := hts (.fieldLink RX3 9 "Nettle$Rule" "lows" "[I") (by decide +kernel)
  have hf15 := hts (.fieldLink RX3 15 "Nettle$Rule" "highs" "[I") (by decide +kernel)
  refine lv_aload_n hx hb dX3_reset_0 rfl (lv_at hl 0 rfl) ?_
  refine lv_iload_n hx hb dX3_reset_1 rfl (lv_at hl 1 rfl) ?_
  refine va_put (D := G.1) (ci := 3) (v := .int p0) (ty := tyX3 0) (C := RX3) (T := TX3) (N := 4) hx hb hts hw3 tyX3 tyX3_ok nmX3 hown hE.1 hP hD hS 0 rfl rfl 0 (by decide) hf18 (fun _ h9 => h9) rfl (by decide +kernel) rfl rfl (Nat.le_of_ble_eq_true rfl) dX3_reset_2 (fun H locs hP hD hS => ?_)
  have hP : va_P G.1 vwCl [(r0, .inr (3, [.int p0, .int rh, .ref l0, .ref g0])), (l0, .inl (G.2.1, 4, .inl (f0))), (g0, .inl (G.2.1, 4, .inl (f1)))] H := hP
  have hD : va_D A [(r0, .inr (3, [.int p0, .int rh, .ref l0, .ref g0])), (l0, .inl (G.2.1, 4, .inl (f0))), (g0, .inl (G.2.1, 4, .inl (f1)))] := hD
  refine lv_aload_n hx hb dX3_reset_5 rfl (lv_at hl 0 rfl) ?_
  refine lv_iconst (v := 0) hx hb dX3_reset_6 (by decide) ?_
  refine va_put (D := G.1) (ci := 3) (v := .int 0) (ty := tyX3 1) (C := RX3) (T := TX3) (N := 4) hx hb hts hw3 tyX3 tyX3_ok nmX3 hown hE.1 hP hD hS 0 rfl rfl 1 (by decide) hf22 (fun _ h9 => h9) rfl (by decide +kernel) rfl rfl (Nat.le_of_ble_eq_true rfl) dX3_reset_7 (fun H locs hP hD hS => ?_)
  have hP : va_P G.1 vwCl [(r0, .inr (3, [.int p0, .int 0, .ref l0, .ref g0])), (l0, .inl (G.2.1, 4, .inl (f0))), (g0, .inl (G.2.1, 4, .inl (f1)))] H := hP
  have hD : va_D A [(r0, .inr (3, [.int p0, .int 0, .ref l0, .ref g0])), (l0, .inl (G.2.1, 4, .inl (f0))), (g0, .inl (G.2.1, 4, .inl (f1)))] := hD
  refine lv_iconst (v := 0) hx hb dX3_reset_10 (by decide) ?_
  refine lv_istore_n (lv' := [(2, .int 0), (0, .ref r0), (1, .int p0)]) hx hb dX3_reset_11 rfl hl (by decide) rfl (fun ls hl => ?_)
  refine lv_iload_n hx hb dX3_reset_12 rfl (lv_at hl 0 rfl) ?_
  refine lv_iconst (v := 4) hx hb dX3_reset_13 (by decide) ?_
  refine lv_icmp_ge (tgt := 43) hx hb dX3_reset_14 (by decide) (fun h9 => absurd h9 (by decide)) (fun _ => ?_)
  refine lv_aload_n hx hb dX3_reset_17 rfl (lv_at hl 1 rfl) ?_
  refine va_get (D := G.1) (ci := 3) (v := .ref l0) (C := RX3) (T := TX3) (N := 4) hx hb hts hw3 hown hE.1 hP 0 rfl rfl 2 (by decide) hf9 (fun _ h9 => h9) rfl dX3_reset_18 ?_
  refine lv_iload_n hx hb dX3_reset_21 rfl (lv_at hl 0 rfl) ?_
  refine lv_iconst (v := 0) hx hb dX3_reset_22 (by decide) ?_
  refine va_iast hx hb hE.1 hP hD hS 1 0 rfl rfl (zin (by decide +kernel)) dX3_reset_23 (fun H locs hP hD hS => ?_)
  have hP : va_P G.1 vwCl [(r0, .inr (3, [.int p0, .int 0, .ref l0, .ref g0])), (l0, .inl (G.2.1, 4, .inl (upd f0 0 0))), (g0, .inl (G.2.1, 4, .inl (f1)))] H := hP
  have hD : va_D A [(r0, .inr (3, [.int p0, .int 0, .ref l0, .ref g0])), (l0, .inl (G.2.1, 4, .inl (upd f0 0 0))), (g0, .inl (G.2.1, 4, .inl (f1)))] := hD
  refine lv_aload_n hx hb dX3_reset_24 rfl (lv_at hl 1 rfl) ?_
  refine va_get (D := G.1) (ci := 3) (v := .ref g0) (C := RX3) (T := TX3) (N := 4) hx hb hts hw3 hown hE.1 hP 0 rfl rfl 3 (by decide) hf15 (fun _ h9 => h9) rfl dX3_reset_25 ?_
  refine lv_iload_n hx hb dX3_reset_28 rfl (lv_at hl 0 rfl) ?_
  refine va_getsN hx hb hE.2.1.1 hS hown (va_Nw.use rfl hE.2.2.2.2.1.2.2.2.2.2.2.1) (fun _ h9 => h9) dX3_reset_29 ?_
  refine lv_iload_n hx hb dX3_reset_32 rfl (lv_at hl 0 rfl) ?_
  refine va_ti (v := .int 256) hx hb hE.2.1.2 hS (zin (by decide +kernel)) rfl dX3_reset_33 ?_
  refine lv_iconst (v := 1) hx hb dX3_reset_34 (by decide) ?_
  refine lv_isub hx hb dX3_reset_35 ?_
  refine zti (v := 255) (by decide) ?_
  refine va_iast hx hb hE.1 hP hD hS 2 0 rfl rfl (zin (by decide +kernel)) dX3_reset_36 (fun H locs hP hD hS => ?_)
  have hP : va_P G.1 vwCl [(r0, .inr (3, [.int p0, .int 0, .ref l0, .ref g0])), (l0, .inl (G.2.1, 4, .inl (upd f0 0 0))), (g0, .inl (G.2.1, 4, .inl (upd f1 0 255)))] H := hP
  have hD : va_D A [(r0, .inr (3, [.int p0, .int 0, .ref l0, .ref g0])), (l0, .inl (G.2.1, 4, .inl (upd f0 0 0))), (g0, .inl (G.2.1, 4, .inl (upd f1 0 255)))] := hD
  refine lv_iinc (v := 1) (lv' := [(2, .int 1), (0, .ref r0), (1, .int p0)]) hx hb dX3_reset_37 hl (k := 0) rfl (by decide) (by decide) rfl (fun ls hl => ?_)
  refine lv_goto (tgt := 12) hx hb dX3_reset_40 (by decide) ?_
  refine lv_iload_n hx hb dX3_reset_12 rfl (lv_at hl 0 rfl) ?_
  refine lv_iconst (v := 4) hx hb dX3_reset_13 (by decide) ?_
  refine lv_icmp_ge (tgt := 43) hx hb dX3_reset_14 (by decide) (fun h9 => absurd h9 (by decide)) (fun _ => ?_)
  refine lv_aload_n hx hb dX3_reset_17 rfl (lv_at hl 1 rfl) ?_
  refine va_get (D := G.1) (ci := 3) (v := .ref l0) (C := RX3) (T := TX3) (N := 4) hx hb hts hw3 hown hE.1 hP 0 rfl rfl 2 (by decide) hf9 (fun _ h9 => h9) rfl dX3_reset_18 ?_
  refine lv_iload_n hx hb dX3_reset_21 rfl (lv_at hl 0 rfl) ?_
  refine lv_iconst (v := 0) hx hb dX3_reset_22 (by decide) ?_
  refine va_iast hx hb hE.1 hP hD hS 1 0 rfl rfl (zin (by decide +kernel)) dX3_reset_23 (fun H locs hP hD hS => ?_)
  have hP : va_P G.1 vwCl [(r0, .inr (3, [.int p0, .int 0, .ref l0, .ref g0])), (l0, .inl (G.2.1, 4, .inl (upd (upd f0 0 0) 1 0))), (g0, .inl (G.2.1, 4, .inl (upd f1 0 255)))] H := hP
  have hD : va_D A [(r0, .inr (3, [.int p0, .int 0, .ref l0, .ref g0])), (l0, .inl (G.2.1, 4, .inl (upd (upd f0 0 0) 1 0))), (g0, .inl (G.2.1, 4, .inl (upd f1 0 255)))] := hD
  refine lv_aload_n hx hb dX3_reset_24 rfl (lv_at hl 1 rfl) ?_
  refine va_get (D := G.1) (ci := 3) (v := .ref g0) (C := RX3) (T := TX3) (N := 4) hx hb hts hw3 hown hE.1 hP 0 rfl rfl 3 (by decide) hf15 (fun _ h9 => h9) rfl dX3_reset_25 ?_
  refine lv_iload_n hx hb dX3_reset_28 rfl (lv_at hl 0 rfl) ?_
  refine va_getsN hx hb hE.2.1.1 hS hown (va_Nw.use rfl hE.2.2.2.2.1.2.2.2.2.2.2.1) (fun _ h9 => h9) dX3_reset_29 ?_
  refine lv_iload_n hx hb dX3_reset_32 rfl (lv_at hl 0 rfl) ?_
  refine va_ti (v := .int 256) hx hb hE.2.1.2 hS (zin (by decide +kernel)) rfl dX3_reset_33 ?_
  refine lv_iconst (v := 1) hx hb dX3_reset_34 (by decide) ?_
  refine lv_isub hx hb dX3_reset_35 ?_
  refine zti (v := 255) (by decide) ?_
  refine va_iast hx hb hE.1 hP hD hS 2 0 rfl rfl (zin (by decide +kernel)) dX3_reset_36 (fun H locs hP hD hS => ?_)
  have hP : va_P G.1 vwCl [(r0, .inr (3, [.int p0, .int 0, .ref l0, .ref g0])), (l0, .inl (G.2.1, 4, .inl (upd (upd f0 0 0) 1 0))), (g0, .inl (G.2.1, 4, .inl (upd (upd f1 0 255) 1 255)))] H := hP
  have hD : va_D A [(r0, .inr (3, [.int p0, .int 0, .ref l0, .ref g0])), (l0, .inl (G.2.1, 4, .inl (upd (upd f0 0 0) 1 0))), (g0, .inl (G.2.1, 4, .inl (upd (upd f1 0 255) 1 255)))] := hD
  refine lv_iinc (v := 2) (lv' := [(2, .int 2), (0, .ref r0), (1, .int p0)]) hx hb dX3_reset_37 hl (k := 0) rfl (by decide) (by decide) rfl (fun ls hl => ?_)
  refine lv_goto (tgt := 12) hx hb dX3_reset_40 (by decide) ?_
  refine lv_iload_n hx hb dX3_reset_12 rfl (lv_at hl 0 rfl) ?_
  refine lv_iconst (v := 4) hx hb dX3_reset_13 (by decide) ?_
  refine lv_icmp_ge (tgt := 43) hx hb dX3_reset_14 (by decide) (fun h9 => absurd h9 (by decide)) (fun _ => ?_)
  refine lv_aload_n hx hb dX3_reset_17 rfl (lv_at hl 1 rfl) ?_
  refine va_get (D := G.1) (ci := 3) (v := .ref l0) (C := RX3) (T := TX3) (N := 4) hx hb hts hw3 hown hE.1 hP 0 rfl rfl 2 (by decide) hf9 (fun _ h9 => h9) rfl dX3_reset_18 ?_
  refine lv_iload_n hx hb dX3_reset_21 rfl (lv_at hl 0 rfl) ?_
  refine lv_iconst (v := 0) hx hb dX3_reset_22 (by decide) ?_
  refine va_iast hx hb hE.1 hP hD hS 1 0 rfl rfl (zin (by decide +kernel)) dX3_reset_23 (fun H locs hP hD hS => ?_)
  have hP : va_P G.1 vwCl [(r0, .inr (3, [.int p0, .int 0, .ref l0, .ref g0])), (l0, .inl (G.2.1, 4, .inl (upd (upd (upd f0 0 0) 1 0) 2 0))), (g0, .inl (G.2.1, 4, .inl (upd (upd f1 0 255) 1 255)))] H := hP
  have hD : va_D A [(r0, .inr (3, [.int p0, .int 0, .ref l0, .ref g0])), (l0, .inl (G.2.1, 4, .inl (upd (upd (upd f0 0 0) 1 0) 2 0))), (g0, .inl (G.2.1, 4, .inl (upd (upd f1 0 255) 1 255)))] := hD
  refine lv_aload_n hx hb dX3_reset_24 rfl (lv_at hl 1 rfl) ?_
  refine va_get (D := G.1) (ci := 3) (v := .ref g0) (C := RX3) (T := TX3) (N := 4) hx hb hts hw3 hown hE.1 hP 0 rfl rfl 3 (by decide) hf15 (fun _ h9 => h9) rfl dX3_reset_25 ?_
  refine lv_iload_n hx hb dX3_reset_28 rfl (lv_at hl 0 rfl) ?_
  refine va_getsN hx hb hE.2.1.1 hS hown (va_Nw.use rfl hE.2.2.2.2.1.2.2.2.2.2.2.1) (fun _ h9 => h9) dX3_reset_29 ?_
  refine lv_iload_n hx hb dX3_reset_32 rfl (lv_at hl 0 rfl) ?_
  refine va_ti (v := .int 1024) hx hb hE.2.1.2 hS (zin (by decide +kernel)) rfl dX3_reset_33 ?_
  refine lv_iconst (v := 1) hx hb dX3_reset_34 (by decide) ?_
  refine lv_isub hx hb dX3_reset_35 ?_
  refine zti (v := 1023) (by decide) ?_
  refine va_iast hx hb hE.1 hP hD hS 2 0 rfl rfl (zin (by decide +kernel)) dX3_reset_36 (fun H locs hP hD hS => ?_)
  have hP : va_P G.1 vwCl [(r0, .inr (3, [.int p0, .int 0, .ref l0, .ref g0])), (l0, .inl (G.2.1, 4, .inl (upd (upd (upd f0 0 0) 1 0) 2 0))), (g0, .inl (G.2.1, 4, .inl (upd (upd (upd f1 0 255) 1 255) 2 1023)))] H := hP
  have hD : va_D A [(r0, .inr (3, [.int p0, .int 0, .ref l0, .ref g0])), (l0, .inl (G.2.1, 4, .inl (upd (upd (upd f0 0 0) 1 0) 2 0))), (g0, .inl (G.2.1, 4, .inl (upd (upd (upd f1 0 255) 1 255) 2 1023)))] := hD
  refine lv_iinc (v := 3) (lv' := [(2, .int 3), (0, .ref r0), (1, .int p0)]) hx hb dX3_reset_37 hl (k := 0) rfl (by decide) (by decide) rfl (fun ls hl => ?_)
  refine lv_goto (tgt := 12) hx hb dX3_reset_40 (by decide) ?_
  refine lv_iload_n hx hb dX3_reset_12 rfl (lv_at hl 0 rfl) ?_
  refine lv_iconst (v := 4) hx hb dX3_reset_13 (by decide) ?_
  refine lv_icmp_ge (tgt := 43) hx hb dX3_reset_14 (by decide) (fun h9 => absurd h9 (by decide)) (fun _ => ?_)
  refine lv_aload_n hx hb dX3_reset_17 rfl (lv_at hl 1 rfl) ?_
  refine va_get (D := G.1) (ci := 3) (v := .ref l0) (C := RX3) (T := TX3) (N := 4) hx hb hts hw3 hown hE.1 hP 0 rfl rfl 2 (by decide) hf9 (fun _ h9 => h9) rfl dX3_reset_18 ?_
  refine lv_iload_n hx hb dX3_reset_21 rfl (lv_at hl 0 rfl) ?_
  refine lv_iconst (v := 0) hx hb dX3_reset_22 (by decide) ?_
  refine va_iast hx hb hE.1 hP hD hS 1 0 rfl rfl (zin (by decide +kernel)) dX3_reset_23 (fun H locs hP hD hS => ?_)
  have hP : va_P G.1 vwCl [(r0, .inr (3, [.int p0, .int 0, .ref l0, .ref g0])), (l0, .inl (G.2.1, 4, .inl (upd (upd (upd (upd f0 0 0) 1 0) 2 0) 3 0))), (g0, .inl (G.2.1, 4, .inl (upd (upd (upd f1 0 255) 1 255) 2 1023)))] H := hP
  have hD : va_D A [(r0, .inr (3, [.int p0, .int 0, .ref l0, .ref g0])), (l0, .inl (G.2.1, 4, .inl (upd (upd (upd (upd f0 0 0) 1 0) 2 0) 3 0))), (g0, .inl (G.2.1, 4, .inl (upd (upd (upd f1 0 255) 1 255) 2 1023)))] := hD
  refine lv_aload_n hx hb dX3_reset_24 rfl (lv_at hl 1 rfl) ?_
  refine va_get (D := G.1) (ci := 3) (v := .ref g0) (C := RX3) (T := TX3) (N := 4) hx hb hts hw3 hown hE.1 hP 0 rfl rfl 3 (by decide) hf15 (fun _ h9 => h9) rfl dX3_reset_25 ?_
  refine lv_iload_n hx hb dX3_reset_28 rfl (lv_at hl 0 rfl) ?_
  refine va_getsN hx hb hE.2.1.1 hS hown (va_Nw.use rfl hE.2.2.2.2.1.2.2.2.2.2.2.1) (fun _ h9 => h9) dX3_reset_29 ?_
  refine lv_iload_n hx hb dX3_reset_32 rfl (lv_at hl 0 rfl) ?_
  refine va_ti (v := .int 4) hx hb hE.2.1.2 hS (zin (by decide +kernel)) rfl dX3_reset_33 ?_
  refine lv_iconst (v := 1) hx hb dX3_reset_34 (by decide) ?_
  refine lv_isub hx hb dX3_reset_35 ?_
  refine zti (v := 3) (by decide) ?_
  refine va_iast hx hb hE.1 hP hD hS 2 0 rfl rfl (zin (by decide +kernel)) dX3_reset_36 (fun H locs hP hD hS => ?_)
  have hP : va_P G.1 vwCl [(r0, .inr (3, [.int p0, .int 0, .ref l0, .ref g0])), (l0, .inl (G.2.1, 4, .inl (upd (upd (upd (upd f0 0 0) 1 0) 2 0) 3 0))), (g0, .inl (G.2.1, 4, .inl (upd (upd (upd (upd f1 0 255) 1 255) 2 1023) 3 3)))] H := hP
  have hD : va_D A [(r0, .inr (3, [.int p0, .int 0, .ref l0, .ref g0])), (l0, .inl (G.2.1, 4, .inl (upd (upd (upd (upd f0 0 0) 1 0) 2 0) 3 0))), (g0, .inl (G.2.1, 4, .inl (upd (upd (upd (upd f1 0 255) 1 255) 2 1023) 3 3)))] := hD
  refine lv_iinc (v := 4) (lv' := [(2, .int 4), (0, .ref r0), (1, .int p0)]) hx hb dX3_reset_37 hl (k := 0) rfl (by decide) (by decide) rfl (fun ls hl => ?_)
  refine lv_goto (tgt := 12) hx hb dX3_reset_40 (by decide) ?_
  refine lv_iload_n hx hb dX3_reset_12 rfl (lv_at hl 0 rfl) ?_
  refine lv_iconst (v := 4) hx hb dX3_reset_13 (by decide) ?_
  refine lv_icmp_ge (tgt := 43) hx hb dX3_reset_14 (by decide) (fun _ => ?_) (fun h9 => absurd (by decide) h9)
  exact zend_v hx hb hr hlocks (fun k => [].getD k 0) hP hD hS (Nat.le_of_ble_eq_true rfl) (Nat.le_of_ble_eq_true rfl) dX3_reset_43

set_option maxHeartbeats 4000000 in
set_option maxRecDepth 100000 in
theorem z_X6_add (l : Launch) (G : zG) (wa : Nat) (ro : Nat) (r0 : Nat) (l0 : Nat) (g0 : Nat) (rv : Int32) (rh : Int32) (p0 : Int32) (f0 : Nat → Int32) (f1 : Nat → Int32) (fr : Nat → Option Nat) (hr0 : fr 0 = some r0) : zR l G yX6_add wsX6_add { frames := 1, cells := 0, slots := 0, locals := 22 } [(wa, .inr (6, [.ref ro, .int 0, .int 0])), (ro, .inl (G.2.2.1, 8, .inr (.inr (.inr (.inr (fr)))))), (r0, .inr (3, [.int rv, .int rh, .ref l0, .ref g0])), (l0, .inl (G.2.1, 4, .inl (f0))), (g0, .inl (G.2.1, 4, .inl (f1)))] [.ref wa, .int p0] none (fun u => [(wa, .inr (6, [.ref ro, .int 1, .int 0])), (ro, .inl (G.2.2.1, 8, .inr (.inr (.inr (.inr (fr)))))), (r0, .inr (3, [.int p0, .int 0, .ref l0, .ref g0])), (l0, .inl (G.2.1, 4, .inl (upd (upd (upd (upd f0 0 0) 1 0) 2 0) 3 0))), (g0, .inl (G.2.1, 4, .inl (upd (upd (upd (upd f1 0 255) 1 255) 2 1023) 3 3)))]) 0 0 := by
  refine zR_of (cc := cX6_add) (maxL := 2) (rt := none) (by decide) rfl (Nat.le_of_ble_eq_true rfl) ?_
  intro p e s m below meth c A ls hx hb hml hr hts hown hlocks hin hA hE hP hD hS hl
  have hl : lv_has ls 2 [(0, .ref wa), (1, .int p0)] := hl
  have hown : s.vm.findClass RX6 = some m.cls := hown
  have hP : va_P G.1 vwCl [(wa, .inr (6, [.ref ro, .int 0, .int 0])), (ro, .inl (G.2.2.1, 8, .inr (.inr (.inr (.inr (fr)))))), (r0, .inr (3, [.int rv, .int rh, .ref l0, .ref g0])), (l0, .inl (G.2.1, 4, .inl (f0))), (g0, .inl (G.2.1, 4, .inl (f1)))] s.heap := hP
  have hw6 : ∀ w ∈ u_ws RX6 TX6 3, w ∈ wsX6_add := by decide +kernel
  have hf11 := hts (.fieldLink RX6 11 "Nettle$Wall" "rows" "[LNettle$Rule;") (by decide +kernel)
  have hf18 := hts (.fieldLink RX6 18 "Nettle$Wall" "count" "I") (by decide +kernel)
  refine lv_aload_n hx hb dX6_add_0 rfl (lv_at hl 0 rfl) ?_
  refine va_get (D := G.1) (ci := 6) (v := .ref ro) (C := RX6) (T := TX6) (N := 3) hx hb hts hw6 hown hE.1 hP 0 rfl rfl 0 (by decide) hf11 (fun _ h9 => h9) rfl dX6_add_1 ?_
  refine lv_aload_n hx hb dX6_add_4 rfl (lv_at hl 0 rfl) ?_
  refine va_get (D := G.1) (ci := 6) (v := .int 0) (C := RX6) (T := TX6) (N := 3) hx hb hts hw6 hown hE.1 hP 0 rfl rfl 1 (by decide) hf18 (fun _ h9 => h9) rfl dX6_add_5 ?_
  refine va_aldq hx hb hE.1 hP 1 1 rfl rfl (zin (by decide +kernel)) dX6_add_8 ?_
  refine zrf (q := r0) hr0 ?_
  refine lv_iload_n hx hb dX6_add_9 rfl (lv_at hl 1 rfl) ?_
  refine zcall (wr := [(wa, .inr (6, [.ref ro, .int 0, .int 0])), (ro, .inl (G.2.2.1, 8, .inr (.inr (.inr (.inr (fr))))))]) (va_runV (As := [.int p0]) (rest := []) ⟨hx, hb, hml, hown, hts⟩ (z_X3_reset l G r0 l0 g0 rv rh p0 (f0) (f1) s.heap.size) (cwV 1 hts gX6_add_X3_reset rfl rfl rfl (by decide +kernel) ⟨Nat.le_of_ble_eq_true rfl, Nat.le_of_ble_eq_true rfl⟩) (zPreV (Wc := [(r0, .inr (3, [.int rv, .int rh, .ref l0, .ref g0])), (l0, .inl (G.2.1, 4, .inl (f0))), (g0, .inl (G.2.1, 4, .inl (f1)))]) (q0 := 2) (ci := 3) (q := (RX3, TX3, 4)) hP hD hE hS hA [2, 3, 4] rfl (by decide) rfl rfl) rfl rfl hl.1 rfl (lv_room (Nat.le_of_ble_eq_true rfl)) dX6_add_10 ⟨Nat.le_of_ble_eq_true rfl, Nat.le_of_ble_eq_true rfl⟩) hP hD hS hA [2, 3, 4] [0, 1] rfl rfl (by decide) (by decide) (fun u1 H locs hP hD hS => ?_)
  have hP : va_P G.1 vwCl [(wa, .inr (6, [.ref ro, .int 0, .int 0])), (ro, .inl (G.2.2.1, 8, .inr (.inr (.inr (.inr (fr)))))), (r0, .inr (3, [.int p0, .int 0, .ref l0, .ref g0])), (l0, .inl (G.2.1, 4, .inl (upd (upd (upd (upd f0 0 0) 1 0) 2 0) 3 0))), (g0, .inl (G.2.1, 4, .inl (upd (upd (upd (upd f1 0 255) 1 255) 2 1023) 3 3)))] H := hP
  have hD : va_D A [(wa, .inr (6, [.ref ro, .int 0, .int 0])), (ro, .inl (G.2.2.1, 8, .inr (.inr (.inr (.inr (fr)))))), (r0, .inr (3, [.int p0, .int 0, .ref l0, .ref g0])), (l0, .inl (G.2.1, 4, .inl (upd (upd (upd (upd f0 0 0) 1 0) 2 0) 3 0))), (g0, .inl (G.2.1, 4, .inl (upd (upd (upd (upd f1 0 255) 1 255) 2 1023) 3 3)))] := hD
  refine W.eq (g2 := F0 m 13 ls []) rfl ?_
  refine lv_aload_n hx hb dX6_add_13 rfl (lv_at hl 0 rfl) ?_
  refine lv_dup hx hb dX6_add_14 rfl ?_
  refine va_get (D := G.1) (ci := 6) (v := .int 0) (C := RX6) (T := TX6) (N := 3) hx hb hts hw6 hown hE.1 hP 0 rfl rfl 1 (by decide) hf18 (fun _ h9 => h9) rfl dX6_add_15 ?_
  refine lv_iconst (v := 1) hx hb dX6_add_18 (by decide) ?_
  refine lv_iadd hx hb dX6_add_19 ?_
  refine zti (v := 1) (by decide) ?_
  refine va_put (D := G.1) (ci := 6) (v := .int 1) (ty := tyX6 1) (C := RX6) (T := TX6) (N := 3) hx hb hts hw6 tyX6 tyX6_ok nmX6 hown hE.1 hP hD hS 0 rfl rfl 1 (by decide) hf18 (fun _ h9 => h9) rfl (by decide +kernel) rfl rfl (Nat.le_of_ble_eq_true rfl) dX6_add_20 (fun H locs hP hD hS => ?_)
  have hP : va_P G.1 vwCl [(wa, .inr (6, [.ref ro, .int 1, .int 0])), (ro, .inl (G.2.2.1, 8, .inr (.inr (.inr (.inr (fr)))))), (r0, .inr (3, [.int p0, .int 0, .ref l0, .ref g0])), (l0, .inl (G.2.1, 4, .inl (upd (upd (upd (upd f0 0 0) 1 0) 2 0) 3 0))), (g0, .inl (G.2.1, 4, .inl (upd (upd (upd (upd f1 0 255) 1 255) 2 1023) 3 3)))] H := hP
  have hD : va_D A [(wa, .inr (6, [.ref ro, .int 1, .int 0])), (ro, .inl (G.2.2.1, 8, .inr (.inr (.inr (.inr (fr)))))), (r0, .inr (3, [.int p0, .int 0, .ref l0, .ref g0])), (l0, .inl (G.2.1, 4, .inl (upd (upd (upd (upd f0 0 0) 1 0) 2 0) 3 0))), (g0, .inl (G.2.1, 4, .inl (upd (upd (upd (upd f1 0 255) 1 255) 2 1023) 3 3)))] := hD
  exact zend_v hx hb hr hlocks (fun k => [].getD k 0) hP hD hS (Nat.le_of_ble_eq_true rfl) (Nat.le_of_ble_eq_true rfl) dX6_add_23

set_option maxHeartbeats 4000000 in
set_option maxRecDepth 100000 in
theorem z_X6_takeFrom (l : Launch) (G : zG) (wa : Nat) (wb : Nat) (ro : Nat) (rb : Nat) : zR l G yX6_takeFrom wsX6_takeFrom { frames := 0, cells := 0, slots := 0, locals := 0 } [(wa, .inr (6, [.ref ro, .int 0, .int 0])), (wb, .inr (6, [.ref rb, .int 0, .int 0]))] [.ref wb, .ref wa] none (fun u => [(wa, .inr (6, [.ref ro, .int 0, .int 0])), (wb, .inr (6, [.ref rb, .int 0, .int 0]))]) 0 0 := by
  refine zR_of (cc := cX6_takeFrom) (maxL := 3) (rt := none) (by decide) rfl (Nat.le_of_ble_eq_true rfl) ?_
  intro p e s m below meth c A ls hx hb hml hr hts hown hlocks hin hA hE hP hD hS hl
  have hl : lv_has ls 3 [(0, .ref wb), (1, .ref wa)] := hl
  have hown : s.vm.findClass RX6 = some m.cls := hown
  have hP : va_P G.1 vwCl [(wa, .inr (6, [.ref ro, .int 0, .int 0])), (wb, .inr (6, [.ref rb, .int 0, .int 0]))] s.heap := hP
  have hw6 : ∀ w ∈ u_ws RX6 TX6 3, w ∈ wsX6_takeFrom := by decide +kernel
  have hf18 := hts (.fieldLink RX6 18 "Nettle$Wall" "count" "I") (by decide +kernel)
  have hf34 := hts (.fieldLink RX6 34 "Nettle$Wall" "isLastAllow" "Z") (by decide +kernel)
  refine lv_iconst (v := 0) hx hb dX6_takeFrom_0 (by decide) ?_
  refine lv_istore_n (lv' := [(2, .int 0), (0, .ref wb), (1, .ref wa)]) hx hb dX6_takeFrom_1 rfl hl (by decide) rfl (fun ls hl => ?_)
  refine lv_iload_n hx hb dX6_takeFrom_2 rfl (lv_at hl 0 rfl) ?_
  refine lv_aload_n hx hb dX6_takeFrom_3 rfl (lv_at hl 2 rfl) ?_
  refine va_get (D := G.1) (ci := 6) (v := .int 0) (C := RX6) (T := TX6) (N := 3) hx hb hts hw6 hown hE.1 hP 0 rfl rfl 1 (by decide) hf18 (fun _ h9 => h9) rfl dX6_takeFrom_4 ?_
  refine lv_icmp_ge (tgt := 31) hx hb dX6_takeFrom_7 (by decide) (fun _ => ?_) (fun h9 => absurd (by decide) h9)
  refine lv_aload_n hx hb dX6_takeFrom_31 rfl (lv_at hl 1 rfl) ?_
  refine lv_aload_n hx hb dX6_takeFrom_32 rfl (lv_at hl 2 rfl) ?_
  refine va_get (D := G.1) (ci := 6) (v := .int 0) (C := RX6) (T := TX6) (N := 3) hx hb hts hw6 hown hE.1 hP 0 rfl rfl 1 (by decide) hf18 (fun _ h9 => h9) rfl dX6_takeFrom_33 ?_
  refine va_put (D := G.1) (ci := 6) (v := .int 0) (ty := tyX6 1) (C := RX6) (T := TX6) (N := 3) hx hb hts hw6 tyX6 tyX6_ok nmX6 hown hE.1 hP hD hS 1 rfl rfl 1 (by decide) hf18 (fun _ h9 => h9) rfl (by decide +kernel) rfl rfl (Nat.le_of_ble_eq_true rfl) dX6_takeFrom_36 (fun H locs hP hD hS => ?_)
  have hP : va_P G.1 vwCl [(wa, .inr (6, [.ref ro, .int 0, .int 0])), (wb, .inr (6, [.ref rb, .int 0, .int 0]))] H := hP
  have hD : va_D A [(wa, .inr (6, [.ref ro, .int 0, .int 0])), (wb, .inr (6, [.ref rb, .int 0, .int 0]))] := hD
  refine lv_aload_n hx hb dX6_takeFrom_39 rfl (lv_at hl 1 rfl) ?_
  refine lv_aload_n hx hb dX6_takeFrom_40 rfl (lv_at hl 2 rfl) ?_
  refine va_get (D := G.1) (ci := 6) (v := .int 0) (C := RX6) (T := TX6) (N := 3) hx hb hts hw6 hown hE.1 hP 0 rfl rfl 2 (by decide) hf34 (fun _ h9 => h9) rfl dX6_takeFrom_41 ?_
  refine va_put (D := G.1) (ci := 6) (v := .int 0) (ty := tyX6 2) (C := RX6) (T := TX6) (N := 3) hx hb hts hw6 tyX6 tyX6_ok nmX6 hown hE.1 hP hD hS 1 rfl rfl 2 (by decide) hf34 (fun _ h9 => h9) rfl (by decide +kernel) rfl rfl (Nat.le_of_ble_eq_true rfl) dX6_takeFrom_44 (fun H locs hP hD hS => ?_)
  have hP : va_P G.1 vwCl [(wa, .inr (6, [.ref ro, .int 0, .int 0])), (wb, .inr (6, [.ref rb, .int 0, .int 0]))] H := hP
  have hD : va_D A [(wa, .inr (6, [.ref ro, .int 0, .int 0])), (wb, .inr (6, [.ref rb, .int 0, .int 0]))] := hD
  exact zend_v hx hb hr hlocks (fun k => [].getD k 0) hP hD hS (Nat.le_of_ble_eq_true rfl) (Nat.le_of_ble_eq_true rfl) dX6_takeFrom_47

set_option maxHeartbeats 4000000 in
set_option maxRecDepth 100000 in
theorem z_X6_deciders (l : Launch) (G : zG) (wa : Nat) (ro : Nat) : zR l G yX6_deciders wsX6_deciders { frames := 0, cells := 0, slots := 0, locals := 0 } [(wa, .inr (6, [.ref ro, .int 0, .int 0]))] [.ref wa] (some (.int 0)) (fun u => [(wa, .inr (6, [.ref ro, .int 0, .int 0]))]) 0 0 := by
  refine zR_of (cc := cX6_deciders) (maxL := 3) (rt := (some .int)) (by decide) rfl (Nat.le_of_ble_eq_true rfl) ?_
  intro p e s m below meth c A ls hx hb hml hr hts hown hlocks hin hA hE hP hD hS hl
  have hl : lv_has ls 3 [(0, .ref wa)] := hl
  have hown : s.vm.findClass RX6 = some m.cls := hown
  have hP : va_P G.1 vwCl [(wa, .inr (6, [.ref ro, .int 0, .int 0]))] s.heap := hP
  have hw6 : ∀ w ∈ u_ws RX6 TX6 3, w ∈ wsX6_deciders := by decide +kernel
  have hf18 := hts (.fieldLink RX6 18 "Nettle$Wall" "count" "I") (by decide +kernel)
  refine lv_iconst (v := 0) hx hb dX6_deciders_0 (by decide) ?_
  refine lv_istore_n (lv' := [(1, .int 0), (0, .ref wa)]) hx hb dX6_deciders_1 rfl hl (by decide) rfl (fun ls hl => ?_)
  refine lv_iconst (v := 0) hx hb dX6_deciders_2 (by decide) ?_
  refine lv_istore_n (lv' := [(2, .int 0), (1, .int 0), (0, .ref wa)]) hx hb dX6_deciders_3 rfl hl (by decide) rfl (fun ls hl => ?_)
  refine lv_iload_n hx hb dX6_deciders_4 rfl (lv_at hl 0 rfl) ?_
  refine lv_aload_n hx hb dX6_deciders_5 rfl (lv_at hl 2 rfl) ?_
  refine va_get (D := G.1) (ci := 6) (v := .int 0) (C := RX6) (T := TX6) (N := 3) hx hb hts hw6 hown hE.1 hP 0 rfl rfl 1 (by decide) hf18 (fun _ h9 => h9) rfl dX6_deciders_6 ?_
  refine lv_icmp_ge (tgt := 36) hx hb dX6_deciders_9 (by decide) (fun _ => ?_) (fun h9 => absurd (by decide) h9)
  refine lv_iload_n hx hb dX6_deciders_36 rfl (lv_at hl 1 rfl) ?_
  exact zend_i hx hb hr hlocks (fun k => [].getD k 0) hP hD hS (Nat.le_of_ble_eq_true rfl) (Nat.le_of_ble_eq_true rfl) dX6_deciders_37

set_option maxHeartbeats 4000000 in
set_option maxRecDepth 100000 in
theorem z_X6_having (l : Launch) (G : zG) (wa : Nat) (ro : Nat) (p0 : Int32) (p1 : Int32) : zR l G yX6_having wsX6_having { frames := 0, cells := 0, slots := 0, locals := 0 } [(wa, .inr (6, [.ref ro, .int 0, .int 0]))] [.ref wa, .int p0, .int p1] (some (.int 0)) (fun u => [(wa, .inr (6, [.ref ro, .int 0, .int 0]))]) 0 0 := by
  refine zR_of (cc := cX6_having) (maxL := 5) (rt := (some .int)) (by decide) rfl (Nat.le_of_ble_eq_true rfl) ?_
  intro p e s m below meth c A ls hx hb hml hr hts hown hlocks hin hA hE hP hD hS hl
  have hl : lv_has ls 5 [(0, .ref wa), (1, .int p0), (2, .int p1)] := hl
  have hown : s.vm.findClass RX6 = some m.cls := hown
  have hP : va_P G.1 vwCl [(wa, .inr (6, [.ref ro, .int 0, .int 0]))] s.heap := hP
  have hw6 : ∀ w ∈ u_ws RX6 TX6 3, w ∈ wsX6_having := by decide +kernel
  have hf18 := hts (.fieldLink RX6 18 "Nettle$Wall" "count" "I") (by decide +kernel)
  refine lv_iconst (v := 0) hx hb dX6_having_0 (by decide) ?_
  refine lv_istore_n (lv' := [(3, .int 0), (0, .ref wa), (1, .int p0), (2, .int p1)]) hx hb dX6_having_1 rfl hl (by decide) rfl (fun ls hl => ?_)
  refine lv_iconst (v := 0) hx hb dX6_having_2 (by decide) ?_
  refine lv_istore (lv' := [(4, .int 0), (3, .int 0), (0, .ref wa), (1, .int p0), (2, .int p1)]) hx hb dX6_having_3 hl (by decide) rfl (fun ls hl => ?_)
  refine lv_iload hx hb dX6_having_5 (lv_at hl 0 rfl) ?_
  refine lv_aload_n hx hb dX6_having_7 rfl (lv_at hl 2 rfl) ?_
  refine va_get (D := G.1) (ci := 6) (v := .int 0) (C := RX6) (T := TX6) (N := 3) hx hb hts hw6 hown hE.1 hP 0 rfl rfl 1 (by decide) hf18 (fun _ h9 => h9) rfl dX6_having_8 ?_
  refine lv_icmp_ge (tgt := 42) hx hb dX6_having_11 (by decide) (fun _ => ?_) (fun h9 => absurd (by decide) h9)
  refine lv_iload_n hx hb dX6_having_42 rfl (lv_at hl 1 rfl) ?_
  exact zend_i hx hb hr hlocks (fun k => [].getD k 0) hP hD hS (Nat.le_of_ble_eq_true rfl) (Nat.le_of_ble_eq_true rfl) dX6_having_43

set_option maxHeartbeats 4000000 in
set_option maxRecDepth 100000 in
theorem z_X6_nextCut0 (l : Launch) (G : zG) (wa : Nat) (ro : Nat) : zR l G yX6_nextCut wsX6_nextCut { frames := 0, cells := 0, slots := 0, locals := 0 } [(wa, .inr (6, [.ref ro, .int 0, .int 0]))] [.ref wa, .int 0, .int 0] (some (.int 256)) (fun u => [(wa, .inr (6, [.ref ro, .int 0, .int 0]))]) 0 0 := by
  refine zR_of (cc := cX6_nextCut) (maxL := 5) (rt := (some .int)) (by decide) rfl (Nat.le_of_ble_eq_true rfl) ?_
  intro p e s m below meth c A ls hx hb hml hr hts hown hlocks hin hA hE hP hD hS hl
  have hl : lv_has ls 5 [(0, .ref wa), (1, .int 0), (2, .int 0)] := hl
  have hown : s.vm.findClass RX6 = some m.cls := hown
  have hP : va_P G.1 vwCl [(wa, .inr (6, [.ref ro, .int 0, .int 0]))] s.heap := hP
  have hw6 : ∀ w ∈ u_ws RX6 TX6 3, w ∈ wsX6_nextCut := by decide +kernel
  have hf18 := hts (.fieldLink RX6 18 "Nettle$Wall" "count" "I") (by decide +kernel)
  refine va_getsN hx hb hE.2.1.1 hS hown (va_Nw.use rfl hE.2.2.2.2.1.2.2.2.2.2.1) (fun _ h9 => h9) dX6_nextCut_0 ?_
  refine lv_iload_n hx hb dX6_nextCut_3 rfl (lv_at hl 1 rfl) ?_
  refine va_ti (v := .int 256) hx hb hE.2.1.2 hS (zin (by decide +kernel)) rfl dX6_nextCut_4 ?_
  refine lv_istore_n (lv' := [(3, .int 256), (0, .ref wa), (1, .int 0), (2, .int 0)]) hx hb dX6_nextCut_5 rfl hl (by decide) rfl (fun ls hl => ?_)
  refine lv_iconst (v := 0) hx hb dX6_nextCut_6 (by decide) ?_
  refine lv_istore (lv' := [(4, .int 0), (3, .int 256), (0, .ref wa), (1, .int 0), (2, .int 0)]) hx hb dX6_nextCut_7 hl (by decide) rfl (fun ls hl => ?_)
  refine lv_iload hx hb dX6_nextCut_9 (lv_at hl 0 rfl) ?_
  refine lv_aload_n hx hb dX6_nextCut_11 rfl (lv_at hl 2 rfl) ?_
  refine va_get (D := G.1) (ci := 6) (v := .int 0) (C := RX6) (T := TX6) (N := 3) hx hb hts hw6 hown hE.1 hP 0 rfl rfl 1 (by decide) hf18 (fun _ h9 => h9) rfl dX6_nextCut_12 ?_
  refine lv_icmp_ge (tgt := 92) hx hb dX6_nextCut_15 (by decide) (fun _ => ?_) (fun h9 => absurd (by decide) h9)
  refine lv_iload_n hx hb dX6_nextCut_92 rfl (lv_at hl 1 rfl) ?_
  exact zend_i hx hb hr hlocks (fun k => [].getD k 0) hP hD hS (Nat.le_of_ble_eq_true rfl) (Nat.le_of_ble_eq_true rfl) dX6_nextCut_93

set_option maxHeartbeats 4000000 in
set_option maxRecDepth 100000 in
theorem z_X6_nextCut1 (l : Launch) (G : zG) (wa : Nat) (ro : Nat) : zR l G yX6_nextCut wsX6_nextCut { frames := 0, cells := 0, slots := 0, locals := 0 } [(wa, .inr (6, [.ref ro, .int 0, .int 0]))] [.ref wa, .int 1, .int 0] (some (.int 256)) (fun u => [(wa, .inr (6, [.ref ro, .int 0, .int 0]))]) 0 0 := by
  refine zR_of (cc := cX6_nextCut) (maxL := 5) (rt := (some .int)) (by decide) rfl (Nat.le_of_ble_eq_true rfl) ?_
  intro p e s m below meth c A ls hx hb hml hr hts hown hlocks hin hA hE hP hD hS hl
  have hl : lv_has ls 5 [(0, .ref wa), (1, .int 1), (2, .int 0)] := hl
  have hown : s.vm.findClass RX6 = some m.cls := hown
  have hP : va_P G.1 vwCl [(wa, .inr (6, [.ref ro, .int 0, .int 0]))] s.heap := hP
  have hw6 : ∀ w ∈ u_ws RX6 TX6 3, w ∈ wsX6_nextCut := by decide +kernel
  have hf18 := hts (.fieldLink RX6 18 "Nettle$Wall" "count" "I") (by decide +kernel)
  refine va_getsN hx hb hE.2.1.1 hS hown (va_Nw.use rfl hE.2.2.2.2.1.2.2.2.2.2.1) (fun _ h9 => h9) dX6_nextCut_0 ?_
  refine lv_iload_n hx hb dX6_nextCut_3 rfl (lv_at hl 1 rfl) ?_
  refine va_ti (v := .int 256) hx hb hE.2.1.2 hS (zin (by decide +kernel)) rfl dX6_nextCut_4 ?_
  refine lv_istore_n (lv' := [(3, .int 256), (0, .ref wa), (1, .int 1), (2, .int 0)]) hx hb dX6_nextCut_5 rfl hl (by decide) rfl (fun ls hl => ?_)
  refine lv_iconst (v := 0) hx hb dX6_nextCut_6 (by decide) ?_
  refine lv_istore (lv' := [(4, .int 0), (3, .int 256), (0, .ref wa), (1, .int 1), (2, .int 0)]) hx hb dX6_nextCut_7 hl (by decide) rfl (fun ls hl => ?_)
  refine lv_iload hx hb dX6_nextCut_9 (lv_at hl 0 rfl) ?_
  refine lv_aload_n hx hb dX6_nextCut_11 rfl (lv_at hl 2 rfl) ?_
  refine va_get (D := G.1) (ci := 6) (v := .int 0) (C := RX6) (T := TX6) (N := 3) hx hb hts hw6 hown hE.1 hP 0 rfl rfl 1 (by decide) hf18 (fun _ h9 => h9) rfl dX6_nextCut_12 ?_
  refine lv_icmp_ge (tgt := 92) hx hb dX6_nextCut_15 (by decide) (fun _ => ?_) (fun h9 => absurd (by decide) h9)
  refine lv_iload_n hx hb dX6_nextCut_92 rfl (lv_at hl 1 rfl) ?_
  exact zend_i hx hb hr hlocks (fun k => [].getD k 0) hP hD hS (Nat.le_of_ble_eq_true rfl) (Nat.le_of_ble_eq_true rfl) dX6_nextCut_93

set_option maxHeartbeats 4000000 in
set_option maxRecDepth 100000 in
theorem z_X6_nextCut2 (l : Launch) (G : zG) (wa : Nat) (ro : Nat) : zR l G yX6_nextCut wsX6_nextCut { frames := 0, cells := 0, slots := 0, locals := 0 } [(wa, .inr (6, [.ref ro, .int 0, .int 0]))] [.ref wa, .int 2, .int 0] (some (.int 1024)) (fun u => [(wa, .inr (6, [.ref ro, .int 0, .int 0]))]) 0 0 := by
  refine zR_of (cc := cX6_nextCut) (maxL := 5) (rt := (some .int)) (by decide) rfl (Nat.le_of_ble_eq_true rfl) ?_
  intro p e s m below meth c A ls hx hb hml hr hts hown hlocks hin hA hE hP hD hS hl
  have hl : lv_has ls 5 [(0, .ref wa), (1, .int 2), (2, .int 0)] := hl
  have hown : s.vm.findClass RX6 = some m.cls := hown
  have hP : va_P G.1 vwCl [(wa, .inr (6, [.ref ro, .int 0, .int 0]))] s.heap := hP
  have hw6 : ∀ w ∈ u_ws RX6 TX6 3, w ∈ wsX6_nextCut := by decide +kernel
  have hf18 := hts (.fieldLink RX6 18 "Nettle$Wall" "count" "I") (by decide +kernel)
  refine va_getsN hx hb hE.2.1.1 hS hown (va_Nw.use rfl hE.2.2.2.2.1.2.2.2.2.2.1) (fun _ h9 => h9) dX6_nextCut_0 ?_
  refine lv_iload_n hx hb dX6_nextCut_3 rfl (lv_at hl 1 rfl) ?_
  refine va_ti (v := .int 1024) hx hb hE.2.1.2 hS (zin (by decide +kernel)) rfl dX6_nextCut_4 ?_
  refine lv_istore_n (lv' := [(3, .int 1024), (0, .ref wa), (1, .int 2), (2, .int 0)]) hx hb dX6_nextCut_5 rfl hl (by decide) rfl (fun ls hl => ?_)
  refine lv_iconst (v := 0) hx hb dX6_nextCut_6 (by decide) ?_
  refine lv_istore (lv' := [(4, .int 0), (3, .int 1024), (0, .ref wa), (1, .int 2), (2, .int 0)]) hx hb dX6_nextCut_7 hl (by decide) rfl (fun ls hl => ?_)
  refine lv_iload hx hb dX6_nextCut_9 (lv_at hl 0 rfl) ?_
  refine lv_aload_n hx hb dX6_nextCut_11 rfl (lv_at hl 2 rfl) ?_
  refine va_get (D := G.1) (ci := 6) (v := .int 0) (C := RX6) (T := TX6) (N := 3) hx hb hts hw6 hown hE.1 hP 0 rfl rfl 1 (by decide) hf18 (fun _ h9 => h9) rfl dX6_nextCut_12 ?_
  refine lv_icmp_ge (tgt := 92) hx hb dX6_nextCut_15 (by decide) (fun _ => ?_) (fun h9 => absurd (by decide) h9)
  refine lv_iload_n hx hb dX6_nextCut_92 rfl (lv_at hl 1 rfl) ?_
  exact zend_i hx hb hr hlocks (fun k => [].getD k 0) hP hD hS (Nat.le_of_ble_eq_true rfl) (Nat.le_of_ble_eq_true rfl) dX6_nextCut_93

set_option maxHeartbeats 4000000 in
set_option maxRecDepth 100000 in
theorem z_X6_nextCut3 (l : Launch) (G : zG) (wa : Nat) (ro : Nat) : zR l G yX6_nextCut wsX6_nextCut { frames := 0, cells := 0, slots := 0, locals := 0 } [(wa, .inr (6, [.ref ro, .int 0, .int 0]))] [.ref wa, .int 3, .int 0] (some (.int 4)) (fun u => [(wa, .inr (6, [.ref ro, .int 0, .int 0]))]) 0 0 := by
  refine zR_of (cc := cX6_nextCut) (maxL := 5) (rt := (some .int)) (by decide) rfl (Nat.le_of_ble_eq_true rfl) ?_
  intro p e s m below meth c A ls hx hb hml hr hts hown hlocks hin hA hE hP hD hS hl
  have hl : lv_has ls 5 [(0, .ref wa), (1, .int 3), (2, .int 0)] := hl
  have hown : s.vm.findClass RX6 = some m.cls := hown
  have hP : va_P G.1 vwCl [(wa, .inr (6, [.ref ro, .int 0, .int 0]))] s.heap := hP
  have hw6 : ∀ w ∈ u_ws RX6 TX6 3, w ∈ wsX6_nextCut := by decide +kernel
  have hf18 := hts (.fieldLink RX6 18 "Nettle$Wall" "count" "I") (by decide +kernel)
  refine va_getsN hx hb hE.2.1.1 hS hown (va_Nw.use rfl hE.2.2.2.2.1.2.2.2.2.2.1) (fun _ h9 => h9) dX6_nextCut_0 ?_
  refine lv_iload_n hx hb dX6_nextCut_3 rfl (lv_at hl 1 rfl) ?_
  refine va_ti (v := .int 4) hx hb hE.2.1.2 hS (zin (by decide +kernel)) rfl dX6_nextCut_4 ?_
  refine lv_istore_n (lv' := [(3, .int 4), (0, .ref wa), (1, .int 3), (2, .int 0)]) hx hb dX6_nextCut_5 rfl hl (by decide) rfl (fun ls hl => ?_)
  refine lv_iconst (v := 0) hx hb dX6_nextCut_6 (by decide) ?_
  refine lv_istore (lv' := [(4, .int 0), (3, .int 4), (0, .ref wa), (1, .int 3), (2, .int 0)]) hx hb dX6_nextCut_7 hl (by decide) rfl (fun ls hl => ?_)
  refine lv_iload hx hb dX6_nextCut_9 (lv_at hl 0 rfl) ?_
  refine lv_aload_n hx hb dX6_nextCut_11 rfl (lv_at hl 2 rfl) ?_
  refine va_get (D := G.1) (ci := 6) (v := .int 0) (C := RX6) (T := TX6) (N := 3) hx hb hts hw6 hown hE.1 hP 0 rfl rfl 1 (by decide) hf18 (fun _ h9 => h9) rfl dX6_nextCut_12 ?_
  refine lv_icmp_ge (tgt := 92) hx hb dX6_nextCut_15 (by decide) (fun _ => ?_) (fun h9 => absurd (by decide) h9)
  refine lv_iload_n hx hb dX6_nextCut_92 rfl (lv_at hl 1 rfl) ?_
  exact zend_i hx hb hr hlocks (fun k => [].getD k 0) hP hD hS (Nat.le_of_ble_eq_true rfl) (Nat.le_of_ble_eq_true rfl) dX6_nextCut_93

set_option maxHeartbeats 4000000 in
set_option maxRecDepth 100000 in
theorem z_X6_firstOf (l : Launch) (G : zG) (wa : Nat) (ro : Nat) (p0 : Int32) : zR l G yX6_firstOf wsX6_firstOf { frames := 0, cells := 0, slots := 0, locals := 0 } [(wa, .inr (6, [.ref ro, .int 0, .int 0]))] [.ref wa, .int p0] (some (.int (-1))) (fun u => [(wa, .inr (6, [.ref ro, .int 0, .int 0]))]) 0 0 := by
  refine zR_of (cc := cX6_firstOf) (maxL := 3) (rt := (some .int)) (by decide) rfl (Nat.le_of_ble_eq_true rfl) ?_
  intro p e s m below meth c A ls hx hb hml hr hts hown hlocks hin hA hE hP hD hS hl
  have hl : lv_has ls 3 [(0, .ref wa), (1, .int p0)] := hl
  have hown : s.vm.findClass RX6 = some m.cls := hown
  have hP : va_P G.1 vwCl [(wa, .inr (6, [.ref ro, .int 0, .int 0]))] s.heap := hP
  have hw6 : ∀ w ∈ u_ws RX6 TX6 3, w ∈ wsX6_firstOf := by decide +kernel
  have hf18 := hts (.fieldLink RX6 18 "Nettle$Wall" "count" "I") (by decide +kernel)
  refine lv_iconst (v := 0) hx hb dX6_firstOf_0 (by decide) ?_
  refine lv_istore_n (lv' := [(2, .int 0), (0, .ref wa), (1, .int p0)]) hx hb dX6_firstOf_1 rfl hl (by decide) rfl (fun ls hl => ?_)
  refine lv_iload_n hx hb dX6_firstOf_2 rfl (lv_at hl 0 rfl) ?_
  refine lv_aload_n hx hb dX6_firstOf_3 rfl (lv_at hl 1 rfl) ?_
  refine va_get (D := G.1) (ci := 6) (v := .int 0) (C := RX6) (T := TX6) (N := 3) hx hb hts hw6 hown hE.1 hP 0 rfl rfl 1 (by decide) hf18 (fun _ h9 => h9) rfl dX6_firstOf_4 ?_
  refine lv_icmp_ge (tgt := 27) hx hb dX6_firstOf_7 (by decide) (fun _ => ?_) (fun h9 => absurd (by decide) h9)
  refine lv_iconst (v := (-1)) hx hb dX6_firstOf_27 (by decide) ?_
  exact zend_i hx hb hr hlocks (fun k => [].getD k 0) hP hD hS (Nat.le_of_ble_eq_true rfl) (Nat.le_of_ble_eq_true rfl) dX6_firstOf_28

set_option maxHeartbeats 4000000 in
set_option maxRecDepth 100000 in
theorem z_X6_allows (l : Launch) (G : zG) (wa : Nat) (ro : Nat) (p0 : Int32) : zR l G yX6_allows wsX6_allows { frames := 1, cells := 0, slots := 0, locals := 22 } [(wa, .inr (6, [.ref ro, .int 0, .int 0]))] [.ref wa, .int p0] (some (.int 0)) (fun u => [(wa, .inr (6, [.ref ro, .int 0, .int 0]))]) 0 0 := by
  refine zR_of (cc := cX6_allows) (maxL := 3) (rt := (some .boolean)) (by decide) rfl (Nat.le_of_ble_eq_true rfl) ?_
  intro p e s m below meth c A ls hx hb hml hr hts hown hlocks hin hA hE hP hD hS hl
  have hl : lv_has ls 3 [(0, .ref wa), (1, .int p0)] := hl
  have hown : s.vm.findClass RX6 = some m.cls := hown
  have hP : va_P G.1 vwCl [(wa, .inr (6, [.ref ro, .int 0, .int 0]))] s.heap := hP
  have hw6 : ∀ w ∈ u_ws RX6 TX6 3, w ∈ wsX6_allows := by decide +kernel
  have hf34 := hts (.fieldLink RX6 34 "Nettle$Wall" "isLastAllow" "Z") (by decide +kernel)
  refine lv_aload_n hx hb dX6_allows_0 rfl (lv_at hl 0 rfl) ?_
  refine lv_iload_n hx hb dX6_allows_1 rfl (lv_at hl 1 rfl) ?_
  refine zcall (wr := []) (va_runV (As := [.int p0]) (rest := []) ⟨hx, hb, hml, hown, hts⟩ (z_X6_firstOf l G wa ro p0 s.heap.size) (cwV 1 hts gX6_allows_X6_firstOf rfl rfl rfl (by decide +kernel) ⟨Nat.le_of_ble_eq_true rfl, Nat.le_of_ble_eq_true rfl⟩) (zPreV (Wc := [(wa, .inr (6, [.ref ro, .int 0, .int 0]))]) (q0 := 0) (ci := 6) (q := (RX6, TX6, 3)) hP hD hE hS hA [0] rfl (by decide) rfl rfl) rfl rfl hl.1 rfl (lv_room (Nat.le_of_ble_eq_true rfl)) dX6_allows_2 ⟨Nat.le_of_ble_eq_true rfl, Nat.le_of_ble_eq_true rfl⟩) hP hD hS hA [0] [] rfl rfl (by decide) (by decide) (fun u1 H locs hP hD hS => ?_)
  have hP : va_P G.1 vwCl [(wa, .inr (6, [.ref ro, .int 0, .int 0]))] H := hP
  have hD : va_D A [(wa, .inr (6, [.ref ro, .int 0, .int 0]))] := hD
  refine W.eq (g2 := F0 m 5 ls [.int (-1)]) rfl ?_
  refine lv_istore_n (lv' := [(2, .int (-1)), (0, .ref wa), (1, .int p0)]) hx hb dX6_allows_5 rfl hl (by decide) rfl (fun ls hl => ?_)
  refine lv_iload_n hx hb dX6_allows_6 rfl (lv_at hl 0 rfl) ?_
  refine lv_if_ge (tgt := 17) hx hb dX6_allows_7 (by decide) (fun h9 => absurd h9 (by decide)) (fun _ => ?_)
  refine lv_aload_n hx hb dX6_allows_10 rfl (lv_at hl 1 rfl) ?_
  refine va_get (D := G.1) (ci := 6) (v := .int 0) (C := RX6) (T := TX6) (N := 3) hx hb hts hw6 hown hE.1 hP 0 rfl rfl 2 (by decide) hf34 (fun _ h9 => h9) rfl dX6_allows_11 ?_
  refine lv_goto (tgt := 35) hx hb dX6_allows_14 (by decide) ?_
  exact zend_z hx hb hr hlocks rfl (fun k => [].getD k 0) hP hD hS (Nat.le_of_ble_eq_true rfl) (Nat.le_of_ble_eq_true rfl) dX6_allows_35

set_option maxHeartbeats 4000000 in
set_option maxRecDepth 100000 in
theorem z_X6_isSettled (l : Launch) (G : zG) (wa : Nat) (ro : Nat) (p0 : Int32) (p1 : Int32) : zR l G yX6_isSettled wsX6_isSettled { frames := 1, cells := 0, slots := 0, locals := 22 } [(wa, .inr (6, [.ref ro, .int 0, .int 0]))] [.ref wa, .int p0, .int p1] (some (.int 1)) (fun u => [(wa, .inr (6, [.ref ro, .int 0, .int 0]))]) 0 0 := by
  refine zR_of (cc := cX6_isSettled) (maxL := 4) (rt := (some .boolean)) (by decide) rfl (Nat.le_of_ble_eq_true rfl) ?_
  intro p e s m below meth c A ls hx hb hml hr hts hown hlocks hin hA hE hP hD hS hl
  have hl : lv_has ls 4 [(0, .ref wa), (1, .int p0), (2, .int p1)] := hl
  have hown : s.vm.findClass RX6 = some m.cls := hown
  have hP : va_P G.1 vwCl [(wa, .inr (6, [.ref ro, .int 0, .int 0]))] s.heap := hP
  refine lv_aload_n hx hb dX6_isSettled_0 rfl (lv_at hl 0 rfl) ?_
  refine lv_iload_n hx hb dX6_isSettled_1 rfl (lv_at hl 2 rfl) ?_
  refine zcall (wr := []) (va_runV (As := [.int p1]) (rest := []) ⟨hx, hb, hml, hown, hts⟩ (z_X6_firstOf l G wa ro p1 s.heap.size) (cwV 1 hts gX6_isSettled_X6_firstOf rfl rfl rfl (by decide +kernel) ⟨Nat.le_of_ble_eq_true rfl, Nat.le_of_ble_eq_true rfl⟩) (zPreV (Wc := [(wa, .inr (6, [.ref ro, .int 0, .int 0]))]) (q0 := 0) (ci := 6) (q := (RX6, TX6, 3)) hP hD hE hS hA [0] rfl (by decide) rfl rfl) rfl rfl hl.1 rfl (lv_room (Nat.le_of_ble_eq_true rfl)) dX6_isSettled_2 ⟨Nat.le_of_ble_eq_true rfl, Nat.le_of_ble_eq_true rfl⟩) hP hD hS hA [0] [] rfl rfl (by decide) (by decide) (fun u1 H locs hP hD hS => ?_)
  have hP : va_P G.1 vwCl [(wa, .inr (6, [.ref ro, .int 0, .int 0]))] H := hP
  have hD : va_D A [(wa, .inr (6, [.ref ro, .int 0, .int 0]))] := hD
  refine W.eq (g2 := F0 m 5 ls [.int (-1)]) rfl ?_
  refine lv_istore_n (lv' := [(3, .int (-1)), (0, .ref wa), (1, .int p0), (2, .int p1)]) hx hb dX6_isSettled_5 rfl hl (by decide) rfl (fun ls hl => ?_)
  refine lv_iload_n hx hb dX6_isSettled_6 rfl (lv_at hl 0 rfl) ?_
  refine lv_if_lt (tgt := 23) hx hb dX6_isSettled_7 (by decide) (fun _ => ?_) (fun h9 => absurd (by decide) h9)
  refine lv_iconst (v := 1) hx hb dX6_isSettled_23 (by decide) ?_
  refine lv_goto (tgt := 28) hx hb dX6_isSettled_24 (by decide) ?_
  exact zend_z hx hb hr hlocks rfl (fun k => [].getD k 0) hP hD hS (Nat.le_of_ble_eq_true rfl) (Nat.le_of_ble_eq_true rfl) dX6_isSettled_28

set_option maxHeartbeats 4000000 in
set_option maxRecDepth 100000 in
theorem z_X6_hit (l : Launch) (G : zG) (wa : Nat) (ro : Nat) (pk : Nat) : zR l G yX6_hit wsX6_hit { frames := 0, cells := 0, slots := 0, locals := 0 } [(wa, .inr (6, [.ref ro, .int 0, .int 0]))] [.ref wa, .ref pk] (some (.int (-1))) (fun u => [(wa, .inr (6, [.ref ro, .int 0, .int 0]))]) 0 0 := by
  refine zR_of (cc := cX6_hit) (maxL := 3) (rt := (some .int)) (by decide) rfl (Nat.le_of_ble_eq_true rfl) ?_
  intro p e s m below meth c A ls hx hb hml hr hts hown hlocks hin hA hE hP hD hS hl
  have hl : lv_has ls 3 [(0, .ref wa), (1, .ref pk)] := hl
  have hown : s.vm.findClass RX6 = some m.cls := hown
  have hP : va_P G.1 vwCl [(wa, .inr (6, [.ref ro, .int 0, .int 0]))] s.heap := hP
  have hw6 : ∀ w ∈ u_ws RX6 TX6 3, w ∈ wsX6_hit := by decide +kernel
  have hf18 := hts (.fieldLink RX6 18 "Nettle$Wall" "count" "I") (by decide +kernel)
  refine lv_iconst (v := 0) hx hb dX6_hit_0 (by decide) ?_
  refine lv_istore_n (lv' := [(2, .int 0), (0, .ref wa), (1, .ref pk)]) hx hb dX6_hit_1 rfl hl (by decide) rfl (fun ls hl => ?_)
  refine lv_iload_n hx hb dX6_hit_2 rfl (lv_at hl 0 rfl) ?_
  refine lv_aload_n hx hb dX6_hit_3 rfl (lv_at hl 1 rfl) ?_
  refine va_get (D := G.1) (ci := 6) (v := .int 0) (C := RX6) (T := TX6) (N := 3) hx hb hts hw6 hown hE.1 hP 0 rfl rfl 1 (by decide) hf18 (fun _ h9 => h9) rfl dX6_hit_4 ?_
  refine lv_icmp_ge (tgt := 58) hx hb dX6_hit_7 (by decide) (fun _ => ?_) (fun h9 => absurd (by decide) h9)
  refine lv_iconst (v := (-1)) hx hb dX6_hit_58 (by decide) ?_
  exact zend_i hx hb hr hlocks (fun k => [].getD k 0) hP hD hS (Nat.le_of_ble_eq_true rfl) (Nat.le_of_ble_eq_true rfl) dX6_hit_59
