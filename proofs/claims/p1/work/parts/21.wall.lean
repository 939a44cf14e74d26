/-! the reference: its wall -/
theorem dX9_values_0 : decode cX9_values 0 = .ok (.iload_n 0, 1) := by decide +kernel
theorem dX9_values_1 : decode cX9_values 1 = .ok (.iconst 2, 1) := by decide +kernel
theorem dX9_values_2 : decode cX9_values 2 = .ok (.if_icmp .ge 9, 3) := by decide +kernel
theorem dX9_values_5 : decode cX9_values 5 = .ok (.sipush 256, 3) := by decide +kernel
theorem dX9_values_8 : decode cX9_values 8 = .ok (.goto 15, 3) := by decide +kernel
theorem dX9_values_23 : decode cX9_values 23 = .ok (.ireturn, 1) := by decide +kernel
theorem dX9_values_11 : decode cX9_values 11 = .ok (.iload_n 0, 1) := by decide +kernel
theorem dX9_values_12 : decode cX9_values 12 = .ok (.iconst 2, 1) := by decide +kernel
theorem dX9_values_13 : decode cX9_values 13 = .ok (.if_icmp .ne 9, 3) := by decide +kernel
theorem dX9_values_16 : decode cX9_values 16 = .ok (.sipush 1024, 3) := by decide +kernel
theorem dX9_values_19 : decode cX9_values 19 = .ok (.goto 4, 3) := by decide +kernel
theorem dX9_values_22 : decode cX9_values 22 = .ok (.iconst 4, 1) := by decide +kernel
theorem dX9_size_0 : decode cX9_size 0 = .ok (.iload_n 0, 1) := by decide +kernel
theorem dX9_size_1 : decode cX9_size 1 = .ok (.ifCond .ne 8, 3) := by decide +kernel
theorem dX9_size_4 : decode cX9_size 4 = .ok (.ldc 44, 2) := by decide +kernel
theorem dX9_size_6 : decode cX9_size 6 = .ok (.goto 34, 3) := by decide +kernel
theorem dX9_size_40 : decode cX9_size 40 = .ok (.ireturn, 1) := by decide +kernel
theorem dX9_isIn_0 : decode cX9_isIn 0 = .ok (.iload_n 0, 1) := by decide +kernel
theorem dX9_isIn_1 : decode cX9_isIn 1 = .ok (.iload_n 1, 1) := by decide +kernel
theorem dX9_isIn_2 : decode cX9_isIn 2 = .ok (.if_icmp .lt 12, 3) := by decide +kernel
theorem dX9_isIn_5 : decode cX9_isIn 5 = .ok (.iload_n 0, 1) := by decide +kernel
theorem dX9_isIn_6 : decode cX9_isIn 6 = .ok (.iload_n 2, 1) := by decide +kernel
theorem dX9_isIn_7 : decode cX9_isIn 7 = .ok (.if_icmp .gt 7, 3) := by decide +kernel
theorem dX9_isIn_10 : decode cX9_isIn 10 = .ok (.iconst 1, 1) := by decide +kernel
theorem dX9_isIn_11 : decode cX9_isIn 11 = .ok (.goto 4, 3) := by decide +kernel
theorem dX9_isIn_15 : decode cX9_isIn 15 = .ok (.ireturn, 1) := by decide +kernel
theorem dX9_isIn_14 : decode cX9_isIn 14 = .ok (.iconst 0, 1) := by decide +kernel
theorem dX8_ahead_0 : decode cX8_ahead 0 = .ok (.iconst 0, 1) := by decide +kernel
theorem dX8_ahead_1 : decode cX8_ahead 1 = .ok (.istore_n 2, 1) := by decide +kernel
theorem dX8_ahead_2 : decode cX8_ahead 2 = .ok (.iconst 0, 1) := by decide +kernel
theorem dX8_ahead_3 : decode cX8_ahead 3 = .ok (.istore_n 3, 1) := by decide +kernel
theorem dX8_ahead_4 : decode cX8_ahead 4 = .ok (.iload_n 3, 1) := by decide +kernel
theorem dX8_ahead_5 : decode cX8_ahead 5 = .ok (.iload_n 1, 1) := by decide +kernel
theorem dX8_ahead_6 : decode cX8_ahead 6 = .ok (.if_icmp .ge 29, 3) := by decide +kernel
theorem dX8_ahead_35 : decode cX8_ahead 35 = .ok (.iload_n 2, 1) := by decide +kernel
theorem dX8_ahead_36 : decode cX8_ahead 36 = .ok (.ireturn, 1) := by decide +kernel
theorem dX8_all_0 : decode cX8_all 0 = .ok (.aload_n 0, 1) := by decide +kernel
theorem dX8_all_1 : decode cX8_all 1 = .ok (.aload_n 0, 1) := by decide +kernel
theorem dX8_all_2 : decode cX8_all 2 = .ok (.getfield 25, 3) := by decide +kernel
set_option maxRecDepth 20000 in
theorem ggX8_all_X8_ahead : GoodIn wsX8_all wsX8_ahead := goodIn_r _ [6, 7, 8, 9, 10, 11, 12, 13] (by decide +kernel) (by decide +kernel)
set_option maxRecDepth 20000 in
theorem gX8_all_X8_ahead : GoodIn wsX8_all (wsV RX8 42 RX8 yX8_ahead wsX8_ahead) := goodIn_app (goodIn_of _ (by decide +kernel)) ggX8_all_X8_ahead
theorem dX8_all_5 : decode cX8_all 5 = .ok (.invokevirtual 42, 3) := by decide +kernel
theorem dX8_all_8 : decode cX8_all 8 = .ok (.ireturn, 1) := by decide +kernel
theorem dX8_isLed_0 : decode cX8_isLed 0 = .ok (.iload_n 2, 1) := by decide +kernel
theorem dX8_isLed_1 : decode cX8_isLed 1 = .ok (.ifCond .ne 5, 3) := by decide +kernel
theorem dX8_isLed_4 : decode cX8_isLed 4 = .ok (.iconst 1, 1) := by decide +kernel
theorem dX8_isLed_5 : decode cX8_isLed 5 = .ok (.ireturn, 1) := by decide +kernel
theorem dX8_word_0 : decode cX8_word 0 = .ok (.iload_n 1, 1) := by decide +kernel
theorem dX8_word_1 : decode cX8_word 1 = .ok (.ifCond .ne 10, 3) := by decide +kernel
theorem dX8_word_4 : decode cX8_word 4 = .ok (.aload_n 0, 1) := by decide +kernel
theorem dX8_word_5 : decode cX8_word 5 = .ok (.getfield 29, 3) := by decide +kernel
theorem dX8_word_8 : decode cX8_word 8 = .ok (.goto 12, 3) := by decide +kernel
theorem dX8_word_20 : decode cX8_word 20 = .ok (.ireturn, 1) := by decide +kernel
theorem dX8_forget_0 : decode cX8_forget 0 = .ok (.aload_n 0, 1) := by decide +kernel
theorem dX8_forget_1 : decode cX8_forget 1 = .ok (.sipush 1024, 3) := by decide +kernel
theorem dX8_forget_4 : decode cX8_forget 4 = .ok (.newarray .int, 2) := by decide +kernel
theorem dX8_forget_6 : decode cX8_forget 6 = .ok (.putfield 21, 3) := by decide +kernel
theorem dX8_forget_9 : decode cX8_forget 9 = .ok (.return_, 1) := by decide +kernel
theorem dX8_allowed_0 : decode cX8_allowed 0 = .ok (.aload_n 0, 1) := by decide +kernel
theorem dX8_allowed_1 : decode cX8_allowed 1 = .ok (.iload_n 1, 1) := by decide +kernel
theorem dX8_allowed_2 : decode cX8_allowed 2 = .ok (.iload_n 2, 1) := by decide +kernel
set_option maxRecDepth 20000 in
theorem ggX8_allowed_X8_isLed : GoodIn wsX8_allowed wsX8_isLed := goodIn_r _ [6, 7, 8, 9, 10, 5, 11, 12, 13, 14, 43, 44, 45, 46, 47, 48] (by decide +kernel) (by decide +kernel)
set_option maxRecDepth 20000 in
theorem gX8_allowed_X8_isLed : GoodIn wsX8_allowed (wsV RX8 62 RX8 yX8_isLed wsX8_isLed) := goodIn_app (goodIn_of _ (by decide +kernel)) ggX8_allowed_X8_isLed
theorem dX8_allowed_3 : decode cX8_allowed 3 = .ok (.invokevirtual 62, 3) := by decide +kernel
theorem dX8_allowed_6 : decode cX8_allowed 6 = .ok (.ifCond .eq 21, 3) := by decide +kernel
theorem dX8_allowed_9 : decode cX8_allowed 9 = .ok (.aload_n 0, 1) := by decide +kernel
theorem dX8_allowed_10 : decode cX8_allowed 10 = .ok (.iload_n 2, 1) := by decide +kernel
set_option maxRecDepth 20000 in
theorem ggX8_allowed_X8_word : GoodIn wsX8_allowed wsX8_word := goodIn_r _ [18, 19, 20, 9, 10, 5, 11, 43, 44, 45, 46, 47, 48] (by decide +kernel) (by decide +kernel)
set_option maxRecDepth 20000 in
theorem gX8_allowed_X8_word : GoodIn wsX8_allowed (wsV RX8 66 RX8 yX8_word wsX8_word) := goodIn_app (goodIn_of _ (by decide +kernel)) ggX8_allowed_X8_word
theorem dX8_allowed_11 : decode cX8_allowed 11 = .ok (.invokevirtual 66, 3) := by decide +kernel
theorem dX8_allowed_14 : decode cX8_allowed 14 = .ok (.iconst 1, 1) := by decide +kernel
theorem dX8_allowed_15 : decode cX8_allowed 15 = .ok (.if_icmp .ne 10, 3) := by decide +kernel
theorem dX8_allowed_25 : decode cX8_allowed 25 = .ok (.iconst 0, 1) := by decide +kernel
theorem dX8_allowed_26 : decode cX8_allowed 26 = .ok (.ireturn, 1) := by decide +kernel
theorem dX8_steps_0 : decode cX8_steps 0 = .ok (.aload_n 0, 1) := by decide +kernel
theorem dX8_steps_1 : decode cX8_steps 1 = .ok (.iload_n 1, 1) := by decide +kernel
theorem dX8_steps_2 : decode cX8_steps 2 = .ok (.iload_n 2, 1) := by decide +kernel
set_option maxRecDepth 20000 in
theorem ggX8_steps_X8_isLed : GoodIn wsX8_steps wsX8_isLed := goodIn_r _ [5, 6, 7, 8, 9, 4, 10, 11, 12, 13, 36, 37, 38, 39, 40, 41] (by decide +kernel) (by decide +kernel)
set_option maxRecDepth 20000 in
theorem gX8_steps_X8_isLed : GoodIn wsX8_steps (wsV RX8 62 RX8 yX8_isLed wsX8_isLed) := goodIn_app (goodIn_of _ (by decide +kernel)) ggX8_steps_X8_isLed
theorem dX8_steps_3 : decode cX8_steps 3 = .ok (.invokevirtual 62, 3) := by decide +kernel
theorem dX8_steps_6 : decode cX8_steps 6 = .ok (.ifCond .eq 5, 3) := by decide +kernel
theorem dX8_steps_9 : decode cX8_steps 9 = .ok (.lconst 0, 1) := by decide +kernel
theorem dX8_steps_10 : decode cX8_steps 10 = .ok (.lreturn, 1) := by decide +kernel
theorem dX8_copied_0 : decode cX8_copied 0 = .ok (.new 10, 3) := by decide +kernel
theorem dX8_copied_3 : decode cX8_copied 3 = .ok (.dup, 1) := by decide +kernel
set_option maxRecDepth 20000 in
theorem ggX8_copied_X8_init : GoodIn wsX8_copied wsX8_init := goodIn_r _ [8, 9, 10, 11, 12, 13, 14, 15, 16, 25, 26, 27, 28, 29, 30] (by decide +kernel) (by decide +kernel)
set_option maxRecDepth 20000 in
theorem gX8_copied_X8_init : GoodIn wsX8_copied (wsX8_init) := ggX8_copied_X8_init
theorem dX8_copied_4 : decode cX8_copied 4 = .ok (.invokespecial 24, 3) := by decide +kernel
theorem dX8_copied_7 : decode cX8_copied 7 = .ok (.astore_n 1, 1) := by decide +kernel
theorem dX8_copied_8 : decode cX8_copied 8 = .ok (.aload_n 1, 1) := by decide +kernel
theorem dX8_copied_9 : decode cX8_copied 9 = .ok (.aload_n 0, 1) := by decide +kernel
theorem dX8_copied_10 : decode cX8_copied 10 = .ok (.getfield 25, 3) := by decide +kernel
theorem dX8_copied_13 : decode cX8_copied 13 = .ok (.putfield 25, 3) := by decide +kernel
theorem dX8_copied_16 : decode cX8_copied 16 = .ok (.aload_n 1, 1) := by decide +kernel
theorem dX8_copied_17 : decode cX8_copied 17 = .ok (.aload_n 0, 1) := by decide +kernel
theorem dX8_copied_18 : decode cX8_copied 18 = .ok (.getfield 29, 3) := by decide +kernel
theorem dX8_copied_21 : decode cX8_copied 21 = .ok (.putfield 29, 3) := by decide +kernel
theorem dX8_copied_24 : decode cX8_copied 24 = .ok (.iconst 0, 1) := by decide +kernel
theorem dX8_copied_25 : decode cX8_copied 25 = .ok (.istore_n 2, 1) := by decide +kernel
theorem dX8_copied_26 : decode cX8_copied 26 = .ok (.iload_n 2, 1) := by decide +kernel
theorem dX8_copied_27 : decode cX8_copied 27 = .ok (.aload_n 0, 1) := by decide +kernel
theorem dX8_copied_28 : decode cX8_copied 28 = .ok (.getfield 25, 3) := by decide +kernel
theorem dX8_copied_31 : decode cX8_copied 31 = .ok (.if_icmp .ge 16, 3) := by decide +kernel
theorem dX8_copied_47 : decode cX8_copied 47 = .ok (.aload_n 1, 1) := by decide +kernel
theorem dX8_copied_48 : decode cX8_copied 48 = .ok (.areturn, 1) := by decide +kernel
theorem dX9_others_0 : decode cX9_others 0 = .ok (.aload_n 0, 1) := by decide +kernel
theorem dX9_others_1 : decode cX9_others 1 = .ok (.iload 4, 2) := by decide +kernel
theorem dX9_others_3 : decode cX9_others 3 = .ok (.iload_n 1, 1) := by decide +kernel
set_option maxRecDepth 20000 in
theorem ggX9_others_X8_isLed : GoodIn wsX9_others wsX8_isLed := goodIn_r _ [9, 10, 11, 12, 13, 8, 14, 15, 16, 17, 54, 55, 56, 57, 58, 59] (by decide +kernel) (by decide +kernel)
set_option maxRecDepth 20000 in
theorem gX9_others_X8_isLed : GoodIn wsX9_others (wsV RX9 46 RX8 yX8_isLed wsX8_isLed) := goodIn_app (goodIn_of _ (by decide +kernel)) ggX9_others_X8_isLed
theorem dX9_others_4 : decode cX9_others 4 = .ok (.invokevirtual 46, 3) := by decide +kernel
theorem dX9_others_7 : decode cX9_others 7 = .ok (.ifCond .eq 35, 3) := by decide +kernel
theorem dX9_others_10 : decode cX9_others 10 = .ok (.aload_n 2, 1) := by decide +kernel
theorem dX9_others_11 : decode cX9_others 11 = .ok (.iload 4, 2) := by decide +kernel
theorem dX9_others_13 : decode cX9_others 13 = .ok (.iload_n 3, 1) := by decide +kernel
set_option maxRecDepth 20000 in
theorem ggX9_others_X8_allowed : GoodIn wsX9_others wsX8_allowed := goodIn_r _ [21, 22, 23, 6, 7, 8, 9, 10, 11, 12, 13, 14, 15, 16, 17, 24, 25, 26, 27, 28, 29, 30, 31, 32, 33, 34, 35, 36, 37, 38, 39, 2, 3, 4, 40, 41, 42, 43, 44, 45, 46, 19, 20, 54, 55, 56, 57, 58, 59] (by decide +kernel) (by decide +kernel)
set_option maxRecDepth 20000 in
theorem gX9_others_X8_allowed : GoodIn wsX9_others (wsV RX9 50 RX8 yX8_allowed wsX8_allowed) := goodIn_app (goodIn_of _ (by decide +kernel)) ggX9_others_X8_allowed
theorem dX9_others_14 : decode cX9_others 14 = .ok (.invokevirtual 50, 3) := by decide +kernel
theorem dX9_others_17 : decode cX9_others 17 = .ok (.istore 5, 2) := by decide +kernel
theorem dX9_others_19 : decode cX9_others 19 = .ok (.aload_n 0, 1) := by decide +kernel
theorem dX9_others_20 : decode cX9_others 20 = .ok (.iload_n 1, 1) := by decide +kernel
set_option maxRecDepth 20000 in
theorem ggX9_others_X8_word : GoodIn wsX9_others wsX8_word := goodIn_r _ [27, 28, 29, 12, 13, 8, 14, 54, 55, 56, 57, 58, 59] (by decide +kernel) (by decide +kernel)
set_option maxRecDepth 20000 in
theorem gX9_others_X8_word : GoodIn wsX9_others (wsV RX9 54 RX8 yX8_word wsX8_word) := goodIn_app (goodIn_of _ (by decide +kernel)) ggX9_others_X8_word
theorem dX9_others_21 : decode cX9_others 21 = .ok (.invokevirtual 54, 3) := by decide +kernel
theorem dX9_others_24 : decode cX9_others 24 = .ok (.iconst 1, 1) := by decide +kernel
theorem dX9_others_25 : decode cX9_others 25 = .ok (.if_icmp .ne 14, 3) := by decide +kernel
theorem dX9_others_39 : decode cX9_others 39 = .ok (.iload 5, 2) := by decide +kernel
theorem dX9_others_41 : decode cX9_others 41 = .ok (.ireturn, 1) := by decide +kernel
theorem dX9_differ_0 : decode cX9_differ 0 = .ok (.aload_n 0, 1) := by decide +kernel
set_option maxRecDepth 20000 in
theorem ggX9_differ_X8_forget : GoodIn wsX9_differ wsX8_forget := goodIn_r _ [5, 6, 7, 60, 61, 62, 63, 64, 65] (by decide +kernel) (by decide +kernel)
set_option maxRecDepth 20000 in
theorem gX9_differ_X8_forget : GoodIn wsX9_differ (wsV RX9 80 RX8 yX8_forget wsX8_forget) := goodIn_app (goodIn_of _ (by decide +kernel)) ggX9_differ_X8_forget
theorem dX9_differ_1 : decode cX9_differ 1 = .ok (.invokevirtual 80, 3) := by decide +kernel
theorem dX9_differ_4 : decode cX9_differ 4 = .ok (.aload_n 2, 1) := by decide +kernel
theorem dX9_differ_5 : decode cX9_differ 5 = .ok (.invokevirtual 80, 3) := by decide +kernel
theorem dX9_differ_8 : decode cX9_differ 8 = .ok (.aload_n 0, 1) := by decide +kernel
theorem dX9_differ_9 : decode cX9_differ 9 = .ok (.iload_n 1, 1) := by decide +kernel
theorem dX9_differ_10 : decode cX9_differ 10 = .ok (.aload_n 2, 1) := by decide +kernel
theorem dX9_differ_11 : decode cX9_differ 11 = .ok (.iload_n 3, 1) := by decide +kernel
theorem dX9_differ_12 : decode cX9_differ 12 = .ok (.iconst 0, 1) := by decide +kernel
set_option maxRecDepth 20000 in
theorem ggX9_differ_X9_others : GoodIn wsX9_differ wsX9_others := goodIn_r _ [11, 12, 13, 14, 15, 16, 17, 18, 4, 19, 20, 21, 22, 23, 24, 25, 10, 26, 27, 28, 29, 30, 7, 31, 32, 33, 34, 35, 36, 37, 38, 39, 40, 41, 42, 43, 44, 45, 46, 47, 48, 49, 50, 51, 52, 53, 54, 55, 56, 57, 58, 59, 8, 9, 60, 61, 62, 63, 64, 65] (by decide +kernel) (by decide +kernel)
set_option maxRecDepth 20000 in
theorem gX9_differ_X9_others : GoodIn wsX9_differ (va_wsS RX9 76 yX9_others wsX9_others) := goodIn_app (goodIn_of _ (by decide +kernel)) ggX9_differ_X9_others
theorem dX9_differ_13 : decode cX9_differ 13 = .ok (.invokestatic 76, 3) := by decide +kernel
theorem dX9_differ_16 : decode cX9_differ 16 = .ok (.ireturn, 1) := by decide +kernel
theorem zm1 {x : Int32} (h : ¬ x < 0) : (-1) < x := by
  rw [Int32.lt_iff_toInt_lt] at h ⊢
  have e0 : (0 : Int32).toInt = 0 := by decide
  have e1 : (-1 : Int32).toInt = -1 := by decide
  omega
theorem zl255 {x : Int32} (h : ¬ 256 ≤ x) : ¬ 255 < x := by
  rw [Int32.le_iff_toInt_le] at h; rw [Int32.lt_iff_toInt_lt]
  have e0 : (256 : Int32).toInt = 256 := by decide
  have e1 : (255 : Int32).toInt = 255 := by decide
  omega
theorem zg255 {x : Int32} (h : 256 ≤ x) : 255 < x := by
  rw [Int32.le_iff_toInt_le] at h; rw [Int32.lt_iff_toInt_lt]
  have e0 : (256 : Int32).toInt = 256 := by decide
  have e1 : (255 : Int32).toInt = 255 := by decide
  omega
theorem zl1023 {x : Int32} (h : ¬ 1024 ≤ x) : ¬ 1023 < x := by
  rw [Int32.le_iff_toInt_le] at h; rw [Int32.lt_iff_toInt_lt]
  have e0 : (1024 : Int32).toInt = 1024 := by decide
  have e1 : (1023 : Int32).toInt = 1023 := by decide
  omega
theorem zg1023 {x : Int32} (h : 1024 ≤ x) : 1023 < x := by
  rw [Int32.le_iff_toInt_le] at h; rw [Int32.lt_iff_toInt_lt]
  have e0 : (1024 : Int32).toInt = 1024 := by decide
  have e1 : (1023 : Int32).toInt = 1023 := by decide
  omega
theorem zl3 {x : Int32} (h : ¬ 4 ≤ x) : ¬ 3 < x := by
  rw [Int32.le_iff_toInt_le] at h; rw [Int32.lt_iff_toInt_lt]
  have e0 : (4 : Int32).toInt = 4 := by decide
  have e1 : (3 : Int32).toInt = 3 := by decide
  omega
theorem zg3 {x : Int32} (h : 4 ≤ x) : 3 < x := by
  rw [Int32.le_iff_toInt_le] at h; rw [Int32.lt_iff_toInt_lt]
  have e0 : (4 : Int32).toInt = 4 := by decide
  have e1 : (3 : Int32).toInt = 3 := by decide
  omega

set_option maxHeartbeats 4000000 in
set_option maxRecDepth 100000 in
theorem z_X9_values0 (l : Launch) (G : zG) : zR l G yX9_values wsX9_values { frames := 0, cells := 0, slots := 0, locals := 0 } [] [.int 0] (some (.int 256)) (fun u => []) 0 0 := by
  refine zR_of (cc := cX9_values) (maxL := 1) (rt := (some .int)) (by decide) rfl (Nat.le_of_ble_eq_true rfl) ?_
  intro p e s m below meth c A ls hx hb hml hr hts hown hlocks hin hA hE hP hD hS hl
  have hl : lv_has ls 1 [(0, .int 0)] := hl
  have hown : s.vm.findClass RX9 = some m.cls := hown
  have hP : va_P G.1 vwCl [] s.heap := hP
  refine lv_iload_n hx hb dX9_values_0 rfl (lv_at hl 0 rfl) ?_
  refine lv_iconst (v := 2) hx hb dX9_values_1 (by decide) ?_
  refine lv_icmp_ge (tgt := 11) hx hb dX9_values_2 (by decide) (fun h9 => absurd h9 (by decide)) (fun _ => ?_)
  refine lv_sipush (v := 256) hx hb dX9_values_5 (by decide) ?_
  refine lv_goto (tgt := 23) hx hb dX9_values_8 (by decide) ?_
  exact zend_i hx hb hr hlocks (fun k => [].getD k 0) hP hD hS (Nat.le_of_ble_eq_true rfl) (Nat.le_of_ble_eq_true rfl) dX9_values_23

set_option maxHeartbeats 4000000 in
set_option maxRecDepth 100000 in
theorem z_X9_values1 (l : Launch) (G : zG) : zR l G yX9_values wsX9_values { frames := 0, cells := 0, slots := 0, locals := 0 } [] [.int 1] (some (.int 256)) (fun u => []) 0 0 := by
  refine zR_of (cc := cX9_values) (maxL := 1) (rt := (some .int)) (by decide) rfl (Nat.le_of_ble_eq_true rfl) ?_
  intro p e s m below meth c A ls hx hb hml hr hts hown hlocks hin hA hE hP hD hS hl
  have hl : lv_has ls 1 [(0, .int 1)] := hl
  have hown : s.vm.findClass RX9 = some m.cls := hown
  have hP : va_P G.1 vwCl [] s.heap := hP
  refine lv_iload_n hx hb dX9_values_0 rfl (lv_at hl 0 rfl) ?_
  refine lv_iconst (v := 2) hx hb dX9_values_1 (by decide) ?_
  refine lv_icmp_ge (tgt := 11) hx hb dX9_values_2 (by decide) (fun h9 => absurd h9 (by decide)) (fun _ => ?_)
  refine lv_sipush (v := 256) hx hb dX9_values_5 (by decide) ?_
  refine lv_goto (tgt := 23) hx hb dX9_values_8 (by decide) ?_
  exact zend_i hx hb hr hlocks (fun k => [].getD k 0) hP hD hS (Nat.le_of_ble_eq_true rfl) (Nat.le_of_ble_eq_true rfl) dX9_values_23

set_option maxHeartbeats 4000000 in
set_option maxRecDepth 100000 in
theorem z_X9_values2 (l : Launch) (G : zG) : zR l G yX9_values wsX9_values { frames := 0, cells := 0, slots := 0, locals := 0 } [] [.int 2] (some (.int 1024)) (fun u => []) 0 0 := by
  refine zR_of (cc := cX9_values) (maxL := 1) (rt := (some .int)) (by decide) rfl (Nat.le_of_ble_eq_true rfl) ?_
  intro p e s m below meth c A ls hx hb hml hr hts hown hlocks hin hA hE hP hD hS hl
  have hl : lv_has ls 1 [(0, .int 2)] := hl
  have hown : s.vm.findClass RX9 = some m.cls := hown
  have hP : va_P G.1 vwCl [] s.heap := hP
  refine lv_iload_n hx hb dX9_values_0 rfl (lv_at hl 0 rfl) ?_
  refine lv_iconst (v := 2) hx hb dX9_values_1 (by decide) ?_
  refine lv_icmp_ge (tgt := 11) hx hb dX9_values_2 (by decide) (fun _ => ?_) (fun h9 => absurd (by decide) h9)
  refine lv_iload_n hx hb dX9_values_11 rfl (lv_at hl 0 rfl) ?_
  refine lv_iconst (v := 2) hx hb dX9_values_12 (by decide) ?_
  refine lv_icmp_ne (tgt := 22) hx hb dX9_values_13 (by decide) (fun h9 => absurd (by decide) h9) (fun _ => ?_)
  refine lv_sipush (v := 1024) hx hb dX9_values_16 (by decide) ?_
  refine lv_goto (tgt := 23) hx hb dX9_values_19 (by decide) ?_
  exact zend_i hx hb hr hlocks (fun k => [].getD k 0) hP hD hS (Nat.le_of_ble_eq_true rfl) (Nat.le_of_ble_eq_true rfl) dX9_values_23

set_option maxHeartbeats 4000000 in
set_option maxRecDepth 100000 in
theorem z_X9_values3 (l : Launch) (G : zG) : zR l G yX9_values wsX9_values { frames := 0, cells := 0, slots := 0, locals := 0 } [] [.int 3] (some (.int 4)) (fun u => []) 0 0 := by
  refine zR_of (cc := cX9_values) (maxL := 1) (rt := (some .int)) (by decide) rfl (Nat.le_of_ble_eq_true rfl) ?_
  intro p e s m below meth c A ls hx hb hml hr hts hown hlocks hin hA hE hP hD hS hl
  have hl : lv_has ls 1 [(0, .int 3)] := hl
  have hown : s.vm.findClass RX9 = some m.cls := hown
  have hP : va_P G.1 vwCl [] s.heap := hP
  refine lv_iload_n hx hb dX9_values_0 rfl (lv_at hl 0 rfl) ?_
  refine lv_iconst (v := 2) hx hb dX9_values_1 (by decide) ?_
  refine lv_icmp_ge (tgt := 11) hx hb dX9_values_2 (by decide) (fun _ => ?_) (fun h9 => absurd (by decide) h9)
  refine lv_iload_n hx hb dX9_values_11 rfl (lv_at hl 0 rfl) ?_
  refine lv_iconst (v := 2) hx hb dX9_values_12 (by decide) ?_
  refine lv_icmp_ne (tgt := 22) hx hb dX9_values_13 (by decide) (fun _ => ?_) (fun h9 => absurd h9 (by decide))
  refine lv_iconst (v := 4) hx hb dX9_values_22 (by decide) ?_
  exact zend_i hx hb hr hlocks (fun k => [].getD k 0) hP hD hS (Nat.le_of_ble_eq_true rfl) (Nat.le_of_ble_eq_true rfl) dX9_values_23

set_option maxHeartbeats 4000000 in
set_option maxRecDepth 100000 in
theorem z_X9_size0 (l : Launch) (G : zG) : zR l G yX9_size wsX9_size { frames := 0, cells := 0, slots := 0, locals := 0 } [] [.int 0] (some (.int 268435456)) (fun u => []) 0 0 := by
  refine zR_of (cc := cX9_size) (maxL := 1) (rt := (some .int)) (by decide) rfl (Nat.le_of_ble_eq_true rfl) ?_
  intro p e s m below meth c A ls hx hb hml hr hts hown hlocks hin hA hE hP hD hS hl
  have hl : lv_has ls 1 [(0, .int 0)] := hl
  have hown : s.vm.findClass RX9 = some m.cls := hown
  have hP : va_P G.1 vwCl [] s.heap := hP
  have hc44 := hts (.constant RX9 44 (268435456)) (by decide +kernel)
  refine lv_iload_n hx hb dX9_size_0 rfl (lv_at hl 0 rfl) ?_
  refine lv_if_ne (tgt := 9) hx hb dX9_size_1 (by decide) (fun h9 => absurd (by decide) h9) (fun _ => ?_)
  refine lv_ldc hx hb hown hc44 dX9_size_4 ?_
  refine lv_goto (tgt := 40) hx hb dX9_size_6 (by decide) ?_
  exact zend_i hx hb hr hlocks (fun k => [].getD k 0) hP hD hS (Nat.le_of_ble_eq_true rfl) (Nat.le_of_ble_eq_true rfl) dX9_size_40

set_option maxHeartbeats 4000000 in
set_option maxRecDepth 100000 in
theorem z_X9_isIn (l : Launch) (G : zG) (p0 : Int32) (p1 : Int32) (p2 : Int32) (hv1 : ¬ p0 < p1) (hv2 : ¬ p2 < p0) : zR l G yX9_isIn wsX9_isIn { frames := 0, cells := 0, slots := 0, locals := 0 } [] [.int p0, .int p1, .int p2] (some (.int 1)) (fun u => []) 0 0 := by
  refine zR_of (cc := cX9_isIn) (maxL := 3) (rt := (some .boolean)) (by decide) rfl (Nat.le_of_ble_eq_true rfl) ?_
  intro p e s m below meth c A ls hx hb hml hr hts hown hlocks hin hA hE hP hD hS hl
  have hl : lv_has ls 3 [(0, .int p0), (1, .int p1), (2, .int p2)] := hl
  have hown : s.vm.findClass RX9 = some m.cls := hown
  have hP : va_P G.1 vwCl [] s.heap := hP
  refine lv_iload_n hx hb dX9_isIn_0 rfl (lv_at hl 0 rfl) ?_
  refine lv_iload_n hx hb dX9_isIn_1 rfl (lv_at hl 1 rfl) ?_
  refine lv_icmp_lt (tgt := 14) hx hb dX9_isIn_2 (by decide) (fun h9 => absurd h9 hv1) (fun _ => ?_)
  refine lv_iload_n hx hb dX9_isIn_5 rfl (lv_at hl 0 rfl) ?_
  refine lv_iload_n hx hb dX9_isIn_6 rfl (lv_at hl 2 rfl) ?_
  refine lv_icmp_gt (tgt := 14) hx hb dX9_isIn_7 (by decide) (fun h9 => absurd h9 hv2) (fun _ => ?_)
  refine lv_iconst (v := 1) hx hb dX9_isIn_10 (by decide) ?_
  refine lv_goto (tgt := 15) hx hb dX9_isIn_11 (by decide) ?_
  exact zend_z hx hb hr hlocks rfl (fun k => [].getD k 0) hP hD hS (Nat.le_of_ble_eq_true rfl) (Nat.le_of_ble_eq_true rfl) dX9_isIn_15

set_option maxHeartbeats 4000000 in
set_option maxRecDepth 100000 in
theorem z_X9_isInL (l : Launch) (G : zG) (p0 : Int32) (p1 : Int32) (p2 : Int32) (hv1 : p0 < p1) : zR l G yX9_isIn wsX9_isIn { frames := 0, cells := 0, slots := 0, locals := 0 } [] [.int p0, .int p1, .int p2] (some (.int 0)) (fun u => []) 0 0 := by
  refine zR_of (cc := cX9_isIn) (maxL := 3) (rt := (some .boolean)) (by decide) rfl (Nat.le_of_ble_eq_true rfl) ?_
  intro p e s m below meth c A ls hx hb hml hr hts hown hlocks hin hA hE hP hD hS hl
  have hl : lv_has ls 3 [(0, .int p0), (1, .int p1), (2, .int p2)] := hl
  have hown : s.vm.findClass RX9 = some m.cls := hown
  have hP : va_P G.1 vwCl [] s.heap := hP
  refine lv_iload_n hx hb dX9_isIn_0 rfl (lv_at hl 0 rfl) ?_
  refine lv_iload_n hx hb dX9_isIn_1 rfl (lv_at hl 1 rfl) ?_
  refine lv_icmp_lt (tgt := 14) hx hb dX9_isIn_2 (by decide) (fun _ => ?_) (fun h9 => absurd hv1 h9)
  refine lv_iconst (v := 0) hx hb dX9_isIn_14 (by decide) ?_
  exact zend_z hx hb hr hlocks rfl (fun k => [].getD k 0) hP hD hS (Nat.le_of_ble_eq_true rfl) (Nat.le_of_ble_eq_true rfl) dX9_isIn_15

set_option maxHeartbeats 4000000 in
set_option maxRecDepth 100000 in
theorem z_X9_isInH (l : Launch) (G : zG) (p0 : Int32) (p1 : Int32) (p2 : Int32) (hv1 : ¬ p0 < p1) (hv2 : p2 < p0) : zR l G yX9_isIn wsX9_isIn { frames := 0, cells := 0, slots := 0, locals := 0 } [] [.int p0, .int p1, .int p2] (some (.int 0)) (fun u => []) 0 0 := by
  refine zR_of (cc := cX9_isIn) (maxL := 3) (rt := (some .boolean)) (by decide) rfl (Nat.le_of_ble_eq_true rfl) ?_
  intro p e s m below meth c A ls hx hb hml hr hts hown hlocks hin hA hE hP hD hS hl
  have hl : lv_has ls 3 [(0, .int p0), (1, .int p1), (2, .int p2)] := hl
  have hown : s.vm.findClass RX9 = some m.cls := hown
  have hP : va_P G.1 vwCl [] s.heap := hP
  refine lv_iload_n hx hb dX9_isIn_0 rfl (lv_at hl 0 rfl) ?_
  refine lv_iload_n hx hb dX9_isIn_1 rfl (lv_at hl 1 rfl) ?_
  refine lv_icmp_lt (tgt := 14) hx hb dX9_isIn_2 (by decide) (fun h9 => absurd h9 hv1) (fun _ => ?_)
  refine lv_iload_n hx hb dX9_isIn_5 rfl (lv_at hl 0 rfl) ?_
  refine lv_iload_n hx hb dX9_isIn_6 rfl (lv_at hl 2 rfl) ?_
  refine lv_icmp_gt (tgt := 14) hx hb dX9_isIn_7 (by decide) (fun _ => ?_) (fun h9 => absurd hv2 h9)
  refine lv_iconst (v := 0) hx hb dX9_isIn_14 (by decide) ?_
  exact zend_z hx hb hr hlocks rfl (fun k => [].getD k 0) hP hD hS (Nat.le_of_ble_eq_true rfl) (Nat.le_of_ble_eq_true rfl) dX9_isIn_15

set_option maxHeartbeats 4000000 in
set_option maxRecDepth 100000 in
theorem z_X8_ahead (l : Launch) (G : zG) (nw : Nat) (vd : Nat) (lw : Nat) (hg : Nat) (rk : Nat) : zR l G yX8_ahead wsX8_ahead { frames := 0, cells := 0, slots := 0, locals := 0 } [(nw, .inr (8, [.int 0, .int 0, .ref vd, .ref lw, .ref hg, .ref rk]))] [.ref nw, .int 0] (some (.int 0)) (fun u => [(nw, .inr (8, [.int 0, .int 0, .ref vd, .ref lw, .ref hg, .ref rk]))]) 0 0 := by
  refine zR_of (cc := cX8_ahead) (maxL := 4) (rt := (some .int)) (by decide) rfl (Nat.le_of_ble_eq_true rfl) ?_
  intro p e s m below meth c A ls hx hb hml hr hts hown hlocks hin hA hE hP hD hS hl
  have hl : lv_has ls 4 [(0, .ref nw), (1, .int 0)] := hl
  have hown : s.vm.findClass RX8 = some m.cls := hown
  have hP : va_P G.1 vwCl [(nw, .inr (8, [.int 0, .int 0, .ref vd, .ref lw, .ref hg, .ref rk]))] s.heap := hP
  refine lv_iconst (v := 0) hx hb dX8_ahead_0 (by decide) ?_
  refine lv_istore_n (lv' := [(2, .int 0), (0, .ref nw), (1, .int 0)]) hx hb dX8_ahead_1 rfl hl (by decide) rfl (fun ls hl => ?_)
  refine lv_iconst (v := 0) hx hb dX8_ahead_2 (by decide) ?_
  refine lv_istore_n (lv' := [(3, .int 0), (2, .int 0), (0, .ref nw), (1, .int 0)]) hx hb dX8_ahead_3 rfl hl (by decide) rfl (fun ls hl => ?_)
  refine lv_iload_n hx hb dX8_ahead_4 rfl (lv_at hl 0 rfl) ?_
  refine lv_iload_n hx hb dX8_ahead_5 rfl (lv_at hl 3 rfl) ?_
  refine lv_icmp_ge (tgt := 35) hx hb dX8_ahead_6 (by decide) (fun _ => ?_) (fun h9 => absurd (by decide) h9)
  refine lv_iload_n hx hb dX8_ahead_35 rfl (lv_at hl 1 rfl) ?_
  exact zend_i hx hb hr hlocks (fun k => [].getD k 0) hP hD hS (Nat.le_of_ble_eq_true rfl) (Nat.le_of_ble_eq_true rfl) dX8_ahead_36

set_option maxHeartbeats 4000000 in
set_option maxRecDepth 100000 in
theorem z_X8_all (l : Launch) (G : zG) (nw : Nat) (vd : Nat) (lw : Nat) (hg : Nat) (rk : Nat) : zR l G yX8_all wsX8_all { frames := 1, cells := 0, slots := 0, locals := 23 } [(nw, .inr (8, [.int 0, .int 0, .ref vd, .ref lw, .ref hg, .ref rk]))] [.ref nw] (some (.int 0)) (fun u => [(nw, .inr (8, [.int 0, .int 0, .ref vd, .ref lw, .ref hg, .ref rk]))]) 0 0 := by
  refine zR_of (cc := cX8_all) (maxL := 1) (rt := (some .int)) (by decide) rfl (Nat.le_of_ble_eq_true rfl) ?_
  intro p e s m below meth c A ls hx hb hml hr hts hown hlocks hin hA hE hP hD hS hl
  have hl : lv_has ls 1 [(0, .ref nw)] := hl
  have hown : s.vm.findClass RX8 = some m.cls := hown
  have hP : va_P G.1 vwCl [(nw, .inr (8, [.int 0, .int 0, .ref vd, .ref lw, .ref hg, .ref rk]))] s.heap := hP
  have hw8 : ∀ w ∈ u_ws RX8 TX8 6, w ∈ wsX8_all := by decide +kernel
  have hf25 := hts (.fieldLink RX8 25 "NettleModel$Wall" "many" "I") (by decide +kernel)
  refine lv_aload_n hx hb dX8_all_0 rfl (lv_at hl 0 rfl) ?_
  refine lv_aload_n hx hb dX8_all_1 rfl (lv_at hl 0 rfl) ?_
  refine va_get (D := G.1) (ci := 8) (v := .int 0) (C := RX8) (T := TX8) (N := 6) hx hb hts hw8 hown hE.1 hP 0 rfl rfl 0 (by decide) hf25 (fun _ h9 => h9) rfl dX8_all_2 ?_
  refine zcall (wr := []) (va_runV (As := [.int 0]) (rest := []) ⟨hx, hb, hml, hown, hts⟩ (z_X8_ahead l G nw vd lw hg rk s.heap.size) (cwV 1 hts gX8_all_X8_ahead rfl rfl rfl (by decide +kernel) ⟨Nat.le_of_ble_eq_true rfl, Nat.le_of_ble_eq_true rfl⟩) (zPreV (Wc := [(nw, .inr (8, [.int 0, .int 0, .ref vd, .ref lw, .ref hg, .ref rk]))]) (q0 := 0) (ci := 8) (q := (RX8, TX8, 6)) hP hD hE hS hA [0] rfl (by decide) rfl rfl) rfl rfl hl.1 rfl (lv_room (Nat.le_of_ble_eq_true rfl)) dX8_all_5 ⟨Nat.le_of_ble_eq_true rfl, Nat.le_of_ble_eq_true rfl⟩) hP hD hS hA [0] [] rfl rfl (by decide) (by decide) (fun u1 H locs hP hD hS => ?_)
  have hP : va_P G.1 vwCl [(nw, .inr (8, [.int 0, .int 0, .ref vd, .ref lw, .ref hg, .ref rk]))] H := hP
  have hD : va_D A [(nw, .inr (8, [.int 0, .int 0, .ref vd, .ref lw, .ref hg, .ref rk]))] := hD
  refine W.eq (g2 := F0 m 8 ls [.int 0]) rfl ?_
  exact zend_i hx hb hr hlocks (fun k => [].getD k 0) hP hD hS (Nat.le_of_ble_eq_true rfl) (Nat.le_of_ble_eq_true rfl) dX8_all_8

set_option maxHeartbeats 4000000 in
set_option maxRecDepth 100000 in
theorem z_X8_isLed (l : Launch) (G : zG) (nw : Nat) (vd : Nat) (lw : Nat) (hg : Nat) (rk : Nat) (p0 : Int32) : zR l G yX8_isLed wsX8_isLed { frames := 0, cells := 0, slots := 0, locals := 0 } [(nw, .inr (8, [.int 0, .int 0, .ref vd, .ref lw, .ref hg, .ref rk]))] [.ref nw, .int p0, .int 0] (some (.int 1)) (fun u => [(nw, .inr (8, [.int 0, .int 0, .ref vd, .ref lw, .ref hg, .ref rk]))]) 0 0 := by
  refine zR_of (cc := cX8_isLed) (maxL := 5) (rt := (some .boolean)) (by decide) rfl (Nat.le_of_ble_eq_true rfl) ?_
  intro p e s m below meth c A ls hx hb hml hr hts hown hlocks hin hA hE hP hD hS hl
  have hl : lv_has ls 5 [(0, .ref nw), (1, .int p0), (2, .int 0)] := hl
  have hown : s.vm.findClass RX8 = some m.cls := hown
  have hP : va_P G.1 vwCl [(nw, .inr (8, [.int 0, .int 0, .ref vd, .ref lw, .ref hg, .ref rk]))] s.heap := hP
  refine lv_iload_n hx hb dX8_isLed_0 rfl (lv_at hl 2 rfl) ?_
  refine lv_if_ne (tgt := 6) hx hb dX8_isLed_1 (by decide) (fun h9 => absurd (by decide) h9) (fun _ => ?_)
  refine lv_iconst (v := 1) hx hb dX8_isLed_4 (by decide) ?_
  exact zend_z hx hb hr hlocks rfl (fun k => [].getD k 0) hP hD hS (Nat.le_of_ble_eq_true rfl) (Nat.le_of_ble_eq_true rfl) dX8_isLed_5

set_option maxHeartbeats 4000000 in
set_option maxRecDepth 100000 in
theorem z_X8_word (l : Launch) (G : zG) (nw : Nat) (vd : Nat) (lw : Nat) (hg : Nat) (rk : Nat) : zR l G yX8_word wsX8_word { frames := 0, cells := 0, slots := 0, locals := 0 } [(nw, .inr (8, [.int 0, .int 0, .ref vd, .ref lw, .ref hg, .ref rk]))] [.ref nw, .int 0] (some (.int 0)) (fun u => [(nw, .inr (8, [.int 0, .int 0, .ref vd, .ref lw, .ref hg, .ref rk]))]) 0 0 := by
  refine zR_of (cc := cX8_word) (maxL := 2) (rt := (some .int)) (by decide) rfl (Nat.le_of_ble_eq_true rfl) ?_
  intro p e s m below meth c A ls hx hb hml hr hts hown hlocks hin hA hE hP hD hS hl
  have hl : lv_has ls 2 [(0, .ref nw), (1, .int 0)] := hl
  have hown : s.vm.findClass RX8 = some m.cls := hown
  have hP : va_P G.1 vwCl [(nw, .inr (8, [.int 0, .int 0, .ref vd, .ref lw, .ref hg, .ref rk]))] s.heap := hP
  have hw8 : ∀ w ∈ u_ws RX8 TX8 6, w ∈ wsX8_word := by decide +kernel
  have hf29 := hts (.fieldLink RX8 29 "NettleModel$Wall" "last" "I") (by decide +kernel)
  refine lv_iload_n hx hb dX8_word_0 rfl (lv_at hl 1 rfl) ?_
  refine lv_if_ne (tgt := 11) hx hb dX8_word_1 (by decide) (fun h9 => absurd (by decide) h9) (fun _ => ?_)
  refine lv_aload_n hx hb dX8_word_4 rfl (lv_at hl 0 rfl) ?_
  refine va_get (D := G.1) (ci := 8) (v := .int 0) (C := RX8) (T := TX8) (N := 6) hx hb hts hw8 hown hE.1 hP 0 rfl rfl 1 (by decide) hf29 (fun _ h9 => h9) rfl dX8_word_5 ?_
  refine lv_goto (tgt := 20) hx hb dX8_word_8 (by decide) ?_
  exact zend_i hx hb hr hlocks (fun k => [].getD k 0) hP hD hS (Nat.le_of_ble_eq_true rfl) (Nat.le_of_ble_eq_true rfl) dX8_word_20

set_option maxHeartbeats 4000000 in
set_option maxRecDepth 100000 in
theorem z_X8_forget (l : Launch) (G : zG) (nw : Nat) (vd : Nat) (lw : Nat) (hg : Nat) (rk : Nat) : zR l G yX8_forget wsX8_forget { frames := 0, cells := 1, slots := 1024, locals := 0 } [(nw, .inr (8, [.int 0, .int 0, .ref vd, .ref lw, .ref hg, .ref rk]))] [.ref nw] none (fun u => [(nw, .inr (8, [.int 0, .int 0, .ref vd, .ref lw, .ref hg, .ref (u 0)]))]) 1 1024 := by
  refine zR_of (cc := cX8_forget) (maxL := 1) (rt := none) (by decide) rfl (Nat.le_of_ble_eq_true rfl) ?_
  intro p e s m below meth c A ls hx hb hml hr hts hown hlocks hin hA hE hP hD hS hl
  have hl : lv_has ls 1 [(0, .ref nw)] := hl
  have hown : s.vm.findClass RX8 = some m.cls := hown
  have hP : va_P G.1 vwCl [(nw, .inr (8, [.int 0, .int 0, .ref vd, .ref lw, .ref hg, .ref rk]))] s.heap := hP
  have harrint := hts (.arrayClass .int) (by decide +kernel)
  have hw8 : ∀ w ∈ u_ws RX8 TX8 6, w ∈ wsX8_forget := by decide +kernel
  have hf21 := hts (.fieldLink RX8 21 "NettleModel$Wall" "reckoned" "[I") (by decide +kernel)
  refine lv_aload_n hx hb dX8_forget_0 rfl (lv_at hl 0 rfl) ?_
  refine lv_sipush (v := 1024) hx hb dX8_forget_1 (by decide) ?_
  refine znewa (N := 1024) hx hb harrint hE hP hD hS hA (by decide) (by decide) (Nat.le_of_ble_eq_true rfl) (Nat.le_of_ble_eq_true rfl) (Nat.le_of_ble_eq_true rfl) dX8_forget_4 (fun q1 H hP hD hS => ?_)
  have hP : va_P G.1 vwCl [(nw, .inr (8, [.int 0, .int 0, .ref vd, .ref lw, .ref hg, .ref rk])), (q1, .inl (G.2.1, 1024, .inl (fun _ => 0)))] H := hP
  have hD : va_D A [(nw, .inr (8, [.int 0, .int 0, .ref vd, .ref lw, .ref hg, .ref rk])), (q1, .inl (G.2.1, 1024, .inl (fun _ => 0)))] := hD
  refine va_put (D := G.1) (ci := 8) (v := .ref q1) (ty := tyX8 5) (C := RX8) (T := TX8) (N := 6) hx hb hts hw8 tyX8 tyX8_ok nmX8 hown hE.1 hP hD hS 0 rfl rfl 5 (by decide) hf21 (fun _ h9 => h9) rfl (by decide +kernel) rfl rfl (Nat.le_of_ble_eq_true rfl) dX8_forget_6 (fun H locs hP hD hS => ?_)
  have hP : va_P G.1 vwCl [(nw, .inr (8, [.int 0, .int 0, .ref vd, .ref lw, .ref hg, .ref q1])), (q1, .inl (G.2.1, 1024, .inl (fun _ => 0)))] H := hP
  have hD : va_D A [(nw, .inr (8, [.int 0, .int 0, .ref vd, .ref lw, .ref hg, .ref q1])), (q1, .inl (G.2.1, 1024, .inl (fun _ => 0)))] := hD
  have hP := hP.sub (ws' := [(nw, .inr (8, [.int 0, .int 0, .ref vd, .ref lw, .ref hg, .ref q1]))]) [0] rfl
  have hD := hD.sub (ws' := [(nw, .inr (8, [.int 0, .int 0, .ref vd, .ref lw, .ref hg, .ref q1]))]) [0] (by decide) rfl
  exact zend_v hx hb hr hlocks (fun k => [q1].getD k 0) hP hD hS (Nat.le_of_ble_eq_true rfl) (Nat.le_of_ble_eq_true rfl) dX8_forget_9

set_option maxHeartbeats 4000000 in
set_option maxRecDepth 100000 in
theorem z_X8_allowed (l : Launch) (G : zG) (nw : Nat) (vd : Nat) (lw : Nat) (hg : Nat) (rk : Nat) : zR l G yX8_allowed wsX8_allowed { frames := 1, cells := 0, slots := 0, locals := 24 } [(nw, .inr (8, [.int 0, .int 0, .ref vd, .ref lw, .ref hg, .ref rk]))] [.ref nw, .int 0, .int 0] (some (.int 0)) (fun u => [(nw, .inr (8, [.int 0, .int 0, .ref vd, .ref lw, .ref hg, .ref rk]))]) 0 0 := by
  refine zR_of (cc := cX8_allowed) (maxL := 7) (rt := (some .int)) (by decide) rfl (Nat.le_of_ble_eq_true rfl) ?_
  intro p e s m below meth c A ls hx hb hml hr hts hown hlocks hin hA hE hP hD hS hl
  have hl : lv_has ls 7 [(0, .ref nw), (1, .int 0), (2, .int 0)] := hl
  have hown : s.vm.findClass RX8 = some m.cls := hown
  have hP : va_P G.1 vwCl [(nw, .inr (8, [.int 0, .int 0, .ref vd, .ref lw, .ref hg, .ref rk]))] s.heap := hP
  refine lv_aload_n hx hb dX8_allowed_0 rfl (lv_at hl 0 rfl) ?_
  refine lv_iload_n hx hb dX8_allowed_1 rfl (lv_at hl 1 rfl) ?_
  refine lv_iload_n hx hb dX8_allowed_2 rfl (lv_at hl 2 rfl) ?_
  refine zcall (wr := []) (va_runV (As := [.int 0, .int 0]) (rest := []) ⟨hx, hb, hml, hown, hts⟩ (z_X8_isLed l G nw vd lw hg rk 0 s.heap.size) (cwV 2 hts gX8_allowed_X8_isLed rfl rfl rfl (by decide +kernel) ⟨Nat.le_of_ble_eq_true rfl, Nat.le_of_ble_eq_true rfl⟩) (zPreV (Wc := [(nw, .inr (8, [.int 0, .int 0, .ref vd, .ref lw, .ref hg, .ref rk]))]) (q0 := 0) (ci := 8) (q := (RX8, TX8, 6)) hP hD hE hS hA [0] rfl (by decide) rfl rfl) rfl rfl hl.1 rfl (lv_room (Nat.le_of_ble_eq_true rfl)) dX8_allowed_3 ⟨Nat.le_of_ble_eq_true rfl, Nat.le_of_ble_eq_true rfl⟩) hP hD hS hA [0] [] rfl rfl (by decide) (by decide) (fun u1 H locs hP hD hS => ?_)
  have hP : va_P G.1 vwCl [(nw, .inr (8, [.int 0, .int 0, .ref vd, .ref lw, .ref hg, .ref rk]))] H := hP
  have hD : va_D A [(nw, .inr (8, [.int 0, .int 0, .ref vd, .ref lw, .ref hg, .ref rk]))] := hD
  refine W.eq (g2 := F0 m 6 ls [.int 1]) rfl ?_
  refine lv_if_eq (tgt := 27) hx hb dX8_allowed_6 (by decide) (fun h9 => absurd h9 (by decide)) (fun _ => ?_)
  refine lv_aload_n hx hb dX8_allowed_9 rfl (lv_at hl 0 rfl) ?_
  refine lv_iload_n hx hb dX8_allowed_10 rfl (lv_at hl 2 rfl) ?_
  refine zcall (wr := []) (va_runV (As := [.int 0]) (rest := []) ⟨hx, hb, hml, hown, hts⟩ (z_X8_word l G nw vd lw hg rk H.size) (cwV 1 hts gX8_allowed_X8_word rfl rfl rfl (by decide +kernel) ⟨Nat.le_of_ble_eq_true rfl, Nat.le_of_ble_eq_true rfl⟩) (zPreV (Wc := [(nw, .inr (8, [.int 0, .int 0, .ref vd, .ref lw, .ref hg, .ref rk]))]) (q0 := 0) (ci := 8) (q := (RX8, TX8, 6)) hP hD hE hS hA [0] rfl (by decide) rfl rfl) rfl rfl hl.1 rfl (lv_room (Nat.le_of_ble_eq_true rfl)) dX8_allowed_11 ⟨Nat.le_of_ble_eq_true rfl, Nat.le_of_ble_eq_true rfl⟩) hP hD hS hA [0] [] rfl rfl (by decide) (by decide) (fun u2 H locs hP hD hS => ?_)
  have hP : va_P G.1 vwCl [(nw, .inr (8, [.int 0, .int 0, .ref vd, .ref lw, .ref hg, .ref rk]))] H := hP
  have hD : va_D A [(nw, .inr (8, [.int 0, .int 0, .ref vd, .ref lw, .ref hg, .ref rk]))] := hD
  refine W.eq (g2 := F0 m 14 ls [.int 0]) rfl ?_
  refine lv_iconst (v := 1) hx hb dX8_allowed_14 (by decide) ?_
  refine lv_icmp_ne (tgt := 25) hx hb dX8_allowed_15 (by decide) (fun _ => ?_) (fun h9 => absurd h9 (by decide))
  refine lv_iconst (v := 0) hx hb dX8_allowed_25 (by decide) ?_
  exact zend_i hx hb hr hlocks (fun k => [].getD k 0) hP hD hS (Nat.le_of_ble_eq_true rfl) (Nat.le_of_ble_eq_true rfl) dX8_allowed_26

set_option maxHeartbeats 4000000 in
set_option maxRecDepth 100000 in
theorem z_X8_steps (l : Launch) (G : zG) (nw : Nat) (vd : Nat) (lw : Nat) (hg : Nat) (rk : Nat) : zR l G yX8_steps wsX8_steps { frames := 1, cells := 0, slots := 0, locals := 24 } [(nw, .inr (8, [.int 0, .int 0, .ref vd, .ref lw, .ref hg, .ref rk]))] [.ref nw, .int 0, .int 0] (some (.long 0)) (fun u => [(nw, .inr (8, [.int 0, .int 0, .ref vd, .ref lw, .ref hg, .ref rk]))]) 0 0 := by
  refine zR_of (cc := cX8_steps) (maxL := 7) (rt := (some .long)) (by decide) rfl (Nat.le_of_ble_eq_true rfl) ?_
  intro p e s m below meth c A ls hx hb hml hr hts hown hlocks hin hA hE hP hD hS hl
  have hl : lv_has ls 7 [(0, .ref nw), (1, .int 0), (2, .int 0)] := hl
  have hown : s.vm.findClass RX8 = some m.cls := hown
  have hP : va_P G.1 vwCl [(nw, .inr (8, [.int 0, .int 0, .ref vd, .ref lw, .ref hg, .ref rk]))] s.heap := hP
  refine lv_aload_n hx hb dX8_steps_0 rfl (lv_at hl 0 rfl) ?_
  refine lv_iload_n hx hb dX8_steps_1 rfl (lv_at hl 1 rfl) ?_
  refine lv_iload_n hx hb dX8_steps_2 rfl (lv_at hl 2 rfl) ?_
  refine zcall (wr := []) (va_runV (As := [.int 0, .int 0]) (rest := []) ⟨hx, hb, hml, hown, hts⟩ (z_X8_isLed l G nw vd lw hg rk 0 s.heap.size) (cwV 2 hts gX8_steps_X8_isLed rfl rfl rfl (by decide +kernel) ⟨Nat.le_of_ble_eq_true rfl, Nat.le_of_ble_eq_true rfl⟩) (zPreV (Wc := [(nw, .inr (8, [.int 0, .int 0, .ref vd, .ref lw, .ref hg, .ref rk]))]) (q0 := 0) (ci := 8) (q := (RX8, TX8, 6)) hP hD hE hS hA [0] rfl (by decide) rfl rfl) rfl rfl hl.1 rfl (lv_room (Nat.le_of_ble_eq_true rfl)) dX8_steps_3 ⟨Nat.le_of_ble_eq_true rfl, Nat.le_of_ble_eq_true rfl⟩) hP hD hS hA [0] [] rfl rfl (by decide) (by decide) (fun u1 H locs hP hD hS => ?_)
  have hP : va_P G.1 vwCl [(nw, .inr (8, [.int 0, .int 0, .ref vd, .ref lw, .ref hg, .ref rk]))] H := hP
  have hD : va_D A [(nw, .inr (8, [.int 0, .int 0, .ref vd, .ref lw, .ref hg, .ref rk]))] := hD
  refine W.eq (g2 := F0 m 6 ls [.int 1]) rfl ?_
  refine lv_if_eq (tgt := 11) hx hb dX8_steps_6 (by decide) (fun h9 => absurd h9 (by decide)) (fun _ => ?_)
  refine lv_lconst (v := 0) hx hb dX8_steps_9 (by decide) ?_
  exact zend_l hx hb hr hlocks (fun k => [].getD k 0) hP hD hS (Nat.le_of_ble_eq_true rfl) (Nat.le_of_ble_eq_true rfl) dX8_steps_10

set_option maxHeartbeats 4000000 in
set_option maxRecDepth 100000 in
theorem z_X8_copied (l : Launch) (G : zG) (nw : Nat) (vd : Nat) (lw : Nat) (hg : Nat) (rk : Nat) : zRa l G yX8_copied wsX8_copied { frames := 2, cells := 5, slots := 78, locals := 32 } [(nw, .inr (8, [.int 0, .int 0, .ref vd, .ref lw, .ref hg, .ref rk]))] [.ref nw] (fun u => (u 0)) (fun u => [(nw, .inr (8, [.int 0, .int 0, .ref vd, .ref lw, .ref hg, .ref rk])), ((u 0), .inr (8, [.int 0, .int 0, .ref (u 1), .ref (u 2), .ref (u 3), .ref (u 4)]))]) 5 78 := by
  refine zRa_of (cc := cX8_copied) (maxL := 3) (rt := (some (.object "NettleModel$Wall"))) (by decide) rfl (Nat.le_of_ble_eq_true rfl) ?_
  intro p e s m below meth c A ls hx hb hml hr hts hown hlocks hin hA hE hP hD hS hl
  have hl : lv_has ls 3 [(0, .ref nw)] := hl
  have hown : s.vm.findClass RX8 = some m.cls := hown
  have hP : va_P G.1 vwCl [(nw, .inr (8, [.int 0, .int 0, .ref vd, .ref lw, .ref hg, .ref rk]))] s.heap := hP
  have hw8 : ∀ w ∈ u_ws RX8 TX8 6, w ∈ wsX8_copied := by decide +kernel
  have hcl10 := hts (.classLink RX8 10 RX8) (by decide +kernel)
  have hisX8 := hts (.instantiable RX8 6) (by decide +kernel)
  have hiniX8 := hts (.initialized RX8) (by decide +kernel)
  have hinsX8_init := hts (.instanceMethod yX8_init) (by decide +kernel)
  have hml24 := hts (.methodLink RX8 24 yX8_init) (by decide +kernel)
  have hf25 := hts (.fieldLink RX8 25 "NettleModel$Wall" "many" "I") (by decide +kernel)
  have hf29 := hts (.fieldLink RX8 29 "NettleModel$Wall" "last" "I") (by decide +kernel)
  refine va_new (ci := 8) (fs := [.int 0, .int 0, .null, .null, .null, .null]) (C := RX8) (T := TX8) (N := 6) hx hb hts hw8 tyX8 tyX8_ok hown hcl10 hisX8 hiniX8 hE.1 hP hD hS hA rfl (fun j hj => by rcases (show j = 0 ∨ j = 1 ∨ j = 2 ∨ j = 3 ∨ j = 4 ∨ j = 5 by omega) with rfl | rfl | rfl | rfl | rfl | rfl <;> rfl) (Nat.le_of_ble_eq_true rfl) (Nat.le_of_ble_eq_true rfl) dX8_copied_0 (fun q1 H hP hD hS => ?_)
  have hP : va_P G.1 vwCl [(nw, .inr (8, [.int 0, .int 0, .ref vd, .ref lw, .ref hg, .ref rk])), (q1, .inr (8, [.int 0, .int 0, .null, .null, .null, .null]))] H := hP
  have hD : va_D A [(nw, .inr (8, [.int 0, .int 0, .ref vd, .ref lw, .ref hg, .ref rk])), (q1, .inr (8, [.int 0, .int 0, .null, .null, .null, .null]))] := hD
  refine lv_dup hx hb dX8_copied_3 rfl ?_
  refine zcall (wr := [(nw, .inr (8, [.int 0, .int 0, .ref vd, .ref lw, .ref hg, .ref rk]))]) (va_runI (As := []) (rest := [.ref q1]) ⟨hx, hb, hml, hown, hts⟩ (z_X8_init l G q1 H.size) (cwI 0 hts gX8_copied_X8_init rfl rfl rfl hiniX8 hml24 hinsX8_init rfl (by decide +kernel) ⟨Nat.le_of_ble_eq_true rfl, Nat.le_of_ble_eq_true rfl⟩) (zPre (Wc := [(q1, .inr (8, [.int 0, .int 0, .null, .null, .null, .null]))]) (As := [.ref q1]) hP hD hE hS hA [1] rfl (by decide)) rfl rfl hl.1 rfl (lv_room (Nat.le_of_ble_eq_true rfl)) dX8_copied_4 ⟨Nat.le_of_ble_eq_true rfl, Nat.le_of_ble_eq_true rfl⟩) hP hD hS hA [1] [0] rfl rfl (by decide) (by decide) (fun u2 H locs hP hD hS => ?_)
  have hP : va_P G.1 vwCl [(nw, .inr (8, [.int 0, .int 0, .ref vd, .ref lw, .ref hg, .ref rk])), (q1, .inr (8, [.int 0, .int 0, .ref (u2 0), .ref (u2 1), .ref (u2 2), .ref (u2 3)])), ((u2 0), .inl (G.2.1, 8, .inl (fun _ => 0))), ((u2 1), .inl (G.2.1, 32, .inl (fun _ => 0))), ((u2 2), .inl (G.2.1, 32, .inl (fun _ => 0))), ((u2 3), .inl (G.2.1, 0, .inl (fun _ => 0)))] H := hP
  have hD : va_D A [(nw, .inr (8, [.int 0, .int 0, .ref vd, .ref lw, .ref hg, .ref rk])), (q1, .inr (8, [.int 0, .int 0, .ref (u2 0), .ref (u2 1), .ref (u2 2), .ref (u2 3)])), ((u2 0), .inl (G.2.1, 8, .inl (fun _ => 0))), ((u2 1), .inl (G.2.1, 32, .inl (fun _ => 0))), ((u2 2), .inl (G.2.1, 32, .inl (fun _ => 0))), ((u2 3), .inl (G.2.1, 0, .inl (fun _ => 0)))] := hD
  refine W.eq (g2 := F0 m 7 ls [.ref q1]) rfl ?_
  refine lv_astore_n (lv' := [(1, .ref q1), (0, .ref nw)]) hx hb dX8_copied_7 rfl hl (by decide) rfl (fun ls hl => ?_)
  refine lv_aload_n hx hb dX8_copied_8 rfl (lv_at hl 0 rfl) ?_
  refine lv_aload_n hx hb dX8_copied_9 rfl (lv_at hl 1 rfl) ?_
  refine va_get (D := G.1) (ci := 8) (v := .int 0) (C := RX8) (T := TX8) (N := 6) hx hb hts hw8 hown hE.1 hP 0 rfl rfl 0 (by decide) hf25 (fun _ h9 => h9) rfl dX8_copied_10 ?_
  refine va_put (D := G.1) (ci := 8) (v := .int 0) (ty := tyX8 0) (C := RX8) (T := TX8) (N := 6) hx hb hts hw8 tyX8 tyX8_ok nmX8 hown hE.1 hP hD hS 1 rfl rfl 0 (by decide) hf25 (fun _ h9 => h9) rfl (by decide +kernel) rfl rfl (Nat.le_of_ble_eq_true rfl) dX8_copied_13 (fun H locs hP hD hS => ?_)
  have hP : va_P G.1 vwCl [(nw, .inr (8, [.int 0, .int 0, .ref vd, .ref lw, .ref hg, .ref rk])), (q1, .inr (8, [.int 0, .int 0, .ref (u2 0), .ref (u2 1), .ref (u2 2), .ref (u2 3)])), ((u2 0), .inl (G.2.1, 8, .inl (fun _ => 0))), ((u2 1), .inl (G.2.1, 32, .inl (fun _ => 0))), ((u2 2), .inl (G.2.1, 32, .inl (fun _ => 0))), ((u2 3), .inl (G.2.1, 0, .inl (fun _ => 0)))] H := hP
  have hD : va_D A [(nw, .inr (8, [.int 0, .int 0, .ref vd, .ref lw, .ref hg, .ref rk])), (q1, .inr (8, [.int 0, .int 0, .ref (u2 0), .ref (u2 1), .ref (u2 2), .ref (u2 3)])), ((u2 0), .inl (G.2.1, 8, .inl (fun _ => 0))), ((u2 1), .inl (G.2.1, 32, .inl (fun _ => 0))), ((u2 2), .inl (G.2.1, 32, .inl (fun _ => 0))), ((u2 3), .inl (G.2.1, 0, .inl (fun _ => 0)))] := hD
  refine lv_aload_n hx hb dX8_copied_16 rfl (lv_at hl 0 rfl) ?_
  refine lv_aload_n hx hb dX8_copied_17 rfl (lv_at hl 1 rfl) ?_
  refine va_get (D := G.1) (ci := 8) (v := .int 0) (C := RX8) (T := TX8) (N := 6) hx hb hts hw8 hown hE.1 hP 0 rfl rfl 1 (by decide) hf29 (fun _ h9 => h9) rfl dX8_copied_18 ?_
  refine va_put (D := G.1) (ci := 8) (v := .int 0) (ty := tyX8 1) (C := RX8) (T := TX8) (N := 6) hx hb hts hw8 tyX8 tyX8_ok nmX8 hown hE.1 hP hD hS 1 rfl rfl 1 (by decide) hf29 (fun _ h9 => h9) rfl (by decide +kernel) rfl rfl (Nat.le_of_ble_eq_true rfl) dX8_copied_21 (fun H locs hP hD hS => ?_)
  have hP : va_P G.1 vwCl [(nw, .inr (8, [.int 0, .int 0, .ref vd, .ref lw, .ref hg, .ref rk])), (q1, .inr (8, [.int 0, .int 0, .ref (u2 0), .ref (u2 1), .ref (u2 2), .ref (u2 3)])), ((u2 0), .inl (G.2.1, 8, .inl (fun _ => 0))), ((u2 1), .inl (G.2.1, 32, .inl (fun _ => 0))), ((u2 2), .inl (G.2.1, 32, .inl (fun _ => 0))), ((u2 3), .inl (G.2.1, 0, .inl (fun _ => 0)))] H := hP
  have hD : va_D A [(nw, .inr (8, [.int 0, .int 0, .ref vd, .ref lw, .ref hg, .ref rk])), (q1, .inr (8, [.int 0, .int 0, .ref (u2 0), .ref (u2 1), .ref (u2 2), .ref (u2 3)])), ((u2 0), .inl (G.2.1, 8, .inl (fun _ => 0))), ((u2 1), .inl (G.2.1, 32, .inl (fun _ => 0))), ((u2 2), .inl (G.2.1, 32, .inl (fun _ => 0))), ((u2 3), .inl (G.2.1, 0, .inl (fun _ => 0)))] := hD
  refine lv_iconst (v := 0) hx hb dX8_copied_24 (by decide) ?_
  refine lv_istore_n (lv' := [(2, .int 0), (1, .ref q1), (0, .ref nw)]) hx hb dX8_copied_25 rfl hl (by decide) rfl (fun ls hl => ?_)
  refine lv_iload_n hx hb dX8_copied_26 rfl (lv_at hl 0 rfl) ?_
  refine lv_aload_n hx hb dX8_copied_27 rfl (lv_at hl 2 rfl) ?_
  refine va_get (D := G.1) (ci := 8) (v := .int 0) (C := RX8) (T := TX8) (N := 6) hx hb hts hw8 hown hE.1 hP 0 rfl rfl 0 (by decide) hf25 (fun _ h9 => h9) rfl dX8_copied_28 ?_
  refine lv_icmp_ge (tgt := 47) hx hb dX8_copied_31 (by decide) (fun _ => ?_) (fun h9 => absurd (by decide) h9)
  refine lv_aload_n hx hb dX8_copied_47 rfl (lv_at hl 1 rfl) ?_
  have hP := hP.sub (ws' := [(nw, .inr (8, [.int 0, .int 0, .ref vd, .ref lw, .ref hg, .ref rk])), (q1, .inr (8, [.int 0, .int 0, .ref (u2 0), .ref (u2 1), .ref (u2 2), .ref (u2 3)]))]) [0, 1] rfl
  have hD := hD.sub (ws' := [(nw, .inr (8, [.int 0, .int 0, .ref vd, .ref lw, .ref hg, .ref rk])), (q1, .inr (8, [.int 0, .int 0, .ref (u2 0), .ref (u2 1), .ref (u2 2), .ref (u2 3)]))]) [0, 1] (by decide) rfl
  exact zend_ar hx hb hr hlocks (Or.inl ⟨_, rfl⟩) (fun k => [q1, (u2 0), (u2 1), (u2 2), (u2 3)].getD k 0) hP hD hS (Nat.le_of_ble_eq_true rfl) (Nat.le_of_ble_eq_true rfl) dX8_copied_48 rfl

set_option maxHeartbeats 4000000 in
set_option maxRecDepth 100000 in
theorem z_X9_others (l : Launch) (G : zG) (nw : Nat) (cq : Nat) (vd : Nat) (lw : Nat) (hg : Nat) (rk : Nat) (vc : Nat) (lc : Nat) (hc : Nat) (rc : Nat) : zR l G yX9_others wsX9_others { frames := 2, cells := 0, slots := 0, locals := 50 } [(nw, .inr (8, [.int 0, .int 0, .ref vd, .ref lw, .ref hg, .ref rk])), (cq, .inr (8, [.int 0, .int 0, .ref vc, .ref lc, .ref hc, .ref rc]))] [.ref nw, .int 0, .ref cq, .int 0, .int 0] (some (.int 0)) (fun u => [(cq, .inr (8, [.int 0, .int 0, .ref vc, .ref lc, .ref hc, .ref rc])), (nw, .inr (8, [.int 0, .int 0, .ref vd, .ref lw, .ref hg, .ref rk]))]) 0 0 := by
  refine zR_of (cc := cX9_others) (maxL := 8) (rt := (some .int)) (by decide) rfl (Nat.le_of_ble_eq_true rfl) ?_
  intro p e s m below meth c A ls hx hb hml hr hts hown hlocks hin hA hE hP hD hS hl
  have hl : lv_has ls 8 [(0, .ref nw), (1, .int 0), (2, .ref cq), (3, .int 0), (4, .int 0)] := hl
  have hown : s.vm.findClass RX9 = some m.cls := hown
  have hP : va_P G.1 vwCl [(nw, .inr (8, [.int 0, .int 0, .ref vd, .ref lw, .ref hg, .ref rk])), (cq, .inr (8, [.int 0, .int 0, .ref vc, .ref lc, .ref hc, .ref rc]))] s.heap := hP
  refine lv_aload_n hx hb dX9_others_0 rfl (lv_at hl 0 rfl) ?_
  refine lv_iload hx hb dX9_others_1 (lv_at hl 4 rfl) ?_
  refine lv_iload_n hx hb dX9_others_3 rfl (lv_at hl 1 rfl) ?_
  refine zcall (wr := [(cq, .inr (8, [.int 0, .int 0, .ref vc, .ref lc, .ref hc, .ref rc]))]) (va_runV (As := [.int 0, .int 0]) (rest := []) ⟨hx, hb, hml, hown, hts⟩ (z_X8_isLed l G nw vd lw hg rk 0 s.heap.size) (cwV 2 hts gX9_others_X8_isLed rfl rfl rfl (by decide +kernel) ⟨Nat.le_of_ble_eq_true rfl, Nat.le_of_ble_eq_true rfl⟩) (zPreV (Wc := [(nw, .inr (8, [.int 0, .int 0, .ref vd, .ref lw, .ref hg, .ref rk]))]) (q0 := 0) (ci := 8) (q := (RX8, TX8, 6)) hP hD hE hS hA [0] rfl (by decide) rfl rfl) rfl rfl hl.1 rfl (lv_room (Nat.le_of_ble_eq_true rfl)) dX9_others_4 ⟨Nat.le_of_ble_eq_true rfl, Nat.le_of_ble_eq_true rfl⟩) hP hD hS hA [0] [1] rfl rfl (by decide) (by decide) (fun u1 H locs hP hD hS => ?_)
  have hP : va_P G.1 vwCl [(cq, .inr (8, [.int 0, .int 0, .ref vc, .ref lc, .ref hc, .ref rc])), (nw, .inr (8, [.int 0, .int 0, .ref vd, .ref lw, .ref hg, .ref rk]))] H := hP
  have hD : va_D A [(cq, .inr (8, [.int 0, .int 0, .ref vc, .ref lc, .ref hc, .ref rc])), (nw, .inr (8, [.int 0, .int 0, .ref vd, .ref lw, .ref hg, .ref rk]))] := hD
  refine W.eq (g2 := F0 m 7 ls [.int 1]) rfl ?_
  refine lv_if_eq (tgt := 42) hx hb dX9_others_7 (by decide) (fun h9 => absurd h9 (by decide)) (fun _ => ?_)
  refine lv_aload_n hx hb dX9_others_10 rfl (lv_at hl 2 rfl) ?_
  refine lv_iload hx hb dX9_others_11 (lv_at hl 4 rfl) ?_
  refine lv_iload_n hx hb dX9_others_13 rfl (lv_at hl 3 rfl) ?_
  refine zcall (wr := [(nw, .inr (8, [.int 0, .int 0, .ref vd, .ref lw, .ref hg, .ref rk]))]) (va_runV (As := [.int 0, .int 0]) (rest := []) ⟨hx, hb, hml, hown, hts⟩ (z_X8_allowed l G cq vc lc hc rc H.size) (cwV 2 hts gX9_others_X8_allowed rfl rfl rfl (by decide +kernel) ⟨Nat.le_of_ble_eq_true rfl, Nat.le_of_ble_eq_true rfl⟩) (zPreV (Wc := [(cq, .inr (8, [.int 0, .int 0, .ref vc, .ref lc, .ref hc, .ref rc]))]) (q0 := 0) (ci := 8) (q := (RX8, TX8, 6)) hP hD hE hS hA [0] rfl (by decide) rfl rfl) rfl rfl hl.1 rfl (lv_room (Nat.le_of_ble_eq_true rfl)) dX9_others_14 ⟨Nat.le_of_ble_eq_true rfl, Nat.le_of_ble_eq_true rfl⟩) hP hD hS hA [0] [1] rfl rfl (by decide) (by decide) (fun u2 H locs hP hD hS => ?_)
  have hP : va_P G.1 vwCl [(nw, .inr (8, [.int 0, .int 0, .ref vd, .ref lw, .ref hg, .ref rk])), (cq, .inr (8, [.int 0, .int 0, .ref vc, .ref lc, .ref hc, .ref rc]))] H := hP
  have hD : va_D A [(nw, .inr (8, [.int 0, .int 0, .ref vd, .ref lw, .ref hg, .ref rk])), (cq, .inr (8, [.int 0, .int 0, .ref vc, .ref lc, .ref hc, .ref rc]))] := hD
  refine W.eq (g2 := F0 m 17 ls [.int 0]) rfl ?_
  refine lv_istore (lv' := [(5, .int 0), (0, .ref nw), (1, .int 0), (2, .ref cq), (3, .int 0), (4, .int 0)]) hx hb dX9_others_17 hl (by decide) rfl (fun ls hl => ?_)
  refine lv_aload_n hx hb dX9_others_19 rfl (lv_at hl 1 rfl) ?_
  refine lv_iload_n hx hb dX9_others_20 rfl (lv_at hl 2 rfl) ?_
  refine zcall (wr := [(cq, .inr (8, [.int 0, .int 0, .ref vc, .ref lc, .ref hc, .ref rc]))]) (va_runV (As := [.int 0]) (rest := []) ⟨hx, hb, hml, hown, hts⟩ (z_X8_word l G nw vd lw hg rk H.size) (cwV 1 hts gX9_others_X8_word rfl rfl rfl (by decide +kernel) ⟨Nat.le_of_ble_eq_true rfl, Nat.le_of_ble_eq_true rfl⟩) (zPreV (Wc := [(nw, .inr (8, [.int 0, .int 0, .ref vd, .ref lw, .ref hg, .ref rk]))]) (q0 := 0) (ci := 8) (q := (RX8, TX8, 6)) hP hD hE hS hA [0] rfl (by decide) rfl rfl) rfl rfl hl.1 rfl (lv_room (Nat.le_of_ble_eq_true rfl)) dX9_others_21 ⟨Nat.le_of_ble_eq_true rfl, Nat.le_of_ble_eq_true rfl⟩) hP hD hS hA [0] [1] rfl rfl (by decide) (by decide) (fun u3 H locs hP hD hS => ?_)
  have hP : va_P G.1 vwCl [(cq, .inr (8, [.int 0, .int 0, .ref vc, .ref lc, .ref hc, .ref rc])), (nw, .inr (8, [.int 0, .int 0, .ref vd, .ref lw, .ref hg, .ref rk]))] H := hP
  have hD : va_D A [(cq, .inr (8, [.int 0, .int 0, .ref vc, .ref lc, .ref hc, .ref rc])), (nw, .inr (8, [.int 0, .int 0, .ref vd, .ref lw, .ref hg, .ref rk]))] := hD
  refine W.eq (g2 := F0 m 24 ls [.int 0]) rfl ?_
  refine lv_iconst (v := 1) hx hb dX9_others_24 (by decide) ?_
  refine lv_icmp_ne (tgt := 39) hx hb dX9_others_25 (by decide) (fun _ => ?_) (fun h9 => absurd h9 (by decide))
  refine lv_iload hx hb dX9_others_39 (lv_at hl 0 rfl) ?_
  exact zend_i hx hb hr hlocks (fun k => [].getD k 0) hP hD hS (Nat.le_of_ble_eq_true rfl) (Nat.le_of_ble_eq_true rfl) dX9_others_41

set_option maxHeartbeats 4000000 in
set_option maxRecDepth 100000 in
theorem z_X9_differ (l : Launch) (G : zG) (nw : Nat) (cq : Nat) (vd : Nat) (lw : Nat) (hg : Nat) (rk : Nat) (vc : Nat) (lc : Nat) (hc : Nat) (rc : Nat) : zR l G yX9_differ wsX9_differ { frames := 3, cells := 2, slots := 2048, locals := 77 } [(nw, .inr (8, [.int 0, .int 0, .ref vd, .ref lw, .ref hg, .ref rk])), (cq, .inr (8, [.int 0, .int 0, .ref vc, .ref lc, .ref hc, .ref rc]))] [.ref nw, .int 0, .ref cq, .int 0] (some (.int 0)) (fun u => [(cq, .inr (8, [.int 0, .int 0, .ref vc, .ref lc, .ref hc, .ref (u 0)])), (nw, .inr (8, [.int 0, .int 0, .ref vd, .ref lw, .ref hg, .ref (u 1)]))]) 2 2048 := by
  refine zR_of (cc := cX9_differ) (maxL := 4) (rt := (some .int)) (by decide) rfl (Nat.le_of_ble_eq_true rfl) ?_
  intro p e s m below meth c A ls hx hb hml hr hts hown hlocks hin hA hE hP hD hS hl
  have hl : lv_has ls 4 [(0, .ref nw), (1, .int 0), (2, .ref cq), (3, .int 0)] := hl
  have hown : s.vm.findClass RX9 = some m.cls := hown
  have hP : va_P G.1 vwCl [(nw, .inr (8, [.int 0, .int 0, .ref vd, .ref lw, .ref hg, .ref rk])), (cq, .inr (8, [.int 0, .int 0, .ref vc, .ref lc, .ref hc, .ref rc]))] s.heap := hP
  refine lv_aload_n hx hb dX9_differ_0 rfl (lv_at hl 0 rfl) ?_
  refine zcall (wr := [(cq, .inr (8, [.int 0, .int 0, .ref vc, .ref lc, .ref hc, .ref rc]))]) (va_runV (As := []) (rest := []) ⟨hx, hb, hml, hown, hts⟩ (z_X8_forget l G nw vd lw hg rk s.heap.size) (cwV 0 hts gX9_differ_X8_forget rfl rfl rfl (by decide +kernel) ⟨Nat.le_of_ble_eq_true rfl, Nat.le_of_ble_eq_true rfl⟩) (zPreV (Wc := [(nw, .inr (8, [.int 0, .int 0, .ref vd, .ref lw, .ref hg, .ref rk]))]) (q0 := 0) (ci := 8) (q := (RX8, TX8, 6)) hP hD hE hS hA [0] rfl (by decide) rfl rfl) rfl rfl hl.1 rfl (lv_room (Nat.le_of_ble_eq_true rfl)) dX9_differ_1 ⟨Nat.le_of_ble_eq_true rfl, Nat.le_of_ble_eq_true rfl⟩) hP hD hS hA [0] [1] rfl rfl (by decide) (by decide) (fun u1 H locs hP hD hS => ?_)
  have hP : va_P G.1 vwCl [(cq, .inr (8, [.int 0, .int 0, .ref vc, .ref lc, .ref hc, .ref rc])), (nw, .inr (8, [.int 0, .int 0, .ref vd, .ref lw, .ref hg, .ref (u1 0)]))] H := hP
  have hD : va_D A [(cq, .inr (8, [.int 0, .int 0, .ref vc, .ref lc, .ref hc, .ref rc])), (nw, .inr (8, [.int 0, .int 0, .ref vd, .ref lw, .ref hg, .ref (u1 0)]))] := hD
  refine W.eq (g2 := F0 m 4 ls []) rfl ?_
  refine lv_aload_n hx hb dX9_differ_4 rfl (lv_at hl 2 rfl) ?_
  refine zcall (wr := [(nw, .inr (8, [.int 0, .int 0, .ref vd, .ref lw, .ref hg, .ref (u1 0)]))]) (va_runV (As := []) (rest := []) ⟨hx, hb, hml, hown, hts⟩ (z_X8_forget l G cq vc lc hc rc H.size) (cwV 0 hts gX9_differ_X8_forget rfl rfl rfl (by decide +kernel) ⟨Nat.le_of_ble_eq_true rfl, Nat.le_of_ble_eq_true rfl⟩) (zPreV (Wc := [(cq, .inr (8, [.int 0, .int 0, .ref vc, .ref lc, .ref hc, .ref rc]))]) (q0 := 0) (ci := 8) (q := (RX8, TX8, 6)) hP hD hE hS hA [0] rfl (by decide) rfl rfl) rfl rfl hl.1 rfl (lv_room (Nat.le_of_ble_eq_true rfl)) dX9_differ_5 ⟨Nat.le_of_ble_eq_true rfl, Nat.le_of_ble_eq_true rfl⟩) hP hD hS hA [0] [1] rfl rfl (by decide) (by decide) (fun u2 H locs hP hD hS => ?_)
  have hP : va_P G.1 vwCl [(nw, .inr (8, [.int 0, .int 0, .ref vd, .ref lw, .ref hg, .ref (u1 0)])), (cq, .inr (8, [.int 0, .int 0, .ref vc, .ref lc, .ref hc, .ref (u2 0)]))] H := hP
  have hD : va_D A [(nw, .inr (8, [.int 0, .int 0, .ref vd, .ref lw, .ref hg, .ref (u1 0)])), (cq, .inr (8, [.int 0, .int 0, .ref vc, .ref lc, .ref hc, .ref (u2 0)]))] := hD
  refine W.eq (g2 := F0 m 8 ls []) rfl ?_
  refine lv_aload_n hx hb dX9_differ_8 rfl (lv_at hl 0 rfl) ?_
  refine lv_iload_n hx hb dX9_differ_9 rfl (lv_at hl 1 rfl) ?_
  refine lv_aload_n hx hb dX9_differ_10 rfl (lv_at hl 2 rfl) ?_
  refine lv_iload_n hx hb dX9_differ_11 rfl (lv_at hl 3 rfl) ?_
  refine lv_iconst (v := 0) hx hb dX9_differ_12 (by decide) ?_
  refine zcall (wr := []) (va_runS (As := [.ref nw, .int 0, .ref cq, .int 0, .int 0]) (rest := []) ⟨hx, hb, hml, hown, hts⟩ (z_X9_others l G nw cq vd lw hg (u1 0) vc lc hc (u2 0) H.size) (va_cwS 5 hts gX9_differ_X9_others rfl rfl rfl (by decide +kernel) ⟨Nat.le_of_ble_eq_true rfl, Nat.le_of_ble_eq_true rfl⟩) (zPre (Wc := [(nw, .inr (8, [.int 0, .int 0, .ref vd, .ref lw, .ref hg, .ref (u1 0)])), (cq, .inr (8, [.int 0, .int 0, .ref vc, .ref lc, .ref hc, .ref (u2 0)]))]) hP hD hE hS hA [0, 1] rfl (by decide)) rfl rfl hl.1 rfl (lv_room (Nat.le_of_ble_eq_true rfl)) dX9_differ_13 ⟨Nat.le_of_ble_eq_true rfl, Nat.le_of_ble_eq_true rfl⟩) hP hD hS hA [0, 1] [] rfl rfl (by decide) (by decide) (fun u3 H locs hP hD hS => ?_)
  have hP : va_P G.1 vwCl [(cq, .inr (8, [.int 0, .int 0, .ref vc, .ref lc, .ref hc, .ref (u2 0)])), (nw, .inr (8, [.int 0, .int 0, .ref vd, .ref lw, .ref hg, .ref (u1 0)]))] H := hP
  have hD : va_D A [(cq, .inr (8, [.int 0, .int 0, .ref vc, .ref lc, .ref hc, .ref (u2 0)])), (nw, .inr (8, [.int 0, .int 0, .ref vd, .ref lw, .ref hg, .ref (u1 0)]))] := hD
  refine W.eq (g2 := F0 m 16 ls [.int 0]) rfl ?_
  exact zend_i hx hb hr hlocks (fun k => [(u2 0), (u1 0)].getD k 0) hP hD hS (Nat.le_of_ble_eq_true rfl) (Nat.le_of_ble_eq_true rfl) dX9_differ_16
