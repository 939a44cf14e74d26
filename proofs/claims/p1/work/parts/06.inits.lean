/-! the constructors of the parts -/
theorem dX3_init_0 : decode cX3_init 0 = .ok (.aload_n 0, 1) := by decide +kernel
theorem dX3_init_1 : decode cX3_init 1 = .ok (.invokespecial 3, 3) := by decide +kernel
theorem dX3_init_4 : decode cX3_init 4 = .ok (.aload_n 0, 1) := by decide +kernel
theorem dX3_init_5 : decode cX3_init 5 = .ok (.iconst 4, 1) := by decide +kernel
theorem dX3_init_6 : decode cX3_init 6 = .ok (.newarray .int, 2) := by decide +kernel
theorem dX3_init_8 : decode cX3_init 8 = .ok (.putfield 9, 3) := by decide +kernel
theorem dX3_init_11 : decode cX3_init 11 = .ok (.aload_n 0, 1) := by decide +kernel
theorem dX3_init_12 : decode cX3_init 12 = .ok (.iconst 4, 1) := by decide +kernel
theorem dX3_init_13 : decode cX3_init 13 = .ok (.newarray .int, 2) := by decide +kernel
theorem dX3_init_15 : decode cX3_init 15 = .ok (.putfield 15, 3) := by decide +kernel
theorem dX3_init_18 : decode cX3_init 18 = .ok (.return_, 1) := by decide +kernel
theorem dX6_init_0 : decode cX6_init 0 = .ok (.aload_n 0, 1) := by decide +kernel
theorem dX6_init_1 : decode cX6_init 1 = .ok (.invokespecial 3, 3) := by decide +kernel
theorem dX6_init_4 : decode cX6_init 4 = .ok (.aload_n 0, 1) := by decide +kernel
theorem dX6_init_5 : decode cX6_init 5 = .ok (.bipush 8, 2) := by decide +kernel
theorem dX6_init_7 : decode cX6_init 7 = .ok (.anewarray 9, 3) := by decide +kernel
theorem dX6_init_10 : decode cX6_init 10 = .ok (.putfield 11, 3) := by decide +kernel
theorem dX6_init_13 : decode cX6_init 13 = .ok (.iconst 0, 1) := by decide +kernel
theorem dX6_init_14 : decode cX6_init 14 = .ok (.istore_n 1, 1) := by decide +kernel
theorem dX6_init_15 : decode cX6_init 15 = .ok (.iload_n 1, 1) := by decide +kernel
theorem dX6_init_16 : decode cX6_init 16 = .ok (.bipush 8, 2) := by decide +kernel
theorem dX6_init_18 : decode cX6_init 18 = .ok (.if_icmp .ge 22, 3) := by decide +kernel
theorem dX6_init_21 : decode cX6_init 21 = .ok (.aload_n 0, 1) := by decide +kernel
theorem dX6_init_22 : decode cX6_init 22 = .ok (.getfield 11, 3) := by decide +kernel
theorem dX6_init_25 : decode cX6_init 25 = .ok (.iload_n 1, 1) := by decide +kernel
theorem dX6_init_26 : decode cX6_init 26 = .ok (.new 9, 3) := by decide +kernel
theorem dX6_init_29 : decode cX6_init 29 = .ok (.dup, 1) := by decide +kernel
set_option maxRecDepth 20000 in
theorem ggX6_init_X3_init : GoodIn wsX6_init wsX3_init := goodIn_r _ [9, 10, 2, 3, 11, 12, 13, 17, 18, 19, 20] (by decide +kernel) (by decide +kernel)
set_option maxRecDepth 20000 in
theorem gX6_init_X3_init_n17 : GoodIn wsX6_init (wsX3_init) := ggX6_init_X3_init
theorem dX6_init_30 : decode cX6_init 30 = .ok (.invokespecial 17, 3) := by decide +kernel
theorem dX6_init_33 : decode cX6_init 33 = .ok (.aastore, 1) := by decide +kernel
theorem dX6_init_34 : decode cX6_init 34 = .ok (.iinc 1 1, 3) := by decide +kernel
theorem dX6_init_37 : decode cX6_init 37 = .ok (.goto (-22), 3) := by decide +kernel
theorem dX6_init_40 : decode cX6_init 40 = .ok (.return_, 1) := by decide +kernel
theorem dX4_init_0 : decode cX4_init 0 = .ok (.aload_n 0, 1) := by decide +kernel
theorem dX4_init_1 : decode cX4_init 1 = .ok (.invokespecial 3, 3) := by decide +kernel
theorem dX4_init_4 : decode cX4_init 4 = .ok (.aload_n 0, 1) := by decide +kernel
theorem dX4_init_5 : decode cX4_init 5 = .ok (.sipush 1024, 3) := by decide +kernel
theorem dX4_init_8 : decode cX4_init 8 = .ok (.newarray .int, 2) := by decide +kernel
theorem dX4_init_10 : decode cX4_init 10 = .ok (.putfield 9, 3) := by decide +kernel
theorem dX4_init_13 : decode cX4_init 13 = .ok (.aload_n 0, 1) := by decide +kernel
theorem dX4_init_14 : decode cX4_init 14 = .ok (.sipush 1024, 3) := by decide +kernel
theorem dX4_init_17 : decode cX4_init 17 = .ok (.newarray .int, 2) := by decide +kernel
theorem dX4_init_19 : decode cX4_init 19 = .ok (.putfield 15, 3) := by decide +kernel
theorem dX4_init_22 : decode cX4_init 22 = .ok (.aload_n 0, 1) := by decide +kernel
theorem dX4_init_23 : decode cX4_init 23 = .ok (.sipush 256, 3) := by decide +kernel
theorem dX4_init_26 : decode cX4_init 26 = .ok (.newarray .int, 2) := by decide +kernel
theorem dX4_init_28 : decode cX4_init 28 = .ok (.putfield 18, 3) := by decide +kernel
theorem dX4_init_31 : decode cX4_init 31 = .ok (.aload_n 0, 1) := by decide +kernel
theorem dX4_init_32 : decode cX4_init 32 = .ok (.aload_n 1, 1) := by decide +kernel
theorem dX4_init_33 : decode cX4_init 33 = .ok (.putfield 21, 3) := by decide +kernel
theorem dX4_init_36 : decode cX4_init 36 = .ok (.return_, 1) := by decide +kernel
theorem dX1_init_0 : decode cX1_init 0 = .ok (.aload_n 0, 1) := by decide +kernel
theorem dX1_init_1 : decode cX1_init 1 = .ok (.invokespecial 3, 3) := by decide +kernel
theorem dX1_init_4 : decode cX1_init 4 = .ok (.aload_n 0, 1) := by decide +kernel
theorem dX1_init_5 : decode cX1_init 5 = .ok (.iconst 4, 1) := by decide +kernel
theorem dX1_init_6 : decode cX1_init 6 = .ok (.newarray .int, 2) := by decide +kernel
theorem dX1_init_8 : decode cX1_init 8 = .ok (.putfield 9, 3) := by decide +kernel
theorem dX1_init_11 : decode cX1_init 11 = .ok (.aload_n 0, 1) := by decide +kernel
theorem dX1_init_12 : decode cX1_init 12 = .ok (.sipush 132, 3) := by decide +kernel
theorem dX1_init_15 : decode cX1_init 15 = .ok (.newarray .int, 2) := by decide +kernel
theorem dX1_init_17 : decode cX1_init 17 = .ok (.putfield 15, 3) := by decide +kernel
theorem dX1_init_20 : decode cX1_init 20 = .ok (.aload_n 0, 1) := by decide +kernel
theorem dX1_init_21 : decode cX1_init 21 = .ok (.sipush 132, 3) := by decide +kernel
theorem dX1_init_24 : decode cX1_init 24 = .ok (.newarray .int, 2) := by decide +kernel
theorem dX1_init_26 : decode cX1_init 26 = .ok (.putfield 18, 3) := by decide +kernel
theorem dX1_init_29 : decode cX1_init 29 = .ok (.aload_n 0, 1) := by decide +kernel
theorem dX1_init_30 : decode cX1_init 30 = .ok (.aload_n 1, 1) := by decide +kernel
theorem dX1_init_31 : decode cX1_init 31 = .ok (.putfield 21, 3) := by decide +kernel
theorem dX1_init_34 : decode cX1_init 34 = .ok (.aload_n 0, 1) := by decide +kernel
theorem dX1_init_35 : decode cX1_init 35 = .ok (.aload_n 2, 1) := by decide +kernel
theorem dX1_init_36 : decode cX1_init 36 = .ok (.putfield 25, 3) := by decide +kernel
theorem dX1_init_39 : decode cX1_init 39 = .ok (.return_, 1) := by decide +kernel
theorem dX5_init_0 : decode cX5_init 0 = .ok (.aload_n 0, 1) := by decide +kernel
theorem dX5_init_1 : decode cX5_init 1 = .ok (.invokespecial 3, 3) := by decide +kernel
theorem dX5_init_4 : decode cX5_init 4 = .ok (.aload_n 0, 1) := by decide +kernel
theorem dX5_init_5 : decode cX5_init 5 = .ok (.sipush 1024, 3) := by decide +kernel
theorem dX5_init_8 : decode cX5_init 8 = .ok (.newarray .int, 2) := by decide +kernel
theorem dX5_init_10 : decode cX5_init 10 = .ok (.putfield 9, 3) := by decide +kernel
theorem dX5_init_13 : decode cX5_init 13 = .ok (.aload_n 0, 1) := by decide +kernel
theorem dX5_init_14 : decode cX5_init 14 = .ok (.sipush 1024, 3) := by decide +kernel
theorem dX5_init_17 : decode cX5_init 17 = .ok (.newarray .int, 2) := by decide +kernel
theorem dX5_init_19 : decode cX5_init 19 = .ok (.putfield 15, 3) := by decide +kernel
theorem dX5_init_22 : decode cX5_init 22 = .ok (.aload_n 0, 1) := by decide +kernel
theorem dX5_init_23 : decode cX5_init 23 = .ok (.sipush 1024, 3) := by decide +kernel
theorem dX5_init_26 : decode cX5_init 26 = .ok (.newarray .int, 2) := by decide +kernel
theorem dX5_init_28 : decode cX5_init 28 = .ok (.putfield 18, 3) := by decide +kernel
theorem dX5_init_31 : decode cX5_init 31 = .ok (.aload_n 0, 1) := by decide +kernel
theorem dX5_init_32 : decode cX5_init 32 = .ok (.aload_n 1, 1) := by decide +kernel
theorem dX5_init_33 : decode cX5_init 33 = .ok (.putfield 21, 3) := by decide +kernel
theorem dX5_init_36 : decode cX5_init 36 = .ok (.aload_n 0, 1) := by decide +kernel
theorem dX5_init_37 : decode cX5_init 37 = .ok (.aload_n 2, 1) := by decide +kernel
theorem dX5_init_38 : decode cX5_init 38 = .ok (.putfield 25, 3) := by decide +kernel
theorem dX5_init_41 : decode cX5_init 41 = .ok (.return_, 1) := by decide +kernel
theorem dX0_init_0 : decode cX0_init 0 = .ok (.aload_n 0, 1) := by decide +kernel
theorem dX0_init_1 : decode cX0_init 1 = .ok (.invokespecial 3, 3) := by decide +kernel
theorem dX0_init_4 : decode cX0_init 4 = .ok (.aload_n 0, 1) := by decide +kernel
theorem dX0_init_5 : decode cX0_init 5 = .ok (.iconst 4, 1) := by decide +kernel
theorem dX0_init_6 : decode cX0_init 6 = .ok (.newarray .int, 2) := by decide +kernel
theorem dX0_init_8 : decode cX0_init 8 = .ok (.putfield 9, 3) := by decide +kernel
theorem dX0_init_11 : decode cX0_init 11 = .ok (.aload_n 0, 1) := by decide +kernel
theorem dX0_init_12 : decode cX0_init 12 = .ok (.iconst 4, 1) := by decide +kernel
theorem dX0_init_13 : decode cX0_init 13 = .ok (.newarray .int, 2) := by decide +kernel
theorem dX0_init_15 : decode cX0_init 15 = .ok (.putfield 15, 3) := by decide +kernel
theorem dX0_init_18 : decode cX0_init 18 = .ok (.aload_n 0, 1) := by decide +kernel
theorem dX0_init_19 : decode cX0_init 19 = .ok (.aload_n 1, 1) := by decide +kernel
theorem dX0_init_20 : decode cX0_init 20 = .ok (.putfield 18, 3) := by decide +kernel
theorem dX0_init_23 : decode cX0_init 23 = .ok (.aload_n 0, 1) := by decide +kernel
theorem dX0_init_24 : decode cX0_init 24 = .ok (.aload_n 2, 1) := by decide +kernel
theorem dX0_init_25 : decode cX0_init 25 = .ok (.putfield 22, 3) := by decide +kernel
theorem dX0_init_28 : decode cX0_init 28 = .ok (.aload_n 0, 1) := by decide +kernel
theorem dX0_init_29 : decode cX0_init 29 = .ok (.aload_n 3, 1) := by decide +kernel
theorem dX0_init_30 : decode cX0_init 30 = .ok (.putfield 25, 3) := by decide +kernel
theorem dX0_init_33 : decode cX0_init 33 = .ok (.return_, 1) := by decide +kernel
theorem dX2_init_0 : decode cX2_init 0 = .ok (.aload_n 0, 1) := by decide +kernel
theorem dX2_init_1 : decode cX2_init 1 = .ok (.invokespecial 3, 3) := by decide +kernel
theorem dX2_init_4 : decode cX2_init 4 = .ok (.aload_n 0, 1) := by decide +kernel
theorem dX2_init_5 : decode cX2_init 5 = .ok (.bipush 24, 2) := by decide +kernel
theorem dX2_init_7 : decode cX2_init 7 = .ok (.newarray .int, 2) := by decide +kernel
theorem dX2_init_9 : decode cX2_init 9 = .ok (.putfield 9, 3) := by decide +kernel
theorem dX2_init_12 : decode cX2_init 12 = .ok (.return_, 1) := by decide +kernel
set_option maxHeartbeats 4000000 in
set_option maxRecDepth 100000 in
/-- Rule() -/
theorem z_X3_init (l : Launch) (G : zG) (h0 : Nat) : zR l G yX3_init wsX3_init { frames := 1, cells := 2, slots := 8, locals := 12 } [(h0, .inr (3, [.int 0, .int 0, .null, .null]))] [.ref h0] none (fun u => [(h0, .inr (3, [.int 0, .int 0, .ref (u 0), .ref (u 1)])), ((u 0), .inl (G.2.1, 4, .inl (fun _ => 0))), ((u 1), .inl (G.2.1, 4, .inl (fun _ => 0)))]) 2 8 := by
  refine zR_of (cc := cX3_init) (maxL := 1) (rt := none) (by decide) rfl (Nat.le_of_ble_eq_true rfl) ?_
  intro p e s m below meth c A ls hx hb hml hr hts hown hlocks hin hA hE hP hD hS hl
  have hl : lv_has ls 1 [(0, .ref h0)] := hl
  have hown : s.vm.findClass RX3 = some m.cls := hown
  have hP : va_P G.1 vwCl [(h0, .inr (3, [.int 0, .int 0, .null, .null]))] s.heap := hP
  have hoi := hts (.code objectInit ⟨#[0xb1]⟩ 1 none) (by decide +kernel)
  have hml3 := hts (.methodLink RX3 3 objectInit) (by decide +kernel)
  have hoin := hts (.instanceMethod objectInit) (by decide +kernel)
  have harrint := hts (.arrayClass .int) (by decide +kernel)
  have hw3 : ∀ w ∈ u_ws RX3 TX3 4, w ∈ wsX3_init := by decide +kernel
  have hf9 := hts (.fieldLink RX3 9 "Nettle$Rule" "lows" "[I") (by decide +kernel)
  have hf15 := hts (.fieldLink RX3 15 "Nettle$Rule" "highs" "[I") (by decide +kernel)
  refine lv_aload_n hx hb dX3_init_0 rfl (lv_at hl 0 rfl) ?_
  refine W.objInit hx hb hown hml3 hoin hoi rfl (by rw [hml]; exact hl.1) rfl dX3_init_1 (Nat.le_of_ble_eq_true rfl) (Nat.le_of_ble_eq_true rfl) ?_
  refine W.eq (g2 := F0 m 4 ls []) rfl ?_
  refine lv_aload_n hx hb dX3_init_4 rfl (lv_at hl 0 rfl) ?_
  refine lv_iconst (v := 4) hx hb dX3_init_5 (by decide) ?_
  refine znewa (N := 4) hx hb harrint hE hP hD hS hA (by decide) (by decide) (Nat.le_of_ble_eq_true rfl) (Nat.le_of_ble_eq_true rfl) (Nat.le_of_ble_eq_true rfl) dX3_init_6 (fun q1 H hP hD hS => ?_)
  have hP : va_P G.1 vwCl [(h0, .inr (3, [.int 0, .int 0, .null, .null])), (q1, .inl (G.2.1, 4, .inl (fun _ => 0)))] H := hP
  have hD : va_D A [(h0, .inr (3, [.int 0, .int 0, .null, .null])), (q1, .inl (G.2.1, 4, .inl (fun _ => 0)))] := hD
  refine va_putF (D := G.1) (ci := 3) (v := .ref q1) (ty := tyX3 2) (C := RX3) (T := TX3) (N := 4) hx hb hts hw3 tyX3 tyX3_ok nmX3 hown hE.1 hP hD hS 0 rfl rfl 2 (by decide) hf9 (fun _ h9 => h9) rfl hin rfl (by decide +kernel) rfl rfl (Nat.le_of_ble_eq_true rfl) dX3_init_8 (fun H locs hP hD hS => ?_)
  have hP : va_P G.1 vwCl [(h0, .inr (3, [.int 0, .int 0, .ref q1, .null])), (q1, .inl (G.2.1, 4, .inl (fun _ => 0)))] H := hP
  have hD : va_D A [(h0, .inr (3, [.int 0, .int 0, .ref q1, .null])), (q1, .inl (G.2.1, 4, .inl (fun _ => 0)))] := hD
  refine lv_aload_n hx hb dX3_init_11 rfl (lv_at hl 0 rfl) ?_
  refine lv_iconst (v := 4) hx hb dX3_init_12 (by decide) ?_
  refine znewa (N := 4) hx hb harrint hE hP hD hS hA (by decide) (by decide) (Nat.le_of_ble_eq_true rfl) (Nat.le_of_ble_eq_true rfl) (Nat.le_of_ble_eq_true rfl) dX3_init_13 (fun q2 H hP hD hS => ?_)
  have hP : va_P G.1 vwCl [(h0, .inr (3, [.int 0, .int 0, .ref q1, .null])), (q1, .inl (G.2.1, 4, .inl (fun _ => 0))), (q2, .inl (G.2.1, 4, .inl (fun _ => 0)))] H := hP
  have hD : va_D A [(h0, .inr (3, [.int 0, .int 0, .ref q1, .null])), (q1, .inl (G.2.1, 4, .inl (fun _ => 0))), (q2, .inl (G.2.1, 4, .inl (fun _ => 0)))] := hD
  refine va_putF (D := G.1) (ci := 3) (v := .ref q2) (ty := tyX3 3) (C := RX3) (T := TX3) (N := 4) hx hb hts hw3 tyX3 tyX3_ok nmX3 hown hE.1 hP hD hS 0 rfl rfl 3 (by decide) hf15 (fun _ h9 => h9) rfl hin rfl (by decide +kernel) rfl rfl (Nat.le_of_ble_eq_true rfl) dX3_init_15 (fun H locs hP hD hS => ?_)
  have hP : va_P G.1 vwCl [(h0, .inr (3, [.int 0, .int 0, .ref q1, .ref q2])), (q1, .inl (G.2.1, 4, .inl (fun _ => 0))), (q2, .inl (G.2.1, 4, .inl (fun _ => 0)))] H := hP
  have hD : va_D A [(h0, .inr (3, [.int 0, .int 0, .ref q1, .ref q2])), (q1, .inl (G.2.1, 4, .inl (fun _ => 0))), (q2, .inl (G.2.1, 4, .inl (fun _ => 0)))] := hD
  exact zend_v hx hb hr hlocks (fun k => [q1, q2].getD k 0) hP hD hS (Nat.le_of_ble_eq_true rfl) (Nat.le_of_ble_eq_true rfl) dX3_init_18

set_option maxHeartbeats 4000000 in
set_option maxRecDepth 100000 in
/-- Wall() -/
theorem z_X6_init (l : Launch) (G : zG) (h0 : Nat) : zR l G yX6_init wsX6_init { frames := 2, cells := 25, slots := 104, locals := 32 } [(h0, .inr (6, [.null, .int 0, .int 0]))] [.ref h0] none (fun u => [(h0, .inr (6, [.ref (u 0), .int 0, .int 0])), ((u 0), .inl (G.2.2.1, 8, .inr (.inr (.inr (.inr (va_up (va_up (va_up (va_up (va_up (va_up (va_up (va_up (fun _ => none) 0 (some (u 1))) 1 (some (u 4))) 2 (some (u 5))) 3 (some (u 6))) 4 (some (u 7))) 5 (some (u 8))) 6 (some (u 9))) 7 (some (u 10)))))))), ((u 1), .inr (3, [.int 0, .int 0, .ref (u 2), .ref (u 3)])), ((u 2), .inl (G.2.1, 4, .inl (fun _ => 0))), ((u 3), .inl (G.2.1, 4, .inl (fun _ => 0)))]) 25 104 := by
  refine zR_of (cc := cX6_init) (maxL := 2) (rt := none) (by decide) rfl (Nat.le_of_ble_eq_true rfl) ?_
  intro p e s m below meth c A ls hx hb hml hr hts hown hlocks hin hA hE hP hD hS hl
  have hl : lv_has ls 2 [(0, .ref h0)] := hl
  have hown : s.vm.findClass RX6 = some m.cls := hown
  have hP : va_P G.1 vwCl [(h0, .inr (6, [.null, .int 0, .int 0]))] s.heap := hP
  have hoi := hts (.code objectInit ⟨#[0xb1]⟩ 1 none) (by decide +kernel)
  have hml3 := hts (.methodLink RX6 3 objectInit) (by decide +kernel)
  have hoin := hts (.instanceMethod objectInit) (by decide +kernel)
  have hcl9 := hts (.classLink RX6 9 RX3) (by decide +kernel)
  have hw6 : ∀ w ∈ u_ws RX6 TX6 3, w ∈ wsX6_init := by decide +kernel
  have hf11 := hts (.fieldLink RX6 11 "Nettle$Wall" "rows" "[LNettle$Rule;") (by decide +kernel)
  have hw3 : ∀ w ∈ u_ws RX3 TX3 4, w ∈ wsX6_init := by decide +kernel
  have hisX3 := hts (.instantiable RX3 4) (by decide +kernel)
  have hiniX3 := hts (.initialized RX3) (by decide +kernel)
  have hinsX3_init := hts (.instanceMethod yX3_init) (by decide +kernel)
  refine lv_aload_n hx hb dX6_init_0 rfl (lv_at hl 0 rfl) ?_
  refine W.objInit hx hb hown hml3 hoin hoi rfl (by rw [hml]; exact hl.1) rfl dX6_init_1 (Nat.le_of_ble_eq_true rfl) (Nat.le_of_ble_eq_true rfl) ?_
  refine W.eq (g2 := F0 m 4 ls []) rfl ?_
  refine lv_aload_n hx hb dX6_init_4 rfl (lv_at hl 0 rfl) ?_
  refine lv_bipush (v := 8) hx hb dX6_init_5 (by decide) ?_
  refine znewq (N := 8) hx hb hown hcl9 hE hP hD hS hA (by decide) (by decide) (Nat.le_of_ble_eq_true rfl) (Nat.le_of_ble_eq_true rfl) (Nat.le_of_ble_eq_true rfl) dX6_init_7 (fun q1 H hP hD hS => ?_)
  have hP : va_P G.1 vwCl [(h0, .inr (6, [.null, .int 0, .int 0])), (q1, .inl (G.2.2.1, 8, .inr (.inr (.inr (.inr (fun _ => none))))))] H := hP
  have hD : va_D A [(h0, .inr (6, [.null, .int 0, .int 0])), (q1, .inl (G.2.2.1, 8, .inr (.inr (.inr (.inr (fun _ => none))))))] := hD
  refine va_putF (D := G.1) (ci := 6) (v := .ref q1) (ty := tyX6 0) (C := RX6) (T := TX6) (N := 3) hx hb hts hw6 tyX6 tyX6_ok nmX6 hown hE.1 hP hD hS 0 rfl rfl 0 (by decide) hf11 (fun _ h9 => h9) rfl hin rfl (by decide +kernel) rfl rfl (Nat.le_of_ble_eq_true rfl) dX6_init_10 (fun H locs hP hD hS => ?_)
  have hP : va_P G.1 vwCl [(h0, .inr (6, [.ref q1, .int 0, .int 0])), (q1, .inl (G.2.2.1, 8, .inr (.inr (.inr (.inr (fun _ => none))))))] H := hP
  have hD : va_D A [(h0, .inr (6, [.ref q1, .int 0, .int 0])), (q1, .inl (G.2.2.1, 8, .inr (.inr (.inr (.inr (fun _ => none))))))] := hD
  refine lv_iconst (v := 0) hx hb dX6_init_13 (by decide) ?_
  refine lv_istore_n (lv' := [(1, .int 0), (0, .ref h0)]) hx hb dX6_init_14 rfl hl (by decide) rfl (fun ls hl => ?_)
  refine lv_iload_n hx hb dX6_init_15 rfl (lv_at hl 0 rfl) ?_
  refine lv_bipush (v := 8) hx hb dX6_init_16 (by decide) ?_
  refine lv_icmp_ge (tgt := 40) hx hb dX6_init_18 (by decide) (fun h9 => absurd h9 (by decide)) (fun _ => ?_)
  refine lv_aload_n hx hb dX6_init_21 rfl (lv_at hl 1 rfl) ?_
  refine va_get (D := G.1) (ci := 6) (v := .ref q1) (C := RX6) (T := TX6) (N := 3) hx hb hts hw6 hown hE.1 hP 0 rfl rfl 0 (by decide) hf11 (fun _ h9 => h9) rfl dX6_init_22 ?_
  refine lv_iload_n hx hb dX6_init_25 rfl (lv_at hl 0 rfl) ?_
  refine va_new (ci := 3) (fs := [.int 0, .int 0, .null, .null]) (C := RX3) (T := TX3) (N := 4) hx hb hts hw3 tyX3 tyX3_ok hown hcl9 hisX3 hiniX3 hE.1 hP hD hS hA rfl (fun j hj => by rcases (show j = 0 ∨ j = 1 ∨ j = 2 ∨ j = 3 by omega) with rfl | rfl | rfl | rfl <;> rfl) (Nat.le_of_ble_eq_true rfl) (Nat.le_of_ble_eq_true rfl) dX6_init_26 (fun q2 H hP hD hS => ?_)
  have hP : va_P G.1 vwCl [(h0, .inr (6, [.ref q1, .int 0, .int 0])), (q1, .inl (G.2.2.1, 8, .inr (.inr (.inr (.inr (fun _ => none)))))), (q2, .inr (3, [.int 0, .int 0, .null, .null]))] H := hP
  have hD : va_D A [(h0, .inr (6, [.ref q1, .int 0, .int 0])), (q1, .inl (G.2.2.1, 8, .inr (.inr (.inr (.inr (fun _ => none)))))), (q2, .inr (3, [.int 0, .int 0, .null, .null]))] := hD
  refine lv_dup hx hb dX6_init_29 rfl ?_
  refine zcall (wr := [(h0, .inr (6, [.ref q1, .int 0, .int 0])), (q1, .inl (G.2.2.1, 8, .inr (.inr (.inr (.inr (fun _ => none))))))]) (va_runIN (As := []) (rest := [.ref q2, .int 0, .ref q1]) ⟨hx, hb, hml, hown, hts⟩ (z_X3_init l G q2 H.size) ⟨va_cnB 0 hts gX6_init_X3_init_n17 rfl rfl rfl hE.2.2.2.2.1.1 hiniX3 (by decide +kernel) ⟨Nat.le_of_ble_eq_true rfl, Nat.le_of_ble_eq_true rfl⟩, rfl, hinsX3_init⟩ (zPre (Wc := [(q2, .inr (3, [.int 0, .int 0, .null, .null]))]) (As := [.ref q2]) hP hD hE hS hA [2] rfl (by decide)) rfl rfl hl.1 rfl (lv_room (Nat.le_of_ble_eq_true rfl)) dX6_init_30 ⟨Nat.le_of_ble_eq_true rfl, Nat.le_of_ble_eq_true rfl⟩) hP hD hS hA [2] [0, 1] rfl rfl (by decide) (by decide) (fun u3 H locs hP hD hS => ?_)
  have hP : va_P G.1 vwCl [(h0, .inr (6, [.ref q1, .int 0, .int 0])), (q1, .inl (G.2.2.1, 8, .inr (.inr (.inr (.inr (fun _ => none)))))), (q2, .inr (3, [.int 0, .int 0, .ref (u3 0), .ref (u3 1)])), ((u3 0), .inl (G.2.1, 4, .inl (fun _ => 0))), ((u3 1), .inl (G.2.1, 4, .inl (fun _ => 0)))] H := hP
  have hD : va_D A [(h0, .inr (6, [.ref q1, .int 0, .int 0])), (q1, .inl (G.2.2.1, 8, .inr (.inr (.inr (.inr (fun _ => none)))))), (q2, .inr (3, [.int 0, .int 0, .ref (u3 0), .ref (u3 1)])), ((u3 0), .inl (G.2.1, 4, .inl (fun _ => 0))), ((u3 1), .inl (G.2.1, 4, .inl (fun _ => 0)))] := hD
  refine W.eq (g2 := F0 m 33 ls [.ref q2, .int 0, .ref q1]) rfl ?_
  refine va_astq hx hb hE.1 hP hD hS 1 1 2 3 (r := (RX3, TX3, 4)) rfl rfl rfl rfl (zin (by decide +kernel)) dX6_init_33 (fun H locs hP hD hS => ?_)
  have hP : va_P G.1 vwCl [(h0, .inr (6, [.ref q1, .int 0, .int 0])), (q1, .inl (G.2.2.1, 8, .inr (.inr (.inr (.inr (va_up (fun _ => none) 0 (some q2))))))), (q2, .inr (3, [.int 0, .int 0, .ref (u3 0), .ref (u3 1)])), ((u3 0), .inl (G.2.1, 4, .inl (fun _ => 0))), ((u3 1), .inl (G.2.1, 4, .inl (fun _ => 0)))] H := hP
  have hD : va_D A [(h0, .inr (6, [.ref q1, .int 0, .int 0])), (q1, .inl (G.2.2.1, 8, .inr (.inr (.inr (.inr (va_up (fun _ => none) 0 (some q2))))))), (q2, .inr (3, [.int 0, .int 0, .ref (u3 0), .ref (u3 1)])), ((u3 0), .inl (G.2.1, 4, .inl (fun _ => 0))), ((u3 1), .inl (G.2.1, 4, .inl (fun _ => 0)))] := hD
  refine lv_iinc (v := 1) (lv' := [(1, .int 1), (0, .ref h0)]) hx hb dX6_init_34 hl (k := 0) rfl (by decide) (by decide) rfl (fun ls hl => ?_)
  refine lv_goto (tgt := 15) hx hb dX6_init_37 (by decide) ?_
  refine lv_iload_n hx hb dX6_init_15 rfl (lv_at hl 0 rfl) ?_
  refine lv_bipush (v := 8) hx hb dX6_init_16 (by decide) ?_
  refine lv_icmp_ge (tgt := 40) hx hb dX6_init_18 (by decide) (fun h9 => absurd h9 (by decide)) (fun _ => ?_)
  refine lv_aload_n hx hb dX6_init_21 rfl (lv_at hl 1 rfl) ?_
  refine va_get (D := G.1) (ci := 6) (v := .ref q1) (C := RX6) (T := TX6) (N := 3) hx hb hts hw6 hown hE.1 hP 0 rfl rfl 0 (by decide) hf11 (fun _ h9 => h9) rfl dX6_init_22 ?_
  refine lv_iload_n hx hb dX6_init_25 rfl (lv_at hl 0 rfl) ?_
  refine va_new (ci := 3) (fs := [.int 0, .int 0, .null, .null]) (C := RX3) (T := TX3) (N := 4) hx hb hts hw3 tyX3 tyX3_ok hown hcl9 hisX3 hiniX3 hE.1 hP hD hS hA rfl (fun j hj => by rcases (show j = 0 ∨ j = 1 ∨ j = 2 ∨ j = 3 by omega) with rfl | rfl | rfl | rfl <;> rfl) (Nat.le_of_ble_eq_true rfl) (Nat.le_of_ble_eq_true rfl) dX6_init_26 (fun q4 H hP hD hS => ?_)
  have hP : va_P G.1 vwCl [(h0, .inr (6, [.ref q1, .int 0, .int 0])), (q1, .inl (G.2.2.1, 8, .inr (.inr (.inr (.inr (va_up (fun _ => none) 0 (some q2))))))), (q2, .inr (3, [.int 0, .int 0, .ref (u3 0), .ref (u3 1)])), ((u3 0), .inl (G.2.1, 4, .inl (fun _ => 0))), ((u3 1), .inl (G.2.1, 4, .inl (fun _ => 0))), (q4, .inr (3, [.int 0, .int 0, .null, .null]))] H := hP
  have hD : va_D A [(h0, .inr (6, [.ref q1, .int 0, .int 0])), (q1, .inl (G.2.2.1, 8, .inr (.inr (.inr (.inr (va_up (fun _ => none) 0 (some q2))))))), (q2, .inr (3, [.int 0, .int 0, .ref (u3 0), .ref (u3 1)])), ((u3 0), .inl (G.2.1, 4, .inl (fun _ => 0))), ((u3 1), .inl (G.2.1, 4, .inl (fun _ => 0))), (q4, .inr (3, [.int 0, .int 0, .null, .null]))] := hD
  refine lv_dup hx hb dX6_init_29 rfl ?_
  refine zcall (wr := [(h0, .inr (6, [.ref q1, .int 0, .int 0])), (q1, .inl (G.2.2.1, 8, .inr (.inr (.inr (.inr (va_up (fun _ => none) 0 (some q2))))))), (q2, .inr (3, [.int 0, .int 0, .ref (u3 0), .ref (u3 1)])), ((u3 0), .inl (G.2.1, 4, .inl (fun _ => 0))), ((u3 1), .inl (G.2.1, 4, .inl (fun _ => 0)))]) (va_runIN (As := []) (rest := [.ref q4, .int 1, .ref q1]) ⟨hx, hb, hml, hown, hts⟩ (z_X3_init l G q4 H.size) ⟨va_cnB 0 hts gX6_init_X3_init_n17 rfl rfl rfl hE.2.2.2.2.1.1 hiniX3 (by decide +kernel) ⟨Nat.le_of_ble_eq_true rfl, Nat.le_of_ble_eq_true rfl⟩, rfl, hinsX3_init⟩ (zPre (Wc := [(q4, .inr (3, [.int 0, .int 0, .null, .null]))]) (As := [.ref q4]) hP hD hE hS hA [5] rfl (by decide)) rfl rfl hl.1 rfl (lv_room (Nat.le_of_ble_eq_true rfl)) dX6_init_30 ⟨Nat.le_of_ble_eq_true rfl, Nat.le_of_ble_eq_true rfl⟩) hP hD hS hA [5] [0, 1, 2, 3, 4] rfl rfl (by decide) (by decide) (fun u5 H locs hP hD hS => ?_)
  have hP : va_P G.1 vwCl [(h0, .inr (6, [.ref q1, .int 0, .int 0])), (q1, .inl (G.2.2.1, 8, .inr (.inr (.inr (.inr (va_up (fun _ => none) 0 (some q2))))))), (q2, .inr (3, [.int 0, .int 0, .ref (u3 0), .ref (u3 1)])), ((u3 0), .inl (G.2.1, 4, .inl (fun _ => 0))), ((u3 1), .inl (G.2.1, 4, .inl (fun _ => 0))), (q4, .inr (3, [.int 0, .int 0, .ref (u5 0), .ref (u5 1)])), ((u5 0), .inl (G.2.1, 4, .inl (fun _ => 0))), ((u5 1), .inl (G.2.1, 4, .inl (fun _ => 0)))] H := hP
  have hD : va_D A [(h0, .inr (6, [.ref q1, .int 0, .int 0])), (q1, .inl (G.2.2.1, 8, .inr (.inr (.inr (.inr (va_up (fun _ => none) 0 (some q2))))))), (q2, .inr (3, [.int 0, .int 0, .ref (u3 0), .ref (u3 1)])), ((u3 0), .inl (G.2.1, 4, .inl (fun _ => 0))), ((u3 1), .inl (G.2.1, 4, .inl (fun _ => 0))), (q4, .inr (3, [.int 0, .int 0, .ref (u5 0), .ref (u5 1)])), ((u5 0), .inl (G.2.1, 4, .inl (fun _ => 0))), ((u5 1), .inl (G.2.1, 4, .inl (fun _ => 0)))] := hD
  refine W.eq (g2 := F0 m 33 ls [.ref q4, .int 1, .ref q1]) rfl ?_
  refine va_astq hx hb hE.1 hP hD hS 1 1 5 3 (r := (RX3, TX3, 4)) rfl rfl rfl rfl (zin (by decide +kernel)) dX6_init_33 (fun H locs hP hD hS => ?_)
  have hP : va_P G.1 vwCl [(h0, .inr (6, [.ref q1, .int 0, .int 0])), (q1, .inl (G.2.2.1, 8, .inr (.inr (.inr (.inr (va_up (va_up (fun _ => none) 0 (some q2)) 1 (some q4))))))), (q2, .inr (3, [.int 0, .int 0, .ref (u3 0), .ref (u3 1)])), ((u3 0), .inl (G.2.1, 4, .inl (fun _ => 0))), ((u3 1), .inl (G.2.1, 4, .inl (fun _ => 0))), (q4, .inr (3, [.int 0, .int 0, .ref (u5 0), .ref (u5 1)])), ((u5 0), .inl (G.2.1, 4, .inl (fun _ => 0))), ((u5 1), .inl (G.2.1, 4, .inl (fun _ => 0)))] H := hP
  have hD : va_D A [(h0, .inr (6, [.ref q1, .int 0, .int 0])), (q1, .inl (G.2.2.1, 8, .inr (.inr (.inr (.inr (va_up (va_up (fun _ => none) 0 (some q2)) 1 (some q4))))))), (q2, .inr (3, [.int 0, .int 0, .ref (u3 0), .ref (u3 1)])), ((u3 0), .inl (G.2.1, 4, .inl (fun _ => 0))), ((u3 1), .inl (G.2.1, 4, .inl (fun _ => 0))), (q4, .inr (3, [.int 0, .int 0, .ref (u5 0), .ref (u5 1)])), ((u5 0), .inl (G.2.1, 4, .inl (fun _ => 0))), ((u5 1), .inl (G.2.1, 4, .inl (fun _ => 0)))] := hD
  have hP := hP.sub (ws' := [(h0, .inr (6, [.ref q1, .int 0, .int 0])), (q1, .inl (G.2.2.1, 8, .inr (.inr (.inr (.inr (va_up (va_up (fun _ => none) 0 (some q2)) 1 (some q4))))))), (q2, .inr (3, [.int 0, .int 0, .ref (u3 0), .ref (u3 1)])), ((u3 0), .inl (G.2.1, 4, .inl (fun _ => 0))), ((u3 1), .inl (G.2.1, 4, .inl (fun _ => 0)))]) [0, 1, 2, 3, 4] rfl
  have hD := hD.sub (ws' := [(h0, .inr (6, [.ref q1, .int 0, .int 0])), (q1, .inl (G.2.2.1, 8, .inr (.inr (.inr (.inr (va_up (va_up (fun _ => none) 0 (some q2)) 1 (some q4))))))), (q2, .inr (3, [.int 0, .int 0, .ref (u3 0), .ref (u3 1)])), ((u3 0), .inl (G.2.1, 4, .inl (fun _ => 0))), ((u3 1), .inl (G.2.1, 4, .inl (fun _ => 0)))]) [0, 1, 2, 3, 4] (by decide) rfl
  refine lv_iinc (v := 2) (lv' := [(1, .int 2), (0, .ref h0)]) hx hb dX6_init_34 hl (k := 0) rfl (by decide) (by decide) rfl (fun ls hl => ?_)
  refine lv_goto (tgt := 15) hx hb dX6_init_37 (by decide) ?_
  refine lv_iload_n hx hb dX6_init_15 rfl (lv_at hl 0 rfl) ?_
  refine lv_bipush (v := 8) hx hb dX6_init_16 (by decide) ?_
  refine lv_icmp_ge (tgt := 40) hx hb dX6_init_18 (by decide) (fun h9 => absurd h9 (by decide)) (fun _ => ?_)
  refine lv_aload_n hx hb dX6_init_21 rfl (lv_at hl 1 rfl) ?_
  refine va_get (D := G.1) (ci := 6) (v := .ref q1) (C := RX6) (T := TX6) (N := 3) hx hb hts hw6 hown hE.1 hP 0 rfl rfl 0 (by decide) hf11 (fun _ h9 => h9) rfl dX6_init_22 ?_
  refine lv_iload_n hx hb dX6_init_25 rfl (lv_at hl 0 rfl) ?_
  refine va_new (ci := 3) (fs := [.int 0, .int 0, .null, .null]) (C := RX3) (T := TX3) (N := 4) hx hb hts hw3 tyX3 tyX3_ok hown hcl9 hisX3 hiniX3 hE.1 hP hD hS hA rfl (fun j hj => by rcases (show j = 0 ∨ j = 1 ∨ j = 2 ∨ j = 3 by omega) with rfl | rfl | rfl | rfl <;> rfl) (Nat.le_of_ble_eq_true rfl) (Nat.le_of_ble_eq_true rfl) dX6_init_26 (fun q6 H hP hD hS => ?_)
  have hP : va_P G.1 vwCl [(h0, .inr (6, [.ref q1, .int 0, .int 0])), (q1, .inl (G.2.2.1, 8, .inr (.inr (.inr (.inr (va_up (va_up (fun _ => none) 0 (some q2)) 1 (some q4))))))), (q2, .inr (3, [.int 0, .int 0, .ref (u3 0), .ref (u3 1)])), ((u3 0), .inl (G.2.1, 4, .inl (fun _ => 0))), ((u3 1), .inl (G.2.1, 4, .inl (fun _ => 0))), (q6, .inr (3, [.int 0, .int 0, .null, .null]))] H := hP
  have hD : va_D A [(h0, .inr (6, [.ref q1, .int 0, .int 0])), (q1, .inl (G.2.2.1, 8, .inr (.inr (.inr (.inr (va_up (va_up (fun _ => none) 0 (some q2)) 1 (some q4))))))), (q2, .inr (3, [.int 0, .int 0, .ref (u3 0), .ref (u3 1)])), ((u3 0), .inl (G.2.1, 4, .inl (fun _ => 0))), ((u3 1), .inl (G.2.1, 4, .inl (fun _ => 0))), (q6, .inr (3, [.int 0, .int 0, .null, .null]))] := hD
  refine lv_dup hx hb dX6_init_29 rfl ?_
  refine zcall (wr := [(h0, .inr (6, [.ref q1, .int 0, .int 0])), (q1, .inl (G.2.2.1, 8, .inr (.inr (.inr (.inr (va_up (va_up (fun _ => none) 0 (some q2)) 1 (some q4))))))), (q2, .inr (3, [.int 0, .int 0, .ref (u3 0), .ref (u3 1)])), ((u3 0), .inl (G.2.1, 4, .inl (fun _ => 0))), ((u3 1), .inl (G.2.1, 4, .inl (fun _ => 0)))]) (va_runIN (As := []) (rest := [.ref q6, .int 2, .ref q1]) ⟨hx, hb, hml, hown, hts⟩ (z_X3_init l G q6 H.size) ⟨va_cnB 0 hts gX6_init_X3_init_n17 rfl rfl rfl hE.2.2.2.2.1.1 hiniX3 (by decide +kernel) ⟨Nat.le_of_ble_eq_true rfl, Nat.le_of_ble_eq_true rfl⟩, rfl, hinsX3_init⟩ (zPre (Wc := [(q6, .inr (3, [.int 0, .int 0, .null, .null]))]) (As := [.ref q6]) hP hD hE hS hA [5] rfl (by decide)) rfl rfl hl.1 rfl (lv_room (Nat.le_of_ble_eq_true rfl)) dX6_init_30 ⟨Nat.le_of_ble_eq_true rfl, Nat.le_of_ble_eq_true rfl⟩) hP hD hS hA [5] [0, 1, 2, 3, 4] rfl rfl (by decide) (by decide) (fun u7 H locs hP hD hS => ?_)
  have hP : va_P G.1 vwCl [(h0, .inr (6, [.ref q1, .int 0, .int 0])), (q1, .inl (G.2.2.1, 8, .inr (.inr (.inr (.inr (va_up (va_up (fun _ => none) 0 (some q2)) 1 (some q4))))))), (q2, .inr (3, [.int 0, .int 0, .ref (u3 0), .ref (u3 1)])), ((u3 0), .inl (G.2.1, 4, .inl (fun _ => 0))), ((u3 1), .inl (G.2.1, 4, .inl (fun _ => 0))), (q6, .inr (3, [.int 0, .int 0, .ref (u7 0), .ref (u7 1)])), ((u7 0), .inl (G.2.1, 4, .inl (fun _ => 0))), ((u7 1), .inl (G.2.1, 4, .inl (fun _ => 0)))] H := hP
  have hD : va_D A [(h0, .inr (6, [.ref q1, .int 0, .int 0])), (q1, .inl (G.2.2.1, 8, .inr (.inr (.inr (.inr (va_up (va_up (fun _ => none) 0 (some q2)) 1 (some q4))))))), (q2, .inr (3, [.int 0, .int 0, .ref (u3 0), .ref (u3 1)])), ((u3 0), .inl (G.2.1, 4, .inl (fun _ => 0))), ((u3 1), .inl (G.2.1, 4, .inl (fun _ => 0))), (q6, .inr (3, [.int 0, .int 0, .ref (u7 0), .ref (u7 1)])), ((u7 0), .inl (G.2.1, 4, .inl (fun _ => 0))), ((u7 1), .inl (G.2.1, 4, .inl (fun _ => 0)))] := hD
  refine W.eq (g2 := F0 m 33 ls [.ref q6, .int 2, .ref q1]) rfl ?_
  refine va_astq hx hb hE.1 hP hD hS 1 1 5 3 (r := (RX3, TX3, 4)) rfl rfl rfl rfl (zin (by decide +kernel)) dX6_init_33 (fun H locs hP hD hS => ?_)
  have hP : va_P G.1 vwCl [(h0, .inr (6, [.ref q1, .int 0, .int 0])), (q1, .inl (G.2.2.1, 8, .inr (.inr (.inr (.inr (va_up (va_up (va_up (fun _ => none) 0 (some q2)) 1 (some q4)) 2 (some q6))))))), (q2, .inr (3, [.int 0, .int 0, .ref (u3 0), .ref (u3 1)])), ((u3 0), .inl (G.2.1, 4, .inl (fun _ => 0))), ((u3 1), .inl (G.2.1, 4, .inl (fun _ => 0))), (q6, .inr (3, [.int 0, .int 0, .ref (u7 0), .ref (u7 1)])), ((u7 0), .inl (G.2.1, 4, .inl (fun _ => 0))), ((u7 1), .inl (G.2.1, 4, .inl (fun _ => 0)))] H := hP
  have hD : va_D A [(h0, .inr (6, [.ref q1, .int 0, .int 0])), (q1, .inl (G.2.2.1, 8, .inr (.inr (.inr (.inr (va_up (va_up (va_up (fun _ => none) 0 (some q2)) 1 (some q4)) 2 (some q6))))))), (q2, .inr (3, [.int 0, .int 0, .ref (u3 0), .ref (u3 1)])), ((u3 0), .inl (G.2.1, 4, .inl (fun _ => 0))), ((u3 1), .inl (G.2.1, 4, .inl (fun _ => 0))), (q6, .inr (3, [.int 0, .int 0, .ref (u7 0), .ref (u7 1)])), ((u7 0), .inl (G.2.1, 4, .inl (fun _ => 0))), ((u7 1), .inl (G.2.1, 4, .inl (fun _ => 0)))] := hD
  have hP := hP.sub (ws' := [(h0, .inr (6, [.ref q1, .int 0, .int 0])), (q1, .inl (G.2.2.1, 8, .inr (.inr (.inr (.inr (va_up (va_up (va_up (fun _ => none) 0 (some q2)) 1 (some q4)) 2 (some q6))))))), (q2, .inr (3, [.int 0, .int 0, .ref (u3 0), .ref (u3 1)])), ((u3 0), .inl (G.2.1, 4, .inl (fun _ => 0))), ((u3 1), .inl (G.2.1, 4, .inl (fun _ => 0)))]) [0, 1, 2, 3, 4] rfl
  have hD := hD.sub (ws' := [(h0, .inr (6, [.ref q1, .int 0, .int 0])), (q1, .inl (G.2.2.1, 8, .inr (.inr (.inr (.inr (va_up (va_up (va_up (fun _ => none) 0 (some q2)) 1 (some q4)) 2 (some q6))))))), (q2, .inr (3, [.int 0, .int 0, .ref (u3 0), .ref (u3 1)])), ((u3 0), .inl (G.2.1, 4, .inl (fun _ => 0))), ((u3 1), .inl (G.2.1, 4, .inl (fun _ => 0)))]) [0, 1, 2, 3, 4] (by decide) rfl
  refine lv_iinc (v := 3) (lv' := [(1, .int 3), (0, .ref h0)]) hx hb dX6_init_34 hl (k := 0) rfl (by decide) (by decide) rfl (fun ls hl => ?_)
  refine lv_goto (tgt := 15) hx hb dX6_init_37 (by decide) ?_
  refine lv_iload_n hx hb dX6_init_15 rfl (lv_at hl 0 rfl) ?_
  refine lv_bipush (v := 8) hx hb dX6_init_16 (by decide) ?_
  refine lv_icmp_ge (tgt := 40) hx hb dX6_init_18 (by decide) (fun h9 => absurd h9 (by decide)) (fun _ => ?_)
  refine lv_aload_n hx hb dX6_init_21 rfl (lv_at hl 1 rfl) ?_
  refine va_get (D := G.1) (ci := 6) (v := .ref q1) (C := RX6) (T := TX6) (N := 3) hx hb hts hw6 hown hE.1 hP 0 rfl rfl 0 (by decide) hf11 (fun _ h9 => h9) rfl dX6_init_22 ?_
  refine lv_iload_n hx hb dX6_init_25 rfl (lv_at hl 0 rfl) ?_
  refine va_new (ci := 3) (fs := [.int 0, .int 0, .null, .null]) (C := RX3) (T := TX3) (N := 4) hx hb hts hw3 tyX3 tyX3_ok hown hcl9 hisX3 hiniX3 hE.1 hP hD hS hA rfl (fun j hj => by rcases (show j = 0 ∨ j = 1 ∨ j = 2 ∨ j = 3 by omega) with rfl | rfl | rfl | rfl <;> rfl) (Nat.le_of_ble_eq_true rfl) (Nat.le_of_ble_eq_true rfl) dX6_init_26 (fun q8 H hP hD hS => ?_)
  have hP : va_P G.1 vwCl [(h0, .inr (6, [.ref q1, .int 0, .int 0])), (q1, .inl (G.2.2.1, 8, .inr (.inr (.inr (.inr (va_up (va_up (va_up (fun _ => none) 0 (some q2)) 1 (some q4)) 2 (some q6))))))), (q2, .inr (3, [.int 0, .int 0, .ref (u3 0), .ref (u3 1)])), ((u3 0), .inl (G.2.1, 4, .inl (fun _ => 0))), ((u3 1), .inl (G.2.1, 4, .inl (fun _ => 0))), (q8, .inr (3, [.int 0, .int 0, .null, .null]))] H := hP
  have hD : va_D A [(h0, .inr (6, [.ref q1, .int 0, .int 0])), (q1, .inl (G.2.2.1, 8, .inr (.inr (.inr (.inr (va_up (va_up (va_up (fun _ => none) 0 (some q2)) 1 (some q4)) 2 (some q6))))))), (q2, .inr (3, [.int 0, .int 0, .ref (u3 0), .ref (u3 1)])), ((u3 0), .inl (G.2.1, 4, .inl (fun _ => 0))), ((u3 1), .inl (G.2.1, 4, .inl (fun _ => 0))), (q8, .inr (3, [.int 0, .int 0, .null, .null]))] := hD
  refine lv_dup hx hb dX6_init_29 rfl ?_
  refine zcall (wr := [(h0, .inr (6, [.ref q1, .int 0, .int 0])), (q1, .inl (G.2.2.1, 8, .inr (.inr (.inr (.inr (va_up (va_up (va_up (fun _ => none) 0 (some q2)) 1 (some q4)) 2 (some q6))))))), (q2, .inr (3, [.int 0, .int 0, .ref (u3 0), .ref (u3 1)])), ((u3 0), .inl (G.2.1, 4, .inl (fun _ => 0))), ((u3 1), .inl (G.2.1, 4, .inl (fun _ => 0)))]) (va_runIN (As := []) (rest := [.ref q8, .int 3, .ref q1]) ⟨hx, hb, hml, hown, hts⟩ (z_X3_init l G q8 H.size) ⟨va_cnB 0 hts gX6_init_X3_init_n17 rfl rfl rfl hE.2.2.2.2.1.1 hiniX3 (by decide +kernel) ⟨Nat.le_of_ble_eq_true rfl, Nat.le_of_ble_eq_true rfl⟩, rfl, hinsX3_init⟩ (zPre (Wc := [(q8, .inr (3, [.int 0, .int 0, .null, .null]))]) (As := [.ref q8]) hP hD hE hS hA [5] rfl (by decide)) rfl rfl hl.1 rfl (lv_room (Nat.le_of_ble_eq_true rfl)) dX6_init_30 ⟨Nat.le_of_ble_eq_true rfl, Nat.le_of_ble_eq_true rfl⟩) hP hD hS hA [5] [0, 1, 2, 3, 4] rfl rfl (by decide) (by decide) (fun u9 H locs hP hD hS => ?_)
  have hP : va_P G.1 vwCl [(h0, .inr (6, [.ref q1, .int 0, .int 0])), (q1, .inl (G.2.2.1, 8, .inr (.inr (.inr (.inr (va_up (va_up (va_up (fun _ => none) 0 (some q2)) 1 (some q4)) 2 (some q6))))))), (q2, .inr (3, [.int 0, .int 0, .ref (u3 0), .ref (u3 1)])), ((u3 0), .inl (G.2.1, 4, .inl (fun _ => 0))), ((u3 1), .inl (G.2.1, 4, .inl (fun _ => 0))), (q8, .inr (3, [.int 0, .int 0, .ref (u9 0), .ref (u9 1)])), ((u9 0), .inl (G.2.1, 4, .inl (fun _ => 0))), ((u9 1), .inl (G.2.1, 4, .inl (fun _ => 0)))] H := hP
  have hD : va_D A [(h0, .inr (6, [.ref q1, .int 0, .int 0])), (q1, .inl (G.2.2.1, 8, .inr (.inr (.inr (.inr (va_up (va_up (va_up (fun _ => none) 0 (some q2)) 1 (some q4)) 2 (some q6))))))), (q2, .inr (3, [.int 0, .int 0, .ref (u3 0), .ref (u3 1)])), ((u3 0), .inl (G.2.1, 4, .inl (fun _ => 0))), ((u3 1), .inl (G.2.1, 4, .inl (fun _ => 0))), (q8, .inr (3, [.int 0, .int 0, .ref (u9 0), .ref (u9 1)])), ((u9 0), .inl (G.2.1, 4, .inl (fun _ => 0))), ((u9 1), .inl (G.2.1, 4, .inl (fun _ => 0)))] := hD
  refine W.eq (g2 := F0 m 33 ls [.ref q8, .int 3, .ref q1]) rfl ?_
  refine va_astq hx hb hE.1 hP hD hS 1 1 5 3 (r := (RX3, TX3, 4)) rfl rfl rfl rfl (zin (by decide +kernel)) dX6_init_33 (fun H locs hP hD hS => ?_)
  have hP : va_P G.1 vwCl [(h0, .inr (6, [.ref q1, .int 0, .int 0])), (q1, .inl (G.2.2.1, 8, .inr (.inr (.inr (.inr (va_up (va_up (va_up (va_up (fun _ => none) 0 (some q2)) 1 (some q4)) 2 (some q6)) 3 (some q8))))))), (q2, .inr (3, [.int 0, .int 0, .ref (u3 0), .ref (u3 1)])), ((u3 0), .inl (G.2.1, 4, .inl (fun _ => 0))), ((u3 1), .inl (G.2.1, 4, .inl (fun _ => 0))), (q8, .inr (3, [.int 0, .int 0, .ref (u9 0), .ref (u9 1)])), ((u9 0), .inl (G.2.1, 4, .inl (fun _ => 0))), ((u9 1), .inl (G.2.1, 4, .inl (fun _ => 0)))] H := hP
  have hD : va_D A [(h0, .inr (6, [.ref q1, .int 0, .int 0])), (q1, .inl (G.2.2.1, 8, .inr (.inr (.inr (.inr (va_up (va_up (va_up (va_up (fun _ => none) 0 (some q2)) 1 (some q4)) 2 (some q6)) 3 (some q8))))))), (q2, .inr (3, [.int 0, .int 0, .ref (u3 0), .ref (u3 1)])), ((u3 0), .inl (G.2.1, 4, .inl (fun _ => 0))), ((u3 1), .inl (G.2.1, 4, .inl (fun _ => 0))), (q8, .inr (3, [.int 0, .int 0, .ref (u9 0), .ref (u9 1)])), ((u9 0), .inl (G.2.1, 4, .inl (fun _ => 0))), ((u9 1), .inl (G.2.1, 4, .inl (fun _ => 0)))] := hD
  have hP := hP.sub (ws' := [(h0, .inr (6, [.ref q1, .int 0, .int 0])), (q1, .inl (G.2.2.1, 8, .inr (.inr (.inr (.inr (va_up (va_up (va_up (va_up (fun _ => none) 0 (some q2)) 1 (some q4)) 2 (some q6)) 3 (some q8))))))), (q2, .inr (3, [.int 0, .int 0, .ref (u3 0), .ref (u3 1)])), ((u3 0), .inl (G.2.1, 4, .inl (fun _ => 0))), ((u3 1), .inl (G.2.1, 4, .inl (fun _ => 0)))]) [0, 1, 2, 3, 4] rfl
  have hD := hD.sub (ws' := [(h0, .inr (6, [.ref q1, .int 0, .int 0])), (q1, .inl (G.2.2.1, 8, .inr (.inr (.inr (.inr (va_up (va_up (va_up (va_up (fun _ => none) 0 (some q2)) 1 (some q4)) 2 (some q6)) 3 (some q8))))))), (q2, .inr (3, [.int 0, .int 0, .ref (u3 0), .ref (u3 1)])), ((u3 0), .inl (G.2.1, 4, .inl (fun _ => 0))), ((u3 1), .inl (G.2.1, 4, .inl (fun _ => 0)))]) [0, 1, 2, 3, 4] (by decide) rfl
  refine lv_iinc (v := 4) (lv' := [(1, .int 4), (0, .ref h0)]) hx hb dX6_init_34 hl (k := 0) rfl (by decide) (by decide) rfl (fun ls hl => ?_)
  refine lv_goto (tgt := 15) hx hb dX6_init_37 (by decide) ?_
  refine lv_iload_n hx hb dX6_init_15 rfl (lv_at hl 0 rfl) ?_
  refine lv_bipush (v := 8) hx hb dX6_init_16 (by decide) ?_
  refine lv_icmp_ge (tgt := 40) hx hb dX6_init_18 (by decide) (fun h9 => absurd h9 (by decide)) (fun _ => ?_)
  refine lv_aload_n hx hb dX6_init_21 rfl (lv_at hl 1 rfl) ?_
  refine va_get (D := G.1) (ci := 6) (v := .ref q1) (C := RX6) (T := TX6) (N := 3) hx hb hts hw6 hown hE.1 hP 0 rfl rfl 0 (by decide) hf11 (fun _ h9 => h9) rfl dX6_init_22 ?_
  refine lv_iload_n hx hb dX6_init_25 rfl (lv_at hl 0 rfl) ?_
  refine va_new (ci := 3) (fs := [.int 0, .int 0, .null, .null]) (C := RX3) (T := TX3) (N := 4) hx hb hts hw3 tyX3 tyX3_ok hown hcl9 hisX3 hiniX3 hE.1 hP hD hS hA rfl (fun j hj => by rcases (show j = 0 ∨ j = 1 ∨ j = 2 ∨ j = 3 by omega) with rfl | rfl | rfl | rfl <;> rfl) (Nat.le_of_ble_eq_true rfl) (Nat.le_of_ble_eq_true rfl) dX6_init_26 (fun q10 H hP hD hS => ?_)
  have hP : va_P G.1 vwCl [(h0, .inr (6, [.ref q1, .int 0, .int 0])), (q1, .inl (G.2.2.1, 8, .inr (.inr (.inr (.inr (va_up (va_up (va_up (va_up (fun _ => none) 0 (some q2)) 1 (some q4)) 2 (some q6)) 3 (some q8))))))), (q2, .inr (3, [.int 0, .int 0, .ref (u3 0), .ref (u3 1)])), ((u3 0), .inl (G.2.1, 4, .inl (fun _ => 0))), ((u3 1), .inl (G.2.1, 4, .inl (fun _ => 0))), (q10, .inr (3, [.int 0, .int 0, .null, .null]))] H := hP
  have hD : va_D A [(h0, .inr (6, [.ref q1, .int 0, .int 0])), (q1, .inl (G.2.2.1, 8, .inr (.inr (.inr (.inr (va_up (va_up (va_up (va_up (fun _ => none) 0 (some q2)) 1 (some q4)) 2 (some q6)) 3 (some q8))))))), (q2, .inr (3, [.int 0, .int 0, .ref (u3 0), .ref (u3 1)])), ((u3 0), .inl (G.2.1, 4, .inl (fun _ => 0))), ((u3 1), .inl (G.2.1, 4, .inl (fun _ => 0))), (q10, .inr (3, [.int 0, .int 0, .null, .null]))] := hD
  refine lv_dup hx hb dX6_init_29 rfl ?_
  refine zcall (wr := [(h0, .inr (6, [.ref q1, .int 0, .int 0])), (q1, .inl (G.2.2.1, 8, .inr (.inr (.inr (.inr (va_up (va_up (va_up (va_up (fun _ => none) 0 (some q2)) 1 (some q4)) 2 (some q6)) 3 (some q8))))))), (q2, .inr (3, [.int 0, .int 0, .ref (u3 0), .ref (u3 1)])), ((u3 0), .inl (G.2.1, 4, .inl (fun _ => 0))), ((u3 1), .inl (G.2.1, 4, .inl (fun _ => 0)))]) (va_runIN (As := []) (rest := [.ref q10, .int 4, .ref q1]) ⟨hx, hb, hml, hown, hts⟩ (z_X3_init l G q10 H.size) ⟨va_cnB 0 hts gX6_init_X3_init_n17 rfl rfl rfl hE.2.2.2.2.1.1 hiniX3 (by decide +kernel) ⟨Nat.le_of_ble_eq_true rfl, Nat.le_of_ble_eq_true rfl⟩, rfl, hinsX3_init⟩ (zPre (Wc := [(q10, .inr (3, [.int 0, .int 0, .null, .null]))]) (As := [.ref q10]) hP hD hE hS hA [5] rfl (by decide)) rfl rfl hl.1 rfl (lv_room (Nat.le_of_ble_eq_true rfl)) dX6_init_30 ⟨Nat.le_of_ble_eq_true rfl, Nat.le_of_ble_eq_true rfl⟩) hP hD hS hA [5] [0, 1, 2, 3, 4] rfl rfl (by decide) (by decide) (fun u11 H locs hP hD hS => ?_)
  have hP : va_P G.1 vwCl [(h0, .inr (6, [.ref q1, .int 0, .int 0])), (q1, .inl (G.2.2.1, 8, .inr (.inr (.inr (.inr (va_up (va_up (va_up (va_up (fun _ => none) 0 (some q2)) 1 (some q4)) 2 (some q6)) 3 (some q8))))))), (q2, .inr (3, [.int 0, .int 0, .ref (u3 0), .ref (u3 1)])), ((u3 0), .inl (G.2.1, 4, .inl (fun _ => 0))), ((u3 1), .inl (G.2.1, 4, .inl (fun _ => 0))), (q10, .inr (3, [.int 0, .int 0, .ref (u11 0), .ref (u11 1)])), ((u11 0), .inl (G.2.1, 4, .inl (fun _ => 0))), ((u11 1), .inl (G.2.1, 4, .inl (fun _ => 0)))] H := hP
  have hD : va_D A [(h0, .inr (6, [.ref q1, .int 0, .int 0])), (q1, .inl (G.2.2.1, 8, .inr (.inr (.inr (.inr (va_up (va_up (va_up (va_up (fun _ => none) 0 (some q2)) 1 (some q4)) 2 (some q6)) 3 (some q8))))))), (q2, .inr (3, [.int 0, .int 0, .ref (u3 0), .ref (u3 1)])), ((u3 0), .inl (G.2.1, 4, .inl (fun _ => 0))), ((u3 1), .inl (G.2.1, 4, .inl (fun _ => 0))), (q10, .inr (3, [.int 0, .int 0, .ref (u11 0), .ref (u11 1)])), ((u11 0), .inl (G.2.1, 4, .inl (fun _ => 0))), ((u11 1), .inl (G.2.1, 4, .inl (fun _ => 0)))] := hD
  refine W.eq (g2 := F0 m 33 ls [.ref q10, .int 4, .ref q1]) rfl ?_
  refine va_astq hx hb hE.1 hP hD hS 1 1 5 3 (r := (RX3, TX3, 4)) rfl rfl rfl rfl (zin (by decide +kernel)) dX6_init_33 (fun H locs hP hD hS => ?_)
  have hP : va_P G.1 vwCl [(h0, .inr (6, [.ref q1, .int 0, .int 0])), (q1, .inl (G.2.2.1, 8, .inr (.inr (.inr (.inr (va_up (va_up (va_up (va_up (va_up (fun _ => none) 0 (some q2)) 1 (some q4)) 2 (some q6)) 3 (some q8)) 4 (some q10))))))), (q2, .inr (3, [.int 0, .int 0, .ref (u3 0), .ref (u3 1)])), ((u3 0), .inl (G.2.1, 4, .inl (fun _ => 0))), ((u3 1), .inl (G.2.1, 4, .inl (fun _ => 0))), (q10, .inr (3, [.int 0, .int 0, .ref (u11 0), .ref (u11 1)])), ((u11 0), .inl (G.2.1, 4, .inl (fun _ => 0))), ((u11 1), .inl (G.2.1, 4, .inl (fun _ => 0)))] H := hP
  have hD : va_D A [(h0, .inr (6, [.ref q1, .int 0, .int 0])), (q1, .inl (G.2.2.1, 8, .inr (.inr (.inr (.inr (va_up (va_up (va_up (va_up (va_up (fun _ => none) 0 (some q2)) 1 (some q4)) 2 (some q6)) 3 (some q8)) 4 (some q10))))))), (q2, .inr (3, [.int 0, .int 0, .ref (u3 0), .ref (u3 1)])), ((u3 0), .inl (G.2.1, 4, .inl (fun _ => 0))), ((u3 1), .inl (G.2.1, 4, .inl (fun _ => 0))), (q10, .inr (3, [.int 0, .int 0, .ref (u11 0), .ref (u11 1)])), ((u11 0), .inl (G.2.1, 4, .inl (fun _ => 0))), ((u11 1), .inl (G.2.1, 4, .inl (fun _ => 0)))] := hD
  have hP := hP.sub (ws' := [(h0, .inr (6, [.ref q1, .int 0, .int 0])), (q1, .inl (G.2.2.1, 8, .inr (.inr (.inr (.inr (va_up (va_up (va_up (va_up (va_up (fun _ => none) 0 (some q2)) 1 (some q4)) 2 (some q6)) 3 (some q8)) 4 (some q10))))))), (q2, .inr (3, [.int 0, .int 0, .ref (u3 0), .ref (u3 1)])), ((u3 0), .inl (G.2.1, 4, .inl (fun _ => 0))), ((u3 1), .inl (G.2.1, 4, .inl (fun _ => 0)))]) [0, 1, 2, 3, 4] rfl
  have hD := hD.sub (ws' := [(h0, .inr (6, [.ref q1, .int 0, .int 0])), (q1, .inl (G.2.2.1, 8, .inr (.inr (.inr (.inr (va_up (va_up (va_up (va_up (va_up (fun _ => none) 0 (some q2)) 1 (some q4)) 2 (some q6)) 3 (some q8)) 4 (some q10))))))), (q2, .inr (3, [.int 0, .int 0, .ref (u3 0), .ref (u3 1)])), ((u3 0), .inl (G.2.1, 4, .inl (fun _ => 0))), ((u3 1), .inl (G.2.1, 4, .inl (fun _ => 0)))]) [0, 1, 2, 3, 4] (by decide) rfl
  refine lv_iinc (v := 5) (lv' := [(1, .int 5), (0, .ref h0)]) hx hb dX6_init_34 hl (k := 0) rfl (by decide) (by decide) rfl (fun ls hl => ?_)
  refine lv_goto (tgt := 15) hx hb dX6_init_37 (by decide) ?_
  refine lv_iload_n hx hb dX6_init_15 rfl (lv_at hl 0 rfl) ?_
  refine lv_bipush (v := 8) hx hb dX6_init_16 (by decide) ?_
  refine lv_icmp_ge (tgt := 40) hx hb dX6_init_18 (by decide) (fun h9 => absurd h9 (by decide)) (fun _ => ?_)
  refine lv_aload_n hx hb dX6_init_21 rfl (lv_at hl 1 rfl) ?_
  refine va_get (D := G.1) (ci := 6) (v := .ref q1) (C := RX6) (T := TX6) (N := 3) hx hb hts hw6 hown hE.1 hP 0 rfl rfl 0 (by decide) hf11 (fun _ h9 => h9) rfl dX6_init_22 ?_
  refine lv_iload_n hx hb dX6_init_25 rfl (lv_at hl 0 rfl) ?_
  refine va_new (ci := 3) (fs := [.int 0, .int 0, .null, .null]) (C := RX3) (T := TX3) (N := 4) hx hb hts hw3 tyX3 tyX3_ok hown hcl9 hisX3 hiniX3 hE.1 hP hD hS hA rfl (fun j hj => by rcases (show j = 0 ∨ j = 1 ∨ j = 2 ∨ j = 3 by omega) with rfl | rfl | rfl | rfl <;> rfl) (Nat.le_of_ble_eq_true rfl) (Nat.le_of_ble_eq_true rfl) dX6_init_26 (fun q12 H hP hD hS => ?_)
  have hP : va_P G.1 vwCl [(h0, .inr (6, [.ref q1, .int 0, .int 0])), (q1, .inl (G.2.2.1, 8, .inr (.inr (.inr (.inr (va_up (va_up (va_up (va_up (va_up (fun _ => none) 0 (some q2)) 1 (some q4)) 2 (some q6)) 3 (some q8)) 4 (some q10))))))), (q2, .inr (3, [.int 0, .int 0, .ref (u3 0), .ref (u3 1)])), ((u3 0), .inl (G.2.1, 4, .inl (fun _ => 0))), ((u3 1), .inl (G.2.1, 4, .inl (fun _ => 0))), (q12, .inr (3, [.int 0, .int 0, .null, .null]))] H := hP
  have hD : va_D A [(h0, .inr (6, [.ref q1, .int 0, .int 0])), (q1, .inl (G.2.2.1, 8, .inr (.inr (.inr (.inr (va_up (va_up (va_up (va_up (va_up (fun _ => none) 0 (some q2)) 1 (some q4)) 2 (some q6)) 3 (some q8)) 4 (some q10))))))), (q2, .inr (3, [.int 0, .int 0, .ref (u3 0), .ref (u3 1)])), ((u3 0), .inl (G.2.1, 4, .inl (fun _ => 0))), ((u3 1), .inl (G.2.1, 4, .inl (fun _ => 0))), (q12, .inr (3, [.int 0, .int 0, .null, .null]))] := hD
  refine lv_dup hx hb dX6_init_29 rfl ?_
  refine zcall (wr := [(h0, .inr (6, [.ref q1, .int 0, .int 0])), (q1, .inl (G.2.2.1, 8, .inr (.inr (.inr (.inr (va_up (va_up (va_up (va_up (va_up (fun _ => none) 0 (some q2)) 1 (some q4)) 2 (some q6)) 3 (some q8)) 4 (some q10))))))), (q2, .inr (3, [.int 0, .int 0, .ref (u3 0), .ref (u3 1)])), ((u3 0), .inl (G.2.1, 4, .inl (fun _ => 0))), ((u3 1), .inl (G.2.1, 4, .inl (fun _ => 0)))]) (va_runIN (As := []) (rest := [.ref q12, .int 5, .ref q1]) ⟨hx, hb, hml, hown, hts⟩ (z_X3_init l G q12 H.size) ⟨va_cnB 0 hts gX6_init_X3_init_n17 rfl rfl rfl hE.2.2.2.2.1.1 hiniX3 (by decide +kernel) ⟨Nat.le_of_ble_eq_true rfl, Nat.le_of_ble_eq_true rfl⟩, rfl, hinsX3_init⟩ (zPre (Wc := [(q12, .inr (3, [.int 0, .int 0, .null, .null]))]) (As := [.ref q12]) hP hD hE hS hA [5] rfl (by decide)) rfl rfl hl.1 rfl (lv_room (Nat.le_of_ble_eq_true rfl)) dX6_init_30 ⟨Nat.le_of_ble_eq_true rfl, Nat.le_of_ble_eq_true rfl⟩) hP hD hS hA [5] [0, 1, 2, 3, 4] rfl rfl (by decide) (by decide) (fun u13 H locs hP hD hS => ?_)
  have hP : va_P G.1 vwCl [(h0, .inr (6, [.ref q1, .int 0, .int 0])), (q1, .inl (G.2.2.1, 8, .inr (.inr (.inr (.inr (va_up (va_up (va_up (va_up (va_up (fun _ => none) 0 (some q2)) 1 (some q4)) 2 (some q6)) 3 (some q8)) 4 (some q10))))))), (q2, .inr (3, [.int 0, .int 0, .ref (u3 0), .ref (u3 1)])), ((u3 0), .inl (G.2.1, 4, .inl (fun _ => 0))), ((u3 1), .inl (G.2.1, 4, .inl (fun _ => 0))), (q12, .inr (3, [.int 0, .int 0, .ref (u13 0), .ref (u13 1)])), ((u13 0), .inl (G.2.1, 4, .inl (fun _ => 0))), ((u13 1), .inl (G.2.1, 4, .inl (fun _ => 0)))] H := hP
  have hD : va_D A [(h0, .inr (6, [.ref q1, .int 0, .int 0])), (q1, .inl (G.2.2.1, 8, .inr (.inr (.inr (.inr (va_up (va_up (va_up (va_up (va_up (fun _ => none) 0 (some q2)) 1 (some q4)) 2 (some q6)) 3 (some q8)) 4 (some q10))))))), (q2, .inr (3, [.int 0, .int 0, .ref (u3 0), .ref (u3 1)])), ((u3 0), .inl (G.2.1, 4, .inl (fun _ => 0))), ((u3 1), .inl (G.2.1, 4, .inl (fun _ => 0))), (q12, .inr (3, [.int 0, .int 0, .ref (u13 0), .ref (u13 1)])), ((u13 0), .inl (G.2.1, 4, .inl (fun _ => 0))), ((u13 1), .inl (G.2.1, 4, .inl (fun _ => 0)))] := hD
  refine W.eq (g2 := F0 m 33 ls [.ref q12, .int 5, .ref q1]) rfl ?_
  refine va_astq hx hb hE.1 hP hD hS 1 1 5 3 (r := (RX3, TX3, 4)) rfl rfl rfl rfl (zin (by decide +kernel)) dX6_init_33 (fun H locs hP hD hS => ?_)
  have hP : va_P G.1 vwCl [(h0, .inr (6, [.ref q1, .int 0, .int 0])), (q1, .inl (G.2.2.1, 8, .inr (.inr (.inr (.inr (va_up (va_up (va_up (va_up (va_up (va_up (fun _ => none) 0 (some q2)) 1 (some q4)) 2 (some q6)) 3 (some q8)) 4 (some q10)) 5 (some q12))))))), (q2, .inr (3, [.int 0, .int 0, .ref (u3 0), .ref (u3 1)])), ((u3 0), .inl (G.2.1, 4, .inl (fun _ => 0))), ((u3 1), .inl (G.2.1, 4, .inl (fun _ => 0))), (q12, .inr (3, [.int 0, .int 0, .ref (u13 0), .ref (u13 1)])), ((u13 0), .inl (G.2.1, 4, .inl (fun _ => 0))), ((u13 1), .inl (G.2.1, 4, .inl (fun _ => 0)))] H := hP
  have hD : va_D A [(h0, .inr (6, [.ref q1, .int 0, .int 0])), (q1, .inl (G.2.2.1, 8, .inr (.inr (.inr (.inr (va_up (va_up (va_up (va_up (va_up (va_up (fun _ => none) 0 (some q2)) 1 (some q4)) 2 (some q6)) 3 (some q8)) 4 (some q10)) 5 (some q12))))))), (q2, .inr (3, [.int 0, .int 0, .ref (u3 0), .ref (u3 1)])), ((u3 0), .inl (G.2.1, 4, .inl (fun _ => 0))), ((u3 1), .inl (G.2.1, 4, .inl (fun _ => 0))), (q12, .inr (3, [.int 0, .int 0, .ref (u13 0), .ref (u13 1)])), ((u13 0), .inl (G.2.1, 4, .inl (fun _ => 0))), ((u13 1), .inl (G.2.1, 4, .inl (fun _ => 0)))] := hD
  have hP := hP.sub (ws' := [(h0, .inr (6, [.ref q1, .int 0, .int 0])), (q1, .inl (G.2.2.1, 8, .inr (.inr (.inr (.inr (va_up (va_up (va_up (va_up (va_up (va_up (fun _ => none) 0 (some q2)) 1 (some q4)) 2 (some q6)) 3 (some q8)) 4 (some q10)) 5 (some q12))))))), (q2, .inr (3, [.int 0, .int 0, .ref (u3 0), .ref (u3 1)])), ((u3 0), .inl (G.2.1, 4, .inl (fun _ => 0))), ((u3 1), .inl (G.2.1, 4, .inl (fun _ => 0)))]) [0, 1, 2, 3, 4] rfl
  have hD := hD.sub (ws' := [(h0, .inr (6, [.ref q1, .int 0, .int 0])), (q1, .inl (G.2.2.1, 8, .inr (.inr (.inr (.inr (va_up (va_up (va_up (va_up (va_up (va_up (fun _ => none) 0 (some q2)) 1 (some q4)) 2 (some q6)) 3 (some q8)) 4 (some q10)) 5 (some q12))))))), (q2, .inr (3, [.int 0, .int 0, .ref (u3 0), .ref (u3 1)])), ((u3 0), .inl (G.2.1, 4, .inl (fun _ => 0))), ((u3 1), .inl (G.2.1, 4, .inl (fun _ => 0)))]) [0, 1, 2, 3, 4] (by decide) rfl
  refine lv_iinc (v := 6) (lv' := [(1, .int 6), (0, .ref h0)]) hx hb dX6_init_34 hl (k := 0) rfl (by decide) (by decide) rfl (fun ls hl => ?_)
  refine lv_goto (tgt := 15) hx hb dX6_init_37 (by decide) ?_
  refine lv_iload_n hx hb dX6_init_15 rfl (lv_at hl 0 rfl) ?_
  refine lv_bipush (v := 8) hx hb dX6_init_16 (by decide) ?_
  refine lv_icmp_ge (tgt := 40) hx hb dX6_init_18 (by decide) (fun h9 => absurd h9 (by decide)) (fun _ => ?_)
  refine lv_aload_n hx hb dX6_init_21 rfl (lv_at hl 1 rfl) ?_
  refine va_get (D := G.1) (ci := 6) (v := .ref q1) (C := RX6) (T := TX6) (N := 3) hx hb hts hw6 hown hE.1 hP 0 rfl rfl 0 (by decide) hf11 (fun _ h9 => h9) rfl dX6_init_22 ?_
  refine lv_iload_n hx hb dX6_init_25 rfl (lv_at hl 0 rfl) ?_
  refine va_new (ci := 3) (fs := [.int 0, .int 0, .null, .null]) (C := RX3) (T := TX3) (N := 4) hx hb hts hw3 tyX3 tyX3_ok hown hcl9 hisX3 hiniX3 hE.1 hP hD hS hA rfl (fun j hj => by rcases (show j = 0 ∨ j = 1 ∨ j = 2 ∨ j = 3 by omega) with rfl | rfl | rfl | rfl <;> rfl) (Nat.le_of_ble_eq_true rfl) (Nat.le_of_ble_eq_true rfl) dX6_init_26 (fun q14 H hP hD hS => ?_)
  have hP : va_P G.1 vwCl [(h0, .inr (6, [.ref q1, .int 0, .int 0])), (q1, .inl (G.2.2.1, 8, .inr (.inr (.inr (.inr (va_up (va_up (va_up (va_up (va_up (va_up (fun _ => none) 0 (some q2)) 1 (some q4)) 2 (some q6)) 3 (some q8)) 4 (some q10)) 5 (some q12))))))), (q2, .inr (3, [.int 0, .int 0, .ref (u3 0), .ref (u3 1)])), ((u3 0), .inl (G.2.1, 4, .inl (fun _ => 0))), ((u3 1), .inl (G.2.1, 4, .inl (fun _ => 0))), (q14, .inr (3, [.int 0, .int 0, .null, .null]))] H := hP
  have hD : va_D A [(h0, .inr (6, [.ref q1, .int 0, .int 0])), (q1, .inl (G.2.2.1, 8, .inr (.inr (.inr (.inr (va_up (va_up (va_up (va_up (va_up (va_up (fun _ => none) 0 (some q2)) 1 (some q4)) 2 (some q6)) 3 (some q8)) 4 (some q10)) 5 (some q12))))))), (q2, .inr (3, [.int 0, .int 0, .ref (u3 0), .ref (u3 1)])), ((u3 0), .inl (G.2.1, 4, .inl (fun _ => 0))), ((u3 1), .inl (G.2.1, 4, .inl (fun _ => 0))), (q14, .inr (3, [.int 0, .int 0, .null, .null]))] := hD
  refine lv_dup hx hb dX6_init_29 rfl ?_
  refine zcall (wr := [(h0, .inr (6, [.ref q1, .int 0, .int 0])), (q1, .inl (G.2.2.1, 8, .inr (.inr (.inr (.inr (va_up (va_up (va_up (va_up (va_up (va_up (fun _ => none) 0 (some q2)) 1 (some q4)) 2 (some q6)) 3 (some q8)) 4 (some q10)) 5 (some q12))))))), (q2, .inr (3, [.int 0, .int 0, .ref (u3 0), .ref (u3 1)])), ((u3 0), .inl (G.2.1, 4, .inl (fun _ => 0))), ((u3 1), .inl (G.2.1, 4, .inl (fun _ => 0)))]) (va_runIN (As := []) (rest := [.ref q14, .int 6, .ref q1]) ⟨hx, hb, hml, hown, hts⟩ (z_X3_init l G q14 H.size) ⟨va_cnB 0 hts gX6_init_X3_init_n17 rfl rfl rfl hE.2.2.2.2.1.1 hiniX3 (by decide +kernel) ⟨Nat.le_of_ble_eq_true rfl, Nat.le_of_ble_eq_true rfl⟩, rfl, hinsX3_init⟩ (zPre (Wc := [(q14, .inr (3, [.int 0, .int 0, .null, .null]))]) (As := [.ref q14]) hP hD hE hS hA [5] rfl (by decide)) rfl rfl hl.1 rfl (lv_room (Nat.le_of_ble_eq_true rfl)) dX6_init_30 ⟨Nat.le_of_ble_eq_true rfl, Nat.le_of_ble_eq_true rfl⟩) hP hD hS hA [5] [0, 1, 2, 3, 4] rfl rfl (by decide) (by decide) (fun u15 H locs hP hD hS => ?_)
  have hP : va_P G.1 vwCl [(h0, .inr (6, [.ref q1, .int 0, .int 0])), (q1, .inl (G.2.2.1, 8, .inr (.inr (.inr (.inr (va_up (va_up (va_up (va_up (va_up (va_up (fun _ => none) 0 (some q2)) 1 (some q4)) 2 (some q6)) 3 (some q8)) 4 (some q10)) 5 (some q12))))))), (q2, .inr (3, [.int 0, .int 0, .ref (u3 0), .ref (u3 1)])), ((u3 0), .inl (G.2.1, 4, .inl (fun _ => 0))), ((u3 1), .inl (G.2.1, 4, .inl (fun _ => 0))), (q14, .inr (3, [.int 0, .int 0, .ref (u15 0), .ref (u15 1)])), ((u15 0), .inl (G.2.1, 4, .inl (fun _ => 0))), ((u15 1), .inl (G.2.1, 4, .inl (fun _ => 0)))] H := hP
  have hD : va_D A [(h0, .inr (6, [.ref q1, .int 0, .int 0])), (q1, .inl (G.2.2.1, 8, .inr (.inr (.inr (.inr (va_up (va_up (va_up (va_up (va_up (va_up (fun _ => none) 0 (some q2)) 1 (some q4)) 2 (some q6)) 3 (some q8)) 4 (some q10)) 5 (some q12))))))), (q2, .inr (3, [.int 0, .int 0, .ref (u3 0), .ref (u3 1)])), ((u3 0), .inl (G.2.1, 4, .inl (fun _ => 0))), ((u3 1), .inl (G.2.1, 4, .inl (fun _ => 0))), (q14, .inr (3, [.int 0, .int 0, .ref (u15 0), .ref (u15 1)])), ((u15 0), .inl (G.2.1, 4, .inl (fun _ => 0))), ((u15 1), .inl (G.2.1, 4, .inl (fun _ => 0)))] := hD
  refine W.eq (g2 := F0 m 33 ls [.ref q14, .int 6, .ref q1]) rfl ?_
  refine va_astq hx hb hE.1 hP hD hS 1 1 5 3 (r := (RX3, TX3, 4)) rfl rfl rfl rfl (zin (by decide +kernel)) dX6_init_33 (fun H locs hP hD hS => ?_)
  have hP : va_P G.1 vwCl [(h0, .inr (6, [.ref q1, .int 0, .int 0])), (q1, .inl (G.2.2.1, 8, .inr (.inr (.inr (.inr (va_up (va_up (va_up (va_up (va_up (va_up (va_up (fun _ => none) 0 (some q2)) 1 (some q4)) 2 (some q6)) 3 (some q8)) 4 (some q10)) 5 (some q12)) 6 (some q14))))))), (q2, .inr (3, [.int 0, .int 0, .ref (u3 0), .ref (u3 1)])), ((u3 0), .inl (G.2.1, 4, .inl (fun _ => 0))), ((u3 1), .inl (G.2.1, 4, .inl (fun _ => 0))), (q14, .inr (3, [.int 0, .int 0, .ref (u15 0), .ref (u15 1)])), ((u15 0), .inl (G.2.1, 4, .inl (fun _ => 0))), ((u15 1), .inl (G.2.1, 4, .inl (fun _ => 0)))] H := hP
  have hD : va_D A [(h0, .inr (6, [.ref q1, .int 0, .int 0])), (q1, .inl (G.2.2.1, 8, .inr (.inr (.inr (.inr (va_up (va_up (va_up (va_up (va_up (va_up (va_up (fun _ => none) 0 (some q2)) 1 (some q4)) 2 (some q6)) 3 (some q8)) 4 (some q10)) 5 (some q12)) 6 (some q14))))))), (q2, .inr (3, [.int 0, .int 0, .ref (u3 0), .ref (u3 1)])), ((u3 0), .inl (G.2.1, 4, .inl (fun _ => 0))), ((u3 1), .inl (G.2.1, 4, .inl (fun _ => 0))), (q14, .inr (3, [.int 0, .int 0, .ref (u15 0), .ref (u15 1)])), ((u15 0), .inl (G.2.1, 4, .inl (fun _ => 0))), ((u15 1), .inl (G.2.1, 4, .inl (fun _ => 0)))] := hD
  have hP := hP.sub (ws' := [(h0, .inr (6, [.ref q1, .int 0, .int 0])), (q1, .inl (G.2.2.1, 8, .inr (.inr (.inr (.inr (va_up (va_up (va_up (va_up (va_up (va_up (va_up (fun _ => none) 0 (some q2)) 1 (some q4)) 2 (some q6)) 3 (some q8)) 4 (some q10)) 5 (some q12)) 6 (some q14))))))), (q2, .inr (3, [.int 0, .int 0, .ref (u3 0), .ref (u3 1)])), ((u3 0), .inl (G.2.1, 4, .inl (fun _ => 0))), ((u3 1), .inl (G.2.1, 4, .inl (fun _ => 0)))]) [0, 1, 2, 3, 4] rfl
  have hD := hD.sub (ws' := [(h0, .inr (6, [.ref q1, .int 0, .int 0])), (q1, .inl (G.2.2.1, 8, .inr (.inr (.inr (.inr (va_up (va_up (va_up (va_up (va_up (va_up (va_up (fun _ => none) 0 (some q2)) 1 (some q4)) 2 (some q6)) 3 (some q8)) 4 (some q10)) 5 (some q12)) 6 (some q14))))))), (q2, .inr (3, [.int 0, .int 0, .ref (u3 0), .ref (u3 1)])), ((u3 0), .inl (G.2.1, 4, .inl (fun _ => 0))), ((u3 1), .inl (G.2.1, 4, .inl (fun _ => 0)))]) [0, 1, 2, 3, 4] (by decide) rfl
  refine lv_iinc (v := 7) (lv' := [(1, .int 7), (0, .ref h0)]) hx hb dX6_init_34 hl (k := 0) rfl (by decide) (by decide) rfl (fun ls hl => ?_)
  refine lv_goto (tgt := 15) hx hb dX6_init_37 (by decide) ?_
  refine lv_iload_n hx hb dX6_init_15 rfl (lv_at hl 0 rfl) ?_
  refine lv_bipush (v := 8) hx hb dX6_init_16 (by decide) ?_
  refine lv_icmp_ge (tgt := 40) hx hb dX6_init_18 (by decide) (fun h9 => absurd h9 (by decide)) (fun _ => ?_)
  refine lv_aload_n hx hb dX6_init_21 rfl (lv_at hl 1 rfl) ?_
  refine va_get (D := G.1) (ci := 6) (v := .ref q1) (C := RX6) (T := TX6) (N := 3) hx hb hts hw6 hown hE.1 hP 0 rfl rfl 0 (by decide) hf11 (fun _ h9 => h9) rfl dX6_init_22 ?_
  refine lv_iload_n hx hb dX6_init_25 rfl (lv_at hl 0 rfl) ?_
  refine va_new (ci := 3) (fs := [.int 0, .int 0, .null, .null]) (C := RX3) (T := TX3) (N := 4) hx hb hts hw3 tyX3 tyX3_ok hown hcl9 hisX3 hiniX3 hE.1 hP hD hS hA rfl (fun j hj => by rcases (show j = 0 ∨ j = 1 ∨ j = 2 ∨ j = 3 by omega) with rfl | rfl | rfl | rfl <;> rfl) (Nat.le_of_ble_eq_true rfl) (Nat.le_of_ble_eq_true rfl) dX6_init_26 (fun q16 H hP hD hS => ?_)
  have hP : va_P G.1 vwCl [(h0, .inr (6, [.ref q1, .int 0, .int 0])), (q1, .inl (G.2.2.1, 8, .inr (.inr (.inr (.inr (va_up (va_up (va_up (va_up (va_up (va_up (va_up (fun _ => none) 0 (some q2)) 1 (some q4)) 2 (some q6)) 3 (some q8)) 4 (some q10)) 5 (some q12)) 6 (some q14))))))), (q2, .inr (3, [.int 0, .int 0, .ref (u3 0), .ref (u3 1)])), ((u3 0), .inl (G.2.1, 4, .inl (fun _ => 0))), ((u3 1), .inl (G.2.1, 4, .inl (fun _ => 0))), (q16, .inr (3, [.int 0, .int 0, .null, .null]))] H := hP
  have hD : va_D A [(h0, .inr (6, [.ref q1, .int 0, .int 0])), (q1, .inl (G.2.2.1, 8, .inr (.inr (.inr (.inr (va_up (va_up (va_up (va_up (va_up (va_up (va_up (fun _ => none) 0 (some q2)) 1 (some q4)) 2 (some q6)) 3 (some q8)) 4 (some q10)) 5 (some q12)) 6 (some q14))))))), (q2, .inr (3, [.int 0, .int 0, .ref (u3 0), .ref (u3 1)])), ((u3 0), .inl (G.2.1, 4, .inl (fun _ => 0))), ((u3 1), .inl (G.2.1, 4, .inl (fun _ => 0))), (q16, .inr (3, [.int 0, .int 0, .null, .null]))] := hD
  refine lv_dup hx hb dX6_init_29 rfl ?_
  refine zcall (wr := [(h0, .inr (6, [.ref q1, .int 0, .int 0])), (q1, .inl (G.2.2.1, 8, .inr (.inr (.inr (.inr (va_up (va_up (va_up (va_up (va_up (va_up (va_up (fun _ => none) 0 (some q2)) 1 (some q4)) 2 (some q6)) 3 (some q8)) 4 (some q10)) 5 (some q12)) 6 (some q14))))))), (q2, .inr (3, [.int 0, .int 0, .ref (u3 0), .ref (u3 1)])), ((u3 0), .inl (G.2.1, 4, .inl (fun _ => 0))), ((u3 1), .inl (G.2.1, 4, .inl (fun _ => 0)))]) (va_runIN (As := []) (rest := [.ref q16, .int 7, .ref q1]) ⟨hx, hb, hml, hown, hts⟩ (z_X3_init l G q16 H.size) ⟨va_cnB 0 hts gX6_init_X3_init_n17 rfl rfl rfl hE.2.2.2.2.1.1 hiniX3 (by decide +kernel) ⟨Nat.le_of_ble_eq_true rfl, Nat.le_of_ble_eq_true rfl⟩, rfl, hinsX3_init⟩ (zPre (Wc := [(q16, .inr (3, [.int 0, .int 0, .null, .null]))]) (As := [.ref q16]) hP hD hE hS hA [5] rfl (by decide)) rfl rfl hl.1 rfl (lv_room (Nat.le_of_ble_eq_true rfl)) dX6_init_30 ⟨Nat.le_of_ble_eq_true rfl, Nat.le_of_ble_eq_true rfl⟩) hP hD hS hA [5] [0, 1, 2, 3, 4] rfl rfl (by decide) (by decide) (fun u17 H locs hP hD hS => ?_)
  have hP : va_P G.1 vwCl [(h0, .inr (6, [.ref q1, .int 0, .int 0])), (q1, .inl (G.2.2.1, 8, .inr (.inr (.inr (.inr (va_up (va_up (va_up (va_up (va_up (va_up (va_up (fun _ => none) 0 (some q2)) 1 (some q4)) 2 (some q6)) 3 (some q8)) 4 (some q10)) 5 (some q12)) 6 (some q14))))))), (q2, .inr (3, [.int 0, .int 0, .ref (u3 0), .ref (u3 1)])), ((u3 0), .inl (G.2.1, 4, .inl (fun _ => 0))), ((u3 1), .inl (G.2.1, 4, .inl (fun _ => 0))), (q16, .inr (3, [.int 0, .int 0, .ref (u17 0), .ref (u17 1)])), ((u17 0), .inl (G.2.1, 4, .inl (fun _ => 0))), ((u17 1), .inl (G.2.1, 4, .inl (fun _ => 0)))] H := hP
  have hD : va_D A [(h0, .inr (6, [.ref q1, .int 0, .int 0])), (q1, .inl (G.2.2.1, 8, .inr (.inr (.inr (.inr (va_up (va_up (va_up (va_up (va_up (va_up (va_up (fun _ => none) 0 (some q2)) 1 (some q4)) 2 (some q6)) 3 (some q8)) 4 (some q10)) 5 (some q12)) 6 (some q14))))))), (q2, .inr (3, [.int 0, .int 0, .ref (u3 0), .ref (u3 1)])), ((u3 0), .inl (G.2.1, 4, .inl (fun _ => 0))), ((u3 1), .inl (G.2.1, 4, .inl (fun _ => 0))), (q16, .inr (3, [.int 0, .int 0, .ref (u17 0), .ref (u17 1)])), ((u17 0), .inl (G.2.1, 4, .inl (fun _ => 0))), ((u17 1), .inl (G.2.1, 4, .inl (fun _ => 0)))] := hD
  refine W.eq (g2 := F0 m 33 ls [.ref q16, .int 7, .ref q1]) rfl ?_
  refine va_astq hx hb hE.1 hP hD hS 1 1 5 3 (r := (RX3, TX3, 4)) rfl rfl rfl rfl (zin (by decide +kernel)) dX6_init_33 (fun H locs hP hD hS => ?_)
  have hP : va_P G.1 vwCl [(h0, .inr (6, [.ref q1, .int 0, .int 0])), (q1, .inl (G.2.2.1, 8, .inr (.inr (.inr (.inr (va_up (va_up (va_up (va_up (va_up (va_up (va_up (va_up (fun _ => none) 0 (some q2)) 1 (some q4)) 2 (some q6)) 3 (some q8)) 4 (some q10)) 5 (some q12)) 6 (some q14)) 7 (some q16))))))), (q2, .inr (3, [.int 0, .int 0, .ref (u3 0), .ref (u3 1)])), ((u3 0), .inl (G.2.1, 4, .inl (fun _ => 0))), ((u3 1), .inl (G.2.1, 4, .inl (fun _ => 0))), (q16, .inr (3, [.int 0, .int 0, .ref (u17 0), .ref (u17 1)])), ((u17 0), .inl (G.2.1, 4, .inl (fun _ => 0))), ((u17 1), .inl (G.2.1, 4, .inl (fun _ => 0)))] H := hP
  have hD : va_D A [(h0, .inr (6, [.ref q1, .int 0, .int 0])), (q1, .inl (G.2.2.1, 8, .inr (.inr (.inr (.inr (va_up (va_up (va_up (va_up (va_up (va_up (va_up (va_up (fun _ => none) 0 (some q2)) 1 (some q4)) 2 (some q6)) 3 (some q8)) 4 (some q10)) 5 (some q12)) 6 (some q14)) 7 (some q16))))))), (q2, .inr (3, [.int 0, .int 0, .ref (u3 0), .ref (u3 1)])), ((u3 0), .inl (G.2.1, 4, .inl (fun _ => 0))), ((u3 1), .inl (G.2.1, 4, .inl (fun _ => 0))), (q16, .inr (3, [.int 0, .int 0, .ref (u17 0), .ref (u17 1)])), ((u17 0), .inl (G.2.1, 4, .inl (fun _ => 0))), ((u17 1), .inl (G.2.1, 4, .inl (fun _ => 0)))] := hD
  have hP := hP.sub (ws' := [(h0, .inr (6, [.ref q1, .int 0, .int 0])), (q1, .inl (G.2.2.1, 8, .inr (.inr (.inr (.inr (va_up (va_up (va_up (va_up (va_up (va_up (va_up (va_up (fun _ => none) 0 (some q2)) 1 (some q4)) 2 (some q6)) 3 (some q8)) 4 (some q10)) 5 (some q12)) 6 (some q14)) 7 (some q16))))))), (q2, .inr (3, [.int 0, .int 0, .ref (u3 0), .ref (u3 1)])), ((u3 0), .inl (G.2.1, 4, .inl (fun _ => 0))), ((u3 1), .inl (G.2.1, 4, .inl (fun _ => 0)))]) [0, 1, 2, 3, 4] rfl
  have hD := hD.sub (ws' := [(h0, .inr (6, [.ref q1, .int 0, .int 0])), (q1, .inl (G.2.2.1, 8, .inr (.inr (.inr (.inr (va_up (va_up (va_up (va_up (va_up (va_up (va_up (va_up (fun _ => none) 0 (some q2)) 1 (some q4)) 2 (some q6)) 3 (some q8)) 4 (some q10)) 5 (some q12)) 6 (some q14)) 7 (some q16))))))), (q2, .inr (3, [.int 0, .int 0, .ref (u3 0), .ref (u3 1)])), ((u3 0), .inl (G.2.1, 4, .inl (fun _ => 0))), ((u3 1), .inl (G.2.1, 4, .inl (fun _ => 0)))]) [0, 1, 2, 3, 4] (by decide) rfl
  refine lv_iinc (v := 8) (lv' := [(1, .int 8), (0, .ref h0)]) hx hb dX6_init_34 hl (k := 0) rfl (by decide) (by decide) rfl (fun ls hl => ?_)
  refine lv_goto (tgt := 15) hx hb dX6_init_37 (by decide) ?_
  refine lv_iload_n hx hb dX6_init_15 rfl (lv_at hl 0 rfl) ?_
  refine lv_bipush (v := 8) hx hb dX6_init_16 (by decide) ?_
  refine lv_icmp_ge (tgt := 40) hx hb dX6_init_18 (by decide) (fun _ => ?_) (fun h9 => absurd (by decide) h9)
  exact zend_v hx hb hr hlocks (fun k => [q1, q2, (u3 0), (u3 1), q4, q6, q8, q10, q12, q14, q16].getD k 0) hP hD hS (Nat.le_of_ble_eq_true rfl) (Nat.le_of_ble_eq_true rfl) dX6_init_40

set_option maxHeartbeats 4000000 in
set_option maxRecDepth 100000 in
/-- Survey(..) -/
theorem z_X4_init (l : Launch) (G : zG) (h0 : Nat) (p0 : Nat) : zR l G yX4_init wsX4_init { frames := 1, cells := 3, slots := 2304, locals := 12 } [(h0, .inr (4, [.null, .null, .null, .null, .int 0]))] [.ref h0, .ref p0] none (fun u => [(h0, .inr (4, [.ref p0, .ref (u 0), .ref (u 1), .ref (u 2), .int 0])), ((u 0), .inl (G.2.1, 1024, .inl (fun _ => 0))), ((u 1), .inl (G.2.1, 1024, .inl (fun _ => 0))), ((u 2), .inl (G.2.1, 256, .inl (fun _ => 0)))]) 3 2304 := by
  refine zR_of (cc := cX4_init) (maxL := 2) (rt := none) (by decide) rfl (Nat.le_of_ble_eq_true rfl) ?_
  intro p e s m below meth c A ls hx hb hml hr hts hown hlocks hin hA hE hP hD hS hl
  have hl : lv_has ls 2 [(0, .ref h0), (1, .ref p0)] := hl
  have hown : s.vm.findClass RX4 = some m.cls := hown
  have hP : va_P G.1 vwCl [(h0, .inr (4, [.null, .null, .null, .null, .int 0]))] s.heap := hP
  have hoi := hts (.code objectInit ⟨#[0xb1]⟩ 1 none) (by decide +kernel)
  have hml3 := hts (.methodLink RX4 3 objectInit) (by decide +kernel)
  have hoin := hts (.instanceMethod objectInit) (by decide +kernel)
  have harrint := hts (.arrayClass .int) (by decide +kernel)
  have hw4 : ∀ w ∈ u_ws RX4 TX4 5, w ∈ wsX4_init := by decide +kernel
  have hf9 := hts (.fieldLink RX4 9 "Nettle$Survey" "lows" "[I") (by decide +kernel)
  have hf15 := hts (.fieldLink RX4 15 "Nettle$Survey" "highs" "[I") (by decide +kernel)
  have hf18 := hts (.fieldLink RX4 18 "Nettle$Survey" "amounts" "[I") (by decide +kernel)
  have hf21 := hts (.fieldLink RX4 21 "Nettle$Survey" "wall" "LNettle$Wall;") (by decide +kernel)
  refine lv_aload_n hx hb dX4_init_0 rfl (lv_at hl 0 rfl) ?_
  refine W.objInit hx hb hown hml3 hoin hoi rfl (by rw [hml]; exact hl.1) rfl dX4_init_1 (Nat.le_of_ble_eq_true rfl) (Nat.le_of_ble_eq_true rfl) ?_
  refine W.eq (g2 := F0 m 4 ls []) rfl ?_
  refine lv_aload_n hx hb dX4_init_4 rfl (lv_at hl 0 rfl) ?_
  refine lv_sipush (v := 1024) hx hb dX4_init_5 (by decide) ?_
  refine znewa (N := 1024) hx hb harrint hE hP hD hS hA (by decide) (by decide) (Nat.le_of_ble_eq_true rfl) (Nat.le_of_ble_eq_true rfl) (Nat.le_of_ble_eq_true rfl) dX4_init_8 (fun q1 H hP hD hS => ?_)
  have hP : va_P G.1 vwCl [(h0, .inr (4, [.null, .null, .null, .null, .int 0])), (q1, .inl (G.2.1, 1024, .inl (fun _ => 0)))] H := hP
  have hD : va_D A [(h0, .inr (4, [.null, .null, .null, .null, .int 0])), (q1, .inl (G.2.1, 1024, .inl (fun _ => 0)))] := hD
  refine va_putF (D := G.1) (ci := 4) (v := .ref q1) (ty := tyX4 1) (C := RX4) (T := TX4) (N := 5) hx hb hts hw4 tyX4 tyX4_ok nmX4 hown hE.1 hP hD hS 0 rfl rfl 1 (by decide) hf9 (fun _ h9 => h9) rfl hin rfl (by decide +kernel) rfl rfl (Nat.le_of_ble_eq_true rfl) dX4_init_10 (fun H locs hP hD hS => ?_)
  have hP : va_P G.1 vwCl [(h0, .inr (4, [.null, .ref q1, .null, .null, .int 0])), (q1, .inl (G.2.1, 1024, .inl (fun _ => 0)))] H := hP
  have hD : va_D A [(h0, .inr (4, [.null, .ref q1, .null, .null, .int 0])), (q1, .inl (G.2.1, 1024, .inl (fun _ => 0)))] := hD
  refine lv_aload_n hx hb dX4_init_13 rfl (lv_at hl 0 rfl) ?_
  refine lv_sipush (v := 1024) hx hb dX4_init_14 (by decide) ?_
  refine znewa (N := 1024) hx hb harrint hE hP hD hS hA (by decide) (by decide) (Nat.le_of_ble_eq_true rfl) (Nat.le_of_ble_eq_true rfl) (Nat.le_of_ble_eq_true rfl) dX4_init_17 (fun q2 H hP hD hS => ?_)
  have hP : va_P G.1 vwCl [(h0, .inr (4, [.null, .ref q1, .null, .null, .int 0])), (q1, .inl (G.2.1, 1024, .inl (fun _ => 0))), (q2, .inl (G.2.1, 1024, .inl (fun _ => 0)))] H := hP
  have hD : va_D A [(h0, .inr (4, [.null, .ref q1, .null, .null, .int 0])), (q1, .inl (G.2.1, 1024, .inl (fun _ => 0))), (q2, .inl (G.2.1, 1024, .inl (fun _ => 0)))] := hD
  refine va_putF (D := G.1) (ci := 4) (v := .ref q2) (ty := tyX4 2) (C := RX4) (T := TX4) (N := 5) hx hb hts hw4 tyX4 tyX4_ok nmX4 hown hE.1 hP hD hS 0 rfl rfl 2 (by decide) hf15 (fun _ h9 => h9) rfl hin rfl (by decide +kernel) rfl rfl (Nat.le_of_ble_eq_true rfl) dX4_init_19 (fun H locs hP hD hS => ?_)
  have hP : va_P G.1 vwCl [(h0, .inr (4, [.null, .ref q1, .ref q2, .null, .int 0])), (q1, .inl (G.2.1, 1024, .inl (fun _ => 0))), (q2, .inl (G.2.1, 1024, .inl (fun _ => 0)))] H := hP
  have hD : va_D A [(h0, .inr (4, [.null, .ref q1, .ref q2, .null, .int 0])), (q1, .inl (G.2.1, 1024, .inl (fun _ => 0))), (q2, .inl (G.2.1, 1024, .inl (fun _ => 0)))] := hD
  refine lv_aload_n hx hb dX4_init_22 rfl (lv_at hl 0 rfl) ?_
  refine lv_sipush (v := 256) hx hb dX4_init_23 (by decide) ?_
  refine znewa (N := 256) hx hb harrint hE hP hD hS hA (by decide) (by decide) (Nat.le_of_ble_eq_true rfl) (Nat.le_of_ble_eq_true rfl) (Nat.le_of_ble_eq_true rfl) dX4_init_26 (fun q3 H hP hD hS => ?_)
  have hP : va_P G.1 vwCl [(h0, .inr (4, [.null, .ref q1, .ref q2, .null, .int 0])), (q1, .inl (G.2.1, 1024, .inl (fun _ => 0))), (q2, .inl (G.2.1, 1024, .inl (fun _ => 0))), (q3, .inl (G.2.1, 256, .inl (fun _ => 0)))] H := hP
  have hD : va_D A [(h0, .inr (4, [.null, .ref q1, .ref q2, .null, .int 0])), (q1, .inl (G.2.1, 1024, .inl (fun _ => 0))), (q2, .inl (G.2.1, 1024, .inl (fun _ => 0))), (q3, .inl (G.2.1, 256, .inl (fun _ => 0)))] := hD
  refine va_putF (D := G.1) (ci := 4) (v := .ref q3) (ty := tyX4 3) (C := RX4) (T := TX4) (N := 5) hx hb hts hw4 tyX4 tyX4_ok nmX4 hown hE.1 hP hD hS 0 rfl rfl 3 (by decide) hf18 (fun _ h9 => h9) rfl hin rfl (by decide +kernel) rfl rfl (Nat.le_of_ble_eq_true rfl) dX4_init_28 (fun H locs hP hD hS => ?_)
  have hP : va_P G.1 vwCl [(h0, .inr (4, [.null, .ref q1, .ref q2, .ref q3, .int 0])), (q1, .inl (G.2.1, 1024, .inl (fun _ => 0))), (q2, .inl (G.2.1, 1024, .inl (fun _ => 0))), (q3, .inl (G.2.1, 256, .inl (fun _ => 0)))] H := hP
  have hD : va_D A [(h0, .inr (4, [.null, .ref q1, .ref q2, .ref q3, .int 0])), (q1, .inl (G.2.1, 1024, .inl (fun _ => 0))), (q2, .inl (G.2.1, 1024, .inl (fun _ => 0))), (q3, .inl (G.2.1, 256, .inl (fun _ => 0)))] := hD
  refine lv_aload_n hx hb dX4_init_31 rfl (lv_at hl 0 rfl) ?_
  refine lv_aload_n hx hb dX4_init_32 rfl (lv_at hl 1 rfl) ?_
  refine va_putF (D := G.1) (ci := 4) (v := .ref p0) (ty := tyX4 0) (C := RX4) (T := TX4) (N := 5) hx hb hts hw4 tyX4 tyX4_ok nmX4 hown hE.1 hP hD hS 0 rfl rfl 0 (by decide) hf21 (fun _ h9 => h9) rfl hin rfl (by decide +kernel) rfl rfl (Nat.le_of_ble_eq_true rfl) dX4_init_33 (fun H locs hP hD hS => ?_)
  have hP : va_P G.1 vwCl [(h0, .inr (4, [.ref p0, .ref q1, .ref q2, .ref q3, .int 0])), (q1, .inl (G.2.1, 1024, .inl (fun _ => 0))), (q2, .inl (G.2.1, 1024, .inl (fun _ => 0))), (q3, .inl (G.2.1, 256, .inl (fun _ => 0)))] H := hP
  have hD : va_D A [(h0, .inr (4, [.ref p0, .ref q1, .ref q2, .ref q3, .int 0])), (q1, .inl (G.2.1, 1024, .inl (fun _ => 0))), (q2, .inl (G.2.1, 1024, .inl (fun _ => 0))), (q3, .inl (G.2.1, 256, .inl (fun _ => 0)))] := hD
  exact zend_v hx hb hr hlocks (fun k => [q1, q2, q3].getD k 0) hP hD hS (Nat.le_of_ble_eq_true rfl) (Nat.le_of_ble_eq_true rfl) dX4_init_36

set_option maxHeartbeats 4000000 in
set_option maxRecDepth 100000 in
/-- Cuts(..) -/
theorem z_X1_init (l : Launch) (G : zG) (h0 : Nat) (p0 : Nat) (p1 : Nat) : zR l G yX1_init wsX1_init { frames := 1, cells := 3, slots := 268, locals := 12 } [(h0, .inr (1, [.null, .null, .null, .null, .null, .int 0]))] [.ref h0, .ref p0, .ref p1] none (fun u => [(h0, .inr (1, [.ref p0, .ref p1, .ref (u 0), .ref (u 1), .ref (u 2), .int 0])), ((u 0), .inl (G.2.1, 4, .inl (fun _ => 0))), ((u 1), .inl (G.2.1, 132, .inl (fun _ => 0))), ((u 2), .inl (G.2.1, 132, .inl (fun _ => 0)))]) 3 268 := by
  refine zR_of (cc := cX1_init) (maxL := 3) (rt := none) (by decide) rfl (Nat.le_of_ble_eq_true rfl) ?_
  intro p e s m below meth c A ls hx hb hml hr hts hown hlocks hin hA hE hP hD hS hl
  have hl : lv_has ls 3 [(0, .ref h0), (1, .ref p0), (2, .ref p1)] := hl
  have hown : s.vm.findClass RX1 = some m.cls := hown
  have hP : va_P G.1 vwCl [(h0, .inr (1, [.null, .null, .null, .null, .null, .int 0]))] s.heap := hP
  have hoi := hts (.code objectInit ⟨#[0xb1]⟩ 1 none) (by decide +kernel)
  have hml3 := hts (.methodLink RX1 3 objectInit) (by decide +kernel)
  have hoin := hts (.instanceMethod objectInit) (by decide +kernel)
  have harrint := hts (.arrayClass .int) (by decide +kernel)
  have hw1 : ∀ w ∈ u_ws RX1 TX1 6, w ∈ wsX1_init := by decide +kernel
  have hf9 := hts (.fieldLink RX1 9 "Nettle$Cuts" "counts" "[I") (by decide +kernel)
  have hf15 := hts (.fieldLink RX1 15 "Nettle$Cuts" "starts" "[I") (by decide +kernel)
  have hf18 := hts (.fieldLink RX1 18 "Nettle$Cuts" "masks" "[I") (by decide +kernel)
  have hf21 := hts (.fieldLink RX1 21 "Nettle$Cuts" "now" "LNettle$Wall;") (by decide +kernel)
  have hf25 := hts (.fieldLink RX1 25 "Nettle$Cuts" "old" "LNettle$Wall;") (by decide +kernel)
  refine lv_aload_n hx hb dX1_init_0 rfl (lv_at hl 0 rfl) ?_
  refine W.objInit hx hb hown hml3 hoin hoi rfl (by rw [hml]; exact hl.1) rfl dX1_init_1 (Nat.le_of_ble_eq_true rfl) (Nat.le_of_ble_eq_true rfl) ?_
  refine W.eq (g2 := F0 m 4 ls []) rfl ?_
  refine lv_aload_n hx hb dX1_init_4 rfl (lv_at hl 0 rfl) ?_
  refine lv_iconst (v := 4) hx hb dX1_init_5 (by decide) ?_
  refine znewa (N := 4) hx hb harrint hE hP hD hS hA (by decide) (by decide) (Nat.le_of_ble_eq_true rfl) (Nat.le_of_ble_eq_true rfl) (Nat.le_of_ble_eq_true rfl) dX1_init_6 (fun q1 H hP hD hS => ?_)
  have hP : va_P G.1 vwCl [(h0, .inr (1, [.null, .null, .null, .null, .null, .int 0])), (q1, .inl (G.2.1, 4, .inl (fun _ => 0)))] H := hP
  have hD : va_D A [(h0, .inr (1, [.null, .null, .null, .null, .null, .int 0])), (q1, .inl (G.2.1, 4, .inl (fun _ => 0)))] := hD
  refine va_putF (D := G.1) (ci := 1) (v := .ref q1) (ty := tyX1 2) (C := RX1) (T := TX1) (N := 6) hx hb hts hw1 tyX1 tyX1_ok nmX1 hown hE.1 hP hD hS 0 rfl rfl 2 (by decide) hf9 (fun _ h9 => h9) rfl hin rfl (by decide +kernel) rfl rfl (Nat.le_of_ble_eq_true rfl) dX1_init_8 (fun H locs hP hD hS => ?_)
  have hP : va_P G.1 vwCl [(h0, .inr (1, [.null, .null, .ref q1, .null, .null, .int 0])), (q1, .inl (G.2.1, 4, .inl (fun _ => 0)))] H := hP
  have hD : va_D A [(h0, .inr (1, [.null, .null, .ref q1, .null, .null, .int 0])), (q1, .inl (G.2.1, 4, .inl (fun _ => 0)))] := hD
  refine lv_aload_n hx hb dX1_init_11 rfl (lv_at hl 0 rfl) ?_
  refine lv_sipush (v := 132) hx hb dX1_init_12 (by decide) ?_
  refine znewa (N := 132) hx hb harrint hE hP hD hS hA (by decide) (by decide) (Nat.le_of_ble_eq_true rfl) (Nat.le_of_ble_eq_true rfl) (Nat.le_of_ble_eq_true rfl) dX1_init_15 (fun q2 H hP hD hS => ?_)
  have hP : va_P G.1 vwCl [(h0, .inr (1, [.null, .null, .ref q1, .null, .null, .int 0])), (q1, .inl (G.2.1, 4, .inl (fun _ => 0))), (q2, .inl (G.2.1, 132, .inl (fun _ => 0)))] H := hP
  have hD : va_D A [(h0, .inr (1, [.null, .null, .ref q1, .null, .null, .int 0])), (q1, .inl (G.2.1, 4, .inl (fun _ => 0))), (q2, .inl (G.2.1, 132, .inl (fun _ => 0)))] := hD
  refine va_putF (D := G.1) (ci := 1) (v := .ref q2) (ty := tyX1 3) (C := RX1) (T := TX1) (N := 6) hx hb hts hw1 tyX1 tyX1_ok nmX1 hown hE.1 hP hD hS 0 rfl rfl 3 (by decide) hf15 (fun _ h9 => h9) rfl hin rfl (by decide +kernel) rfl rfl (Nat.le_of_ble_eq_true rfl) dX1_init_17 (fun H locs hP hD hS => ?_)
  have hP : va_P G.1 vwCl [(h0, .inr (1, [.null, .null, .ref q1, .ref q2, .null, .int 0])), (q1, .inl (G.2.1, 4, .inl (fun _ => 0))), (q2, .inl (G.2.1, 132, .inl (fun _ => 0)))] H := hP
  have hD : va_D A [(h0, .inr (1, [.null, .null, .ref q1, .ref q2, .null, .int 0])), (q1, .inl (G.2.1, 4, .inl (fun _ => 0))), (q2, .inl (G.2.1, 132, .inl (fun _ => 0)))] := hD
  refine lv_aload_n hx hb dX1_init_20 rfl (lv_at hl 0 rfl) ?_
  refine lv_sipush (v := 132) hx hb dX1_init_21 (by decide) ?_
  refine znewa (N := 132) hx hb harrint hE hP hD hS hA (by decide) (by decide) (Nat.le_of_ble_eq_true rfl) (Nat.le_of_ble_eq_true rfl) (Nat.le_of_ble_eq_true rfl) dX1_init_24 (fun q3 H hP hD hS => ?_)
  have hP : va_P G.1 vwCl [(h0, .inr (1, [.null, .null, .ref q1, .ref q2, .null, .int 0])), (q1, .inl (G.2.1, 4, .inl (fun _ => 0))), (q2, .inl (G.2.1, 132, .inl (fun _ => 0))), (q3, .inl (G.2.1, 132, .inl (fun _ => 0)))] H := hP
  have hD : va_D A [(h0, .inr (1, [.null, .null, .ref q1, .ref q2, .null, .int 0])), (q1, .inl (G.2.1, 4, .inl (fun _ => 0))), (q2, .inl (G.2.1, 132, .inl (fun _ => 0))), (q3, .inl (G.2.1, 132, .inl (fun _ => 0)))] := hD
  refine va_putF (D := G.1) (ci := 1) (v := .ref q3) (ty := tyX1 4) (C := RX1) (T := TX1) (N := 6) hx hb hts hw1 tyX1 tyX1_ok nmX1 hown hE.1 hP hD hS 0 rfl rfl 4 (by decide) hf18 (fun _ h9 => h9) rfl hin rfl (by decide +kernel) rfl rfl (Nat.le_of_ble_eq_true rfl) dX1_init_26 (fun H locs hP hD hS => ?_)
  have hP : va_P G.1 vwCl [(h0, .inr (1, [.null, .null, .ref q1, .ref q2, .ref q3, .int 0])), (q1, .inl (G.2.1, 4, .inl (fun _ => 0))), (q2, .inl (G.2.1, 132, .inl (fun _ => 0))), (q3, .inl (G.2.1, 132, .inl (fun _ => 0)))] H := hP
  have hD : va_D A [(h0, .inr (1, [.null, .null, .ref q1, .ref q2, .ref q3, .int 0])), (q1, .inl (G.2.1, 4, .inl (fun _ => 0))), (q2, .inl (G.2.1, 132, .inl (fun _ => 0))), (q3, .inl (G.2.1, 132, .inl (fun _ => 0)))] := hD
  refine lv_aload_n hx hb dX1_init_29 rfl (lv_at hl 0 rfl) ?_
  refine lv_aload_n hx hb dX1_init_30 rfl (lv_at hl 1 rfl) ?_
  refine va_putF (D := G.1) (ci := 1) (v := .ref p0) (ty := tyX1 0) (C := RX1) (T := TX1) (N := 6) hx hb hts hw1 tyX1 tyX1_ok nmX1 hown hE.1 hP hD hS 0 rfl rfl 0 (by decide) hf21 (fun _ h9 => h9) rfl hin rfl (by decide +kernel) rfl rfl (Nat.le_of_ble_eq_true rfl) dX1_init_31 (fun H locs hP hD hS => ?_)
  have hP : va_P G.1 vwCl [(h0, .inr (1, [.ref p0, .null, .ref q1, .ref q2, .ref q3, .int 0])), (q1, .inl (G.2.1, 4, .inl (fun _ => 0))), (q2, .inl (G.2.1, 132, .inl (fun _ => 0))), (q3, .inl (G.2.1, 132, .inl (fun _ => 0)))] H := hP
  have hD : va_D A [(h0, .inr (1, [.ref p0, .null, .ref q1, .ref q2, .ref q3, .int 0])), (q1, .inl (G.2.1, 4, .inl (fun _ => 0))), (q2, .inl (G.2.1, 132, .inl (fun _ => 0))), (q3, .inl (G.2.1, 132, .inl (fun _ => 0)))] := hD
  refine lv_aload_n hx hb dX1_init_34 rfl (lv_at hl 0 rfl) ?_
  refine lv_aload_n hx hb dX1_init_35 rfl (lv_at hl 2 rfl) ?_
  refine va_putF (D := G.1) (ci := 1) (v := .ref p1) (ty := tyX1 1) (C := RX1) (T := TX1) (N := 6) hx hb hts hw1 tyX1 tyX1_ok nmX1 hown hE.1 hP hD hS 0 rfl rfl 1 (by decide) hf25 (fun _ h9 => h9) rfl hin rfl (by decide +kernel) rfl rfl (Nat.le_of_ble_eq_true rfl) dX1_init_36 (fun H locs hP hD hS => ?_)
  have hP : va_P G.1 vwCl [(h0, .inr (1, [.ref p0, .ref p1, .ref q1, .ref q2, .ref q3, .int 0])), (q1, .inl (G.2.1, 4, .inl (fun _ => 0))), (q2, .inl (G.2.1, 132, .inl (fun _ => 0))), (q3, .inl (G.2.1, 132, .inl (fun _ => 0)))] H := hP
  have hD : va_D A [(h0, .inr (1, [.ref p0, .ref p1, .ref q1, .ref q2, .ref q3, .int 0])), (q1, .inl (G.2.1, 4, .inl (fun _ => 0))), (q2, .inl (G.2.1, 132, .inl (fun _ => 0))), (q3, .inl (G.2.1, 132, .inl (fun _ => 0)))] := hD
  exact zend_v hx hb hr hlocks (fun k => [q1, q2, q3].getD k 0) hP hD hS (Nat.le_of_ble_eq_true rfl) (Nat.le_of_ble_eq_true rfl) dX1_init_39

set_option maxHeartbeats 4000000 in
set_option maxRecDepth 100000 in
/-- Tree(..) -/
theorem z_X5_init (l : Launch) (G : zG) (h0 : Nat) (p0 : Nat) (p1 : Nat) : zR l G yX5_init wsX5_init { frames := 1, cells := 3, slots := 3072, locals := 12 } [(h0, .inr (5, [.null, .null, .null, .null, .null, .int 0, .int 0]))] [.ref h0, .ref p0, .ref p1] none (fun u => [(h0, .inr (5, [.ref p0, .ref p1, .ref (u 0), .ref (u 1), .ref (u 2), .int 0, .int 0])), ((u 0), .inl (G.2.1, 1024, .inl (fun _ => 0))), ((u 1), .inl (G.2.1, 1024, .inl (fun _ => 0))), ((u 2), .inl (G.2.1, 1024, .inl (fun _ => 0)))]) 3 3072 := by
  refine zR_of (cc := cX5_init) (maxL := 3) (rt := none) (by decide) rfl (Nat.le_of_ble_eq_true rfl) ?_
  intro p e s m below meth c A ls hx hb hml hr hts hown hlocks hin hA hE hP hD hS hl
  have hl : lv_has ls 3 [(0, .ref h0), (1, .ref p0), (2, .ref p1)] := hl
  have hown : s.vm.findClass RX5 = some m.cls := hown
  have hP : va_P G.1 vwCl [(h0, .inr (5, [.null, .null, .null, .null, .null, .int 0, .int 0]))] s.heap := hP
  have hoi := hts (.code objectInit ⟨#[0xb1]⟩ 1 none) (by decide +kernel)
  have hml3 := hts (.methodLink RX5 3 objectInit) (by decide +kernel)
  have hoin := hts (.instanceMethod objectInit) (by decide +kernel)
  have harrint := hts (.arrayClass .int) (by decide +kernel)
  have hw5 : ∀ w ∈ u_ws RX5 TX5 7, w ∈ wsX5_init := by decide +kernel
  have hf9 := hts (.fieldLink RX5 9 "Nettle$Tree" "numbers" "[I") (by decide +kernel)
  have hf15 := hts (.fieldLink RX5 15 "Nettle$Tree" "codes" "[I") (by decide +kernel)
  have hf18 := hts (.fieldLink RX5 18 "Nettle$Tree" "sums" "[I") (by decide +kernel)
  have hf21 := hts (.fieldLink RX5 21 "Nettle$Tree" "wall" "LNettle$Wall;") (by decide +kernel)
  have hf25 := hts (.fieldLink RX5 25 "Nettle$Tree" "cuts" "LNettle$Cuts;") (by decide +kernel)
  refine lv_aload_n hx hb dX5_init_0 rfl (lv_at hl 0 rfl) ?_
  refine W.objInit hx hb hown hml3 hoin hoi rfl (by rw [hml]; exact hl.1) rfl dX5_init_1 (Nat.le_of_ble_eq_true rfl) (Nat.le_of_ble_eq_true rfl) ?_
  refine W.eq (g2 := F0 m 4 ls []) rfl ?_
  refine lv_aload_n hx hb dX5_init_4 rfl (lv_at hl 0 rfl) ?_
  refine lv_sipush (v := 1024) hx hb dX5_init_5 (by decide) ?_
  refine znewa (N := 1024) hx hb harrint hE hP hD hS hA (by decide) (by decide) (Nat.le_of_ble_eq_true rfl) (Nat.le_of_ble_eq_true rfl) (Nat.le_of_ble_eq_true rfl) dX5_init_8 (fun q1 H hP hD hS => ?_)
  have hP : va_P G.1 vwCl [(h0, .inr (5, [.null, .null, .null, .null, .null, .int 0, .int 0])), (q1, .inl (G.2.1, 1024, .inl (fun _ => 0)))] H := hP
  have hD : va_D A [(h0, .inr (5, [.null, .null, .null, .null, .null, .int 0, .int 0])), (q1, .inl (G.2.1, 1024, .inl (fun _ => 0)))] := hD
  refine va_putF (D := G.1) (ci := 5) (v := .ref q1) (ty := tyX5 2) (C := RX5) (T := TX5) (N := 7) hx hb hts hw5 tyX5 tyX5_ok nmX5 hown hE.1 hP hD hS 0 rfl rfl 2 (by decide) hf9 (fun _ h9 => h9) rfl hin rfl (by decide +kernel) rfl rfl (Nat.le_of_ble_eq_true rfl) dX5_init_10 (fun H locs hP hD hS => ?_)
  have hP : va_P G.1 vwCl [(h0, .inr (5, [.null, .null, .ref q1, .null, .null, .int 0, .int 0])), (q1, .inl (G.2.1, 1024, .inl (fun _ => 0)))] H := hP
  have hD : va_D A [(h0, .inr (5, [.null, .null, .ref q1, .null, .null, .int 0, .int 0])), (q1, .inl (G.2.1, 1024, .inl (fun _ => 0)))] := hD
  refine lv_aload_n hx hb dX5_init_13 rfl (lv_at hl 0 rfl) ?_
  refine lv_sipush (v := 1024) hx hb dX5_init_14 (by decide) ?_
  refine znewa (N := 1024) hx hb harrint hE hP hD hS hA (by decide) (by decide) (Nat.le_of_ble_eq_true rfl) (Nat.le_of_ble_eq_true rfl) (Nat.le_of_ble_eq_true rfl) dX5_init_17 (fun q2 H hP hD hS => ?_)
  have hP : va_P G.1 vwCl [(h0, .inr (5, [.null, .null, .ref q1, .null, .null, .int 0, .int 0])), (q1, .inl (G.2.1, 1024, .inl (fun _ => 0))), (q2, .inl (G.2.1, 1024, .inl (fun _ => 0)))] H := hP
  have hD : va_D A [(h0, .inr (5, [.null, .null, .ref q1, .null, .null, .int 0, .int 0])), (q1, .inl (G.2.1, 1024, .inl (fun _ => 0))), (q2, .inl (G.2.1, 1024, .inl (fun _ => 0)))] := hD
  refine va_putF (D := G.1) (ci := 5) (v := .ref q2) (ty := tyX5 3) (C := RX5) (T := TX5) (N := 7) hx hb hts hw5 tyX5 tyX5_ok nmX5 hown hE.1 hP hD hS 0 rfl rfl 3 (by decide) hf15 (fun _ h9 => h9) rfl hin rfl (by decide +kernel) rfl rfl (Nat.le_of_ble_eq_true rfl) dX5_init_19 (fun H locs hP hD hS => ?_)
  have hP : va_P G.1 vwCl [(h0, .inr (5, [.null, .null, .ref q1, .ref q2, .null, .int 0, .int 0])), (q1, .inl (G.2.1, 1024, .inl (fun _ => 0))), (q2, .inl (G.2.1, 1024, .inl (fun _ => 0)))] H := hP
  have hD : va_D A [(h0, .inr (5, [.null, .null, .ref q1, .ref q2, .null, .int 0, .int 0])), (q1, .inl (G.2.1, 1024, .inl (fun _ => 0))), (q2, .inl (G.2.1, 1024, .inl (fun _ => 0)))] := hD
  refine lv_aload_n hx hb dX5_init_22 rfl (lv_at hl 0 rfl) ?_
  refine lv_sipush (v := 1024) hx hb dX5_init_23 (by decide) ?_
  refine znewa (N := 1024) hx hb harrint hE hP hD hS hA (by decide) (by decide) (Nat.le_of_ble_eq_true rfl) (Nat.le_of_ble_eq_true rfl) (Nat.le_of_ble_eq_true rfl) dX5_init_26 (fun q3 H hP hD hS => ?_)
  have hP : va_P G.1 vwCl [(h0, .inr (5, [.null, .null, .ref q1, .ref q2, .null, .int 0, .int 0])), (q1, .inl (G.2.1, 1024, .inl (fun _ => 0))), (q2, .inl (G.2.1, 1024, .inl (fun _ => 0))), (q3, .inl (G.2.1, 1024, .inl (fun _ => 0)))] H := hP
  have hD : va_D A [(h0, .inr (5, [.null, .null, .ref q1, .ref q2, .null, .int 0, .int 0])), (q1, .inl (G.2.1, 1024, .inl (fun _ => 0))), (q2, .inl (G.2.1, 1024, .inl (fun _ => 0))), (q3, .inl (G.2.1, 1024, .inl (fun _ => 0)))] := hD
  refine va_putF (D := G.1) (ci := 5) (v := .ref q3) (ty := tyX5 4) (C := RX5) (T := TX5) (N := 7) hx hb hts hw5 tyX5 tyX5_ok nmX5 hown hE.1 hP hD hS 0 rfl rfl 4 (by decide) hf18 (fun _ h9 => h9) rfl hin rfl (by decide +kernel) rfl rfl (Nat.le_of_ble_eq_true rfl) dX5_init_28 (fun H locs hP hD hS => ?_)
  have hP : va_P G.1 vwCl [(h0, .inr (5, [.null, .null, .ref q1, .ref q2, .ref q3, .int 0, .int 0])), (q1, .inl (G.2.1, 1024, .inl (fun _ => 0))), (q2, .inl (G.2.1, 1024, .inl (fun _ => 0))), (q3, .inl (G.2.1, 1024, .inl (fun _ => 0)))] H := hP
  have hD : va_D A [(h0, .inr (5, [.null, .null, .ref q1, .ref q2, .ref q3, .int 0, .int 0])), (q1, .inl (G.2.1, 1024, .inl (fun _ => 0))), (q2, .inl (G.2.1, 1024, .inl (fun _ => 0))), (q3, .inl (G.2.1, 1024, .inl (fun _ => 0)))] := hD
  refine lv_aload_n hx hb dX5_init_31 rfl (lv_at hl 0 rfl) ?_
  refine lv_aload_n hx hb dX5_init_32 rfl (lv_at hl 1 rfl) ?_
  refine va_putF (D := G.1) (ci := 5) (v := .ref p0) (ty := tyX5 0) (C := RX5) (T := TX5) (N := 7) hx hb hts hw5 tyX5 tyX5_ok nmX5 hown hE.1 hP hD hS 0 rfl rfl 0 (by decide) hf21 (fun _ h9 => h9) rfl hin rfl (by decide +kernel) rfl rfl (Nat.le_of_ble_eq_true rfl) dX5_init_33 (fun H locs hP hD hS => ?_)
  have hP : va_P G.1 vwCl [(h0, .inr (5, [.ref p0, .null, .ref q1, .ref q2, .ref q3, .int 0, .int 0])), (q1, .inl (G.2.1, 1024, .inl (fun _ => 0))), (q2, .inl (G.2.1, 1024, .inl (fun _ => 0))), (q3, .inl (G.2.1, 1024, .inl (fun _ => 0)))] H := hP
  have hD : va_D A [(h0, .inr (5, [.ref p0, .null, .ref q1, .ref q2, .ref q3, .int 0, .int 0])), (q1, .inl (G.2.1, 1024, .inl (fun _ => 0))), (q2, .inl (G.2.1, 1024, .inl (fun _ => 0))), (q3, .inl (G.2.1, 1024, .inl (fun _ => 0)))] := hD
  refine lv_aload_n hx hb dX5_init_36 rfl (lv_at hl 0 rfl) ?_
  refine lv_aload_n hx hb dX5_init_37 rfl (lv_at hl 2 rfl) ?_
  refine va_putF (D := G.1) (ci := 5) (v := .ref p1) (ty := tyX5 1) (C := RX5) (T := TX5) (N := 7) hx hb hts hw5 tyX5 tyX5_ok nmX5 hown hE.1 hP hD hS 0 rfl rfl 1 (by decide) hf25 (fun _ h9 => h9) rfl hin rfl (by decide +kernel) rfl rfl (Nat.le_of_ble_eq_true rfl) dX5_init_38 (fun H locs hP hD hS => ?_)
  have hP : va_P G.1 vwCl [(h0, .inr (5, [.ref p0, .ref p1, .ref q1, .ref q2, .ref q3, .int 0, .int 0])), (q1, .inl (G.2.1, 1024, .inl (fun _ => 0))), (q2, .inl (G.2.1, 1024, .inl (fun _ => 0))), (q3, .inl (G.2.1, 1024, .inl (fun _ => 0)))] H := hP
  have hD : va_D A [(h0, .inr (5, [.ref p0, .ref p1, .ref q1, .ref q2, .ref q3, .int 0, .int 0])), (q1, .inl (G.2.1, 1024, .inl (fun _ => 0))), (q2, .inl (G.2.1, 1024, .inl (fun _ => 0))), (q3, .inl (G.2.1, 1024, .inl (fun _ => 0)))] := hD
  exact zend_v hx hb hr hlocks (fun k => [q1, q2, q3].getD k 0) hP hD hS (Nat.le_of_ble_eq_true rfl) (Nat.le_of_ble_eq_true rfl) dX5_init_41

set_option maxHeartbeats 4000000 in
set_option maxRecDepth 100000 in
/-- Comparison(..) -/
theorem z_X0_init (l : Launch) (G : zG) (h0 : Nat) (p0 : Nat) (p1 : Nat) (p2 : Nat) : zR l G yX0_init wsX0_init { frames := 1, cells := 2, slots := 8, locals := 12 } [(h0, .inr (0, [.null, .null, .null, .null, .null, .int 0, .int 0]))] [.ref h0, .ref p0, .ref p1, .ref p2] none (fun u => [(h0, .inr (0, [.ref p0, .ref p1, .ref p2, .ref (u 0), .ref (u 1), .int 0, .int 0])), ((u 0), .inl (G.2.1, 4, .inl (fun _ => 0))), ((u 1), .inl (G.2.1, 4, .inl (fun _ => 0)))]) 2 8 := by
  refine zR_of (cc := cX0_init) (maxL := 4) (rt := none) (by decide) rfl (Nat.le_of_ble_eq_true rfl) ?_
  intro p e s m below meth c A ls hx hb hml hr hts hown hlocks hin hA hE hP hD hS hl
  have hl : lv_has ls 4 [(0, .ref h0), (1, .ref p0), (2, .ref p1), (3, .ref p2)] := hl
  have hown : s.vm.findClass RX0 = some m.cls := hown
  have hP : va_P G.1 vwCl [(h0, .inr (0, [.null, .null, .null, .null, .null, .int 0, .int 0]))] s.heap := hP
  have hoi := hts (.code objectInit ⟨#[0xb1]⟩ 1 none) (by decide +kernel)
  have hml3 := hts (.methodLink RX0 3 objectInit) (by decide +kernel)
  have hoin := hts (.instanceMethod objectInit) (by decide +kernel)
  have harrint := hts (.arrayClass .int) (by decide +kernel)
  have hw0 : ∀ w ∈ u_ws RX0 TX0 7, w ∈ wsX0_init := by decide +kernel
  have hf9 := hts (.fieldLink RX0 9 "Nettle$Comparison" "first" "[I") (by decide +kernel)
  have hf15 := hts (.fieldLink RX0 15 "Nettle$Comparison" "place" "[I") (by decide +kernel)
  have hf18 := hts (.fieldLink RX0 18 "Nettle$Comparison" "now" "LNettle$Wall;") (by decide +kernel)
  have hf22 := hts (.fieldLink RX0 22 "Nettle$Comparison" "old" "LNettle$Wall;") (by decide +kernel)
  have hf25 := hts (.fieldLink RX0 25 "Nettle$Comparison" "cuts" "LNettle$Cuts;") (by decide +kernel)
  refine lv_aload_n hx hb dX0_init_0 rfl (lv_at hl 0 rfl) ?_
  refine W.objInit hx hb hown hml3 hoin hoi rfl (by rw [hml]; exact hl.1) rfl dX0_init_1 (Nat.le_of_ble_eq_true rfl) (Nat.le_of_ble_eq_true rfl) ?_
  refine W.eq (g2 := F0 m 4 ls []) rfl ?_
  refine lv_aload_n hx hb dX0_init_4 rfl (lv_at hl 0 rfl) ?_
  refine lv_iconst (v := 4) hx hb dX0_init_5 (by decide) ?_
  refine znewa (N := 4) hx hb harrint hE hP hD hS hA (by decide) (by decide) (Nat.le_of_ble_eq_true rfl) (Nat.le_of_ble_eq_true rfl) (Nat.le_of_ble_eq_true rfl) dX0_init_6 (fun q1 H hP hD hS => ?_)
  have hP : va_P G.1 vwCl [(h0, .inr (0, [.null, .null, .null, .null, .null, .int 0, .int 0])), (q1, .inl (G.2.1, 4, .inl (fun _ => 0)))] H := hP
  have hD : va_D A [(h0, .inr (0, [.null, .null, .null, .null, .null, .int 0, .int 0])), (q1, .inl (G.2.1, 4, .inl (fun _ => 0)))] := hD
  refine va_putF (D := G.1) (ci := 0) (v := .ref q1) (ty := tyX0 3) (C := RX0) (T := TX0) (N := 7) hx hb hts hw0 tyX0 tyX0_ok nmX0 hown hE.1 hP hD hS 0 rfl rfl 3 (by decide) hf9 (fun _ h9 => h9) rfl hin rfl (by decide +kernel) rfl rfl (Nat.le_of_ble_eq_true rfl) dX0_init_8 (fun H locs hP hD hS => ?_)
  have hP : va_P G.1 vwCl [(h0, .inr (0, [.null, .null, .null, .ref q1, .null, .int 0, .int 0])), (q1, .inl (G.2.1, 4, .inl (fun _ => 0)))] H := hP
  have hD : va_D A [(h0, .inr (0, [.null, .null, .null, .ref q1, .null, .int 0, .int 0])), (q1, .inl (G.2.1, 4, .inl (fun _ => 0)))] := hD
  refine lv_aload_n hx hb dX0_init_11 rfl (lv_at hl 0 rfl) ?_
  refine lv_iconst (v := 4) hx hb dX0_init_12 (by decide) ?_
  refine znewa (N := 4) hx hb harrint hE hP hD hS hA (by decide) (by decide) (Nat.le_of_ble_eq_true rfl) (Nat.le_of_ble_eq_true rfl) (Nat.le_of_ble_eq_true rfl) dX0_init_13 (fun q2 H hP hD hS => ?_)
  have hP : va_P G.1 vwCl [(h0, .inr (0, [.null, .null, .null, .ref q1, .null, .int 0, .int 0])), (q1, .inl (G.2.1, 4, .inl (fun _ => 0))), (q2, .inl (G.2.1, 4, .inl (fun _ => 0)))] H := hP
  have hD : va_D A [(h0, .inr (0, [.null, .null, .null, .ref q1, .null, .int 0, .int 0])), (q1, .inl (G.2.1, 4, .inl (fun _ => 0))), (q2, .inl (G.2.1, 4, .inl (fun _ => 0)))] := hD
  refine va_putF (D := G.1) (ci := 0) (v := .ref q2) (ty := tyX0 4) (C := RX0) (T := TX0) (N := 7) hx hb hts hw0 tyX0 tyX0_ok nmX0 hown hE.1 hP hD hS 0 rfl rfl 4 (by decide) hf15 (fun _ h9 => h9) rfl hin rfl (by decide +kernel) rfl rfl (Nat.le_of_ble_eq_true rfl) dX0_init_15 (fun H locs hP hD hS => ?_)
  have hP : va_P G.1 vwCl [(h0, .inr (0, [.null, .null, .null, .ref q1, .ref q2, .int 0, .int 0])), (q1, .inl (G.2.1, 4, .inl (fun _ => 0))), (q2, .inl (G.2.1, 4, .inl (fun _ => 0)))] H := hP
  have hD : va_D A [(h0, .inr (0, [.null, .null, .null, .ref q1, .ref q2, .int 0, .int 0])), (q1, .inl (G.2.1, 4, .inl (fun _ => 0))), (q2, .inl (G.2.1, 4, .inl (fun _ => 0)))] := hD
  refine lv_aload_n hx hb dX0_init_18 rfl (lv_at hl 0 rfl) ?_
  refine lv_aload_n hx hb dX0_init_19 rfl (lv_at hl 1 rfl) ?_
  refine va_putF (D := G.1) (ci := 0) (v := .ref p0) (ty := tyX0 0) (C := RX0) (T := TX0) (N := 7) hx hb hts hw0 tyX0 tyX0_ok nmX0 hown hE.1 hP hD hS 0 rfl rfl 0 (by decide) hf18 (fun _ h9 => h9) rfl hin rfl (by decide +kernel) rfl rfl (Nat.le_of_ble_eq_true rfl) dX0_init_20 (fun H locs hP hD hS => ?_)
  have hP : va_P G.1 vwCl [(h0, .inr (0, [.ref p0, .null, .null, .ref q1, .ref q2, .int 0, .int 0])), (q1, .inl (G.2.1, 4, .inl (fun _ => 0))), (q2, .inl (G.2.1, 4, .inl (fun _ => 0)))] H := hP
  have hD : va_D A [(h0, .inr (0, [.ref p0, .null, .null, .ref q1, .ref q2, .int 0, .int 0])), (q1, .inl (G.2.1, 4, .inl (fun _ => 0))), (q2, .inl (G.2.1, 4, .inl (fun _ => 0)))] := hD
  refine lv_aload_n hx hb dX0_init_23 rfl (lv_at hl 0 rfl) ?_
  refine lv_aload_n hx hb dX0_init_24 rfl (lv_at hl 2 rfl) ?_
  refine va_putF (D := G.1) (ci := 0) (v := .ref p1) (ty := tyX0 1) (C := RX0) (T := TX0) (N := 7) hx hb hts hw0 tyX0 tyX0_ok nmX0 hown hE.1 hP hD hS 0 rfl rfl 1 (by decide) hf22 (fun _ h9 => h9) rfl hin rfl (by decide +kernel) rfl rfl (Nat.le_of_ble_eq_true rfl) dX0_init_25 (fun H locs hP hD hS => ?_)
  have hP : va_P G.1 vwCl [(h0, .inr (0, [.ref p0, .ref p1, .null, .ref q1, .ref q2, .int 0, .int 0])), (q1, .inl (G.2.1, 4, .inl (fun _ => 0))), (q2, .inl (G.2.1, 4, .inl (fun _ => 0)))] H := hP
  have hD : va_D A [(h0, .inr (0, [.ref p0, .ref p1, .null, .ref q1, .ref q2, .int 0, .int 0])), (q1, .inl (G.2.1, 4, .inl (fun _ => 0))), (q2, .inl (G.2.1, 4, .inl (fun _ => 0)))] := hD
  refine lv_aload_n hx hb dX0_init_28 rfl (lv_at hl 0 rfl) ?_
  refine lv_aload_n hx hb dX0_init_29 rfl (lv_at hl 3 rfl) ?_
  refine va_putF (D := G.1) (ci := 0) (v := .ref p2) (ty := tyX0 2) (C := RX0) (T := TX0) (N := 7) hx hb hts hw0 tyX0 tyX0_ok nmX0 hown hE.1 hP hD hS 0 rfl rfl 2 (by decide) hf25 (fun _ h9 => h9) rfl hin rfl (by decide +kernel) rfl rfl (Nat.le_of_ble_eq_true rfl) dX0_init_30 (fun H locs hP hD hS => ?_)
  have hP : va_P G.1 vwCl [(h0, .inr (0, [.ref p0, .ref p1, .ref p2, .ref q1, .ref q2, .int 0, .int 0])), (q1, .inl (G.2.1, 4, .inl (fun _ => 0))), (q2, .inl (G.2.1, 4, .inl (fun _ => 0)))] H := hP
  have hD : va_D A [(h0, .inr (0, [.ref p0, .ref p1, .ref p2, .ref q1, .ref q2, .int 0, .int 0])), (q1, .inl (G.2.1, 4, .inl (fun _ => 0))), (q2, .inl (G.2.1, 4, .inl (fun _ => 0)))] := hD
  exact zend_v hx hb hr hlocks (fun k => [q1, q2].getD k 0) hP hD hS (Nat.le_of_ble_eq_true rfl) (Nat.le_of_ble_eq_true rfl) dX0_init_33

set_option maxHeartbeats 4000000 in
set_option maxRecDepth 100000 in
/-- Log() -/
theorem z_X2_init (l : Launch) (G : zG) (h0 : Nat) : zR l G yX2_init wsX2_init { frames := 1, cells := 1, slots := 24, locals := 12 } [(h0, .inr (2, [.null, .int 0, .int 0, .int 0, .int 0, .int 0]))] [.ref h0] none (fun u => [(h0, .inr (2, [.ref (u 0), .int 0, .int 0, .int 0, .int 0, .int 0])), ((u 0), .inl (G.2.1, 24, .inl (fun _ => 0)))]) 1 24 := by
  refine zR_of (cc := cX2_init) (maxL := 1) (rt := none) (by decide) rfl (Nat.le_of_ble_eq_true rfl) ?_
  intro p e s m below meth c A ls hx hb hml hr hts hown hlocks hin hA hE hP hD hS hl
  have hl : lv_has ls 1 [(0, .ref h0)] := hl
  have hown : s.vm.findClass RX2 = some m.cls := hown
  have hP : va_P G.1 vwCl [(h0, .inr (2, [.null, .int 0, .int 0, .int 0, .int 0, .int 0]))] s.heap := hP
  have hoi := hts (.code objectInit ⟨#[0xb1]⟩ 1 none) (by decide +kernel)
  have hml3 := hts (.methodLink RX2 3 objectInit) (by decide +kernel)
  have hoin := hts (.instanceMethod objectInit) (by decide +kernel)
  have harrint := hts (.arrayClass .int) (by decide +kernel)
  have hw2 : ∀ w ∈ u_ws RX2 TX2 6, w ∈ wsX2_init := by decide +kernel
  have hf9 := hts (.fieldLink RX2 9 "Nettle$Log" "rows" "[I") (by decide +kernel)
  refine lv_aload_n hx hb dX2_init_0 rfl (lv_at hl 0 rfl) ?_
  refine W.objInit hx hb hown hml3 hoin hoi rfl (by rw [hml]; exact hl.1) rfl dX2_init_1 (Nat.le_of_ble_eq_true rfl) (Nat.le_of_ble_eq_true rfl) ?_
  refine W.eq (g2 := F0 m 4 ls []) rfl ?_
  refine lv_aload_n hx hb dX2_init_4 rfl (lv_at hl 0 rfl) ?_
  refine lv_bipush (v := 24) hx hb dX2_init_5 (by decide) ?_
  refine znewa (N := 24) hx hb harrint hE hP hD hS hA (by decide) (by decide) (Nat.le_of_ble_eq_true rfl) (Nat.le_of_ble_eq_true rfl) (Nat.le_of_ble_eq_true rfl) dX2_init_7 (fun q1 H hP hD hS => ?_)
  have hP : va_P G.1 vwCl [(h0, .inr (2, [.null, .int 0, .int 0, .int 0, .int 0, .int 0])), (q1, .inl (G.2.1, 24, .inl (fun _ => 0)))] H := hP
  have hD : va_D A [(h0, .inr (2, [.null, .int 0, .int 0, .int 0, .int 0, .int 0])), (q1, .inl (G.2.1, 24, .inl (fun _ => 0)))] := hD
  refine va_putF (D := G.1) (ci := 2) (v := .ref q1) (ty := tyX2 0) (C := RX2) (T := TX2) (N := 6) hx hb hts hw2 tyX2 tyX2_ok nmX2 hown hE.1 hP hD hS 0 rfl rfl 0 (by decide) hf9 (fun _ h9 => h9) rfl hin rfl (by decide +kernel) rfl rfl (Nat.le_of_ble_eq_true rfl) dX2_init_9 (fun H locs hP hD hS => ?_)
  have hP : va_P G.1 vwCl [(h0, .inr (2, [.ref q1, .int 0, .int 0, .int 0, .int 0, .int 0])), (q1, .inl (G.2.1, 24, .inl (fun _ => 0)))] H := hP
  have hD : va_D A [(h0, .inr (2, [.ref q1, .int 0, .int 0, .int 0, .int 0, .int 0])), (q1, .inl (G.2.1, 24, .inl (fun _ => 0)))] := hD
  exact zend_v hx hb hr hlocks (fun k => [q1].getD k 0) hP hD hS (Nat.le_of_ble_eq_true rfl) (Nat.le_of_ble_eq_true rfl) dX2_init_12
