/-! Nettle: what is told -/
theorem dX7_setLast_0 : decode cX7_setLast 0 = .ok (.aload_n 0, 1) := by decide +kernel
theorem dX7_setLast_1 : decode cX7_setLast 1 = .ok (.getfield 10, 3) := by decide +kernel
theorem dX7_setLast_4 : decode cX7_setLast 4 = .ok (.getfield 135, 3) := by decide +kernel
theorem dX7_setLast_7 : decode cX7_setLast 7 = .ok (.istore_n 2, 1) := by decide +kernel
theorem dX7_setLast_8 : decode cX7_setLast 8 = .ok (.aload_n 0, 1) := by decide +kernel
theorem dX7_setLast_9 : decode cX7_setLast 9 = .ok (.getfield 10, 3) := by decide +kernel
theorem dX7_setLast_12 : decode cX7_setLast 12 = .ok (.iload_n 1, 1) := by decide +kernel
theorem dX7_setLast_13 : decode cX7_setLast 13 = .ok (.putfield 135, 3) := by decide +kernel
theorem dX7_setLast_16 : decode cX7_setLast 16 = .ok (.aload_n 0, 1) := by decide +kernel
set_option maxRecDepth 20000 in
theorem ggX7_setLast_X7_outdate : GoodIn wsX7_setLast wsX7_outdate := goodIn_r _ [7, 8, 9, 10, 11, 12, 13, 14, 15, 16, 17, 18, 19, 20, 21, 22, 23, 27, 28, 29, 30, 31, 32, 33, 34, 35, 36, 37, 38, 39, 40, 41, 42, 43, 44, 45, 46, 47, 48, 49, 50, 51] (by decide +kernel) (by decide +kernel)
set_option maxRecDepth 20000 in
theorem gX7_setLast_X7_outdate : GoodIn wsX7_setLast (wsV RX7 84 RX7 yX7_outdate wsX7_outdate) := goodIn_app (goodIn_of _ (by decide +kernel)) ggX7_setLast_X7_outdate
theorem dX7_setLast_17 : decode cX7_setLast 17 = .ok (.invokevirtual 84, 3) := by decide +kernel
theorem dX7_setLast_20 : decode cX7_setLast 20 = .ok (.iload_n 2, 1) := by decide +kernel
theorem dX7_setLast_21 : decode cX7_setLast 21 = .ok (.ireturn, 1) := by decide +kernel
theorem dX7_turn_0 : decode cX7_turn 0 = .ok (.aload_n 0, 1) := by decide +kernel
theorem dX7_turn_1 : decode cX7_turn 1 = .ok (.iload_n 1, 1) := by decide +kernel
set_option maxRecDepth 20000 in
theorem ggX7_turn_X7_needRule : GoodIn wsX7_turn wsX7_needRule := goodIn_ca (goodIn_r _ [8, 9, 10, 1, 11, 29, 30, 31, 32, 33, 34, 35, 36, 37, 38, 39] (by decide +kernel) (by decide +kernel)) (goodIn_sub (fun _ h => List.mem_cons_of_mem _ (List.mem_append_left _ (List.mem_append_right _ h))) (by decide +kernel))
set_option maxRecDepth 20000 in
theorem gX7_turn_X7_needRule : GoodIn wsX7_turn (wsV RX7 87 RX7 yX7_needRule wsX7_needRule) := goodIn_app (goodIn_of _ (by decide +kernel)) ggX7_turn_X7_needRule
theorem dX7_turn_2 : decode cX7_turn 2 = .ok (.invokevirtual 87, 3) := by decide +kernel
theorem dX7_turn_5 : decode cX7_turn 5 = .ok (.iload_n 2, 1) := by decide +kernel
set_option maxRecDepth 20000 in
theorem ggX7_turn_X7_needVerdict : GoodIn wsX7_turn wsX7_needVerdict := goodIn_ca (goodIn_r _ [14, 15, 16] (by decide +kernel) (by decide +kernel)) (goodIn_sub (fun _ h => List.mem_cons_of_mem _ (List.mem_append_right _ h)) (by decide +kernel))
set_option maxRecDepth 20000 in
theorem gX7_turn_X7_needVerdict : GoodIn wsX7_turn (va_wsS RX7 66 yX7_needVerdict wsX7_needVerdict) := goodIn_app (goodIn_of _ (by decide +kernel)) ggX7_turn_X7_needVerdict
theorem dX7_turn_6 : decode cX7_turn 6 = .ok (.invokestatic 66, 3) := by decide +kernel
theorem dX7_turn_9 : decode cX7_turn 9 = .ok (.aload_n 0, 1) := by decide +kernel
theorem dX7_turn_10 : decode cX7_turn 10 = .ok (.getfield 10, 3) := by decide +kernel
theorem dX7_turn_13 : decode cX7_turn 13 = .ok (.getfield 104, 3) := by decide +kernel
theorem dX7_turn_16 : decode cX7_turn 16 = .ok (.iload_n 1, 1) := by decide +kernel
theorem dX7_turn_17 : decode cX7_turn 17 = .ok (.aaload, 1) := by decide +kernel
theorem dX7_turn_18 : decode cX7_turn 18 = .ok (.getfield 120, 3) := by decide +kernel
theorem dX7_turn_21 : decode cX7_turn 21 = .ok (.istore_n 3, 1) := by decide +kernel
theorem dX7_turn_22 : decode cX7_turn 22 = .ok (.aload_n 0, 1) := by decide +kernel
theorem dX7_turn_23 : decode cX7_turn 23 = .ok (.getfield 10, 3) := by decide +kernel
theorem dX7_turn_26 : decode cX7_turn 26 = .ok (.getfield 104, 3) := by decide +kernel
theorem dX7_turn_29 : decode cX7_turn 29 = .ok (.iload_n 1, 1) := by decide +kernel
theorem dX7_turn_30 : decode cX7_turn 30 = .ok (.aaload, 1) := by decide +kernel
theorem dX7_turn_31 : decode cX7_turn 31 = .ok (.iload_n 2, 1) := by decide +kernel
theorem dX7_turn_32 : decode cX7_turn 32 = .ok (.putfield 120, 3) := by decide +kernel
theorem dX7_turn_35 : decode cX7_turn 35 = .ok (.aload_n 0, 1) := by decide +kernel
set_option maxRecDepth 20000 in
theorem ggX7_turn_X7_outdate : GoodIn wsX7_turn wsX7_outdate := goodIn_r _ [20, 21, 22, 23, 24, 25, 26, 27, 28, 29, 30, 31, 32, 33, 34, 35, 36, 44, 45, 46, 47, 48, 49, 50, 51, 52, 53, 54, 55, 56, 57, 58, 59, 60, 61, 62, 63, 64, 65, 66, 67, 68] (by decide +kernel) (by decide +kernel)
set_option maxRecDepth 20000 in
theorem gX7_turn_X7_outdate : GoodIn wsX7_turn (wsV RX7 84 RX7 yX7_outdate wsX7_outdate) := goodIn_app (goodIn_of _ (by decide +kernel)) ggX7_turn_X7_outdate
theorem dX7_turn_36 : decode cX7_turn 36 = .ok (.invokevirtual 84, 3) := by decide +kernel
theorem dX7_turn_39 : decode cX7_turn 39 = .ok (.iload_n 3, 1) := by decide +kernel
theorem dX7_turn_40 : decode cX7_turn 40 = .ok (.ireturn, 1) := by decide +kernel
theorem dX7_narrow_0 : decode cX7_narrow 0 = .ok (.aload_n 0, 1) := by decide +kernel
theorem dX7_narrow_1 : decode cX7_narrow 1 = .ok (.iload_n 1, 1) := by decide +kernel
set_option maxRecDepth 20000 in
theorem ggX7_narrow_X7_needRule : GoodIn wsX7_narrow wsX7_needRule := goodIn_ca (goodIn_r _ [13, 1, 2, 5, 14, 38, 39, 40, 41, 42, 43, 44, 45, 46, 47, 48] (by decide +kernel) (by decide +kernel)) (goodIn_sub (fun _ h => List.mem_cons_of_mem _ (List.mem_append_left _ (List.mem_append_right _ h))) (by decide +kernel))
set_option maxRecDepth 20000 in
theorem gX7_narrow_X7_needRule : GoodIn wsX7_narrow (wsV RX7 87 RX7 yX7_needRule wsX7_needRule) := goodIn_app (goodIn_of _ (by decide +kernel)) ggX7_narrow_X7_needRule
theorem dX7_narrow_2 : decode cX7_narrow 2 = .ok (.invokevirtual 87, 3) := by decide +kernel
theorem dX7_narrow_5 : decode cX7_narrow 5 = .ok (.iload_n 2, 1) := by decide +kernel
theorem dX7_narrow_6 : decode cX7_narrow 6 = .ok (.ifCond .lt 8, 3) := by decide +kernel
theorem dX7_narrow_9 : decode cX7_narrow 9 = .ok (.iload_n 2, 1) := by decide +kernel
theorem dX7_narrow_10 : decode cX7_narrow 10 = .ok (.iconst 4, 1) := by decide +kernel
theorem dX7_narrow_11 : decode cX7_narrow 11 = .ok (.if_icmp .lt 13, 3) := by decide +kernel
theorem dX7_narrow_24 : decode cX7_narrow 24 = .ok (.iload_n 2, 1) := by decide +kernel
theorem dX7_narrow_25 : decode cX7_narrow 25 = .ok (.iload_n 3, 1) := by decide +kernel
set_option maxRecDepth 20000 in
theorem ggX7_narrow_X7_isValue : GoodIn wsX7_narrow wsX7_isValue := goodIn_r _ [17, 18] (by decide +kernel) (by decide +kernel)
set_option maxRecDepth 20000 in
theorem gX7_narrow_X7_isValue : GoodIn wsX7_narrow (va_wsS RX7 95 yX7_isValue wsX7_isValue) := goodIn_app (goodIn_of _ (by decide +kernel)) ggX7_narrow_X7_isValue
theorem dX7_narrow_26 : decode cX7_narrow 26 = .ok (.invokestatic 95, 3) := by decide +kernel
theorem dX7_narrow_29 : decode cX7_narrow 29 = .ok (.ifCond .eq 18, 3) := by decide +kernel
theorem dX7_narrow_32 : decode cX7_narrow 32 = .ok (.iload_n 2, 1) := by decide +kernel
theorem dX7_narrow_33 : decode cX7_narrow 33 = .ok (.iload 4, 2) := by decide +kernel
theorem dX7_narrow_35 : decode cX7_narrow 35 = .ok (.invokestatic 95, 3) := by decide +kernel
theorem dX7_narrow_38 : decode cX7_narrow 38 = .ok (.ifCond .eq 9, 3) := by decide +kernel
theorem dX7_narrow_41 : decode cX7_narrow 41 = .ok (.iload 4, 2) := by decide +kernel
theorem dX7_narrow_43 : decode cX7_narrow 43 = .ok (.iload_n 3, 1) := by decide +kernel
theorem dX7_narrow_44 : decode cX7_narrow 44 = .ok (.if_icmp .ge 13, 3) := by decide +kernel
theorem dX7_narrow_57 : decode cX7_narrow 57 = .ok (.aload_n 0, 1) := by decide +kernel
theorem dX7_narrow_58 : decode cX7_narrow 58 = .ok (.getfield 10, 3) := by decide +kernel
theorem dX7_narrow_61 : decode cX7_narrow 61 = .ok (.getfield 104, 3) := by decide +kernel
theorem dX7_narrow_64 : decode cX7_narrow 64 = .ok (.iload_n 1, 1) := by decide +kernel
theorem dX7_narrow_65 : decode cX7_narrow 65 = .ok (.aaload, 1) := by decide +kernel
theorem dX7_narrow_66 : decode cX7_narrow 66 = .ok (.iload_n 2, 1) := by decide +kernel
set_option maxRecDepth 20000 in
theorem ggX7_narrow_X3_width : GoodIn wsX7_narrow wsX3_width := goodIn_r _ [23, 24, 25, 49, 50, 51, 52] (by decide +kernel) (by decide +kernel)
set_option maxRecDepth 20000 in
theorem gX7_narrow_X3_width : GoodIn wsX7_narrow (wsV RX7 108 RX3 yX3_width wsX3_width) := goodIn_app (goodIn_of _ (by decide +kernel)) ggX7_narrow_X3_width
theorem dX7_narrow_67 : decode cX7_narrow 67 = .ok (.invokevirtual 108, 3) := by decide +kernel
theorem dX7_narrow_70 : decode cX7_narrow 70 = .ok (.istore 5, 2) := by decide +kernel
theorem dX7_narrow_72 : decode cX7_narrow 72 = .ok (.aload_n 0, 1) := by decide +kernel
theorem dX7_narrow_73 : decode cX7_narrow 73 = .ok (.getfield 10, 3) := by decide +kernel
theorem dX7_narrow_76 : decode cX7_narrow 76 = .ok (.getfield 104, 3) := by decide +kernel
theorem dX7_narrow_79 : decode cX7_narrow 79 = .ok (.iload_n 1, 1) := by decide +kernel
theorem dX7_narrow_80 : decode cX7_narrow 80 = .ok (.aaload, 1) := by decide +kernel
theorem dX7_narrow_81 : decode cX7_narrow 81 = .ok (.getfield 114, 3) := by decide +kernel
theorem dX7_narrow_84 : decode cX7_narrow 84 = .ok (.iload_n 2, 1) := by decide +kernel
theorem dX7_narrow_85 : decode cX7_narrow 85 = .ok (.iload_n 3, 1) := by decide +kernel
theorem dX7_narrow_86 : decode cX7_narrow 86 = .ok (.iastore, 1) := by decide +kernel
theorem dX7_narrow_87 : decode cX7_narrow 87 = .ok (.aload_n 0, 1) := by decide +kernel
theorem dX7_narrow_88 : decode cX7_narrow 88 = .ok (.getfield 10, 3) := by decide +kernel
theorem dX7_narrow_91 : decode cX7_narrow 91 = .ok (.getfield 104, 3) := by decide +kernel
theorem dX7_narrow_94 : decode cX7_narrow 94 = .ok (.iload_n 1, 1) := by decide +kernel
theorem dX7_narrow_95 : decode cX7_narrow 95 = .ok (.aaload, 1) := by decide +kernel
theorem dX7_narrow_96 : decode cX7_narrow 96 = .ok (.getfield 117, 3) := by decide +kernel
theorem dX7_narrow_99 : decode cX7_narrow 99 = .ok (.iload_n 2, 1) := by decide +kernel
theorem dX7_narrow_100 : decode cX7_narrow 100 = .ok (.iload 4, 2) := by decide +kernel
theorem dX7_narrow_102 : decode cX7_narrow 102 = .ok (.iastore, 1) := by decide +kernel
theorem dX7_narrow_103 : decode cX7_narrow 103 = .ok (.aload_n 0, 1) := by decide +kernel
set_option maxRecDepth 20000 in
theorem ggX7_narrow_X7_outdate : GoodIn wsX7_narrow wsX7_outdate := goodIn_r _ [29, 30, 31, 32, 33, 34, 35, 36, 37, 38, 39, 40, 41, 42, 43, 44, 45, 53, 54, 55, 56, 57, 58, 59, 60, 61, 62, 63, 64, 65, 66, 67, 68, 69, 70, 71, 72, 73, 74, 75, 76, 77] (by decide +kernel) (by decide +kernel)
set_option maxRecDepth 20000 in
theorem gX7_narrow_X7_outdate : GoodIn wsX7_narrow (wsV RX7 84 RX7 yX7_outdate wsX7_outdate) := goodIn_app (goodIn_of _ (by decide +kernel)) ggX7_narrow_X7_outdate
theorem dX7_narrow_104 : decode cX7_narrow 104 = .ok (.invokevirtual 84, 3) := by decide +kernel
theorem dX7_narrow_107 : decode cX7_narrow 107 = .ok (.iload 5, 2) := by decide +kernel
theorem dX7_narrow_109 : decode cX7_narrow 109 = .ok (.ireturn, 1) := by decide +kernel
set_option maxHeartbeats 4000000 in
set_option maxRecDepth 100000 in
/-- setLast -/
theorem c_X7_setLast (l : Launch) (G : zG) (ad : Nat → Nat) (X : Nat → Nat → Int) (v : Int) (hV : zV X) (hv : v = 0 ∨ v = 1) : zR l G yX7_setLast wsX7_setLast { frames := 1, cells := 0, slots := 0, locals := 20 } (zpic G ad X) [.ref (ad 52), .int (zi v)] (zu G ad (fun w Y => w = X 0 2 ∧ Y = zOut (zw X 0 2 v))) 0 0 := by
  refine zR_of (cc := cX7_setLast) (maxL := 3) (rt := (some .boolean)) (by decide) rfl (Nat.le_of_ble_eq_true rfl) ?_
  intro p e s m below meth c A ls hx hb hml hr hts hown hlocks hin0 hA hE hP hD hS hl
  have hl : lv_has ls 3 [(0, .ref (ad 52)), (1, .int (zi v))] := hl
  have hown : s.vm.findClass RX7 = some m.cls := hown
  have hlw := (hV.wok (Or.inl rfl : zIsW 0)).2.1
  have hw7 : ∀ w ∈ u_ws RX7 TX7 8, w ∈ wsX7_setLast := by decide +kernel
  have hf10 := hts (.fieldLink RX7 10 "Nettle" "wall" "LNettle$Wall;") (by decide +kernel)
  have hw6 : ∀ w ∈ u_ws RX6 TX6 3, w ∈ wsX7_setLast := by decide +kernel
  have hf135 := hts (.fieldLink RX7 135 "Nettle$Wall" "isLastAllow" "Z") (by decide +kernel)
  refine lv_aload_n hx hb dX7_setLast_0 rfl (lv_at hl 0 rfl) ?_
  refine va_get (D := G.1) (ci := 7) (v := .ref (ad 0)) (C := RX7) (T := TX7) (N := 8) hx hb hts hw7 hown hE.1 hP 52 p_52 rfl 0 (by decide) hf10 (fun _ h9 => h9) rfl dX7_setLast_1 ?_
  refine va_get (D := G.1) (ci := 6) (v := .int (zi (X 0 2))) (C := RX6) (T := TX6) (N := 3) hx hb hts hw6 hown hE.1 hP 0 (p_w (Or.inl rfl)) rfl 2 (by decide) hf135 (fun _ h9 => h9) rfl dX7_setLast_4 ?_
  refine lv_istore_n (lv' := [(2, .int (zi (X 0 2))), (0, .ref (ad 52)), (1, .int (zi v))]) hx hb dX7_setLast_7 rfl hl (by decide) rfl (fun ls hl => ?_)
  refine lv_aload_n hx hb dX7_setLast_8 rfl (lv_at hl 1 rfl) ?_
  refine va_get (D := G.1) (ci := 7) (v := .ref (ad 0)) (C := RX7) (T := TX7) (N := 8) hx hb hts hw7 hown hE.1 hP 52 p_52 rfl 0 (by decide) hf10 (fun _ h9 => h9) rfl dX7_setLast_9 ?_
  refine lv_iload_n hx hb dX7_setLast_12 rfl (lv_at hl 2 rfl) ?_
  refine zput (C := RX6) (T := TX6) (N := 3) (ci := 6) (v := .int (zi v)) (ty := tyX6 2) hx hb hts hw6 tyX6 tyX6_ok nmX6 hown hE hP hD hS 0 (p_w (Or.inl rfl)) rfl 2 (by decide) hf135 (fun _ h9 => h9) rfl (by decide +kernel) (zbool hv) (zboolf hv) (Nat.le_of_ble_eq_true rfl) (s_w2 (Or.inl rfl) v) dX7_setLast_13 (fun H locs hP hD hS => ?_)
  refine lv_aload_n hx hb dX7_setLast_16 rfl (lv_at hl 1 rfl) ?_
  refine zcall (wr := []) (va_runV (As := []) (rest := []) ⟨hx, hb, hml, hown, hts⟩ (c_X7_outdate l G ad (zw X 0 2 v) H.size) (cwV 0 hts gX7_setLast_X7_outdate rfl rfl rfl (by decide +kernel) ⟨Nat.le_of_ble_eq_true rfl, Nat.le_of_ble_eq_true rfl⟩) (zPreV (wr := []) (wc := zpic G ad (zw X 0 2 v)) (q0 := 52) (ci := 7) (q := (RX7, TX7, 8)) hP hD hE hS hA rfl p_52) rfl rfl hl.1 rfl (lv_room (Nat.le_of_ble_eq_true rfl)) dX7_setLast_17 ⟨Nat.le_of_ble_eq_true rfl, Nat.le_of_ble_eq_true rfl⟩) hP hD hS hA (fun _ _ H locs hf hP hD hS => ?_)
  obtain ⟨X1, rfl, hX1, rfl⟩ := hf
  have hP : va_P G.1 vwCl (zpic G ad X1) H := hP
  have hD : va_D A (zpic G ad X1) := hD
  refine W.eq (g2 := F0 m 20 ls []) rfl ?_
  refine lv_iload_n hx hb dX7_setLast_20 rfl (lv_at hl 0 rfl) ?_
  exact zend_z hx hb hr hlocks (zbool hlw) hP hD hS (Nat.le_of_ble_eq_true rfl) (Nat.le_of_ble_eq_true rfl) dX7_setLast_21 ⟨_, _, rfl, ⟨rfl, hX1⟩, rfl⟩

set_option maxHeartbeats 4000000 in
set_option maxRecDepth 100000 in
/-- turn -/
theorem c_X7_turn (l : Launch) (G : zG) (ad : Nat → Nat) (X : Nat → Nat → Int) (q : Nat) (v : Int) (hV : zV X) (hq : q < zN X 0) (hv : 0 ≤ v ∧ v ≤ 2) : zR l G yX7_turn wsX7_turn { frames := 1, cells := 0, slots := 0, locals := 21 } (zpic G ad X) [.ref (ad 52), .int (zi (q : Int)), .int (zi v)] (zu G ad (fun w Y => w = X (zr X 0 q) 0 ∧ Y = zOut (zw X (zr X 0 q) 0 v))) 0 0 := by
  refine zR_of (cc := cX7_turn) (maxL := 4) (rt := (some .int)) (by decide) rfl (Nat.le_of_ble_eq_true rfl) ?_
  intro p e s m below meth c A ls hx hb hml hr hts hown hlocks hin0 hA hE hP hD hS hl
  have hl : lv_has ls 4 [(0, .ref (ad 52)), (1, .int (zi (q : Int))), (2, .int (zi v))] := hl
  have hown : s.vm.findClass RX7 = some m.cls := hown
  have hn := hV.n (Or.inl rfl : zIsW 0)
  have hw7 : ∀ w ∈ u_ws RX7 TX7 8, w ∈ wsX7_turn := by decide +kernel
  have hf10 := hts (.fieldLink RX7 10 "Nettle" "wall" "LNettle$Wall;") (by decide +kernel)
  have hw6 : ∀ w ∈ u_ws RX6 TX6 3, w ∈ wsX7_turn := by decide +kernel
  have hf104 := hts (.fieldLink RX7 104 "Nettle$Wall" "rows" "[LNettle$Rule;") (by decide +kernel)
  have hw3 : ∀ w ∈ u_ws RX3 TX3 4, w ∈ wsX7_turn := by decide +kernel
  have hf120 := hts (.fieldLink RX7 120 "Nettle$Rule" "verdict" "I") (by decide +kernel)
  refine lv_aload_n hx hb dX7_turn_0 rfl (lv_at hl 0 rfl) ?_
  refine lv_iload_n hx hb dX7_turn_1 rfl (lv_at hl 1 rfl) ?_
  refine zcall (wr := []) (va_runV (As := [.int (zi (q : Int))]) (rest := []) ⟨hx, hb, hml, hown, hts⟩ (c_X7_needRule l G ad X q hV (by omega) s.heap.size) (cwV 1 hts gX7_turn_X7_needRule rfl rfl rfl (by decide +kernel) ⟨Nat.le_of_ble_eq_true rfl, Nat.le_of_ble_eq_true rfl⟩) (zPreV (wr := []) (wc := zpic G ad X) (q0 := 52) (ci := 7) (q := (RX7, TX7, 8)) hP hD hE hS hA rfl p_52) rfl rfl hl.1 rfl (lv_room (Nat.le_of_ble_eq_true rfl)) dX7_turn_2 ⟨Nat.le_of_ble_eq_true rfl, Nat.le_of_ble_eq_true rfl⟩) hP hD hS hA (fun _ _ H locs hf hP hD hS => ?_)
  obtain ⟨rfl, rfl⟩ := hf
  have hP : va_P G.1 vwCl (zpic G ad X) H := hP
  have hD : va_D A (zpic G ad X) := hD
  refine W.eq (g2 := F0 m 5 ls []) rfl ?_
  refine lv_iload_n hx hb dX7_turn_5 rfl (lv_at hl 2 rfl) ?_
  refine zcall (wr := []) (va_runS (As := [.int (zi v)]) (rest := []) ⟨hx, hb, hml, hown, hts⟩ (c_X7_needVerdict l G ad X v (by omega) H.size) (va_cwS 1 hts gX7_turn_X7_needVerdict rfl rfl rfl (by decide +kernel) ⟨Nat.le_of_ble_eq_true rfl, Nat.le_of_ble_eq_true rfl⟩) (zPre (wr := []) (wc := zpic G ad X) (As := [.int (zi v)]) hP hD hE hS hA).1 rfl rfl hl.1 rfl (lv_room (Nat.le_of_ble_eq_true rfl)) dX7_turn_6 ⟨Nat.le_of_ble_eq_true rfl, Nat.le_of_ble_eq_true rfl⟩) hP hD hS hA (fun _ _ H locs hf hP hD hS => ?_)
  obtain ⟨rfl, rfl⟩ := hf
  have hP : va_P G.1 vwCl (zpic G ad X) H := hP
  have hD : va_D A (zpic G ad X) := hD
  refine W.eq (g2 := F0 m 9 ls []) rfl ?_
  refine lv_aload_n hx hb dX7_turn_9 rfl (lv_at hl 0 rfl) ?_
  refine va_get (D := G.1) (ci := 7) (v := .ref (ad 0)) (C := RX7) (T := TX7) (N := 8) hx hb hts hw7 hown hE.1 hP 52 p_52 rfl 0 (by decide) hf10 (fun _ h9 => h9) rfl dX7_turn_10 ?_
  refine va_get (D := G.1) (ci := 6) (v := .ref (ad 1)) (C := RX6) (T := TX6) (N := 3) hx hb hts hw6 hown hE.1 hP 0 (p_w (Or.inl rfl)) rfl 0 (by decide) hf104 (fun _ h9 => h9) rfl dX7_turn_13 ?_
  refine lv_iload_n hx hb dX7_turn_16 rfl (lv_at hl 1 rfl) ?_
  refine zqld hx hb hE hP (Or.inl rfl) q rfl (by omega) dX7_turn_17 ?_
  have hR1 : zIsR (zr X 0 q) := hV.isR (Or.inl rfl) (by omega)
  refine va_get (D := G.1) (ci := 3) (v := .int (zi (X (zr X 0 q) 0))) (C := RX3) (T := TX3) (N := 4) hx hb hts hw3 hown hE.1 hP (zr X 0 q) (p_r hR1) rfl 0 (by decide) hf120 (fun _ h9 => h9) rfl dX7_turn_18 ?_
  refine lv_istore_n (lv' := [(3, .int (zi (X (zr X 0 q) 0))), (0, .ref (ad 52)), (1, .int (zi (q : Int))), (2, .int (zi v))]) hx hb dX7_turn_21 rfl hl (by decide) rfl (fun ls hl => ?_)
  refine lv_aload_n hx hb dX7_turn_22 rfl (lv_at hl 1 rfl) ?_
  refine va_get (D := G.1) (ci := 7) (v := .ref (ad 0)) (C := RX7) (T := TX7) (N := 8) hx hb hts hw7 hown hE.1 hP 52 p_52 rfl 0 (by decide) hf10 (fun _ h9 => h9) rfl dX7_turn_23 ?_
  refine va_get (D := G.1) (ci := 6) (v := .ref (ad 1)) (C := RX6) (T := TX6) (N := 3) hx hb hts hw6 hown hE.1 hP 0 (p_w (Or.inl rfl)) rfl 0 (by decide) hf104 (fun _ h9 => h9) rfl dX7_turn_26 ?_
  refine lv_iload_n hx hb dX7_turn_29 rfl (lv_at hl 2 rfl) ?_
  refine zqld hx hb hE hP (Or.inl rfl) q rfl (by omega) dX7_turn_30 ?_
  refine lv_iload_n hx hb dX7_turn_31 rfl (lv_at hl 3 rfl) ?_
  refine zput (C := RX3) (T := TX3) (N := 4) (ci := 3) (v := .int (zi v)) (ty := tyX3 0) hx hb hts hw3 tyX3 tyX3_ok nmX3 hown hE hP hD hS (zr X 0 q) (p_r hR1) rfl 0 (by decide) hf120 (fun _ h9 => h9) rfl (by decide +kernel) rfl rfl (Nat.le_of_ble_eq_true rfl) (s_r0 hR1 v) dX7_turn_32 (fun H locs hP hD hS => ?_)
  refine lv_aload_n hx hb dX7_turn_35 rfl (lv_at hl 1 rfl) ?_
  refine zcall (wr := []) (va_runV (As := []) (rest := []) ⟨hx, hb, hml, hown, hts⟩ (c_X7_outdate l G ad (zw X (zr X 0 q) 0 v) H.size) (cwV 0 hts gX7_turn_X7_outdate rfl rfl rfl (by decide +kernel) ⟨Nat.le_of_ble_eq_true rfl, Nat.le_of_ble_eq_true rfl⟩) (zPreV (wr := []) (wc := zpic G ad (zw X (zr X 0 q) 0 v)) (q0 := 52) (ci := 7) (q := (RX7, TX7, 8)) hP hD hE hS hA rfl p_52) rfl rfl hl.1 rfl (lv_room (Nat.le_of_ble_eq_true rfl)) dX7_turn_36 ⟨Nat.le_of_ble_eq_true rfl, Nat.le_of_ble_eq_true rfl⟩) hP hD hS hA (fun _ _ H locs hf hP hD hS => ?_)
  obtain ⟨X1, rfl, hX1, rfl⟩ := hf
  have hP : va_P G.1 vwCl (zpic G ad X1) H := hP
  have hD : va_D A (zpic G ad X1) := hD
  refine W.eq (g2 := F0 m 39 ls []) rfl ?_
  refine lv_iload_n hx hb dX7_turn_39 rfl (lv_at hl 0 rfl) ?_
  exact zend_i hx hb hr hlocks hP hD hS (Nat.le_of_ble_eq_true rfl) (Nat.le_of_ble_eq_true rfl) dX7_turn_40 ⟨_, _, rfl, ⟨rfl, hX1⟩, rfl⟩

set_option maxHeartbeats 4000000 in
set_option maxRecDepth 100000 in
/-- narrow -/
theorem c_X7_narrow (l : Launch) (G : zG) (ad : Nat → Nat) (X : Nat → Nat → Int) (q : Nat) (f : Nat) (lo : Int) (hi : Int) (hV : zV X) (hq : q < zN X 0) (hf : f < 4) (hlo : 0 ≤ lo ∧ lo ≤ hi ∧ hi < zS f) : zR l G yX7_narrow wsX7_narrow { frames := 1, cells := 0, slots := 0, locals := 21 } (zpic G ad X) [.ref (ad 52), .int (zi (q : Int)), .int (zi (f : Int)), .int (zi lo), .int (zi hi)] (zu G ad (fun w Y => w = X (zr X 0 q + 2) f - X (zr X 0 q + 1) f + 1 ∧ Y = zOut (zw (zw X (zr X 0 q + 1) f lo) (zr X 0 q + 2) f hi))) 0 0 := by
  refine zR_of (cc := cX7_narrow) (maxL := 6) (rt := (some .int)) (by decide) rfl (Nat.le_of_ble_eq_true rfl) ?_
  intro p e s m below meth c A ls hx hb hml hr hts hown hlocks hin0 hA hE hP hD hS hl
  have hl : lv_has ls 6 [(0, .ref (ad 52)), (1, .int (zi (q : Int))), (2, .int (zi (f : Int))), (3, .int (zi lo)), (4, .int (zi hi))] := hl
  have hown : s.vm.findClass RX7 = some m.cls := hown
  have hn := hV.n (Or.inl rfl : zIsW 0)
  have hsf := zS_le f
  have hw7 : ∀ w ∈ u_ws RX7 TX7 8, w ∈ wsX7_narrow := by decide +kernel
  have hf10 := hts (.fieldLink RX7 10 "Nettle" "wall" "LNettle$Wall;") (by decide +kernel)
  have hw6 : ∀ w ∈ u_ws RX6 TX6 3, w ∈ wsX7_narrow := by decide +kernel
  have hf104 := hts (.fieldLink RX7 104 "Nettle$Wall" "rows" "[LNettle$Rule;") (by decide +kernel)
  have hw3 : ∀ w ∈ u_ws RX3 TX3 4, w ∈ wsX7_narrow := by decide +kernel
  have hf114 := hts (.fieldLink RX7 114 "Nettle$Rule" "lows" "[I") (by decide +kernel)
  have hf117 := hts (.fieldLink RX7 117 "Nettle$Rule" "highs" "[I") (by decide +kernel)
  refine lv_aload_n hx hb dX7_narrow_0 rfl (lv_at hl 0 rfl) ?_
  refine lv_iload_n hx hb dX7_narrow_1 rfl (lv_at hl 1 rfl) ?_
  refine zcall (wr := []) (va_runV (As := [.int (zi (q : Int))]) (rest := []) ⟨hx, hb, hml, hown, hts⟩ (c_X7_needRule l G ad X q hV (by omega) s.heap.size) (cwV 1 hts gX7_narrow_X7_needRule rfl rfl rfl (by decide +kernel) ⟨Nat.le_of_ble_eq_true rfl, Nat.le_of_ble_eq_true rfl⟩) (zPreV (wr := []) (wc := zpic G ad X) (q0 := 52) (ci := 7) (q := (RX7, TX7, 8)) hP hD hE hS hA rfl p_52) rfl rfl hl.1 rfl (lv_room (Nat.le_of_ble_eq_true rfl)) dX7_narrow_2 ⟨Nat.le_of_ble_eq_true rfl, Nat.le_of_ble_eq_true rfl⟩) hP hD hS hA (fun _ _ H locs hf hP hD hS => ?_)
  obtain ⟨rfl, rfl⟩ := hf
  have hP : va_P G.1 vwCl (zpic G ad X) H := hP
  have hD : va_D A (zpic G ad X) := hD
  refine W.eq (g2 := F0 m 5 ls []) rfl ?_
  refine lv_iload_n hx hb dX7_narrow_5 rfl (lv_at hl 2 rfl) ?_
  refine z0_lt (tgt := 14) hx hb dX7_narrow_6 (by decide) (by omega) (fun h9 => by exfalso; omega) (fun h6 => ?_)
  refine lv_iload_n hx hb dX7_narrow_9 rfl (lv_at hl 2 rfl) ?_
  refine lv_iconst (v := zi 4) hx hb dX7_narrow_10 rfl ?_
  refine zc_lt (tgt := 24) hx hb dX7_narrow_11 (by decide) (by omega) (by decide) (fun h11 => ?_) (fun h9 => by exfalso; omega)
  refine lv_iload_n hx hb dX7_narrow_24 rfl (lv_at hl 2 rfl) ?_
  refine lv_iload_n hx hb dX7_narrow_25 rfl (lv_at hl 3 rfl) ?_
  refine zcall (wr := []) (va_runS (As := [.int (zi (f : Int)), .int (zi lo)]) (rest := []) ⟨hx, hb, hml, hown, hts⟩ (c_X7_isValue l G ad X f lo (by omega) (by omega) H.size) (va_cwS 2 hts gX7_narrow_X7_isValue rfl rfl rfl (by decide +kernel) ⟨Nat.le_of_ble_eq_true rfl, Nat.le_of_ble_eq_true rfl⟩) (zPre (wr := []) (wc := zpic G ad X) (As := [.int (zi (f : Int)), .int (zi lo)]) hP hD hE hS hA).1 rfl rfl hl.1 rfl (lv_room (Nat.le_of_ble_eq_true rfl)) dX7_narrow_26 ⟨Nat.le_of_ble_eq_true rfl, Nat.le_of_ble_eq_true rfl⟩) hP hD hS hA (fun _ _ H locs hf hP hD hS => ?_)
  obtain ⟨v1, rfl, hv1, rfl⟩ := hf
  have hP : va_P G.1 vwCl (zpic G ad X) H := hP
  have hD : va_D A (zpic G ad X) := hD
  refine W.eq (g2 := F0 m 29 ls [.int (zi v1)]) rfl ?_
  refine z0_eq (tgt := 47) hx hb dX7_narrow_29 (by decide) (by omega) (fun h9 => by exfalso; omega) (fun h29 => ?_)
  refine lv_iload_n hx hb dX7_narrow_32 rfl (lv_at hl 2 rfl) ?_
  refine lv_iload hx hb dX7_narrow_33 (lv_at hl 4 rfl) ?_
  refine zcall (wr := []) (va_runS (As := [.int (zi (f : Int)), .int (zi hi)]) (rest := []) ⟨hx, hb, hml, hown, hts⟩ (c_X7_isValue l G ad X f hi (by omega) (by omega) H.size) (va_cwS 2 hts gX7_narrow_X7_isValue rfl rfl rfl (by decide +kernel) ⟨Nat.le_of_ble_eq_true rfl, Nat.le_of_ble_eq_true rfl⟩) (zPre (wr := []) (wc := zpic G ad X) (As := [.int (zi (f : Int)), .int (zi hi)]) hP hD hE hS hA).1 rfl rfl hl.1 rfl (lv_room (Nat.le_of_ble_eq_true rfl)) dX7_narrow_35 ⟨Nat.le_of_ble_eq_true rfl, Nat.le_of_ble_eq_true rfl⟩) hP hD hS hA (fun _ _ H locs hf hP hD hS => ?_)
  obtain ⟨v2, rfl, hv2, rfl⟩ := hf
  have hP : va_P G.1 vwCl (zpic G ad X) H := hP
  have hD : va_D A (zpic G ad X) := hD
  refine W.eq (g2 := F0 m 38 ls [.int (zi v2)]) rfl ?_
  refine z0_eq (tgt := 47) hx hb dX7_narrow_38 (by decide) (by omega) (fun h9 => by exfalso; omega) (fun h38 => ?_)
  refine lv_iload hx hb dX7_narrow_41 (lv_at hl 4 rfl) ?_
  refine lv_iload_n hx hb dX7_narrow_43 rfl (lv_at hl 3 rfl) ?_
  refine zc_ge (tgt := 57) hx hb dX7_narrow_44 (by decide) (by omega) (by omega) (fun h44 => ?_) (fun h9 => by exfalso; omega)
  refine lv_aload_n hx hb dX7_narrow_57 rfl (lv_at hl 0 rfl) ?_
  refine va_get (D := G.1) (ci := 7) (v := .ref (ad 0)) (C := RX7) (T := TX7) (N := 8) hx hb hts hw7 hown hE.1 hP 52 p_52 rfl 0 (by decide) hf10 (fun _ h9 => h9) rfl dX7_narrow_58 ?_
  refine va_get (D := G.1) (ci := 6) (v := .ref (ad 1)) (C := RX6) (T := TX6) (N := 3) hx hb hts hw6 hown hE.1 hP 0 (p_w (Or.inl rfl)) rfl 0 (by decide) hf104 (fun _ h9 => h9) rfl dX7_narrow_61 ?_
  refine lv_iload_n hx hb dX7_narrow_64 rfl (lv_at hl 1 rfl) ?_
  refine zqld hx hb hE hP (Or.inl rfl) q rfl (by omega) dX7_narrow_65 ?_
  have hR1 : zIsR (zr X 0 q) := hV.isR (Or.inl rfl) (by omega)
  refine lv_iload_n hx hb dX7_narrow_66 rfl (lv_at hl 2 rfl) ?_
  refine zcall (wr := []) (va_runV (As := [.int (zi (f : Int))]) (rest := []) ⟨hx, hb, hml, hown, hts⟩ (c_X3_width l G ad X (zr X 0 q) f hV hR1 (by omega) H.size) (cwV 1 hts gX7_narrow_X3_width rfl rfl rfl (by decide +kernel) ⟨Nat.le_of_ble_eq_true rfl, Nat.le_of_ble_eq_true rfl⟩) (zPreV (wr := []) (wc := zpic G ad X) (q0 := (zr X 0 q)) (ci := 3) (q := (RX3, TX3, 4)) hP hD hE hS hA rfl (p_r hR1)) rfl rfl hl.1 rfl (lv_room (Nat.le_of_ble_eq_true rfl)) dX7_narrow_67 ⟨Nat.le_of_ble_eq_true rfl, Nat.le_of_ble_eq_true rfl⟩) hP hD hS hA (fun _ _ H locs hf hP hD hS => ?_)
  obtain ⟨v3, rfl, hv3, rfl⟩ := hf
  have hP : va_P G.1 vwCl (zpic G ad X) H := hP
  have hD : va_D A (zpic G ad X) := hD
  refine W.eq (g2 := F0 m 70 ls [.int (zi v3)]) rfl ?_
  refine lv_istore (lv' := [(5, .int (zi v3)), (0, .ref (ad 52)), (1, .int (zi (q : Int))), (2, .int (zi (f : Int))), (3, .int (zi lo)), (4, .int (zi hi))]) hx hb dX7_narrow_70 hl (by decide) rfl (fun ls hl => ?_)
  refine lv_aload_n hx hb dX7_narrow_72 rfl (lv_at hl 1 rfl) ?_
  refine va_get (D := G.1) (ci := 7) (v := .ref (ad 0)) (C := RX7) (T := TX7) (N := 8) hx hb hts hw7 hown hE.1 hP 52 p_52 rfl 0 (by decide) hf10 (fun _ h9 => h9) rfl dX7_narrow_73 ?_
  refine va_get (D := G.1) (ci := 6) (v := .ref (ad 1)) (C := RX6) (T := TX6) (N := 3) hx hb hts hw6 hown hE.1 hP 0 (p_w (Or.inl rfl)) rfl 0 (by decide) hf104 (fun _ h9 => h9) rfl dX7_narrow_76 ?_
  refine lv_iload_n hx hb dX7_narrow_79 rfl (lv_at hl 2 rfl) ?_
  refine zqld hx hb hE hP (Or.inl rfl) q rfl (by omega) dX7_narrow_80 ?_
  refine va_get (D := G.1) (ci := 3) (v := .ref (ad ((zr X 0 q) + 1))) (C := RX3) (T := TX3) (N := 4) hx hb hts hw3 hown hE.1 hP (zr X 0 q) (p_r hR1) rfl 2 (by decide) hf114 (fun _ h9 => h9) rfl dX7_narrow_81 ?_
  refine lv_iload_n hx hb dX7_narrow_84 rfl (lv_at hl 3 rfl) ?_
  refine lv_iload_n hx hb dX7_narrow_85 rfl (lv_at hl 4 rfl) ?_
  refine zist hx hb hE hP hD hS ((zr X 0 q) + 1) 4 (a_l hR1) (by have := hR1.lt; omega) f rfl (by omega) (by decide) dX7_narrow_86 (fun H locs hP hD hS => ?_)
  refine lv_aload_n hx hb dX7_narrow_87 rfl (lv_at hl 1 rfl) ?_
  refine va_get (D := G.1) (ci := 7) (v := .ref (ad 0)) (C := RX7) (T := TX7) (N := 8) hx hb hts hw7 hown hE.1 hP 52 p_52 rfl 0 (by decide) hf10 (fun _ h9 => h9) rfl dX7_narrow_88 ?_
  refine va_get (D := G.1) (ci := 6) (v := .ref (ad 1)) (C := RX6) (T := TX6) (N := 3) hx hb hts hw6 hown hE.1 hP 0 (p_w (Or.inl rfl)) rfl 0 (by decide) hf104 (fun _ h9 => h9) rfl dX7_narrow_91 ?_
  refine lv_iload_n hx hb dX7_narrow_94 rfl (lv_at hl 2 rfl) ?_
  refine zqld hx hb hE hP (Or.inl rfl) q rfl (by omega) dX7_narrow_95 ?_
  have ez : zr (zw X (zr X 0 q + 1) f lo) 0 q = zr X 0 q := by unfold zr; rw [zw_cell (by omega)]
  rw [ez]
  refine va_get (D := G.1) (ci := 3) (v := .ref (ad ((zr X 0 q) + 2))) (C := RX3) (T := TX3) (N := 4) hx hb hts hw3 hown hE.1 hP (zr X 0 q) (p_r hR1) rfl 3 (by decide) hf117 (fun _ h9 => h9) rfl dX7_narrow_96 ?_
  refine lv_iload_n hx hb dX7_narrow_99 rfl (lv_at hl 3 rfl) ?_
  refine lv_iload hx hb dX7_narrow_100 (lv_at hl 5 rfl) ?_
  refine zist hx hb hE hP hD hS ((zr X 0 q) + 2) 4 (a_h hR1) (by have := hR1.lt; omega) f rfl (by omega) (by decide) dX7_narrow_102 (fun H locs hP hD hS => ?_)
  refine lv_aload_n hx hb dX7_narrow_103 rfl (lv_at hl 1 rfl) ?_
  refine zcall (wr := []) (va_runV (As := []) (rest := []) ⟨hx, hb, hml, hown, hts⟩ (c_X7_outdate l G ad (zw (zw X ((zr X 0 q) + 1) f lo) ((zr X 0 q) + 2) f hi) H.size) (cwV 0 hts gX7_narrow_X7_outdate rfl rfl rfl (by decide +kernel) ⟨Nat.le_of_ble_eq_true rfl, Nat.le_of_ble_eq_true rfl⟩) (zPreV (wr := []) (wc := zpic G ad (zw (zw X ((zr X 0 q) + 1) f lo) ((zr X 0 q) + 2) f hi)) (q0 := 52) (ci := 7) (q := (RX7, TX7, 8)) hP hD hE hS hA rfl p_52) rfl rfl hl.1 rfl (lv_room (Nat.le_of_ble_eq_true rfl)) dX7_narrow_104 ⟨Nat.le_of_ble_eq_true rfl, Nat.le_of_ble_eq_true rfl⟩) hP hD hS hA (fun _ _ H locs hf hP hD hS => ?_)
  obtain ⟨X1, rfl, hX1, rfl⟩ := hf
  have hP : va_P G.1 vwCl (zpic G ad X1) H := hP
  have hD : va_D A (zpic G ad X1) := hD
  refine W.eq (g2 := F0 m 107 ls []) rfl ?_
  refine lv_iload hx hb dX7_narrow_107 (lv_at hl 0 rfl) ?_
  exact zend_i hx hb hr hlocks hP hD hS (Nat.le_of_ble_eq_true rfl) (Nat.le_of_ble_eq_true rfl) dX7_narrow_109 ⟨_, _, rfl, ⟨hv3, hX1⟩, rfl⟩
