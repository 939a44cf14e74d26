/-! Nettle: what needs no cache -/
theorem dX7_shared_0 : decode cX7_shared 0 = .ok (.aload_n 0, 1) := by decide +kernel
theorem dX7_shared_1 : decode cX7_shared 1 = .ok (.iload_n 1, 1) := by decide +kernel
set_option maxRecDepth 20000 in
theorem ggX7_shared_X7_needRule : GoodIn wsX7_shared wsX7_needRule := goodIn_ca (goodIn_r _ [7, 8, 9, 1, 10, 25, 26, 27, 28, 29, 30, 31, 32, 33, 34, 35] (by decide +kernel) (by decide +kernel)) (goodIn_sub (fun _ h => List.mem_cons_of_mem _ (List.mem_append_right _ h)) (by decide +kernel))
set_option maxRecDepth 20000 in
theorem gX7_shared_X7_needRule : GoodIn wsX7_shared (wsV RX7 87 RX7 yX7_needRule wsX7_needRule) := goodIn_app (goodIn_of _ (by decide +kernel)) ggX7_shared_X7_needRule
theorem dX7_shared_2 : decode cX7_shared 2 = .ok (.invokevirtual 87, 3) := by decide +kernel
theorem dX7_shared_5 : decode cX7_shared 5 = .ok (.aload_n 0, 1) := by decide +kernel
theorem dX7_shared_6 : decode cX7_shared 6 = .ok (.iload_n 2, 1) := by decide +kernel
theorem dX7_shared_7 : decode cX7_shared 7 = .ok (.invokevirtual 87, 3) := by decide +kernel
theorem dX7_shared_10 : decode cX7_shared 10 = .ok (.aload_n 0, 1) := by decide +kernel
theorem dX7_shared_11 : decode cX7_shared 11 = .ok (.getfield 10, 3) := by decide +kernel
theorem dX7_shared_14 : decode cX7_shared 14 = .ok (.getfield 104, 3) := by decide +kernel
theorem dX7_shared_17 : decode cX7_shared 17 = .ok (.iload_n 1, 1) := by decide +kernel
theorem dX7_shared_18 : decode cX7_shared 18 = .ok (.aaload, 1) := by decide +kernel
theorem dX7_shared_19 : decode cX7_shared 19 = .ok (.aload_n 0, 1) := by decide +kernel
theorem dX7_shared_20 : decode cX7_shared 20 = .ok (.getfield 10, 3) := by decide +kernel
theorem dX7_shared_23 : decode cX7_shared 23 = .ok (.getfield 104, 3) := by decide +kernel
theorem dX7_shared_26 : decode cX7_shared 26 = .ok (.iload_n 2, 1) := by decide +kernel
theorem dX7_shared_27 : decode cX7_shared 27 = .ok (.aaload, 1) := by decide +kernel
set_option maxRecDepth 20000 in
theorem ggX7_shared_X3_amountWith : GoodIn wsX7_shared wsX3_amountWith := goodIn_r _ [15, 16, 17, 18, 19, 20, 21, 22, 23, 24, 36, 37, 38, 39] (by decide +kernel) (by decide +kernel)
set_option maxRecDepth 20000 in
theorem gX7_shared_X3_amountWith : GoodIn wsX7_shared (wsV RX7 169 RX3 yX3_amountWith wsX3_amountWith) := goodIn_app (goodIn_of _ (by decide +kernel)) ggX7_shared_X3_amountWith
theorem dX7_shared_28 : decode cX7_shared 28 = .ok (.invokevirtual 169, 3) := by decide +kernel
theorem dX7_shared_31 : decode cX7_shared 31 = .ok (.ireturn, 1) := by decide +kernel
theorem dX7_coveredBy_0 : decode cX7_coveredBy 0 = .ok (.aload_n 0, 1) := by decide +kernel
theorem dX7_coveredBy_1 : decode cX7_coveredBy 1 = .ok (.iload_n 1, 1) := by decide +kernel
set_option maxRecDepth 20000 in
theorem ggX7_coveredBy_X7_needRule : GoodIn wsX7_coveredBy wsX7_needRule := goodIn_ca (goodIn_r _ [6, 7, 8, 1, 9, 28, 29, 30, 31, 32, 33, 34, 35, 36, 37, 38] (by decide +kernel) (by decide +kernel)) (goodIn_sub (fun _ h => List.mem_cons_of_mem _ (List.mem_append_right _ h)) (by decide +kernel))
set_option maxRecDepth 20000 in
theorem gX7_coveredBy_X7_needRule : GoodIn wsX7_coveredBy (wsV RX7 87 RX7 yX7_needRule wsX7_needRule) := goodIn_app (goodIn_of _ (by decide +kernel)) ggX7_coveredBy_X7_needRule
theorem dX7_coveredBy_2 : decode cX7_coveredBy 2 = .ok (.invokevirtual 87, 3) := by decide +kernel
theorem dX7_coveredBy_5 : decode cX7_coveredBy 5 = .ok (.aload_n 0, 1) := by decide +kernel
theorem dX7_coveredBy_6 : decode cX7_coveredBy 6 = .ok (.getfield 10, 3) := by decide +kernel
theorem dX7_coveredBy_9 : decode cX7_coveredBy 9 = .ok (.iload_n 1, 1) := by decide +kernel
set_option maxRecDepth 20000 in
theorem ggX7_coveredBy_X6_firstCover : GoodIn wsX7_coveredBy wsX6_firstCover := goodIn_r _ [14, 15, 16, 17, 18, 19, 20, 21, 22, 23, 24, 25, 26, 27, 36, 37, 38, 39, 40, 41, 42] (by decide +kernel) (by decide +kernel)
set_option maxRecDepth 20000 in
theorem gX7_coveredBy_X6_firstCover : GoodIn wsX7_coveredBy (wsV RX7 166 RX6 yX6_firstCover wsX6_firstCover) := goodIn_app (goodIn_of _ (by decide +kernel)) ggX7_coveredBy_X6_firstCover
theorem dX7_coveredBy_10 : decode cX7_coveredBy 10 = .ok (.invokevirtual 166, 3) := by decide +kernel
theorem dX7_coveredBy_13 : decode cX7_coveredBy 13 = .ok (.ireturn, 1) := by decide +kernel
theorem dX7_takePacket_0 : decode cX7_takePacket 0 = .ok (.iconst 0, 1) := by decide +kernel
theorem dX7_takePacket_1 : decode cX7_takePacket 1 = .ok (.iload_n 1, 1) := by decide +kernel
set_option maxRecDepth 20000 in
theorem ggX7_takePacket_X7_isValue : GoodIn wsX7_takePacket wsX7_isValue := goodIn_r _ [7, 8] (by decide +kernel) (by decide +kernel)
set_option maxRecDepth 20000 in
theorem gX7_takePacket_X7_isValue : GoodIn wsX7_takePacket (va_wsS RX7 95 yX7_isValue wsX7_isValue) := goodIn_app (goodIn_of _ (by decide +kernel)) ggX7_takePacket_X7_isValue
theorem dX7_takePacket_2 : decode cX7_takePacket 2 = .ok (.invokestatic 95, 3) := by decide +kernel
theorem dX7_takePacket_5 : decode cX7_takePacket 5 = .ok (.ifCond .eq 28, 3) := by decide +kernel
theorem dX7_takePacket_8 : decode cX7_takePacket 8 = .ok (.iconst 1, 1) := by decide +kernel
theorem dX7_takePacket_9 : decode cX7_takePacket 9 = .ok (.iload_n 2, 1) := by decide +kernel
theorem dX7_takePacket_10 : decode cX7_takePacket 10 = .ok (.invokestatic 95, 3) := by decide +kernel
theorem dX7_takePacket_13 : decode cX7_takePacket 13 = .ok (.ifCond .eq 20, 3) := by decide +kernel
theorem dX7_takePacket_16 : decode cX7_takePacket 16 = .ok (.iconst 2, 1) := by decide +kernel
theorem dX7_takePacket_17 : decode cX7_takePacket 17 = .ok (.iload_n 3, 1) := by decide +kernel
theorem dX7_takePacket_18 : decode cX7_takePacket 18 = .ok (.invokestatic 95, 3) := by decide +kernel
theorem dX7_takePacket_21 : decode cX7_takePacket 21 = .ok (.ifCond .eq 12, 3) := by decide +kernel
theorem dX7_takePacket_24 : decode cX7_takePacket 24 = .ok (.iconst 3, 1) := by decide +kernel
theorem dX7_takePacket_25 : decode cX7_takePacket 25 = .ok (.iload 4, 2) := by decide +kernel
theorem dX7_takePacket_27 : decode cX7_takePacket 27 = .ok (.invokestatic 95, 3) := by decide +kernel
theorem dX7_takePacket_30 : decode cX7_takePacket 30 = .ok (.ifCond .ne 14, 3) := by decide +kernel
theorem dX7_takePacket_44 : decode cX7_takePacket 44 = .ok (.aload_n 0, 1) := by decide +kernel
theorem dX7_takePacket_45 : decode cX7_takePacket 45 = .ok (.getfield 62, 3) := by decide +kernel
theorem dX7_takePacket_48 : decode cX7_takePacket 48 = .ok (.iconst 0, 1) := by decide +kernel
theorem dX7_takePacket_49 : decode cX7_takePacket 49 = .ok (.iload_n 1, 1) := by decide +kernel
theorem dX7_takePacket_50 : decode cX7_takePacket 50 = .ok (.iastore, 1) := by decide +kernel
theorem dX7_takePacket_51 : decode cX7_takePacket 51 = .ok (.aload_n 0, 1) := by decide +kernel
theorem dX7_takePacket_52 : decode cX7_takePacket 52 = .ok (.getfield 62, 3) := by decide +kernel
theorem dX7_takePacket_55 : decode cX7_takePacket 55 = .ok (.iconst 1, 1) := by decide +kernel
theorem dX7_takePacket_56 : decode cX7_takePacket 56 = .ok (.iload_n 2, 1) := by decide +kernel
theorem dX7_takePacket_57 : decode cX7_takePacket 57 = .ok (.iastore, 1) := by decide +kernel
theorem dX7_takePacket_58 : decode cX7_takePacket 58 = .ok (.aload_n 0, 1) := by decide +kernel
theorem dX7_takePacket_59 : decode cX7_takePacket 59 = .ok (.getfield 62, 3) := by decide +kernel
theorem dX7_takePacket_62 : decode cX7_takePacket 62 = .ok (.iconst 2, 1) := by decide +kernel
theorem dX7_takePacket_63 : decode cX7_takePacket 63 = .ok (.iload_n 3, 1) := by decide +kernel
theorem dX7_takePacket_64 : decode cX7_takePacket 64 = .ok (.iastore, 1) := by decide +kernel
theorem dX7_takePacket_65 : decode cX7_takePacket 65 = .ok (.aload_n 0, 1) := by decide +kernel
theorem dX7_takePacket_66 : decode cX7_takePacket 66 = .ok (.getfield 62, 3) := by decide +kernel
theorem dX7_takePacket_69 : decode cX7_takePacket 69 = .ok (.iconst 3, 1) := by decide +kernel
theorem dX7_takePacket_70 : decode cX7_takePacket 70 = .ok (.iload 4, 2) := by decide +kernel
theorem dX7_takePacket_72 : decode cX7_takePacket 72 = .ok (.iastore, 1) := by decide +kernel
theorem dX7_takePacket_73 : decode cX7_takePacket 73 = .ok (.return_, 1) := by decide +kernel
set_option maxHeartbeats 4000000 in
set_option maxRecDepth 100000 in
/-- shared -/
theorem c_X7_shared (l : Launch) (G : zG) (ad : Nat → Nat) (X : Nat → Nat → Int) (q : Nat) (t : Nat) (hV : zV X) (hq : q < zN X 0) (ht : t < zN X 0) : zR l G yX7_shared wsX7_shared { frames := 2, cells := 0, slots := 0, locals := 40 } (zpic G ad X) [.ref (ad 52), .int (zi (q : Int)), .int (zi (t : Int))] (zq G ad X (fun w => w = zAW X (zr X 0 q) (zr X 0 t) ∧ 0 ≤ w ∧ w ≤ 268435456)) 0 0 := by
  refine zR_of (cc := cX7_shared) (maxL := 3) (rt := (some .int)) (by decide) rfl (Nat.le_of_ble_eq_true rfl) ?_
  intro p e s m below meth c A ls hx hb hml hr hts hown hlocks hin0 hA hE hP hD hS hl
  have hl : lv_has ls 3 [(0, .ref (ad 52)), (1, .int (zi (q : Int))), (2, .int (zi (t : Int)))] := hl
  have hown : s.vm.findClass RX7 = some m.cls := hown
  have hn := hV.n (Or.inl rfl : zIsW 0)
  have hw7 : ∀ w ∈ u_ws RX7 TX7 8, w ∈ wsX7_shared := by decide +kernel
  have hf10 := hts (.fieldLink RX7 10 "Nettle" "wall" "LNettle$Wall;") (by decide +kernel)
  have hw6 : ∀ w ∈ u_ws RX6 TX6 3, w ∈ wsX7_shared := by decide +kernel
  have hf104 := hts (.fieldLink RX7 104 "Nettle$Wall" "rows" "[LNettle$Rule;") (by decide +kernel)
  refine lv_aload_n hx hb dX7_shared_0 rfl (lv_at hl 0 rfl) ?_
  refine lv_iload_n hx hb dX7_shared_1 rfl (lv_at hl 1 rfl) ?_
  refine zcall (wr := []) (va_runV (As := [.int (zi (q : Int))]) (rest := []) ⟨hx, hb, hml, hown, hts⟩ (c_X7_needRule l G ad X q hV (by omega) s.heap.size) (cwV 1 hts gX7_shared_X7_needRule rfl rfl rfl (by decide +kernel) ⟨Nat.le_of_ble_eq_true rfl, Nat.le_of_ble_eq_true rfl⟩) (zPreV (wr := []) (wc := zpic G ad X) (q0 := 52) (ci := 7) (q := (RX7, TX7, 8)) hP hD hE hS hA rfl p_52) rfl rfl hl.1 rfl (lv_room (Nat.le_of_ble_eq_true rfl)) dX7_shared_2 ⟨Nat.le_of_ble_eq_true rfl, Nat.le_of_ble_eq_true rfl⟩) hP hD hS hA (fun _ _ H locs hf hP hD hS => ?_)
  obtain ⟨rfl, rfl⟩ := hf
  have hP : va_P G.1 vwCl (zpic G ad X) H := hP
  have hD : va_D A (zpic G ad X) := hD
  refine W.eq (g2 := F0 m 5 ls []) rfl ?_
  refine lv_aload_n hx hb dX7_shared_5 rfl (lv_at hl 0 rfl) ?_
  refine lv_iload_n hx hb dX7_shared_6 rfl (lv_at hl 2 rfl) ?_
  refine zcall (wr := []) (va_runV (As := [.int (zi (t : Int))]) (rest := []) ⟨hx, hb, hml, hown, hts⟩ (c_X7_needRule l G ad X t hV (by omega) H.size) (cwV 1 hts gX7_shared_X7_needRule rfl rfl rfl (by decide +kernel) ⟨Nat.le_of_ble_eq_true rfl, Nat.le_of_ble_eq_true rfl⟩) (zPreV (wr := []) (wc := zpic G ad X) (q0 := 52) (ci := 7) (q := (RX7, TX7, 8)) hP hD hE hS hA rfl p_52) rfl rfl hl.1 rfl (lv_room (Nat.le_of_ble_eq_true rfl)) dX7_shared_7 ⟨Nat.le_of_ble_eq_true rfl, Nat.le_of_ble_eq_true rfl⟩) hP hD hS hA (fun _ _ H locs hf hP hD hS => ?_)
  obtain ⟨rfl, rfl⟩ := hf
  have hP : va_P G.1 vwCl (zpic G ad X) H := hP
  have hD : va_D A (zpic G ad X) := hD
  refine W.eq (g2 := F0 m 10 ls []) rfl ?_
  refine lv_aload_n hx hb dX7_shared_10 rfl (lv_at hl 0 rfl) ?_
  refine va_get (D := G.1) (ci := 7) (v := .ref (ad 0)) (C := RX7) (T := TX7) (N := 8) hx hb hts hw7 hown hE.1 hP 52 p_52 rfl 0 (by decide) hf10 (fun _ h9 => h9) rfl dX7_shared_11 ?_
  refine va_get (D := G.1) (ci := 6) (v := .ref (ad 1)) (C := RX6) (T := TX6) (N := 3) hx hb hts hw6 hown hE.1 hP 0 (p_w (Or.inl rfl)) rfl 0 (by decide) hf104 (fun _ h9 => h9) rfl dX7_shared_14 ?_
  refine lv_iload_n hx hb dX7_shared_17 rfl (lv_at hl 1 rfl) ?_
  refine zqld hx hb hE hP (Or.inl rfl) q rfl (by omega) dX7_shared_18 ?_
  have hR1 : zIsR (zr X 0 q) := hV.isR (Or.inl rfl) (by omega)
  refine lv_aload_n hx hb dX7_shared_19 rfl (lv_at hl 0 rfl) ?_
  refine va_get (D := G.1) (ci := 7) (v := .ref (ad 0)) (C := RX7) (T := TX7) (N := 8) hx hb hts hw7 hown hE.1 hP 52 p_52 rfl 0 (by decide) hf10 (fun _ h9 => h9) rfl dX7_shared_20 ?_
  refine va_get (D := G.1) (ci := 6) (v := .ref (ad 1)) (C := RX6) (T := TX6) (N := 3) hx hb hts hw6 hown hE.1 hP 0 (p_w (Or.inl rfl)) rfl 0 (by decide) hf104 (fun _ h9 => h9) rfl dX7_shared_23 ?_
  refine lv_iload_n hx hb dX7_shared_26 rfl (lv_at hl 2 rfl) ?_
  refine zqld hx hb hE hP (Or.inl rfl) t rfl (by omega) dX7_shared_27 ?_
  have hR2 : zIsR (zr X 0 t) := hV.isR (Or.inl rfl) (by omega)
  refine zcall (wr := []) (va_runV (As := [.ref (ad (zr X 0 t))]) (rest := []) ⟨hx, hb, hml, hown, hts⟩ (c_X3_amountWith l G ad X (zr X 0 q) (zr X 0 t) hV hR1 hR2 H.size) (cwV 1 hts gX7_shared_X3_amountWith rfl rfl rfl (by decide +kernel) ⟨Nat.le_of_ble_eq_true rfl, Nat.le_of_ble_eq_true rfl⟩) (zPreV (wr := []) (wc := zpic G ad X) (q0 := (zr X 0 q)) (ci := 3) (q := (RX3, TX3, 4)) hP hD hE hS hA rfl (p_r hR1)) rfl rfl hl.1 rfl (lv_room (Nat.le_of_ble_eq_true rfl)) dX7_shared_28 ⟨Nat.le_of_ble_eq_true rfl, Nat.le_of_ble_eq_true rfl⟩) hP hD hS hA (fun _ _ H locs hf hP hD hS => ?_)
  obtain ⟨v1, rfl, hv1, rfl⟩ := hf
  have hP : va_P G.1 vwCl (zpic G ad X) H := hP
  have hD : va_D A (zpic G ad X) := hD
  refine W.eq (g2 := F0 m 31 ls [.int (zi v1)]) rfl ?_
  exact zend_i hx hb hr hlocks hP hD hS (Nat.le_of_ble_eq_true rfl) (Nat.le_of_ble_eq_true rfl) dX7_shared_31 ⟨_, rfl, hv1, rfl⟩

set_option maxHeartbeats 4000000 in
set_option maxRecDepth 100000 in
/-- coveredBy -/
theorem c_X7_coveredBy (l : Launch) (G : zG) (ad : Nat → Nat) (X : Nat → Nat → Int) (q : Nat) (hV : zV X) (hq : q < zN X 0) : zR l G yX7_coveredBy wsX7_coveredBy { frames := 2, cells := 0, slots := 0, locals := 44 } (zpic G ad X) [.ref (ad 52), .int (zi (q : Int))] (zq G ad X (fun w => -1 ≤ w ∧ w < (q : Int) ∧ zIsC X 0 q w)) 0 0 := by
  refine zR_of (cc := cX7_coveredBy) (maxL := 2) (rt := (some .int)) (by decide) rfl (Nat.le_of_ble_eq_true rfl) ?_
  intro p e s m below meth c A ls hx hb hml hr hts hown hlocks hin0 hA hE hP hD hS hl
  have hl : lv_has ls 2 [(0, .ref (ad 52)), (1, .int (zi (q : Int)))] := hl
  have hown : s.vm.findClass RX7 = some m.cls := hown
  have hn := hV.n (Or.inl rfl : zIsW 0)
  have hw7 : ∀ w ∈ u_ws RX7 TX7 8, w ∈ wsX7_coveredBy := by decide +kernel
  have hf10 := hts (.fieldLink RX7 10 "Nettle" "wall" "LNettle$Wall;") (by decide +kernel)
  refine lv_aload_n hx hb dX7_coveredBy_0 rfl (lv_at hl 0 rfl) ?_
  refine lv_iload_n hx hb dX7_coveredBy_1 rfl (lv_at hl 1 rfl) ?_
  refine zcall (wr := []) (va_runV (As := [.int (zi (q : Int))]) (rest := []) ⟨hx, hb, hml, hown, hts⟩ (c_X7_needRule l G ad X q hV (by omega) s.heap.size) (cwV 1 hts gX7_coveredBy_X7_needRule rfl rfl rfl (by decide +kernel) ⟨Nat.le_of_ble_eq_true rfl, Nat.le_of_ble_eq_true rfl⟩) (zPreV (wr := []) (wc := zpic G ad X) (q0 := 52) (ci := 7) (q := (RX7, TX7, 8)) hP hD hE hS hA rfl p_52) rfl rfl hl.1 rfl (lv_room (Nat.le_of_ble_eq_true rfl)) dX7_coveredBy_2 ⟨Nat.le_of_ble_eq_true rfl, Nat.le_of_ble_eq_true rfl⟩) hP hD hS hA (fun _ _ H locs hf hP hD hS => ?_)
  obtain ⟨rfl, rfl⟩ := hf
  have hP : va_P G.1 vwCl (zpic G ad X) H := hP
  have hD : va_D A (zpic G ad X) := hD
  refine W.eq (g2 := F0 m 5 ls []) rfl ?_
  refine lv_aload_n hx hb dX7_coveredBy_5 rfl (lv_at hl 0 rfl) ?_
  refine va_get (D := G.1) (ci := 7) (v := .ref (ad 0)) (C := RX7) (T := TX7) (N := 8) hx hb hts hw7 hown hE.1 hP 52 p_52 rfl 0 (by decide) hf10 (fun _ h9 => h9) rfl dX7_coveredBy_6 ?_
  refine lv_iload_n hx hb dX7_coveredBy_9 rfl (lv_at hl 1 rfl) ?_
  refine zcall (wr := []) (va_runV (As := [.int (zi (q : Int))]) (rest := []) ⟨hx, hb, hml, hown, hts⟩ (c_X6_firstCover l G ad X 0 q hV (Or.inl rfl) (by omega) H.size) (cwV 1 hts gX7_coveredBy_X6_firstCover rfl rfl rfl (by decide +kernel) ⟨Nat.le_of_ble_eq_true rfl, Nat.le_of_ble_eq_true rfl⟩) (zPreV (wr := []) (wc := zpic G ad X) (q0 := 0) (ci := 6) (q := (RX6, TX6, 3)) hP hD hE hS hA rfl (p_w (Or.inl rfl))) rfl rfl hl.1 rfl (lv_room (Nat.le_of_ble_eq_true rfl)) dX7_coveredBy_10 ⟨Nat.le_of_ble_eq_true rfl, Nat.le_of_ble_eq_true rfl⟩) hP hD hS hA (fun _ _ H locs hf hP hD hS => ?_)
  obtain ⟨v1, rfl, hv1, rfl⟩ := hf
  have hP : va_P G.1 vwCl (zpic G ad X) H := hP
  have hD : va_D A (zpic G ad X) := hD
  refine W.eq (g2 := F0 m 13 ls [.int (zi v1)]) rfl ?_
  exact zend_i hx hb hr hlocks hP hD hS (Nat.le_of_ble_eq_true rfl) (Nat.le_of_ble_eq_true rfl) dX7_coveredBy_13 ⟨_, rfl, hv1, rfl⟩

set_option maxHeartbeats 4000000 in
set_option maxRecDepth 100000 in
/-- takePacket -/
theorem c_X7_takePacket (l : Launch) (G : zG) (ad : Nat → Nat) (X : Nat → Nat → Int) (p0 : Int) (p1 : Int) (p2 : Int) (p3 : Int) (hp0 : 0 ≤ p0 ∧ p0 < 256) (hp1 : 0 ≤ p1 ∧ p1 < 256) (hp2 : 0 ≤ p2 ∧ p2 < 1024) (hp3 : 0 ≤ p3 ∧ p3 < 4) : zR l G yX7_takePacket wsX7_takePacket { frames := 1, cells := 0, slots := 0, locals := 21 } (zpic G ad X) [.ref (ad 52), .int (zi p0), .int (zi p1), .int (zi p2), .int (zi p3)] (zv G ad (fun Y => Y = zw (zw (zw (zw X 70 0 p0) 70 1 p1) 70 2 p2) 70 3 p3)) 0 0 := by
  refine zR_of (cc := cX7_takePacket) (maxL := 5) (rt := none) (by decide) rfl (Nat.le_of_ble_eq_true rfl) ?_
  intro p e s m below meth c A ls hx hb hml hr hts hown hlocks hin0 hA hE hP hD hS hl
  have hl : lv_has ls 5 [(0, .ref (ad 52)), (1, .int (zi p0)), (2, .int (zi p1)), (3, .int (zi p2)), (4, .int (zi p3))] := hl
  have hown : s.vm.findClass RX7 = some m.cls := hown
  have hz : zS 0 = 256 ∧ zS 1 = 256 ∧ zS 2 = 1024 ∧ zS 3 = 4 := ⟨rfl, rfl, rfl, rfl⟩
  have hw7 : ∀ w ∈ u_ws RX7 TX7 8, w ∈ wsX7_takePacket := by decide +kernel
  have hf62 := hts (.fieldLink RX7 62 "Nettle" "packet" "[I") (by decide +kernel)
  refine lv_iconst (v := zi 0) hx hb dX7_takePacket_0 rfl ?_
  refine lv_iload_n hx hb dX7_takePacket_1 rfl (lv_at hl 1 rfl) ?_
  refine zcall (wr := []) (va_runS (As := [.int (zi 0), .int (zi p0)]) (rest := []) ⟨hx, hb, hml, hown, hts⟩ (c_X7_isValue l G ad X 0 p0 (by omega) (by omega) s.heap.size) (va_cwS 2 hts gX7_takePacket_X7_isValue rfl rfl rfl (by decide +kernel) ⟨Nat.le_of_ble_eq_true rfl, Nat.le_of_ble_eq_true rfl⟩) (zPre (wr := []) (wc := zpic G ad X) (As := [.int (zi 0), .int (zi p0)]) hP hD hE hS hA).1 rfl rfl hl.1 rfl (lv_room (Nat.le_of_ble_eq_true rfl)) dX7_takePacket_2 ⟨Nat.le_of_ble_eq_true rfl, Nat.le_of_ble_eq_true rfl⟩) hP hD hS hA (fun _ _ H locs hf hP hD hS => ?_)
  obtain ⟨v1, rfl, hv1, rfl⟩ := hf
  have hP : va_P G.1 vwCl (zpic G ad X) H := hP
  have hD : va_D A (zpic G ad X) := hD
  refine W.eq (g2 := F0 m 5 ls [.int (zi v1)]) rfl ?_
  refine z0_eq (tgt := 33) hx hb dX7_takePacket_5 (by decide) (by omega) (fun h9 => by exfalso; omega) (fun h5 => ?_)
  refine lv_iconst (v := zi 1) hx hb dX7_takePacket_8 rfl ?_
  refine lv_iload_n hx hb dX7_takePacket_9 rfl (lv_at hl 2 rfl) ?_
  refine zcall (wr := []) (va_runS (As := [.int (zi 1), .int (zi p1)]) (rest := []) ⟨hx, hb, hml, hown, hts⟩ (c_X7_isValue l G ad X 1 p1 (by omega) (by omega) H.size) (va_cwS 2 hts gX7_takePacket_X7_isValue rfl rfl rfl (by decide +kernel) ⟨Nat.le_of_ble_eq_true rfl, Nat.le_of_ble_eq_true rfl⟩) (zPre (wr := []) (wc := zpic G ad X) (As := [.int (zi 1), .int (zi p1)]) hP hD hE hS hA).1 rfl rfl hl.1 rfl (lv_room (Nat.le_of_ble_eq_true rfl)) dX7_takePacket_10 ⟨Nat.le_of_ble_eq_true rfl, Nat.le_of_ble_eq_true rfl⟩) hP hD hS hA (fun _ _ H locs hf hP hD hS => ?_)
  obtain ⟨v2, rfl, hv2, rfl⟩ := hf
  have hP : va_P G.1 vwCl (zpic G ad X) H := hP
  have hD : va_D A (zpic G ad X) := hD
  refine W.eq (g2 := F0 m 13 ls [.int (zi v2)]) rfl ?_
  refine z0_eq (tgt := 33) hx hb dX7_takePacket_13 (by decide) (by omega) (fun h9 => by exfalso; omega) (fun h13 => ?_)
  refine lv_iconst (v := zi 2) hx hb dX7_takePacket_16 rfl ?_
  refine lv_iload_n hx hb dX7_takePacket_17 rfl (lv_at hl 3 rfl) ?_
  refine zcall (wr := []) (va_runS (As := [.int (zi 2), .int (zi p2)]) (rest := []) ⟨hx, hb, hml, hown, hts⟩ (c_X7_isValue l G ad X 2 p2 (by omega) (by omega) H.size) (va_cwS 2 hts gX7_takePacket_X7_isValue rfl rfl rfl (by decide +kernel) ⟨Nat.le_of_ble_eq_true rfl, Nat.le_of_ble_eq_true rfl⟩) (zPre (wr := []) (wc := zpic G ad X) (As := [.int (zi 2), .int (zi p2)]) hP hD hE hS hA).1 rfl rfl hl.1 rfl (lv_room (Nat.le_of_ble_eq_true rfl)) dX7_takePacket_18 ⟨Nat.le_of_ble_eq_true rfl, Nat.le_of_ble_eq_true rfl⟩) hP hD hS hA (fun _ _ H locs hf hP hD hS => ?_)
  obtain ⟨v3, rfl, hv3, rfl⟩ := hf
  have hP : va_P G.1 vwCl (zpic G ad X) H := hP
  have hD : va_D A (zpic G ad X) := hD
  refine W.eq (g2 := F0 m 21 ls [.int (zi v3)]) rfl ?_
  refine z0_eq (tgt := 33) hx hb dX7_takePacket_21 (by decide) (by omega) (fun h9 => by exfalso; omega) (fun h21 => ?_)
  refine lv_iconst (v := zi 3) hx hb dX7_takePacket_24 rfl ?_
  refine lv_iload hx hb dX7_takePacket_25 (lv_at hl 4 rfl) ?_
  refine zcall (wr := []) (va_runS (As := [.int (zi 3), .int (zi p3)]) (rest := []) ⟨hx, hb, hml, hown, hts⟩ (c_X7_isValue l G ad X 3 p3 (by omega) (by omega) H.size) (va_cwS 2 hts gX7_takePacket_X7_isValue rfl rfl rfl (by decide +kernel) ⟨Nat.le_of_ble_eq_true rfl, Nat.le_of_ble_eq_true rfl⟩) (zPre (wr := []) (wc := zpic G ad X) (As := [.int (zi 3), .int (zi p3)]) hP hD hE hS hA).1 rfl rfl hl.1 rfl (lv_room (Nat.le_of_ble_eq_true rfl)) dX7_takePacket_27 ⟨Nat.le_of_ble_eq_true rfl, Nat.le_of_ble_eq_true rfl⟩) hP hD hS hA (fun _ _ H locs hf hP hD hS => ?_)
  obtain ⟨v4, rfl, hv4, rfl⟩ := hf
  have hP : va_P G.1 vwCl (zpic G ad X) H := hP
  have hD : va_D A (zpic G ad X) := hD
  refine W.eq (g2 := F0 m 30 ls [.int (zi v4)]) rfl ?_
  refine z0_ne (tgt := 44) hx hb dX7_takePacket_30 (by decide) (by omega) (fun h30 => ?_) (fun h9 => by exfalso; omega)
  refine lv_aload_n hx hb dX7_takePacket_44 rfl (lv_at hl 0 rfl) ?_
  refine va_get (D := G.1) (ci := 7) (v := .ref (ad 70)) (C := RX7) (T := TX7) (N := 8) hx hb hts hw7 hown hE.1 hP 52 p_52 rfl 7 (by decide) hf62 (fun _ h9 => h9) rfl dX7_takePacket_45 ?_
  refine lv_iconst (v := zi 0) hx hb dX7_takePacket_48 rfl ?_
  refine lv_iload_n hx hb dX7_takePacket_49 rfl (lv_at hl 1 rfl) ?_
  refine zist hx hb hE hP hD hS 70 4 (fun _ => rfl) (by decide) 0 rfl (by decide) (by decide) dX7_takePacket_50 (fun H locs hP hD hS => ?_)
  refine lv_aload_n hx hb dX7_takePacket_51 rfl (lv_at hl 0 rfl) ?_
  refine va_get (D := G.1) (ci := 7) (v := .ref (ad 70)) (C := RX7) (T := TX7) (N := 8) hx hb hts hw7 hown hE.1 hP 52 p_52 rfl 7 (by decide) hf62 (fun _ h9 => h9) rfl dX7_takePacket_52 ?_
  refine lv_iconst (v := zi 1) hx hb dX7_takePacket_55 rfl ?_
  refine lv_iload_n hx hb dX7_takePacket_56 rfl (lv_at hl 2 rfl) ?_
  refine zist hx hb hE hP hD hS 70 4 (fun _ => rfl) (by decide) 1 rfl (by decide) (by decide) dX7_takePacket_57 (fun H locs hP hD hS => ?_)
  refine lv_aload_n hx hb dX7_takePacket_58 rfl (lv_at hl 0 rfl) ?_
  refine va_get (D := G.1) (ci := 7) (v := .ref (ad 70)) (C := RX7) (T := TX7) (N := 8) hx hb hts hw7 hown hE.1 hP 52 p_52 rfl 7 (by decide) hf62 (fun _ h9 => h9) rfl dX7_takePacket_59 ?_
  refine lv_iconst (v := zi 2) hx hb dX7_takePacket_62 rfl ?_
  refine lv_iload_n hx hb dX7_takePacket_63 rfl (lv_at hl 3 rfl) ?_
  refine zist hx hb hE hP hD hS 70 4 (fun _ => rfl) (by decide) 2 rfl (by decide) (by decide) dX7_takePacket_64 (fun H locs hP hD hS => ?_)
  refine lv_aload_n hx hb dX7_takePacket_65 rfl (lv_at hl 0 rfl) ?_
  refine va_get (D := G.1) (ci := 7) (v := .ref (ad 70)) (C := RX7) (T := TX7) (N := 8) hx hb hts hw7 hown hE.1 hP 52 p_52 rfl 7 (by decide) hf62 (fun _ h9 => h9) rfl dX7_takePacket_66 ?_
  refine lv_iconst (v := zi 3) hx hb dX7_takePacket_69 rfl ?_
  refine lv_iload hx hb dX7_takePacket_70 (lv_at hl 4 rfl) ?_
  refine zist hx hb hE hP hD hS 70 4 (fun _ => rfl) (by decide) 3 rfl (by decide) (by decide) dX7_takePacket_72 (fun H locs hP hD hS => ?_)
  exact zend_v hx hb hr hlocks hP hD hS (Nat.le_of_ble_eq_true rfl) (Nat.le_of_ble_eq_true rfl) dX7_takePacket_73 ⟨_, rfl, rfl, rfl⟩
