/-! Nettle: what is told of the order -/
theorem dX7_rule_0 : decode cX7_rule 0 = .ok (.iload_n 1, 1) := by decide +kernel
set_option maxRecDepth 20000 in
theorem ggX7_rule_X7_needVerdict : GoodIn wsX7_rule wsX7_needVerdict := goodIn_ca (goodIn_r _ [8, 9, 10] (by decide +kernel) (by decide +kernel)) (goodIn_sub (fun _ h => List.mem_cons_of_mem _ (List.mem_append_right _ h)) (by decide +kernel))
set_option maxRecDepth 20000 in
theorem gX7_rule_X7_needVerdict : GoodIn wsX7_rule (va_wsS RX7 66 yX7_needVerdict wsX7_needVerdict) := goodIn_app (goodIn_of _ (by decide +kernel)) ggX7_rule_X7_needVerdict
theorem dX7_rule_1 : decode cX7_rule 1 = .ok (.invokestatic 66, 3) := by decide +kernel
theorem dX7_rule_4 : decode cX7_rule 4 = .ok (.aload_n 0, 1) := by decide +kernel
theorem dX7_rule_5 : decode cX7_rule 5 = .ok (.getfield 10, 3) := by decide +kernel
theorem dX7_rule_8 : decode cX7_rule 8 = .ok (.getfield 70, 3) := by decide +kernel
theorem dX7_rule_11 : decode cX7_rule 11 = .ok (.bipush 8, 2) := by decide +kernel
theorem dX7_rule_13 : decode cX7_rule 13 = .ok (.if_icmp .lt 13, 3) := by decide +kernel
theorem dX7_rule_26 : decode cX7_rule 26 = .ok (.aload_n 0, 1) := by decide +kernel
theorem dX7_rule_27 : decode cX7_rule 27 = .ok (.getfield 10, 3) := by decide +kernel
theorem dX7_rule_30 : decode cX7_rule 30 = .ok (.iload_n 1, 1) := by decide +kernel
set_option maxRecDepth 20000 in
theorem ggX7_rule_X6_add : GoodIn wsX7_rule wsX6_add := goodIn_r _ [15, 16, 17, 18, 19, 20, 21, 22, 23, 24, 25, 26, 47, 48, 49, 50, 51, 52, 53] (by decide +kernel) (by decide +kernel)
set_option maxRecDepth 20000 in
theorem gX7_rule_X6_add : GoodIn wsX7_rule (wsV RX7 81 RX6 yX6_add wsX6_add) := goodIn_app (goodIn_of _ (by decide +kernel)) ggX7_rule_X6_add
theorem dX7_rule_31 : decode cX7_rule 31 = .ok (.invokevirtual 81, 3) := by decide +kernel
theorem dX7_rule_34 : decode cX7_rule 34 = .ok (.aload_n 0, 1) := by decide +kernel
set_option maxRecDepth 20000 in
theorem ggX7_rule_X7_outdate : GoodIn wsX7_rule wsX7_outdate := goodIn_r _ [30, 31, 32, 33, 34, 35, 36, 37, 38, 39, 40, 41, 42, 43, 44, 45, 46, 54, 55, 56, 57, 58, 59, 60, 61, 62, 63, 64, 65, 66, 67, 68, 69, 70, 71, 72, 73, 74, 75, 76, 77, 78] (by decide +kernel) (by decide +kernel)
set_option maxRecDepth 20000 in
theorem gX7_rule_X7_outdate : GoodIn wsX7_rule (wsV RX7 84 RX7 yX7_outdate wsX7_outdate) := goodIn_app (goodIn_of _ (by decide +kernel)) ggX7_rule_X7_outdate
theorem dX7_rule_35 : decode cX7_rule 35 = .ok (.invokevirtual 84, 3) := by decide +kernel
theorem dX7_rule_38 : decode cX7_rule 38 = .ok (.aload_n 0, 1) := by decide +kernel
theorem dX7_rule_39 : decode cX7_rule 39 = .ok (.getfield 10, 3) := by decide +kernel
theorem dX7_rule_42 : decode cX7_rule 42 = .ok (.getfield 70, 3) := by decide +kernel
theorem dX7_rule_45 : decode cX7_rule 45 = .ok (.iconst 1, 1) := by decide +kernel
theorem dX7_rule_46 : decode cX7_rule 46 = .ok (.isub, 1) := by decide +kernel
theorem dX7_rule_47 : decode cX7_rule 47 = .ok (.ireturn, 1) := by decide +kernel
theorem dX7_drop_0 : decode cX7_drop 0 = .ok (.aload_n 0, 1) := by decide +kernel
theorem dX7_drop_1 : decode cX7_drop 1 = .ok (.iload_n 1, 1) := by decide +kernel
set_option maxRecDepth 20000 in
theorem ggX7_drop_X7_needRule : GoodIn wsX7_drop wsX7_needRule := goodIn_ca (goodIn_r _ [7, 8, 9, 1, 2, 33, 34, 35, 36, 37, 38, 39, 40, 41, 42, 43] (by decide +kernel) (by decide +kernel)) (goodIn_sub (fun _ h => List.mem_cons_of_mem _ (List.mem_append_right _ h)) (by decide +kernel))
set_option maxRecDepth 20000 in
theorem gX7_drop_X7_needRule : GoodIn wsX7_drop (wsV RX7 87 RX7 yX7_needRule wsX7_needRule) := goodIn_app (goodIn_of _ (by decide +kernel)) ggX7_drop_X7_needRule
theorem dX7_drop_2 : decode cX7_drop 2 = .ok (.invokevirtual 87, 3) := by decide +kernel
theorem dX7_drop_5 : decode cX7_drop 5 = .ok (.aload_n 0, 1) := by decide +kernel
theorem dX7_drop_6 : decode cX7_drop 6 = .ok (.getfield 10, 3) := by decide +kernel
theorem dX7_drop_9 : decode cX7_drop 9 = .ok (.iload_n 1, 1) := by decide +kernel
set_option maxRecDepth 20000 in
theorem ggX7_drop_X6_remove : GoodIn wsX7_drop wsX6_remove := goodIn_r _ [14, 15, 16, 17, 18, 13, 19, 20, 41, 42, 43] (by decide +kernel) (by decide +kernel)
set_option maxRecDepth 20000 in
theorem gX7_drop_X6_remove : GoodIn wsX7_drop (wsV RX7 132 RX6 yX6_remove wsX6_remove) := goodIn_app (goodIn_of _ (by decide +kernel)) ggX7_drop_X6_remove
theorem dX7_drop_10 : decode cX7_drop 10 = .ok (.invokevirtual 132, 3) := by decide +kernel
theorem dX7_drop_13 : decode cX7_drop 13 = .ok (.aload_n 0, 1) := by decide +kernel
set_option maxRecDepth 20000 in
theorem ggX7_drop_X7_outdate : GoodIn wsX7_drop wsX7_outdate := goodIn_r _ [24, 25, 26, 27, 28, 29, 30, 31, 32, 33, 34, 35, 36, 37, 38, 39, 40, 44, 45, 46, 47, 48, 49, 50, 51, 52, 53, 54, 55, 56, 57, 58, 59, 60, 61, 62, 63, 64, 65, 66, 67, 68] (by decide +kernel) (by decide +kernel)
set_option maxRecDepth 20000 in
theorem gX7_drop_X7_outdate : GoodIn wsX7_drop (wsV RX7 84 RX7 yX7_outdate wsX7_outdate) := goodIn_app (goodIn_of _ (by decide +kernel)) ggX7_drop_X7_outdate
theorem dX7_drop_14 : decode cX7_drop 14 = .ok (.invokevirtual 84, 3) := by decide +kernel
theorem dX7_drop_17 : decode cX7_drop 17 = .ok (.aload_n 0, 1) := by decide +kernel
theorem dX7_drop_18 : decode cX7_drop 18 = .ok (.getfield 10, 3) := by decide +kernel
theorem dX7_drop_21 : decode cX7_drop 21 = .ok (.getfield 70, 3) := by decide +kernel
theorem dX7_drop_24 : decode cX7_drop 24 = .ok (.ireturn, 1) := by decide +kernel
theorem dX7_move_0 : decode cX7_move 0 = .ok (.aload_n 0, 1) := by decide +kernel
theorem dX7_move_1 : decode cX7_move 1 = .ok (.iload_n 1, 1) := by decide +kernel
set_option maxRecDepth 20000 in
theorem ggX7_move_X7_needRule : GoodIn wsX7_move wsX7_needRule := goodIn_ca (goodIn_r _ [10, 11, 12, 1, 13, 32, 33, 34, 35, 36, 37, 38, 39, 40, 41, 42] (by decide +kernel) (by decide +kernel)) (goodIn_sub (fun _ h => List.mem_cons_of_mem _ (List.mem_append_right _ h)) (by decide +kernel))
set_option maxRecDepth 20000 in
theorem gX7_move_X7_needRule : GoodIn wsX7_move (wsV RX7 87 RX7 yX7_needRule wsX7_needRule) := goodIn_app (goodIn_of _ (by decide +kernel)) ggX7_move_X7_needRule
theorem dX7_move_2 : decode cX7_move 2 = .ok (.invokevirtual 87, 3) := by decide +kernel
theorem dX7_move_5 : decode cX7_move 5 = .ok (.aload_n 0, 1) := by decide +kernel
theorem dX7_move_6 : decode cX7_move 6 = .ok (.iload_n 2, 1) := by decide +kernel
theorem dX7_move_7 : decode cX7_move 7 = .ok (.invokevirtual 87, 3) := by decide +kernel
theorem dX7_move_10 : decode cX7_move 10 = .ok (.iload_n 1, 1) := by decide +kernel
theorem dX7_move_11 : decode cX7_move 11 = .ok (.iload_n 2, 1) := by decide +kernel
theorem dX7_move_12 : decode cX7_move 12 = .ok (.if_icmp .ne 5, 3) := by decide +kernel
theorem dX7_move_17 : decode cX7_move 17 = .ok (.aload_n 0, 1) := by decide +kernel
theorem dX7_move_18 : decode cX7_move 18 = .ok (.getfield 10, 3) := by decide +kernel
theorem dX7_move_21 : decode cX7_move 21 = .ok (.iload_n 1, 1) := by decide +kernel
theorem dX7_move_22 : decode cX7_move 22 = .ok (.iload_n 2, 1) := by decide +kernel
set_option maxRecDepth 20000 in
theorem ggX7_move_X6_shift : GoodIn wsX7_move wsX6_shift := goodIn_r _ [18, 19, 40, 41, 42] (by decide +kernel) (by decide +kernel)
set_option maxRecDepth 20000 in
theorem gX7_move_X6_shift : GoodIn wsX7_move (wsV RX7 123 RX6 yX6_shift wsX6_shift) := goodIn_app (goodIn_of _ (by decide +kernel)) ggX7_move_X6_shift
theorem dX7_move_23 : decode cX7_move 23 = .ok (.invokevirtual 123, 3) := by decide +kernel
theorem dX7_move_26 : decode cX7_move 26 = .ok (.aload_n 0, 1) := by decide +kernel
set_option maxRecDepth 20000 in
theorem ggX7_move_X7_outdate : GoodIn wsX7_move wsX7_outdate := goodIn_r _ [23, 24, 25, 26, 27, 28, 29, 30, 31, 32, 33, 34, 35, 36, 37, 38, 39, 43, 44, 45, 46, 47, 48, 49, 50, 51, 52, 53, 54, 55, 56, 57, 58, 59, 60, 61, 62, 63, 64, 65, 66, 67] (by decide +kernel) (by decide +kernel)
set_option maxRecDepth 20000 in
theorem gX7_move_X7_outdate : GoodIn wsX7_move (wsV RX7 84 RX7 yX7_outdate wsX7_outdate) := goodIn_app (goodIn_of _ (by decide +kernel)) ggX7_move_X7_outdate
theorem dX7_move_27 : decode cX7_move 27 = .ok (.invokevirtual 84, 3) := by decide +kernel
theorem dX7_move_30 : decode cX7_move 30 = .ok (.iload_n 2, 1) := by decide +kernel
theorem dX7_move_31 : decode cX7_move 31 = .ok (.iload_n 1, 1) := by decide +kernel
theorem dX7_move_32 : decode cX7_move 32 = .ok (.isub, 1) := by decide +kernel
theorem dX7_move_33 : decode cX7_move 33 = .ok (.invokestatic 127, 3) := by decide +kernel
theorem dX7_move_36 : decode cX7_move 36 = .ok (.iconst 1, 1) := by decide +kernel
theorem dX7_move_37 : decode cX7_move 37 = .ok (.iadd, 1) := by decide +kernel
theorem dX7_move_38 : decode cX7_move 38 = .ok (.ireturn, 1) := by decide +kernel
theorem dX7_move_15 : decode cX7_move 15 = .ok (.iconst 0, 1) := by decide +kernel
theorem dX7_move_16 : decode cX7_move 16 = .ok (.ireturn, 1) := by decide +kernel
theorem zOut_cell {X : Nat → Nat → Int} {k : Nat} (h : k ≠ 53 ∧ k ≠ 57 ∧ k ≠ 61 ∧ k ≠ 65) : zOut X k = X k := by
  unfold zOut
  rw [zw_cell h.2.2.2, zw_cell h.2.2.1, zw_cell h.2.1, zw_cell h.1]
/-- a wall with a RULE more, with one less, with one moved -/
def zAdd (X : Nat → Nat → Int) (a : Nat) (v : Int) (Y : Nat → Nat → Int) : Prop := Y (zr X a (zN X a)) 0 = v ∧ Y (zr X a (zN X a)) 1 = 0 ∧ (∀ k : Nat, k < 4 → Y (zr X a (zN X a) + 1) k = 0 ∧ Y (zr X a (zN X a) + 2) k = zS k - 1) ∧ (∀ k : Nat, k ≠ a → k ≠ zr X a (zN X a) → k ≠ zr X a (zN X a) + 1 → k ≠ zr X a (zN X a) + 2 → Y k = X k) ∧ Y a 1 = X a 1 + 1 ∧ Y a 2 = X a 2
def zRem (X : Nat → Nat → Int) (a x : Nat) (Y : Nat → Nat → Int) : Prop := (∀ c : Nat, c ≠ a → c ≠ a + 1 → Y c = X c) ∧ (∀ j : Nat, Y (a + 1) j = X (a + 1) (zShf x (zN X a - 1) j)) ∧ Y a 1 = X a 1 - 1 ∧ Y a 2 = X a 2
def zMov (X : Nat → Nat → Int) (a x y : Nat) (Y : Nat → Nat → Int) : Prop := (∀ c : Nat, c ≠ a + 1 → Y c = X c) ∧ ∀ j : Nat, Y (a + 1) j = X (a + 1) (zShf x y j)

set_option maxHeartbeats 4000000 in
set_option maxRecDepth 100000 in
/-- rule -/
theorem c_X7_rule (l : Launch) (G : zG) (ad : Nat → Nat) (X : Nat → Nat → Int) (v : Int) (hV : zV X) (hn8 : zN X 0 < 8) (hv : 0 ≤ v ∧ v ≤ 2) : zR l G yX7_rule wsX7_rule { frames := 2, cells := 0, slots := 0, locals := 43 } (zpic G ad X) [.ref (ad 52), .int (zi v)] (zu G ad (fun w Y => w = (zN X 0 : Int) ∧ ∃ Y1 : Nat → Nat → Int, zAdd X 0 v Y1 ∧ Y = zOut Y1)) 0 0 := by
  refine zR_of (cc := cX7_rule) (maxL := 2) (rt := (some .int)) (by decide) rfl (Nat.le_of_ble_eq_true rfl) ?_
  intro p e s m below meth c A ls hx hb hml hr hts hown hlocks hin0 hA hE hP hD hS hl
  have hl : lv_has ls 2 [(0, .ref (ad 52)), (1, .int (zi v))] := hl
  have hown : s.vm.findClass RX7 = some m.cls := hown
  have hn := hV.n (Or.inl rfl : zIsW 0)
  have hw7 : ∀ w ∈ u_ws RX7 TX7 8, w ∈ wsX7_rule := by decide +kernel
  have hf10 := hts (.fieldLink RX7 10 "Nettle" "wall" "LNettle$Wall;") (by decide +kernel)
  have hw6 : ∀ w ∈ u_ws RX6 TX6 3, w ∈ wsX7_rule := by decide +kernel
  have hf70 := hts (.fieldLink RX7 70 "Nettle$Wall" "count" "I") (by decide +kernel)
  refine lv_iload_n hx hb dX7_rule_0 rfl (lv_at hl 1 rfl) ?_
  refine zcall (wr := []) (va_runS (As := [.int (zi v)]) (rest := []) ⟨hx, hb, hml, hown, hts⟩ (c_X7_needVerdict l G ad X v (by omega) s.heap.size) (va_cwS 1 hts gX7_rule_X7_needVerdict rfl rfl rfl (by decide +kernel) ⟨Nat.le_of_ble_eq_true rfl, Nat.le_of_ble_eq_true rfl⟩) (zPre (wr := []) (wc := zpic G ad X) (As := [.int (zi v)]) hP hD hE hS hA).1 rfl rfl hl.1 rfl (lv_room (Nat.le_of_ble_eq_true rfl)) dX7_rule_1 ⟨Nat.le_of_ble_eq_true rfl, Nat.le_of_ble_eq_true rfl⟩) hP hD hS hA (fun _ _ H locs hf hP hD hS => ?_)
  obtain ⟨rfl, rfl⟩ := hf
  have hP : va_P G.1 vwCl (zpic G ad X) H := hP
  have hD : va_D A (zpic G ad X) := hD
  refine W.eq (g2 := F0 m 4 ls []) rfl ?_
  refine lv_aload_n hx hb dX7_rule_4 rfl (lv_at hl 0 rfl) ?_
  refine va_get (D := G.1) (ci := 7) (v := .ref (ad 0)) (C := RX7) (T := TX7) (N := 8) hx hb hts hw7 hown hE.1 hP 52 p_52 rfl 0 (by decide) hf10 (fun _ h9 => h9) rfl dX7_rule_5 ?_
  refine va_get (D := G.1) (ci := 6) (v := .int (zi (X 0 1))) (C := RX6) (T := TX6) (N := 3) hx hb hts hw6 hown hE.1 hP 0 (p_w (Or.inl rfl)) rfl 1 (by decide) hf70 (fun _ h9 => h9) rfl dX7_rule_8 ?_
  refine lv_bipush (v := zi 8) hx hb dX7_rule_11 (by decide +kernel) ?_
  refine zc_lt (tgt := 26) hx hb dX7_rule_13 (by decide) (by omega) (by decide) (fun h13 => ?_) (fun h9 => by exfalso; omega)
  refine lv_aload_n hx hb dX7_rule_26 rfl (lv_at hl 0 rfl) ?_
  refine va_get (D := G.1) (ci := 7) (v := .ref (ad 0)) (C := RX7) (T := TX7) (N := 8) hx hb hts hw7 hown hE.1 hP 52 p_52 rfl 0 (by decide) hf10 (fun _ h9 => h9) rfl dX7_rule_27 ?_
  refine lv_iload_n hx hb dX7_rule_30 rfl (lv_at hl 1 rfl) ?_
  refine zcall (wr := []) (va_runV (As := [.int (zi v)]) (rest := []) ⟨hx, hb, hml, hown, hts⟩ (c_X6_add l G ad X 0 v hV (Or.inl rfl) (by omega) H.size) (cwV 1 hts gX7_rule_X6_add rfl rfl rfl (by decide +kernel) ⟨Nat.le_of_ble_eq_true rfl, Nat.le_of_ble_eq_true rfl⟩) (zPreV (wr := []) (wc := zpic G ad X) (q0 := 0) (ci := 6) (q := (RX6, TX6, 3)) hP hD hE hS hA rfl (p_w (Or.inl rfl))) rfl rfl hl.1 rfl (lv_room (Nat.le_of_ble_eq_true rfl)) dX7_rule_31 ⟨Nat.le_of_ble_eq_true rfl, Nat.le_of_ble_eq_true rfl⟩) hP hD hS hA (fun _ _ H locs hf hP hD hS => ?_)
  obtain ⟨X1, rfl, hX1, rfl⟩ := hf
  have hP : va_P G.1 vwCl (zpic G ad X1) H := hP
  have hD : va_D A (zpic G ad X1) := hD
  refine W.eq (g2 := F0 m 34 ls []) rfl ?_
  refine lv_aload_n hx hb dX7_rule_34 rfl (lv_at hl 0 rfl) ?_
  refine zcall (wr := []) (va_runV (As := []) (rest := []) ⟨hx, hb, hml, hown, hts⟩ (c_X7_outdate l G ad X1 H.size) (cwV 0 hts gX7_rule_X7_outdate rfl rfl rfl (by decide +kernel) ⟨Nat.le_of_ble_eq_true rfl, Nat.le_of_ble_eq_true rfl⟩) (zPreV (wr := []) (wc := zpic G ad X1) (q0 := 52) (ci := 7) (q := (RX7, TX7, 8)) hP hD hE hS hA rfl p_52) rfl rfl hl.1 rfl (lv_room (Nat.le_of_ble_eq_true rfl)) dX7_rule_35 ⟨Nat.le_of_ble_eq_true rfl, Nat.le_of_ble_eq_true rfl⟩) hP hD hS hA (fun _ _ H locs hf hP hD hS => ?_)
  obtain ⟨X2, rfl, hX2, rfl⟩ := hf
  have hP : va_P G.1 vwCl (zpic G ad X2) H := hP
  have hD : va_D A (zpic G ad X2) := hD
  refine W.eq (g2 := F0 m 38 ls []) rfl ?_
  refine lv_aload_n hx hb dX7_rule_38 rfl (lv_at hl 0 rfl) ?_
  refine va_get (D := G.1) (ci := 7) (v := .ref (ad 0)) (C := RX7) (T := TX7) (N := 8) hx hb hts hw7 hown hE.1 hP 52 p_52 rfl 0 (by decide) hf10 (fun _ h9 => h9) rfl dX7_rule_39 ?_
  refine va_get (D := G.1) (ci := 6) (v := .int (zi (X2 0 1))) (C := RX6) (T := TX6) (N := 3) hx hb hts hw6 hown hE.1 hP 0 (p_w (Or.inl rfl)) rfl 1 (by decide) hf70 (fun _ h9 => h9) rfl dX7_rule_42 ?_
  refine lv_iconst (v := zi 1) hx hb dX7_rule_45 rfl ?_
  refine lv_isub hx hb dX7_rule_46 (zti (v := zi ((X2 0 1) - 1)) (zi_sub _ _) ?_)
  exact zend_i hx hb hr hlocks hP hD hS (Nat.le_of_ble_eq_true rfl) (Nat.le_of_ble_eq_true rfl) dX7_rule_47 ⟨_, _, rfl, ⟨by rw [hX2, zOut_cell (by omega)]; have h9 := hX1.2.2.2.2.1; omega, X1, hX1, hX2⟩, rfl⟩

set_option maxHeartbeats 4000000 in
set_option maxRecDepth 100000 in
/-- drop -/
theorem c_X7_drop (l : Launch) (G : zG) (ad : Nat → Nat) (X : Nat → Nat → Int) (q : Nat) (hV : zV X) (hq : q < zN X 0) : zR l G yX7_drop wsX7_drop { frames := 2, cells := 0, slots := 0, locals := 45 } (zpic G ad X) [.ref (ad 52), .int (zi (q : Int))] (zu G ad (fun w Y => w = X 0 1 - 1 ∧ ∃ Y1 : Nat → Nat → Int, zRem X 0 q Y1 ∧ Y = zOut Y1)) 0 0 := by
  refine zR_of (cc := cX7_drop) (maxL := 2) (rt := (some .int)) (by decide) rfl (Nat.le_of_ble_eq_true rfl) ?_
  intro p e s m below meth c A ls hx hb hml hr hts hown hlocks hin0 hA hE hP hD hS hl
  have hl : lv_has ls 2 [(0, .ref (ad 52)), (1, .int (zi (q : Int)))] := hl
  have hown : s.vm.findClass RX7 = some m.cls := hown
  have hn := hV.n (Or.inl rfl : zIsW 0)
  have hw7 : ∀ w ∈ u_ws RX7 TX7 8, w ∈ wsX7_drop := by decide +kernel
  have hf10 := hts (.fieldLink RX7 10 "Nettle" "wall" "LNettle$Wall;") (by decide +kernel)
  have hw6 : ∀ w ∈ u_ws RX6 TX6 3, w ∈ wsX7_drop := by decide +kernel
  have hf70 := hts (.fieldLink RX7 70 "Nettle$Wall" "count" "I") (by decide +kernel)
  refine lv_aload_n hx hb dX7_drop_0 rfl (lv_at hl 0 rfl) ?_
  refine lv_iload_n hx hb dX7_drop_1 rfl (lv_at hl 1 rfl) ?_
  refine zcall (wr := []) (va_runV (As := [.int (zi (q : Int))]) (rest := []) ⟨hx, hb, hml, hown, hts⟩ (c_X7_needRule l G ad X q hV (by omega) s.heap.size) (cwV 1 hts gX7_drop_X7_needRule rfl rfl rfl (by decide +kernel) ⟨Nat.le_of_ble_eq_true rfl, Nat.le_of_ble_eq_true rfl⟩) (zPreV (wr := []) (wc := zpic G ad X) (q0 := 52) (ci := 7) (q := (RX7, TX7, 8)) hP hD hE hS hA rfl p_52) rfl rfl hl.1 rfl (lv_room (Nat.le_of_ble_eq_true rfl)) dX7_drop_2 ⟨Nat.le_of_ble_eq_true rfl, Nat.le_of_ble_eq_true rfl⟩) hP hD hS hA (fun _ _ H locs hf hP hD hS => ?_)
  obtain ⟨rfl, rfl⟩ := hf
  have hP : va_P G.1 vwCl (zpic G ad X) H := hP
  have hD : va_D A (zpic G ad X) := hD
  refine W.eq (g2 := F0 m 5 ls []) rfl ?_
  refine lv_aload_n hx hb dX7_drop_5 rfl (lv_at hl 0 rfl) ?_
  refine va_get (D := G.1) (ci := 7) (v := .ref (ad 0)) (C := RX7) (T := TX7) (N := 8) hx hb hts hw7 hown hE.1 hP 52 p_52 rfl 0 (by decide) hf10 (fun _ h9 => h9) rfl dX7_drop_6 ?_
  refine lv_iload_n hx hb dX7_drop_9 rfl (lv_at hl 1 rfl) ?_
  refine zcall (wr := []) (va_runV (As := [.int (zi (q : Int))]) (rest := []) ⟨hx, hb, hml, hown, hts⟩ (c_X6_remove l G ad X 0 q hV (Or.inl rfl) (by omega) H.size) (cwV 1 hts gX7_drop_X6_remove rfl rfl rfl (by decide +kernel) ⟨Nat.le_of_ble_eq_true rfl, Nat.le_of_ble_eq_true rfl⟩) (zPreV (wr := []) (wc := zpic G ad X) (q0 := 0) (ci := 6) (q := (RX6, TX6, 3)) hP hD hE hS hA rfl (p_w (Or.inl rfl))) rfl rfl hl.1 rfl (lv_room (Nat.le_of_ble_eq_true rfl)) dX7_drop_10 ⟨Nat.le_of_ble_eq_true rfl, Nat.le_of_ble_eq_true rfl⟩) hP hD hS hA (fun _ _ H locs hf hP hD hS => ?_)
  obtain ⟨X1, rfl, hX1, rfl⟩ := hf
  have hP : va_P G.1 vwCl (zpic G ad X1) H := hP
  have hD : va_D A (zpic G ad X1) := hD
  refine W.eq (g2 := F0 m 13 ls []) rfl ?_
  refine lv_aload_n hx hb dX7_drop_13 rfl (lv_at hl 0 rfl) ?_
  refine zcall (wr := []) (va_runV (As := []) (rest := []) ⟨hx, hb, hml, hown, hts⟩ (c_X7_outdate l G ad X1 H.size) (cwV 0 hts gX7_drop_X7_outdate rfl rfl rfl (by decide +kernel) ⟨Nat.le_of_ble_eq_true rfl, Nat.le_of_ble_eq_true rfl⟩) (zPreV (wr := []) (wc := zpic G ad X1) (q0 := 52) (ci := 7) (q := (RX7, TX7, 8)) hP hD hE hS hA rfl p_52) rfl rfl hl.1 rfl (lv_room (Nat.le_of_ble_eq_true rfl)) dX7_drop_14 ⟨Nat.le_of_ble_eq_true rfl, Nat.le_of_ble_eq_true rfl⟩) hP hD hS hA (fun _ _ H locs hf hP hD hS => ?_)
  obtain ⟨X2, rfl, hX2, rfl⟩ := hf
  have hP : va_P G.1 vwCl (zpic G ad X2) H := hP
  have hD : va_D A (zpic G ad X2) := hD
  refine W.eq (g2 := F0 m 17 ls []) rfl ?_
  refine lv_aload_n hx hb dX7_drop_17 rfl (lv_at hl 0 rfl) ?_
  refine va_get (D := G.1) (ci := 7) (v := .ref (ad 0)) (C := RX7) (T := TX7) (N := 8) hx hb hts hw7 hown hE.1 hP 52 p_52 rfl 0 (by decide) hf10 (fun _ h9 => h9) rfl dX7_drop_18 ?_
  refine va_get (D := G.1) (ci := 6) (v := .int (zi (X2 0 1))) (C := RX6) (T := TX6) (N := 3) hx hb hts hw6 hown hE.1 hP 0 (p_w (Or.inl rfl)) rfl 1 (by decide) hf70 (fun _ h9 => h9) rfl dX7_drop_21 ?_
  exact zend_i hx hb hr hlocks hP hD hS (Nat.le_of_ble_eq_true rfl) (Nat.le_of_ble_eq_true rfl) dX7_drop_24 ⟨_, _, rfl, ⟨by rw [hX2, zOut_cell (by omega)]; exact hX1.2.2.1, X1, hX1, hX2⟩, rfl⟩

set_option maxHeartbeats 4000000 in
set_option maxRecDepth 100000 in
/-- move -/
theorem c_X7_move (l : Launch) (G : zG) (ad : Nat → Nat) (X : Nat → Nat → Int) (q : Nat) (t : Nat) (hV : zV X) (hq : q < zN X 0) (ht : t < zN X 0) : zR l G yX7_move wsX7_move { frames := 1, cells := 0, slots := 0, locals := 24 } (zpic G ad X) [.ref (ad 52), .int (zi (q : Int)), .int (zi (t : Int))] (zu G ad (fun w Y => (q = t ∧ w = 0 ∧ Y = X) ∨ (q ≠ t ∧ w = zabs ((t : Int) - (q : Int)) + 1 ∧ ∃ Y1 : Nat → Nat → Int, zMov X 0 q t Y1 ∧ Y = zOut Y1))) 0 0 := by
  refine zR_of (cc := cX7_move) (maxL := 3) (rt := (some .int)) (by decide) rfl (Nat.le_of_ble_eq_true rfl) ?_
  intro p e s m below meth c A ls hx hb hml hr hts hown hlocks hin0 hA hE hP hD hS hl
  have hl : lv_has ls 3 [(0, .ref (ad 52)), (1, .int (zi (q : Int))), (2, .int (zi (t : Int)))] := hl
  have hown : s.vm.findClass RX7 = some m.cls := hown
  have hn := hV.n (Or.inl rfl : zIsW 0)
  have hw7 : ∀ w ∈ u_ws RX7 TX7 8, w ∈ wsX7_move := by decide +kernel
  have hf10 := hts (.fieldLink RX7 10 "Nettle" "wall" "LNettle$Wall;") (by decide +kernel)
  have hmaabs := hts (.code Lib.Math.abs.name Lib.Math.abs.code 1 (some .int)) (by decide +kernel)
  have hml127 := hts (.methodLink RX7 127 Lib.Math.abs.name) (by decide +kernel)
  have hstabs := hts (.static Lib.Math.abs.name) (by decide +kernel)
  have hiniMath := hts (.initialized "java/lang/Math") (by decide +kernel)
  refine lv_aload_n hx hb dX7_move_0 rfl (lv_at hl 0 rfl) ?_
  refine lv_iload_n hx hb dX7_move_1 rfl (lv_at hl 1 rfl) ?_
  refine zcall (wr := []) (va_runV (As := [.int (zi (q : Int))]) (rest := []) ⟨hx, hb, hml, hown, hts⟩ (c_X7_needRule l G ad X q hV (by omega) s.heap.size) (cwV 1 hts gX7_move_X7_needRule rfl rfl rfl (by decide +kernel) ⟨Nat.le_of_ble_eq_true rfl, Nat.le_of_ble_eq_true rfl⟩) (zPreV (wr := []) (wc := zpic G ad X) (q0 := 52) (ci := 7) (q := (RX7, TX7, 8)) hP hD hE hS hA rfl p_52) rfl rfl hl.1 rfl (lv_room (Nat.le_of_ble_eq_true rfl)) dX7_move_2 ⟨Nat.le_of_ble_eq_true rfl, Nat.le_of_ble_eq_true rfl⟩) hP hD hS hA (fun _ _ H locs hf hP hD hS => ?_)
  obtain ⟨rfl, rfl⟩ := hf
  have hP : va_P G.1 vwCl (zpic G ad X) H := hP
  have hD : va_D A (zpic G ad X) := hD
  refine W.eq (g2 := F0 m 5 ls []) rfl ?_
  refine lv_aload_n hx hb dX7_move_5 rfl (lv_at hl 0 rfl) ?_
  refine lv_iload_n hx hb dX7_move_6 rfl (lv_at hl 2 rfl) ?_
  refine zcall (wr := []) (va_runV (As := [.int (zi (t : Int))]) (rest := []) ⟨hx, hb, hml, hown, hts⟩ (c_X7_needRule l G ad X t hV (by omega) H.size) (cwV 1 hts gX7_move_X7_needRule rfl rfl rfl (by decide +kernel) ⟨Nat.le_of_ble_eq_true rfl, Nat.le_of_ble_eq_true rfl⟩) (zPreV (wr := []) (wc := zpic G ad X) (q0 := 52) (ci := 7) (q := (RX7, TX7, 8)) hP hD hE hS hA rfl p_52) rfl rfl hl.1 rfl (lv_room (Nat.le_of_ble_eq_true rfl)) dX7_move_7 ⟨Nat.le_of_ble_eq_true rfl, Nat.le_of_ble_eq_true rfl⟩) hP hD hS hA (fun _ _ H locs hf hP hD hS => ?_)
  obtain ⟨rfl, rfl⟩ := hf
  have hP : va_P G.1 vwCl (zpic G ad X) H := hP
  have hD : va_D A (zpic G ad X) := hD
  refine W.eq (g2 := F0 m 10 ls []) rfl ?_
  refine lv_iload_n hx hb dX7_move_10 rfl (lv_at hl 1 rfl) ?_
  refine lv_iload_n hx hb dX7_move_11 rfl (lv_at hl 2 rfl) ?_
  refine zc_ne (tgt := 17) hx hb dX7_move_12 (by decide) (by omega) (by omega) (fun h12 => ?_) (fun h12 => ?_)
  · refine lv_aload_n hx hb dX7_move_17 rfl (lv_at hl 0 rfl) ?_
    refine va_get (D := G.1) (ci := 7) (v := .ref (ad 0)) (C := RX7) (T := TX7) (N := 8) hx hb hts hw7 hown hE.1 hP 52 p_52 rfl 0 (by decide) hf10 (fun _ h9 => h9) rfl dX7_move_18 ?_
    refine lv_iload_n hx hb dX7_move_21 rfl (lv_at hl 1 rfl) ?_
    refine lv_iload_n hx hb dX7_move_22 rfl (lv_at hl 2 rfl) ?_
    refine zcall (wr := []) (va_runV (As := [.int (zi (q : Int)), .int (zi (t : Int))]) (rest := []) ⟨hx, hb, hml, hown, hts⟩ (c_X6_shift l G ad X 0 q t hV (Or.inl rfl) (by omega) (by omega) H.size) (cwV 2 hts gX7_move_X6_shift rfl rfl rfl (by decide +kernel) ⟨Nat.le_of_ble_eq_true rfl, Nat.le_of_ble_eq_true rfl⟩) (zPreV (wr := []) (wc := zpic G ad X) (q0 := 0) (ci := 6) (q := (RX6, TX6, 3)) hP hD hE hS hA rfl (p_w (Or.inl rfl))) rfl rfl hl.1 rfl (lv_room (Nat.le_of_ble_eq_true rfl)) dX7_move_23 ⟨Nat.le_of_ble_eq_true rfl, Nat.le_of_ble_eq_true rfl⟩) hP hD hS hA (fun _ _ H locs hf hP hD hS => ?_)
    obtain ⟨X1, rfl, hX1, rfl⟩ := hf
    have hP : va_P G.1 vwCl (zpic G ad X1) H := hP
    have hD : va_D A (zpic G ad X1) := hD
    refine W.eq (g2 := F0 m 26 ls []) rfl ?_
    refine lv_aload_n hx hb dX7_move_26 rfl (lv_at hl 0 rfl) ?_
    refine zcall (wr := []) (va_runV (As := []) (rest := []) ⟨hx, hb, hml, hown, hts⟩ (c_X7_outdate l G ad X1 H.size) (cwV 0 hts gX7_move_X7_outdate rfl rfl rfl (by decide +kernel) ⟨Nat.le_of_ble_eq_true rfl, Nat.le_of_ble_eq_true rfl⟩) (zPreV (wr := []) (wc := zpic G ad X1) (q0 := 52) (ci := 7) (q := (RX7, TX7, 8)) hP hD hE hS hA rfl p_52) rfl rfl hl.1 rfl (lv_room (Nat.le_of_ble_eq_true rfl)) dX7_move_27 ⟨Nat.le_of_ble_eq_true rfl, Nat.le_of_ble_eq_true rfl⟩) hP hD hS hA (fun _ _ H locs hf hP hD hS => ?_)
    obtain ⟨X2, rfl, hX2, rfl⟩ := hf
    have hP : va_P G.1 vwCl (zpic G ad X2) H := hP
    have hD : va_D A (zpic G ad X2) := hD
    refine W.eq (g2 := F0 m 30 ls []) rfl ?_
    refine lv_iload_n hx hb dX7_move_30 rfl (lv_at hl 2 rfl) ?_
    refine lv_iload_n hx hb dX7_move_31 rfl (lv_at hl 1 rfl) ?_
    refine lv_isub hx hb dX7_move_32 (zti (v := zi ((t : Int) - (q : Int))) (zi_sub _ _) ?_)
    refine va_mabs hx hb (hml.trans hl.1.symm) hown hml127 hstabs hiniMath hmaabs (Nat.le_of_ble_eq_true rfl) (Nat.le_of_ble_eq_true rfl) (Nat.le_of_ble_eq_true rfl) (Nat.le_of_ble_eq_true rfl) dX7_move_33 ?_
    refine zti (v := zi (zabs ((t : Int) - (q : Int)))) (zi_abs (by omega)) ?_
    refine lv_iconst (v := zi 1) hx hb dX7_move_36 rfl ?_
    refine lv_iadd hx hb dX7_move_37 (zti (v := zi ((zabs ((t : Int) - (q : Int))) + 1)) (zi_add _ _) ?_)
    exact zend_i hx hb hr hlocks hP hD hS (Nat.le_of_ble_eq_true rfl) (Nat.le_of_ble_eq_true rfl) dX7_move_38 ⟨_, _, rfl, (Or.inr ⟨by omega, rfl, X1, hX1, hX2⟩), rfl⟩
  · refine lv_iconst (v := zi 0) hx hb dX7_move_15 rfl ?_
    exact zend_i hx hb hr hlocks hP hD hS (Nat.le_of_ble_eq_true rfl) (Nat.le_of_ble_eq_true rfl) dX7_move_16 ⟨_, _, rfl, (Or.inl ⟨by omega, rfl, rfl⟩), rfl⟩
