/-! walls: what changes them -/
theorem dX6_remove_0 : decode cX6_remove 0 = .ok (.aload_n 0, 1) := by decide +kernel
theorem dX6_remove_1 : decode cX6_remove 1 = .ok (.iload_n 1, 1) := by decide +kernel
theorem dX6_remove_2 : decode cX6_remove 2 = .ok (.aload_n 0, 1) := by decide +kernel
theorem dX6_remove_3 : decode cX6_remove 3 = .ok (.getfield 18, 3) := by decide +kernel
theorem dX6_remove_6 : decode cX6_remove 6 = .ok (.iconst 1, 1) := by decide +kernel
theorem dX6_remove_7 : decode cX6_remove 7 = .ok (.isub, 1) := by decide +kernel
set_option maxRecDepth 20000 in
theorem ggX6_remove_X6_shift : GoodIn wsX6_remove wsX6_shift := goodIn_r _ [6, 7, 8, 9, 10] (by decide +kernel) (by decide +kernel)
set_option maxRecDepth 20000 in
theorem gX6_remove_X6_shift : GoodIn wsX6_remove (wsV RX6 26 RX6 yX6_shift wsX6_shift) := goodIn_app (goodIn_of _ (by decide +kernel)) ggX6_remove_X6_shift
theorem dX6_remove_8 : decode cX6_remove 8 = .ok (.invokevirtual 26, 3) := by decide +kernel
theorem dX6_remove_11 : decode cX6_remove 11 = .ok (.aload_n 0, 1) := by decide +kernel
theorem dX6_remove_12 : decode cX6_remove 12 = .ok (.dup, 1) := by decide +kernel
theorem dX6_remove_13 : decode cX6_remove 13 = .ok (.getfield 18, 3) := by decide +kernel
theorem dX6_remove_16 : decode cX6_remove 16 = .ok (.iconst 1, 1) := by decide +kernel
theorem dX6_remove_17 : decode cX6_remove 17 = .ok (.isub, 1) := by decide +kernel
theorem dX6_remove_18 : decode cX6_remove 18 = .ok (.putfield 18, 3) := by decide +kernel
theorem dX6_remove_21 : decode cX6_remove 21 = .ok (.return_, 1) := by decide +kernel
theorem dX6_add_0 : decode cX6_add 0 = .ok (.aload_n 0, 1) := by decide +kernel
theorem dX6_add_1 : decode cX6_add 1 = .ok (.getfield 11, 3) := by decide +kernel
theorem dX6_add_4 : decode cX6_add 4 = .ok (.aload_n 0, 1) := by decide +kernel
theorem dX6_add_5 : decode cX6_add 5 = .ok (.getfield 18, 3) := by decide +kernel
theorem dX6_add_8 : decode cX6_add 8 = .ok (.aaload, 1) := by decide +kernel
theorem dX6_add_9 : decode cX6_add 9 = .ok (.iload_n 1, 1) := by decide +kernel
set_option maxRecDepth 20000 in
theorem ggX6_add_X3_reset : GoodIn wsX6_add wsX3_reset := goodIn_r _ [7, 8, 9, 10, 11, 15, 16, 17, 18] (by decide +kernel) (by decide +kernel)
set_option maxRecDepth 20000 in
theorem gX6_add_X3_reset : GoodIn wsX6_add (wsV RX6 22 RX3 yX3_reset wsX3_reset) := goodIn_app (goodIn_of _ (by decide +kernel)) ggX6_add_X3_reset
theorem dX6_add_10 : decode cX6_add 10 = .ok (.invokevirtual 22, 3) := by decide +kernel
theorem dX6_add_13 : decode cX6_add 13 = .ok (.aload_n 0, 1) := by decide +kernel
theorem dX6_add_14 : decode cX6_add 14 = .ok (.dup, 1) := by decide +kernel
theorem dX6_add_15 : decode cX6_add 15 = .ok (.getfield 18, 3) := by decide +kernel
theorem dX6_add_18 : decode cX6_add 18 = .ok (.iconst 1, 1) := by decide +kernel
theorem dX6_add_19 : decode cX6_add 19 = .ok (.iadd, 1) := by decide +kernel
theorem dX6_add_20 : decode cX6_add 20 = .ok (.putfield 18, 3) := by decide +kernel
theorem dX6_add_23 : decode cX6_add 23 = .ok (.return_, 1) := by decide +kernel
theorem dX6_takeFrom_0 : decode cX6_takeFrom 0 = .ok (.iconst 0, 1) := by decide +kernel
theorem dX6_takeFrom_1 : decode cX6_takeFrom 1 = .ok (.istore_n 2, 1) := by decide +kernel
theorem dX6_takeFrom_2 : decode cX6_takeFrom 2 = .ok (.iload_n 2, 1) := by decide +kernel
theorem dX6_takeFrom_3 : decode cX6_takeFrom 3 = .ok (.aload_n 1, 1) := by decide +kernel
theorem dX6_takeFrom_4 : decode cX6_takeFrom 4 = .ok (.getfield 18, 3) := by decide +kernel
theorem dX6_takeFrom_7 : decode cX6_takeFrom 7 = .ok (.if_icmp .ge 24, 3) := by decide +kernel
theorem dX6_takeFrom_31 : decode cX6_takeFrom 31 = .ok (.aload_n 0, 1) := by decide +kernel
theorem dX6_takeFrom_32 : decode cX6_takeFrom 32 = .ok (.aload_n 1, 1) := by decide +kernel
theorem dX6_takeFrom_33 : decode cX6_takeFrom 33 = .ok (.getfield 18, 3) := by decide +kernel
theorem dX6_takeFrom_36 : decode cX6_takeFrom 36 = .ok (.putfield 18, 3) := by decide +kernel
theorem dX6_takeFrom_39 : decode cX6_takeFrom 39 = .ok (.aload_n 0, 1) := by decide +kernel
theorem dX6_takeFrom_40 : decode cX6_takeFrom 40 = .ok (.aload_n 1, 1) := by decide +kernel
theorem dX6_takeFrom_41 : decode cX6_takeFrom 41 = .ok (.getfield 34, 3) := by decide +kernel
theorem dX6_takeFrom_44 : decode cX6_takeFrom 44 = .ok (.putfield 34, 3) := by decide +kernel
theorem dX6_takeFrom_47 : decode cX6_takeFrom 47 = .ok (.return_, 1) := by decide +kernel
theorem dX6_takeFrom_10 : decode cX6_takeFrom 10 = .ok (.aload_n 0, 1) := by decide +kernel
theorem dX6_takeFrom_11 : decode cX6_takeFrom 11 = .ok (.getfield 11, 3) := by decide +kernel
theorem dX6_takeFrom_14 : decode cX6_takeFrom 14 = .ok (.iload_n 2, 1) := by decide +kernel
theorem dX6_takeFrom_15 : decode cX6_takeFrom 15 = .ok (.aaload, 1) := by decide +kernel
theorem dX6_takeFrom_16 : decode cX6_takeFrom 16 = .ok (.aload_n 1, 1) := by decide +kernel
theorem dX6_takeFrom_17 : decode cX6_takeFrom 17 = .ok (.getfield 11, 3) := by decide +kernel
theorem dX6_takeFrom_20 : decode cX6_takeFrom 20 = .ok (.iload_n 2, 1) := by decide +kernel
theorem dX6_takeFrom_21 : decode cX6_takeFrom 21 = .ok (.aaload, 1) := by decide +kernel
set_option maxRecDepth 20000 in
theorem ggX6_takeFrom_X3_takeFrom : GoodIn wsX6_takeFrom wsX3_takeFrom := goodIn_r _ [8, 9, 10, 11, 15, 16, 17, 18] (by decide +kernel) (by decide +kernel)
set_option maxRecDepth 20000 in
theorem gX6_takeFrom_X3_takeFrom : GoodIn wsX6_takeFrom (wsV RX6 30 RX3 yX3_takeFrom wsX3_takeFrom) := goodIn_app (goodIn_of _ (by decide +kernel)) ggX6_takeFrom_X3_takeFrom
theorem dX6_takeFrom_22 : decode cX6_takeFrom 22 = .ok (.invokevirtual 30, 3) := by decide +kernel
theorem dX6_takeFrom_25 : decode cX6_takeFrom 25 = .ok (.iinc 2 1, 3) := by decide +kernel
theorem dX6_takeFrom_28 : decode cX6_takeFrom 28 = .ok (.goto (-26), 3) := by decide +kernel
set_option maxHeartbeats 4000000 in
set_option maxRecDepth 100000 in
/-- remove -/
theorem c_X6_remove (l : Launch) (G : zG) (ad : Nat → Nat) (X : Nat → Nat → Int) (a : Nat) (x : Nat) (hV : zV X) (hW : zIsW a) (hx : x < zN X a) : zR l G yX6_remove wsX6_remove { frames := 1, cells := 0, slots := 0, locals := 24 } (zpic G ad X) [.ref (ad a), .int (zi (x : Int))] (zv G ad (fun Y => (∀ c : Nat, c ≠ a → c ≠ a + 1 → Y c = X c) ∧ (∀ j : Nat, Y (a + 1) j = X (a + 1) (zShf x (zN X a - 1) j)) ∧ Y a 1 = X a 1 - 1 ∧ Y a 2 = X a 2)) 0 0 := by
  refine zR_of (cc := cX6_remove) (maxL := 2) (rt := none) (by decide) rfl (Nat.le_of_ble_eq_true rfl) ?_
  intro p e s m below meth c A ls hx hb hml hr hts hown hlocks hin0 hA hE hP hD hS hl
  have hl : lv_has ls 2 [(0, .ref (ad a)), (1, .int (zi (x : Int)))] := hl
  have hown : s.vm.findClass RX6 = some m.cls := hown
  have hn := hV.n hW
  have hw6 : ∀ w ∈ u_ws RX6 TX6 3, w ∈ wsX6_remove := by decide +kernel
  have hf18 := hts (.fieldLink RX6 18 "Nettle$Wall" "count" "I") (by decide +kernel)
  refine lv_aload_n hx hb dX6_remove_0 rfl (lv_at hl 0 rfl) ?_
  refine lv_iload_n hx hb dX6_remove_1 rfl (lv_at hl 1 rfl) ?_
  refine lv_aload_n hx hb dX6_remove_2 rfl (lv_at hl 0 rfl) ?_
  refine va_get (D := G.1) (ci := 6) (v := .int (zi (X a 1))) (C := RX6) (T := TX6) (N := 3) hx hb hts hw6 hown hE.1 hP a (p_w hW) rfl 1 (by decide) hf18 (fun _ h9 => h9) rfl dX6_remove_3 ?_
  refine lv_iconst (v := zi 1) hx hb dX6_remove_6 rfl ?_
  refine lv_isub hx hb dX6_remove_7 (zti (v := zi ((X a 1) - 1)) (zi_sub _ _) ?_)
  refine zti (v := zi ((zN X a - 1 : Nat) : Int)) (congrArg zi (by omega)) ?_
  refine zcall (wr := []) (va_runV (As := [.int (zi (x : Int)), .int (zi ((zN X a - 1 : Nat) : Int))]) (rest := []) ⟨hx, hb, hml, hown, hts⟩ (c_X6_shift l G ad X a x (zN X a - 1) hV hW (by omega) (by omega) s.heap.size) (cwV 2 hts gX6_remove_X6_shift rfl rfl rfl (by decide +kernel) ⟨Nat.le_of_ble_eq_true rfl, Nat.le_of_ble_eq_true rfl⟩) (zPreV (wr := []) (wc := zpic G ad X) (q0 := a) (ci := 6) (q := (RX6, TX6, 3)) hP hD hE hS hA rfl (p_w hW)) rfl rfl hl.1 rfl (lv_room (Nat.le_of_ble_eq_true rfl)) dX6_remove_8 ⟨Nat.le_of_ble_eq_true rfl, Nat.le_of_ble_eq_true rfl⟩) hP hD hS hA (fun _ _ H locs hf hP hD hS => ?_)
  obtain ⟨X1, rfl, hX1, rfl⟩ := hf
  have hP : va_P G.1 vwCl (zpic G ad X1) H := hP
  have hD : va_D A (zpic G ad X1) := hD
  refine W.eq (g2 := F0 m 11 ls []) rfl ?_
  have ea : X1 a = X a := hX1.1 a (by omega)
  refine lv_aload_n hx hb dX6_remove_11 rfl (lv_at hl 0 rfl) ?_
  refine lv_dup hx hb dX6_remove_12 rfl ?_
  refine va_get (D := G.1) (ci := 6) (v := .int (zi (X1 a 1))) (C := RX6) (T := TX6) (N := 3) hx hb hts hw6 hown hE.1 hP a (p_w hW) rfl 1 (by decide) hf18 (fun _ h9 => h9) rfl dX6_remove_13 ?_
  refine lv_iconst (v := zi 1) hx hb dX6_remove_16 rfl ?_
  refine lv_isub hx hb dX6_remove_17 (zti (v := zi ((X1 a 1) - 1)) (zi_sub _ _) ?_)
  refine zput (C := RX6) (T := TX6) (N := 3) (ci := 6) (v := .int (zi ((X1 a 1) - 1))) (ty := tyX6 1) hx hb hts hw6 tyX6 tyX6_ok nmX6 hown hE hP hD hS a (p_w hW) rfl 1 (by decide) hf18 (fun _ h9 => h9) rfl (by decide +kernel) rfl rfl (Nat.le_of_ble_eq_true rfl) (s_w1 hW ((X1 a 1) - 1)) dX6_remove_18 (fun H locs hP hD hS => ?_)
  exact zend_v hx hb hr hlocks hP hD hS (Nat.le_of_ble_eq_true rfl) (Nat.le_of_ble_eq_true rfl) dX6_remove_21 ⟨_, rfl, ⟨fun c h1 h2 => by rw [zw_cell h1]; exact hX1.1 c h2, fun j => by rw [zw_cell (by omega)]; exact hX1.2 j, by rw [zw_at, ea], by rw [zw_ne (by omega), ea]⟩, rfl⟩

set_option maxHeartbeats 4000000 in
set_option maxRecDepth 100000 in
/-- add -/
theorem c_X6_add (l : Launch) (G : zG) (ad : Nat → Nat) (X : Nat → Nat → Int) (a : Nat) (v : Int) (hV : zV X) (hW : zIsW a) (hn8 : zN X a < 8) : zR l G yX6_add wsX6_add { frames := 1, cells := 0, slots := 0, locals := 22 } (zpic G ad X) [.ref (ad a), .int (zi v)] (zv G ad (fun Y => Y (zr X a (zN X a)) 0 = v ∧ Y (zr X a (zN X a)) 1 = 0 ∧ (∀ k : Nat, k < 4 → Y (zr X a (zN X a) + 1) k = 0 ∧ Y (zr X a (zN X a) + 2) k = zS k - 1) ∧ (∀ k : Nat, k ≠ a → k ≠ zr X a (zN X a) → k ≠ zr X a (zN X a) + 1 → k ≠ zr X a (zN X a) + 2 → Y k = X k) ∧ Y a 1 = X a 1 + 1 ∧ Y a 2 = X a 2)) 0 0 := by
  refine zR_of (cc := cX6_add) (maxL := 2) (rt := none) (by decide) rfl (Nat.le_of_ble_eq_true rfl) ?_
  intro p e s m below meth c A ls hx hb hml hr hts hown hlocks hin0 hA hE hP hD hS hl
  have hl : lv_has ls 2 [(0, .ref (ad a)), (1, .int (zi v))] := hl
  have hown : s.vm.findClass RX6 = some m.cls := hown
  have hn := hV.n hW
  have hrr := hV.isR hW hn8
  have hap : a ≠ zr X a (zN X a) ∧ a ≠ zr X a (zN X a) + 1 ∧ a ≠ zr X a (zN X a) + 2 ∧ zr X a (zN X a) ≠ a ∧ zr X a (zN X a) + 1 ≠ a ∧ zr X a (zN X a) + 2 ≠ a := by have := zr_ge X a (zN X a); omega
  have hw6 : ∀ w ∈ u_ws RX6 TX6 3, w ∈ wsX6_add := by decide +kernel
  have hf11 := hts (.fieldLink RX6 11 "Nettle$Wall" "rows" "[LNettle$Rule;") (by decide +kernel)
  have hf18 := hts (.fieldLink RX6 18 "Nettle$Wall" "count" "I") (by decide +kernel)
  refine lv_aload_n hx hb dX6_add_0 rfl (lv_at hl 0 rfl) ?_
  refine va_get (D := G.1) (ci := 6) (v := .ref (ad (a + 1))) (C := RX6) (T := TX6) (N := 3) hx hb hts hw6 hown hE.1 hP a (p_w hW) rfl 0 (by decide) hf11 (fun _ h9 => h9) rfl dX6_add_1 ?_
  refine lv_aload_n hx hb dX6_add_4 rfl (lv_at hl 0 rfl) ?_
  refine va_get (D := G.1) (ci := 6) (v := .int (zi (X a 1))) (C := RX6) (T := TX6) (N := 3) hx hb hts hw6 hown hE.1 hP a (p_w hW) rfl 1 (by decide) hf18 (fun _ h9 => h9) rfl dX6_add_5 ?_
  refine zqld hx hb hE hP hW (zN X a) hn.1 (by omega) dX6_add_8 ?_
  have hR1 : zIsR (zr X a (zN X a)) := hV.isR hW (by omega)
  refine lv_iload_n hx hb dX6_add_9 rfl (lv_at hl 1 rfl) ?_
  refine zcall (wr := []) (va_runV (As := [.int (zi v)]) (rest := []) ⟨hx, hb, hml, hown, hts⟩ (c_X3_reset l G ad X (zr X a (zN X a)) v hV hR1 s.heap.size) (cwV 1 hts gX6_add_X3_reset rfl rfl rfl (by decide +kernel) ⟨Nat.le_of_ble_eq_true rfl, Nat.le_of_ble_eq_true rfl⟩) (zPreV (wr := []) (wc := zpic G ad X) (q0 := (zr X a (zN X a))) (ci := 3) (q := (RX3, TX3, 4)) hP hD hE hS hA rfl (p_r hR1)) rfl rfl hl.1 rfl (lv_room (Nat.le_of_ble_eq_true rfl)) dX6_add_10 ⟨Nat.le_of_ble_eq_true rfl, Nat.le_of_ble_eq_true rfl⟩) hP hD hS hA (fun _ _ H locs hf hP hD hS => ?_)
  obtain ⟨X1, rfl, hX1, rfl⟩ := hf
  have hP : va_P G.1 vwCl (zpic G ad X1) H := hP
  have hD : va_D A (zpic G ad X1) := hD
  refine W.eq (g2 := F0 m 13 ls []) rfl ?_
  have ea : X1 a = X a := hX1.2.2.2 a hap.1 hap.2.1 hap.2.2.1
  refine lv_aload_n hx hb dX6_add_13 rfl (lv_at hl 0 rfl) ?_
  refine lv_dup hx hb dX6_add_14 rfl ?_
  refine va_get (D := G.1) (ci := 6) (v := .int (zi (X1 a 1))) (C := RX6) (T := TX6) (N := 3) hx hb hts hw6 hown hE.1 hP a (p_w hW) rfl 1 (by decide) hf18 (fun _ h9 => h9) rfl dX6_add_15 ?_
  refine lv_iconst (v := zi 1) hx hb dX6_add_18 rfl ?_
  refine lv_iadd hx hb dX6_add_19 (zti (v := zi ((X1 a 1) + 1)) (zi_add _ _) ?_)
  refine zput (C := RX6) (T := TX6) (N := 3) (ci := 6) (v := .int (zi ((X1 a 1) + 1))) (ty := tyX6 1) hx hb hts hw6 tyX6 tyX6_ok nmX6 hown hE hP hD hS a (p_w hW) rfl 1 (by decide) hf18 (fun _ h9 => h9) rfl (by decide +kernel) rfl rfl (Nat.le_of_ble_eq_true rfl) (s_w1 hW ((X1 a 1) + 1)) dX6_add_20 (fun H locs hP hD hS => ?_)
  exact zend_v hx hb hr hlocks hP hD hS (Nat.le_of_ble_eq_true rfl) (Nat.le_of_ble_eq_true rfl) dX6_add_23 ⟨_, rfl, (by obtain ⟨x0, x1, x2, x3⟩ := hX1; refine ⟨?_, ?_, fun k hk => ?_, fun k k0 k1 k2 k3 => ?_, ?_, ?_⟩; (rw [zw_cell hap.2.2.2.1]; exact x0); (rw [zw_cell hap.2.2.2.1]; exact x1); (rw [zw_cell hap.2.2.2.2.1, zw_cell hap.2.2.2.2.2]; exact x2 k hk); (rw [zw_cell k0]; exact x3 k k1 k2 k3); (rw [zw_at, ea]); (rw [zw_ne (by omega), ea])), rfl⟩

set_option maxHeartbeats 4000000 in
set_option maxRecDepth 100000 in
/-- takeFrom -/
theorem c_X6_takeFrom (l : Launch) (G : zG) (ad : Nat → Nat) (X : Nat → Nat → Int) (a : Nat) (b : Nat) (hV : zV X) (hW : zIsW a) (hB : zIsW b) (hab : a ≠ b) : zR l G yX6_takeFrom wsX6_takeFrom { frames := 1, cells := 0, slots := 0, locals := 22 } (zpic G ad X) [.ref (ad a), .ref (ad b)] (zv G ad (fun Y => zV Y ∧ (∀ j : Nat, j < zN X b → Y (zr X a j) 0 = X (zr X b j) 0 ∧ ∀ g : Nat, g < 4 → Y (zr X a j + 1) g = X (zr X b j + 1) g ∧ Y (zr X a j + 2) g = X (zr X b j + 2) g) ∧ (∀ c : Nat, c < a ∨ c = a + 1 ∨ a + 26 ≤ c → Y c = X c) ∧ Y a 1 = X b 1 ∧ Y a 2 = X b 2)) 0 0 := by
  refine zR_of (cc := cX6_takeFrom) (maxL := 3) (rt := none) (by decide) rfl (Nat.le_of_ble_eq_true rfl) ?_
  intro p e s m below meth c A ls hx hb hml hr hts hown hlocks hin0 hA hE hP hD hS hl
  have hl : lv_has ls 3 [(0, .ref (ad a)), (1, .ref (ad b))] := hl
  have hown : s.vm.findClass RX6 = some m.cls := hown
  have hn := hV.n hB
  have hw6 : ∀ w ∈ u_ws RX6 TX6 3, w ∈ wsX6_takeFrom := by decide +kernel
  have hf18 := hts (.fieldLink RX6 18 "Nettle$Wall" "count" "I") (by decide +kernel)
  have hf34 := hts (.fieldLink RX6 34 "Nettle$Wall" "isLastAllow" "Z") (by decide +kernel)
  have hf11 := hts (.fieldLink RX6 11 "Nettle$Wall" "rows" "[LNettle$Rule;") (by decide +kernel)
  refine lv_iconst (v := zi 0) hx hb dX6_takeFrom_0 rfl ?_
  refine lv_istore_n (lv' := [(2, .int (zi 0)), (0, .ref (ad a)), (1, .ref (ad b))]) hx hb dX6_takeFrom_1 rfl hl (by decide) rfl (fun ls hl => ?_)
  refine zloop2 (fun (k : Nat) (Y : Nat → Nat → Int) => 8 - k) (fun (k : Nat) (Y : Nat → Nat → Int) (H : Heap) (locs : List Loc) (ls : Array Slot) => va_P G.1 vwCl (zpic G ad Y) H ∧ va_D A (zpic G ad Y) ∧ va_S A s.heap H locs ∧ lv_has ls 3 [(2, .int (zi (k : Int))), (1, .ref (ad b)), (0, .ref (ad a))] ∧ (k ≤ zN X b) ∧ (zV Y) ∧ (∀ j : Nat, j < k → Y (zr X a j) 0 = X (zr X b j) 0 ∧ ∀ g : Nat, g < 4 → Y (zr X a j + 1) g = X (zr X b j + 1) g ∧ Y (zr X a j + 2) g = X (zr X b j + 2) g) ∧ (∀ c : Nat, c < a + 2 ∨ a + 26 ≤ c → Y c = X c)) ?_ 0 X ⟨hP, hD, hS, lv_sub hl [0, 2, 1] rfl, (by omega), hV, (fun j h1 => by omega), (fun c h1 => rfl)⟩
  intro k Y ih H locs ls ⟨hP, hD, hS, hl, hk, hYV, hy1, hy2⟩
  have hyq : Y (a + 1) = X (a + 1) := hy2 (a + 1) (by omega)
  have hyb : ∀ c : Nat, b ≤ c → c < b + 26 → Y c = X c := fun c h1 h2 => hy2 c (by rcases hW with rfl | rfl <;> rcases hB with rfl | rfl <;> omega)
  have hz : ∀ j : Nat, zr Y a j = zr X a j := fun j => by unfold zr; rw [hyq]
  have hzb : ∀ j : Nat, zr Y b j = zr X b j := fun j => by unfold zr; rw [hyb (b + 1) (by omega) (by omega)]
  have hYn : Y b 1 = (zN X b : Int) := by rw [hyb b (by omega) (by omega)]; exact hn.1
  refine lv_iload_n hx hb dX6_takeFrom_2 rfl (lv_at hl 0 rfl) ?_
  refine lv_aload_n hx hb dX6_takeFrom_3 rfl (lv_at hl 1 rfl) ?_
  refine va_get (D := G.1) (ci := 6) (v := .int (zi (Y b 1))) (C := RX6) (T := TX6) (N := 3) hx hb hts hw6 hown hE.1 hP b (p_w hB) rfl 1 (by decide) hf18 (fun _ h9 => h9) rfl dX6_takeFrom_4 ?_
  refine zc_ge (tgt := 31) hx hb dX6_takeFrom_7 (by decide) (by omega) (by omega) (fun h7 => ?_) (fun h7 => ?_)
  · refine lv_aload_n hx hb dX6_takeFrom_31 rfl (lv_at hl 2 rfl) ?_
    refine lv_aload_n hx hb dX6_takeFrom_32 rfl (lv_at hl 1 rfl) ?_
    refine va_get (D := G.1) (ci := 6) (v := .int (zi (Y b 1))) (C := RX6) (T := TX6) (N := 3) hx hb hts hw6 hown hE.1 hP b (p_w hB) rfl 1 (by decide) hf18 (fun _ h9 => h9) rfl dX6_takeFrom_33 ?_
    refine zput (C := RX6) (T := TX6) (N := 3) (ci := 6) (v := .int (zi (Y b 1))) (ty := tyX6 1) hx hb hts hw6 tyX6 tyX6_ok nmX6 hown hE hP hD hS a (p_w hW) rfl 1 (by decide) hf18 (fun _ h9 => h9) rfl (by decide +kernel) rfl rfl (Nat.le_of_ble_eq_true rfl) (s_w1 hW (Y b 1)) dX6_takeFrom_36 (fun H locs hP hD hS => ?_)
    refine lv_aload_n hx hb dX6_takeFrom_39 rfl (lv_at hl 2 rfl) ?_
    refine lv_aload_n hx hb dX6_takeFrom_40 rfl (lv_at hl 1 rfl) ?_
    refine va_get (D := G.1) (ci := 6) (v := .int (zi ((zw Y a 1 (Y b 1)) b 2))) (C := RX6) (T := TX6) (N := 3) hx hb hts hw6 hown hE.1 hP b (p_w hB) rfl 2 (by decide) hf34 (fun _ h9 => h9) rfl dX6_takeFrom_41 ?_
    refine zput (C := RX6) (T := TX6) (N := 3) (ci := 6) (v := .int (zi ((zw Y a 1 (Y b 1)) b 2))) (ty := tyX6 2) hx hb hts hw6 tyX6 tyX6_ok nmX6 hown hE hP hD hS a (p_w hW) rfl 2 (by decide) hf34 (fun _ h9 => h9) rfl (by decide +kernel) (zbool (by rw [zw_cell (fun q => hab q.symm), hyb b (by omega) (by omega)]; exact (hV.wok hB).2.1)) (zboolf (by rw [zw_cell (fun q => hab q.symm), hyb b (by omega) (by omega)]; exact (hV.wok hB).2.1)) (Nat.le_of_ble_eq_true rfl) (s_w2 hW ((zw Y a 1 (Y b 1)) b 2)) dX6_takeFrom_44 (fun H locs hP hD hS => ?_)
    exact zend_v hx hb hr hlocks hP hD hS (Nat.le_of_ble_eq_true rfl) (Nat.le_of_ble_eq_true rfl) dX6_takeFrom_47 ⟨_, rfl, (by have hkn : k = zN X b := (by omega); rw [hkn] at hy1; have eb : Y b = X b := hyb b (by omega) (by omega); have ew : zw Y a 1 (Y b 1) b = X b := (by rw [zw_cell (fun q => hab q.symm)]; exact eb); have hY2 : ∀ c : Nat, c ≠ a → zw (zw Y a 1 (Y b 1)) a 2 (zw Y a 1 (Y b 1) b 2) c = Y c := (fun c hc => by rw [zw_cell hc, zw_cell hc]); have g1 : zw (zw Y a 1 (Y b 1)) a 2 (zw Y a 1 (Y b 1) b 2) a 1 = X b 1 := (by rw [zw_ne (by omega), zw_at, eb]); have g2 : zw (zw Y a 1 (Y b 1)) a 2 (zw Y a 1 (Y b 1) b 2) a 2 = X b 2 := (by rw [zw_at, ew]); have wb := hV.wok hB; refine ⟨hYV.top hW (fun c h1 h2 => hY2 c h1) (by rw [g1]; exact wb.1) (by rw [g2]; exact wb.2.1) (fun q hq => by rw [hY2 _ (by omega)]; exact (hYV.wok hW).2.2.1 q hq) (fun q q2 hq hq2 e => by rw [hY2 _ (by omega)] at e; exact (hYV.wok hW).2.2.2.1 q q2 hq hq2 e), fun j hj => ?_, fun c hc => ?_, g1, g2⟩; (have hg := zr_ge X a j; rw [hY2 _ (by omega), hY2 _ (by omega), hY2 _ (by omega)]; exact hy1 j hj); (rw [hY2 c (by omega)]; exact hy2 c (by omega))), rfl⟩
  · refine lv_aload_n hx hb dX6_takeFrom_10 rfl (lv_at hl 2 rfl) ?_
    refine va_get (D := G.1) (ci := 6) (v := .ref (ad (a + 1))) (C := RX6) (T := TX6) (N := 3) hx hb hts hw6 hown hE.1 hP a (p_w hW) rfl 0 (by decide) hf11 (fun _ h9 => h9) rfl dX6_takeFrom_11 ?_
    refine lv_iload_n hx hb dX6_takeFrom_14 rfl (lv_at hl 0 rfl) ?_
    refine zqld hx hb hE hP hW k rfl (by omega) dX6_takeFrom_15 ?_
    have hR1 : zIsR (zr Y a k) := hYV.isR hW (by omega)
    refine lv_aload_n hx hb dX6_takeFrom_16 rfl (lv_at hl 1 rfl) ?_
    refine va_get (D := G.1) (ci := 6) (v := .ref (ad (b + 1))) (C := RX6) (T := TX6) (N := 3) hx hb hts hw6 hown hE.1 hP b (p_w hB) rfl 0 (by decide) hf11 (fun _ h9 => h9) rfl dX6_takeFrom_17 ?_
    refine lv_iload_n hx hb dX6_takeFrom_20 rfl (lv_at hl 0 rfl) ?_
    refine zqld hx hb hE hP hB k rfl (by omega) dX6_takeFrom_21 ?_
    have hR2 : zIsR (zr Y b k) := hYV.isR hB (by omega)
    refine zcall (wr := []) (va_runV (As := [.ref (ad (zr Y b k))]) (rest := []) ⟨hx, hb, hml, hown, hts⟩ (c_X3_takeFrom l G ad Y (zr Y a k) (zr Y b k) hYV hR1 hR2 (by rw [hz, hzb]; have h1 := zr_ge X a k; have h2 := zr_ge X b k; have h3 := hV.slot hW (show k < 8 by omega); have h4 := hV.slot hB (show k < 8 by omega); unfold zr; rcases hW with rfl | rfl <;> rcases hB with rfl | rfl <;> omega) H.size) (cwV 1 hts gX6_takeFrom_X3_takeFrom rfl rfl rfl (by decide +kernel) ⟨Nat.le_of_ble_eq_true rfl, Nat.le_of_ble_eq_true rfl⟩) (zPreV (wr := []) (wc := zpic G ad Y) (q0 := (zr Y a k)) (ci := 3) (q := (RX3, TX3, 4)) hP hD hE hS hA rfl (p_r hR1)) rfl rfl hl.1 rfl (lv_room (Nat.le_of_ble_eq_true rfl)) dX6_takeFrom_22 ⟨Nat.le_of_ble_eq_true rfl, Nat.le_of_ble_eq_true rfl⟩) hP hD hS hA (fun _ _ H locs hf hP hD hS => ?_)
    obtain ⟨X1, rfl, hX1, rfl⟩ := hf
    have hP : va_P G.1 vwCl (zpic G ad X1) H := hP
    have hD : va_D A (zpic G ad X1) := hD
    refine W.eq (g2 := F0 m 25 ls []) rfl ?_
    have hza := hV.isR hW (show k < 8 by omega)
    have hzc := hV.isR hB (show k < 8 by omega)
    have hrb := hV.rok hzc
    rw [hz, hzb] at hX1
    have hlt : ∀ j : Nat, j < 8 → zr X b j + 2 < b + 26 := fun j hj => by have h0 := hV.slot hB hj; unfold zr; omega
    have hla : ∀ j : Nat, j < 8 → zr X a j + 2 < a + 26 := fun j hj => by have h0 := hV.slot hW hj; unfold zr; omega
    have hgb : b + 2 ≤ zr X b k := zr_ge X b k
    have hga : a + 2 ≤ zr X a k := zr_ge X a k
    have f0 : Y (zr X b k) = X (zr X b k) := hyb _ (by omega) (by have := hlt k (by omega); omega)
    have f1 : Y (zr X b k + 1) = X (zr X b k + 1) := hyb _ (by omega) (by have := hlt k (by omega); omega)
    have f2 : Y (zr X b k + 2) = X (zr X b k + 2) := hyb _ (by omega) (by have := hlt k (by omega); omega)
    have f3 := (hYV.rok hza).2.1
    rw [f0, f1, f2] at hX1
    have hok : zRok X1 (zr X a k) := by refine ⟨?_, ?_, fun f hf => ?_⟩; (rw [hX1.1]; exact hrb.1); (rw [hX1.2.1]; exact f3); (rw [(hX1.2.2.1 f hf).1, (hX1.2.2.1 f hf).2]; exact hrb.2.2 f hf)
    refine lv_iinc (v := zi ((k : Int) + 1)) (lv' := [(2, .int (zi ((k : Int) + 1))), (1, .ref (ad b)), (0, .ref (ad a))]) hx hb dX6_takeFrom_25 hl (k := 0) rfl (zi_add _ _) (by decide) rfl (fun ls hl => ?_)
    refine lv_goto (tgt := 2) hx hb dX6_takeFrom_28 (by decide) ?_
    exact ih (k + 1) X1 (by omega) H locs ls ⟨hP, hD, hS, lv_sub hl [0, 1, 2] rfl, (by omega), (hYV.chg hza hX1.2.2.2 hok), (fun j h1 => by by_cases hj : j = k; (rw [hj]; exact ⟨hX1.1, hX1.2.2.1⟩); (have hne : zr X a k ≠ zr X a j := (fun q => hj (by have q2 : (X (a + 1) k).toNat = (X (a + 1) j).toNat := (by unfold zr at q; omega); have b1 := (hV.wok hW).2.2.1 k (by omega); have b2 := (hV.wok hW).2.2.1 j (by omega); exact ((hV.wok hW).2.2.2.1 k j (by omega) (by omega) (by omega)).symm)); obtain ⟨q1, q2, q3, q4, q5, q6, q7, q8, q9⟩ := hza.sep (hV.isR hW (show j < 8 by omega)) hne; rw [hX1.2.2.2 _ q1 q2 q3, hX1.2.2.2 _ q4 q5 q6, hX1.2.2.2 _ q7 q8 q9]; exact hy1 j (by omega))), (fun c h1 => by have h9 := hla k (by omega); rw [hX1.2.2.2 c (by omega) (by omega) (by omega)]; exact hy2 c h1)⟩
