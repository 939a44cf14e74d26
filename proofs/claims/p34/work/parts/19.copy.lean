/-! Nettle: the copy -/
theorem dX7_copy_0 : decode cX7_copy 0 = .ok (.aload_n 0, 1) := by decide +kernel
theorem dX7_copy_1 : decode cX7_copy 1 = .ok (.getfield 16, 3) := by decide +kernel
theorem dX7_copy_4 : decode cX7_copy 4 = .ok (.aload_n 0, 1) := by decide +kernel
theorem dX7_copy_5 : decode cX7_copy 5 = .ok (.getfield 10, 3) := by decide +kernel
set_option maxRecDepth 20000 in
theorem ggX7_copy_X6_takeFrom : GoodIn wsX7_copy wsX6_takeFrom := goodIn_r _ [8, 9, 10, 11, 12, 13, 14, 15, 16, 17, 18, 19, 41, 42, 43, 44, 45, 46, 47] (by decide +kernel) (by decide +kernel)
set_option maxRecDepth 20000 in
theorem gX7_copy_X6_takeFrom : GoodIn wsX7_copy (wsV RX7 276 RX6 yX6_takeFrom wsX6_takeFrom) := goodIn_app (goodIn_of _ (by decide +kernel)) ggX7_copy_X6_takeFrom
theorem dX7_copy_8 : decode cX7_copy 8 = .ok (.invokevirtual 276, 3) := by decide +kernel
theorem dX7_copy_11 : decode cX7_copy 11 = .ok (.aload_n 0, 1) := by decide +kernel
set_option maxRecDepth 20000 in
theorem ggX7_copy_X7_outdate : GoodIn wsX7_copy wsX7_outdate := goodIn_r _ [24, 25, 26, 27, 28, 29, 30, 31, 32, 33, 34, 35, 36, 37, 38, 39, 40, 48, 49, 50, 51, 52, 53, 54, 55, 56, 57, 58, 59, 60, 61, 62, 63, 64, 65, 66, 67, 68, 69, 70, 71, 72] (by decide +kernel) (by decide +kernel)
set_option maxRecDepth 20000 in
theorem gX7_copy_X7_outdate : GoodIn wsX7_copy (wsV RX7 84 RX7 yX7_outdate wsX7_outdate) := goodIn_app (goodIn_of _ (by decide +kernel)) ggX7_copy_X7_outdate
theorem dX7_copy_12 : decode cX7_copy 12 = .ok (.invokevirtual 84, 3) := by decide +kernel
theorem dX7_copy_15 : decode cX7_copy 15 = .ok (.aload_n 0, 1) := by decide +kernel
theorem dX7_copy_16 : decode cX7_copy 16 = .ok (.getfield 16, 3) := by decide +kernel
theorem dX7_copy_19 : decode cX7_copy 19 = .ok (.getfield 70, 3) := by decide +kernel
theorem dX7_copy_22 : decode cX7_copy 22 = .ok (.ireturn, 1) := by decide +kernel
/-- the copy is made -/
def zCpy (X Y : Nat → Nat → Int) : Prop := zV Y ∧ (∀ j : Nat, j < zN X 0 → Y (zr X 26 j) 0 = X (zr X 0 j) 0 ∧ ∀ g : Nat, g < 4 → Y (zr X 26 j + 1) g = X (zr X 0 j + 1) g ∧ Y (zr X 26 j + 2) g = X (zr X 0 j + 2) g) ∧ (∀ c : Nat, c < 26 ∨ c = 26 + 1 ∨ 26 + 26 ≤ c → Y c = X c) ∧ Y 26 1 = X 0 1 ∧ Y 26 2 = X 0 2

set_option maxHeartbeats 4000000 in
set_option maxRecDepth 100000 in
/-- copy -/
theorem c_X7_copy (l : Launch) (G : zG) (ad : Nat → Nat) (X : Nat → Nat → Int) (hV : zV X) : zR l G yX7_copy wsX7_copy { frames := 2, cells := 0, slots := 0, locals := 44 } (zpic G ad X) [.ref (ad 52)] (zu G ad (fun w Y => w = X 0 1 ∧ ∃ Y1 : Nat → Nat → Int, zCpy X Y1 ∧ Y = zOut Y1)) 0 0 := by
  refine zR_of (cc := cX7_copy) (maxL := 1) (rt := (some .int)) (by decide) rfl (Nat.le_of_ble_eq_true rfl) ?_
  intro p e s m below meth c A ls hx hb hml hr hts hown hlocks hin0 hA hE hP hD hS hl
  have hl : lv_has ls 1 [(0, .ref (ad 52))] := hl
  have hown : s.vm.findClass RX7 = some m.cls := hown
  have hn := hV.n (Or.inl rfl : zIsW 0)
  have hw7 : ∀ w ∈ u_ws RX7 TX7 8, w ∈ wsX7_copy := by decide +kernel
  have hf16 := hts (.fieldLink RX7 16 "Nettle" "copied" "LNettle$Wall;") (by decide +kernel)
  have hf10 := hts (.fieldLink RX7 10 "Nettle" "wall" "LNettle$Wall;") (by decide +kernel)
  have hw6 : ∀ w ∈ u_ws RX6 TX6 3, w ∈ wsX7_copy := by decide +kernel
  have hf70 := hts (.fieldLink RX7 70 "Nettle$Wall" "count" "I") (by decide +kernel)
  refine lv_aload_n hx hb dX7_copy_0 rfl (lv_at hl 0 rfl) ?_
  refine va_get (D := G.1) (ci := 7) (v := .ref (ad 26)) (C := RX7) (T := TX7) (N := 8) hx hb hts hw7 hown hE.1 hP 52 p_52 rfl 1 (by decide) hf16 (fun _ h9 => h9) rfl dX7_copy_1 ?_
  refine lv_aload_n hx hb dX7_copy_4 rfl (lv_at hl 0 rfl) ?_
  refine va_get (D := G.1) (ci := 7) (v := .ref (ad 0)) (C := RX7) (T := TX7) (N := 8) hx hb hts hw7 hown hE.1 hP 52 p_52 rfl 0 (by decide) hf10 (fun _ h9 => h9) rfl dX7_copy_5 ?_
  refine zcall (wr := []) (va_runV (As := [.ref (ad 0)]) (rest := []) ⟨hx, hb, hml, hown, hts⟩ (c_X6_takeFrom l G ad X 26 0 hV (Or.inr rfl) (Or.inl rfl) (by omega) s.heap.size) (cwV 1 hts gX7_copy_X6_takeFrom rfl rfl rfl (by decide +kernel) ⟨Nat.le_of_ble_eq_true rfl, Nat.le_of_ble_eq_true rfl⟩) (zPreV (wr := []) (wc := zpic G ad X) (q0 := 26) (ci := 6) (q := (RX6, TX6, 3)) hP hD hE hS hA rfl (p_w (Or.inr rfl))) rfl rfl hl.1 rfl (lv_room (Nat.le_of_ble_eq_true rfl)) dX7_copy_8 ⟨Nat.le_of_ble_eq_true rfl, Nat.le_of_ble_eq_true rfl⟩) hP hD hS hA (fun _ _ H locs hf hP hD hS => ?_)
  obtain ⟨X1, rfl, hX1, rfl⟩ := hf
  have hP : va_P G.1 vwCl (zpic G ad X1) H := hP
  have hD : va_D A (zpic G ad X1) := hD
  refine W.eq (g2 := F0 m 11 ls []) rfl ?_
  refine lv_aload_n hx hb dX7_copy_11 rfl (lv_at hl 0 rfl) ?_
  refine zcall (wr := []) (va_runV (As := []) (rest := []) ⟨hx, hb, hml, hown, hts⟩ (c_X7_outdate l G ad X1 H.size) (cwV 0 hts gX7_copy_X7_outdate rfl rfl rfl (by decide +kernel) ⟨Nat.le_of_ble_eq_true rfl, Nat.le_of_ble_eq_true rfl⟩) (zPreV (wr := []) (wc := zpic G ad X1) (q0 := 52) (ci := 7) (q := (RX7, TX7, 8)) hP hD hE hS hA rfl p_52) rfl rfl hl.1 rfl (lv_room (Nat.le_of_ble_eq_true rfl)) dX7_copy_12 ⟨Nat.le_of_ble_eq_true rfl, Nat.le_of_ble_eq_true rfl⟩) hP hD hS hA (fun _ _ H locs hf hP hD hS => ?_)
  obtain ⟨X2, rfl, hX2, rfl⟩ := hf
  have hP : va_P G.1 vwCl (zpic G ad X2) H := hP
  have hD : va_D A (zpic G ad X2) := hD
  refine W.eq (g2 := F0 m 15 ls []) rfl ?_
  refine lv_aload_n hx hb dX7_copy_15 rfl (lv_at hl 0 rfl) ?_
  refine va_get (D := G.1) (ci := 7) (v := .ref (ad 26)) (C := RX7) (T := TX7) (N := 8) hx hb hts hw7 hown hE.1 hP 52 p_52 rfl 1 (by decide) hf16 (fun _ h9 => h9) rfl dX7_copy_16 ?_
  refine va_get (D := G.1) (ci := 6) (v := .int (zi (X2 26 1))) (C := RX6) (T := TX6) (N := 3) hx hb hts hw6 hown hE.1 hP 26 (p_w (Or.inr rfl)) rfl 1 (by decide) hf70 (fun _ h9 => h9) rfl dX7_copy_19 ?_
  exact zend_i hx hb hr hlocks hP hD hS (Nat.le_of_ble_eq_true rfl) (Nat.le_of_ble_eq_true rfl) dX7_copy_22 ⟨_, _, rfl, ⟨by rw [hX2, zOut_cell (by omega)]; exact hX1.2.2.2.1, X1, hX1, hX2⟩, rfl⟩
