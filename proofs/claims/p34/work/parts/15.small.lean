/-! Nettle: small ones -/
theorem dX7_outdate_0 : decode cX7_outdate 0 = .ok (.aload_n 0, 1) := by decide +kernel
theorem dX7_outdate_1 : decode cX7_outdate 1 = .ok (.getfield 24, 3) := by decide +kernel
theorem dX7_outdate_4 : decode cX7_outdate 4 = .ok (.iconst 0, 1) := by decide +kernel
theorem dX7_outdate_5 : decode cX7_outdate 5 = .ok (.putfield 371, 3) := by decide +kernel
theorem dX7_outdate_8 : decode cX7_outdate 8 = .ok (.aload_n 0, 1) := by decide +kernel
theorem dX7_outdate_9 : decode cX7_outdate 9 = .ok (.getfield 33, 3) := by decide +kernel
theorem dX7_outdate_12 : decode cX7_outdate 12 = .ok (.iconst 0, 1) := by decide +kernel
theorem dX7_outdate_13 : decode cX7_outdate 13 = .ok (.putfield 374, 3) := by decide +kernel
theorem dX7_outdate_16 : decode cX7_outdate 16 = .ok (.aload_n 0, 1) := by decide +kernel
theorem dX7_outdate_17 : decode cX7_outdate 17 = .ok (.getfield 42, 3) := by decide +kernel
theorem dX7_outdate_20 : decode cX7_outdate 20 = .ok (.iconst 0, 1) := by decide +kernel
theorem dX7_outdate_21 : decode cX7_outdate 21 = .ok (.putfield 375, 3) := by decide +kernel
theorem dX7_outdate_24 : decode cX7_outdate 24 = .ok (.aload_n 0, 1) := by decide +kernel
theorem dX7_outdate_25 : decode cX7_outdate 25 = .ok (.getfield 51, 3) := by decide +kernel
theorem dX7_outdate_28 : decode cX7_outdate 28 = .ok (.iconst 0, 1) := by decide +kernel
theorem dX7_outdate_29 : decode cX7_outdate 29 = .ok (.putfield 376, 3) := by decide +kernel
theorem dX7_outdate_32 : decode cX7_outdate 32 = .ok (.return_, 1) := by decide +kernel
theorem dX7_needRule_0 : decode cX7_needRule 0 = .ok (.iload_n 1, 1) := by decide +kernel
theorem dX7_needRule_1 : decode cX7_needRule 1 = .ok (.ifCond .lt 14, 3) := by decide +kernel
theorem dX7_needRule_4 : decode cX7_needRule 4 = .ok (.iload_n 1, 1) := by decide +kernel
theorem dX7_needRule_5 : decode cX7_needRule 5 = .ok (.aload_n 0, 1) := by decide +kernel
theorem dX7_needRule_6 : decode cX7_needRule 6 = .ok (.getfield 10, 3) := by decide +kernel
theorem dX7_needRule_9 : decode cX7_needRule 9 = .ok (.getfield 70, 3) := by decide +kernel
theorem dX7_needRule_12 : decode cX7_needRule 12 = .ok (.if_icmp .lt 14, 3) := by decide +kernel
theorem dX7_needRule_26 : decode cX7_needRule 26 = .ok (.return_, 1) := by decide +kernel
theorem dX7_needVerdict_0 : decode cX7_needVerdict 0 = .ok (.iload_n 0, 1) := by decide +kernel
theorem dX7_needVerdict_1 : decode cX7_needVerdict 1 = .ok (.ifCond .lt 8, 3) := by decide +kernel
theorem dX7_needVerdict_4 : decode cX7_needVerdict 4 = .ok (.iload_n 0, 1) := by decide +kernel
theorem dX7_needVerdict_5 : decode cX7_needVerdict 5 = .ok (.iconst 2, 1) := by decide +kernel
theorem dX7_needVerdict_6 : decode cX7_needVerdict 6 = .ok (.if_icmp .le 14, 3) := by decide +kernel
theorem dX7_needVerdict_20 : decode cX7_needVerdict 20 = .ok (.return_, 1) := by decide +kernel
theorem dX7_needWhat_0 : decode cX7_needWhat 0 = .ok (.iload_n 0, 1) := by decide +kernel
theorem dX7_needWhat_1 : decode cX7_needWhat 1 = .ok (.ifCond .lt 8, 3) := by decide +kernel
theorem dX7_needWhat_4 : decode cX7_needWhat 4 = .ok (.iload_n 0, 1) := by decide +kernel
theorem dX7_needWhat_5 : decode cX7_needWhat 5 = .ok (.iload_n 1, 1) := by decide +kernel
theorem dX7_needWhat_6 : decode cX7_needWhat 6 = .ok (.if_icmp .le 14, 3) := by decide +kernel
theorem dX7_needWhat_20 : decode cX7_needWhat 20 = .ok (.return_, 1) := by decide +kernel
theorem dX7_isValue_0 : decode cX7_isValue 0 = .ok (.iload_n 1, 1) := by decide +kernel
theorem dX7_isValue_1 : decode cX7_isValue 1 = .ok (.ifCond .lt 16, 3) := by decide +kernel
theorem dX7_isValue_17 : decode cX7_isValue 17 = .ok (.iconst 0, 1) := by decide +kernel
theorem dX7_isValue_18 : decode cX7_isValue 18 = .ok (.ireturn, 1) := by decide +kernel
theorem dX7_isValue_4 : decode cX7_isValue 4 = .ok (.iload_n 1, 1) := by decide +kernel
theorem dX7_isValue_5 : decode cX7_isValue 5 = .ok (.getstatic 366, 3) := by decide +kernel
theorem dX7_isValue_8 : decode cX7_isValue 8 = .ok (.iload_n 0, 1) := by decide +kernel
theorem dX7_isValue_9 : decode cX7_isValue 9 = .ok (.iaload, 1) := by decide +kernel
theorem dX7_isValue_10 : decode cX7_isValue 10 = .ok (.if_icmp .ge 7, 3) := by decide +kernel
theorem dX7_isValue_13 : decode cX7_isValue 13 = .ok (.iconst 1, 1) := by decide +kernel
theorem dX7_isValue_14 : decode cX7_isValue 14 = .ok (.goto 4, 3) := by decide +kernel
theorem dX7_rules_0 : decode cX7_rules 0 = .ok (.aload_n 0, 1) := by decide +kernel
theorem dX7_rules_1 : decode cX7_rules 1 = .ok (.getfield 10, 3) := by decide +kernel
theorem dX7_rules_4 : decode cX7_rules 4 = .ok (.getfield 70, 3) := by decide +kernel
theorem dX7_rules_7 : decode cX7_rules 7 = .ok (.ireturn, 1) := by decide +kernel
set_option maxHeartbeats 4000000 in
set_option maxRecDepth 100000 in
/-- outdate -/
theorem c_X7_outdate (l : Launch) (G : zG) (ad : Nat → Nat) (X : Nat → Nat → Int) : zR l G yX7_outdate wsX7_outdate { frames := 0, cells := 0, slots := 0, locals := 0 } (zpic G ad X) [.ref (ad 52)] (zv G ad (fun Y => Y = zOut X)) 0 0 := by
  refine zR_of (cc := cX7_outdate) (maxL := 1) (rt := none) (by decide) rfl (Nat.le_of_ble_eq_true rfl) ?_
  intro p e s m below meth c A ls hx hb hml hr hts hown hlocks hin0 hA hE hP hD hS hl
  have hl : lv_has ls 1 [(0, .ref (ad 52))] := hl
  have hown : s.vm.findClass RX7 = some m.cls := hown
  have hw7 : ∀ w ∈ u_ws RX7 TX7 8, w ∈ wsX7_outdate := by decide +kernel
  have hf24 := hts (.fieldLink RX7 24 "Nettle" "survey" "LNettle$Survey;") (by decide +kernel)
  have hw4 : ∀ w ∈ u_ws RX4 TX4 5, w ∈ wsX7_outdate := by decide +kernel
  have hf371 := hts (.fieldLink RX7 371 "Nettle$Survey" "isFresh" "Z") (by decide +kernel)
  have hf33 := hts (.fieldLink RX7 33 "Nettle" "cuts" "LNettle$Cuts;") (by decide +kernel)
  have hw1 : ∀ w ∈ u_ws RX1 TX1 6, w ∈ wsX7_outdate := by decide +kernel
  have hf374 := hts (.fieldLink RX7 374 "Nettle$Cuts" "isFresh" "Z") (by decide +kernel)
  have hf42 := hts (.fieldLink RX7 42 "Nettle" "tree" "LNettle$Tree;") (by decide +kernel)
  have hw5 : ∀ w ∈ u_ws RX5 TX5 7, w ∈ wsX7_outdate := by decide +kernel
  have hf375 := hts (.fieldLink RX7 375 "Nettle$Tree" "isFresh" "Z") (by decide +kernel)
  have hf51 := hts (.fieldLink RX7 51 "Nettle" "comparison" "LNettle$Comparison;") (by decide +kernel)
  have hw0 : ∀ w ∈ u_ws RX0 TX0 7, w ∈ wsX7_outdate := by decide +kernel
  have hf376 := hts (.fieldLink RX7 376 "Nettle$Comparison" "isFresh" "Z") (by decide +kernel)
  refine lv_aload_n hx hb dX7_outdate_0 rfl (lv_at hl 0 rfl) ?_
  refine va_get (D := G.1) (ci := 7) (v := .ref (ad 53)) (C := RX7) (T := TX7) (N := 8) hx hb hts hw7 hown hE.1 hP 52 p_52 rfl 2 (by decide) hf24 (fun _ h9 => h9) rfl dX7_outdate_1 ?_
  refine lv_iconst (v := zi 0) hx hb dX7_outdate_4 rfl ?_
  refine zput (C := RX4) (T := TX4) (N := 5) (ci := 4) (v := .int (zi 0)) (ty := tyX4 4) hx hb hts hw4 tyX4 tyX4_ok nmX4 hown hE hP hD hS 53 p_53 rfl 4 (by decide) hf371 (fun _ h9 => h9) rfl (by decide +kernel) rfl rfl (Nat.le_of_ble_eq_true rfl) (s_53 0) dX7_outdate_5 (fun H locs hP hD hS => ?_)
  refine lv_aload_n hx hb dX7_outdate_8 rfl (lv_at hl 0 rfl) ?_
  refine va_get (D := G.1) (ci := 7) (v := .ref (ad 57)) (C := RX7) (T := TX7) (N := 8) hx hb hts hw7 hown hE.1 hP 52 p_52 rfl 3 (by decide) hf33 (fun _ h9 => h9) rfl dX7_outdate_9 ?_
  refine lv_iconst (v := zi 0) hx hb dX7_outdate_12 rfl ?_
  refine zput (C := RX1) (T := TX1) (N := 6) (ci := 1) (v := .int (zi 0)) (ty := tyX1 5) hx hb hts hw1 tyX1 tyX1_ok nmX1 hown hE hP hD hS 57 p_57 rfl 5 (by decide) hf374 (fun _ h9 => h9) rfl (by decide +kernel) rfl rfl (Nat.le_of_ble_eq_true rfl) (s_57 0) dX7_outdate_13 (fun H locs hP hD hS => ?_)
  refine lv_aload_n hx hb dX7_outdate_16 rfl (lv_at hl 0 rfl) ?_
  refine va_get (D := G.1) (ci := 7) (v := .ref (ad 61)) (C := RX7) (T := TX7) (N := 8) hx hb hts hw7 hown hE.1 hP 52 p_52 rfl 4 (by decide) hf42 (fun _ h9 => h9) rfl dX7_outdate_17 ?_
  refine lv_iconst (v := zi 0) hx hb dX7_outdate_20 rfl ?_
  refine zput (C := RX5) (T := TX5) (N := 7) (ci := 5) (v := .int (zi 0)) (ty := tyX5 6) hx hb hts hw5 tyX5 tyX5_ok nmX5 hown hE hP hD hS 61 p_61 rfl 6 (by decide) hf375 (fun _ h9 => h9) rfl (by decide +kernel) rfl rfl (Nat.le_of_ble_eq_true rfl) (s_616 0) dX7_outdate_21 (fun H locs hP hD hS => ?_)
  refine lv_aload_n hx hb dX7_outdate_24 rfl (lv_at hl 0 rfl) ?_
  refine va_get (D := G.1) (ci := 7) (v := .ref (ad 65)) (C := RX7) (T := TX7) (N := 8) hx hb hts hw7 hown hE.1 hP 52 p_52 rfl 5 (by decide) hf51 (fun _ h9 => h9) rfl dX7_outdate_25 ?_
  refine lv_iconst (v := zi 0) hx hb dX7_outdate_28 rfl ?_
  refine zput (C := RX0) (T := TX0) (N := 7) (ci := 0) (v := .int (zi 0)) (ty := tyX0 6) hx hb hts hw0 tyX0 tyX0_ok nmX0 hown hE hP hD hS 65 p_65 rfl 6 (by decide) hf376 (fun _ h9 => h9) rfl (by decide +kernel) rfl rfl (Nat.le_of_ble_eq_true rfl) (s_656 0) dX7_outdate_29 (fun H locs hP hD hS => ?_)
  exact zend_v hx hb hr hlocks hP hD hS (Nat.le_of_ble_eq_true rfl) (Nat.le_of_ble_eq_true rfl) dX7_outdate_32 ⟨_, rfl, rfl, rfl⟩

set_option maxHeartbeats 4000000 in
set_option maxRecDepth 100000 in
/-- needRule -/
theorem c_X7_needRule (l : Launch) (G : zG) (ad : Nat → Nat) (X : Nat → Nat → Int) (q : Nat) (hV : zV X) (hq : q < zN X 0) : zR l G yX7_needRule wsX7_needRule { frames := 0, cells := 0, slots := 0, locals := 0 } (zpic G ad X) [.ref (ad 52), .int (zi (q : Int))] (zn G ad X) 0 0 := by
  refine zR_of (cc := cX7_needRule) (maxL := 2) (rt := none) (by decide) rfl (Nat.le_of_ble_eq_true rfl) ?_
  intro p e s m below meth c A ls hx hb hml hr hts hown hlocks hin0 hA hE hP hD hS hl
  have hl : lv_has ls 2 [(0, .ref (ad 52)), (1, .int (zi (q : Int)))] := hl
  have hown : s.vm.findClass RX7 = some m.cls := hown
  have hn := hV.n (Or.inl rfl : zIsW 0)
  have hw7 : ∀ w ∈ u_ws RX7 TX7 8, w ∈ wsX7_needRule := by decide +kernel
  have hf10 := hts (.fieldLink RX7 10 "Nettle" "wall" "LNettle$Wall;") (by decide +kernel)
  have hw6 : ∀ w ∈ u_ws RX6 TX6 3, w ∈ wsX7_needRule := by decide +kernel
  have hf70 := hts (.fieldLink RX7 70 "Nettle$Wall" "count" "I") (by decide +kernel)
  refine lv_iload_n hx hb dX7_needRule_0 rfl (lv_at hl 1 rfl) ?_
  refine z0_lt (tgt := 15) hx hb dX7_needRule_1 (by decide) (by omega) (fun h9 => by exfalso; omega) (fun h1 => ?_)
  refine lv_iload_n hx hb dX7_needRule_4 rfl (lv_at hl 1 rfl) ?_
  refine lv_aload_n hx hb dX7_needRule_5 rfl (lv_at hl 0 rfl) ?_
  refine va_get (D := G.1) (ci := 7) (v := .ref (ad 0)) (C := RX7) (T := TX7) (N := 8) hx hb hts hw7 hown hE.1 hP 52 p_52 rfl 0 (by decide) hf10 (fun _ h9 => h9) rfl dX7_needRule_6 ?_
  refine va_get (D := G.1) (ci := 6) (v := .int (zi (X 0 1))) (C := RX6) (T := TX6) (N := 3) hx hb hts hw6 hown hE.1 hP 0 (p_w (Or.inl rfl)) rfl 1 (by decide) hf70 (fun _ h9 => h9) rfl dX7_needRule_9 ?_
  refine zc_lt (tgt := 26) hx hb dX7_needRule_12 (by decide) (by omega) (by omega) (fun h12 => ?_) (fun h9 => by exfalso; omega)
  exact zend_v hx hb hr hlocks hP hD hS (Nat.le_of_ble_eq_true rfl) (Nat.le_of_ble_eq_true rfl) dX7_needRule_26 ⟨rfl, rfl⟩

set_option maxHeartbeats 4000000 in
set_option maxRecDepth 100000 in
/-- needVerdict -/
theorem c_X7_needVerdict (l : Launch) (G : zG) (ad : Nat → Nat) (X : Nat → Nat → Int) (v : Int) (hv : 0 ≤ v ∧ v ≤ 2) : zR l G yX7_needVerdict wsX7_needVerdict { frames := 0, cells := 0, slots := 0, locals := 0 } (zpic G ad X) [.int (zi v)] (zn G ad X) 0 0 := by
  refine zR_of (cc := cX7_needVerdict) (maxL := 1) (rt := none) (by decide) rfl (Nat.le_of_ble_eq_true rfl) ?_
  intro p e s m below meth c A ls hx hb hml hr hts hown hlocks hin0 hA hE hP hD hS hl
  have hl : lv_has ls 1 [(0, .int (zi v))] := hl
  have hown : s.vm.findClass RX7 = some m.cls := hown
  refine lv_iload_n hx hb dX7_needVerdict_0 rfl (lv_at hl 0 rfl) ?_
  refine z0_lt (tgt := 9) hx hb dX7_needVerdict_1 (by decide) (by omega) (fun h9 => by exfalso; omega) (fun h1 => ?_)
  refine lv_iload_n hx hb dX7_needVerdict_4 rfl (lv_at hl 0 rfl) ?_
  refine lv_iconst (v := zi 2) hx hb dX7_needVerdict_5 rfl ?_
  refine zc_le (tgt := 20) hx hb dX7_needVerdict_6 (by decide) (by omega) (by decide) (fun h6 => ?_) (fun h9 => by exfalso; omega)
  exact zend_v hx hb hr hlocks hP hD hS (Nat.le_of_ble_eq_true rfl) (Nat.le_of_ble_eq_true rfl) dX7_needVerdict_20 ⟨rfl, rfl⟩

set_option maxHeartbeats 4000000 in
set_option maxRecDepth 100000 in
/-- needWhat -/
theorem c_X7_needWhat (l : Launch) (G : zG) (ad : Nat → Nat) (X : Nat → Nat → Int) (v : Int) (t : Int) (hv : 0 ≤ v ∧ v ≤ t ∧ t ≤ 9) : zR l G yX7_needWhat wsX7_needWhat { frames := 0, cells := 0, slots := 0, locals := 0 } (zpic G ad X) [.int (zi v), .int (zi t)] (zn G ad X) 0 0 := by
  refine zR_of (cc := cX7_needWhat) (maxL := 2) (rt := none) (by decide) rfl (Nat.le_of_ble_eq_true rfl) ?_
  intro p e s m below meth c A ls hx hb hml hr hts hown hlocks hin0 hA hE hP hD hS hl
  have hl : lv_has ls 2 [(0, .int (zi v)), (1, .int (zi t))] := hl
  have hown : s.vm.findClass RX7 = some m.cls := hown
  refine lv_iload_n hx hb dX7_needWhat_0 rfl (lv_at hl 0 rfl) ?_
  refine z0_lt (tgt := 9) hx hb dX7_needWhat_1 (by decide) (by omega) (fun h9 => by exfalso; omega) (fun h1 => ?_)
  refine lv_iload_n hx hb dX7_needWhat_4 rfl (lv_at hl 0 rfl) ?_
  refine lv_iload_n hx hb dX7_needWhat_5 rfl (lv_at hl 1 rfl) ?_
  refine zc_le (tgt := 20) hx hb dX7_needWhat_6 (by decide) (by omega) (by omega) (fun h6 => ?_) (fun h9 => by exfalso; omega)
  exact zend_v hx hb hr hlocks hP hD hS (Nat.le_of_ble_eq_true rfl) (Nat.le_of_ble_eq_true rfl) dX7_needWhat_20 ⟨rfl, rfl⟩

set_option maxHeartbeats 4000000 in
set_option maxRecDepth 100000 in
/-- isValue -/
theorem c_X7_isValue (l : Launch) (G : zG) (ad : Nat → Nat) (X : Nat → Nat → Int) (f : Nat) (v : Int) (hf : f < 4) (hv : -2147483648 ≤ v ∧ v ≤ 2147483647) : zR l G yX7_isValue wsX7_isValue { frames := 0, cells := 0, slots := 0, locals := 0 } (zpic G ad X) [.int (zi (f : Int)), .int (zi v)] (zq G ad X (fun w => (w = 1 ∧ 0 ≤ v ∧ v < zS f) ∨ (w = 0 ∧ ¬ (0 ≤ v ∧ v < zS f)))) 0 0 := by
  refine zR_of (cc := cX7_isValue) (maxL := 2) (rt := (some .boolean)) (by decide) rfl (Nat.le_of_ble_eq_true rfl) ?_
  intro p e s m below meth c A ls hx hb hml hr hts hown hlocks hin0 hA hE hP hD hS hl
  have hl : lv_has ls 2 [(0, .int (zi (f : Int))), (1, .int (zi v))] := hl
  have hown : s.vm.findClass RX7 = some m.cls := hown
  have hsf := zS_le f
  have hf366 := hts (.fieldLink RX7 366 "Nettle" "SIZES" "[I") (by decide +kernel)
  refine lv_iload_n hx hb dX7_isValue_0 rfl (lv_at hl 1 rfl) ?_
  refine z0_lt (tgt := 17) hx hb dX7_isValue_1 (by decide) (by omega) (fun h1 => ?_) (fun h1 => ?_)
  · refine lv_iconst (v := zi 0) hx hb dX7_isValue_17 rfl ?_
    exact zend_z hx hb hr hlocks (by decide +kernel) hP hD hS (Nat.le_of_ble_eq_true rfl) (Nat.le_of_ble_eq_true rfl) dX7_isValue_18 ⟨_, rfl, (by omega), rfl⟩
  · refine lv_iload_n hx hb dX7_isValue_4 rfl (lv_at hl 1 rfl) ?_
    refine va_gets hx hb hE.2.1.1 hS hown hf366 (fun _ h9 => h9) dX7_isValue_5 ?_
    refine lv_iload_n hx hb dX7_isValue_8 rfl (lv_at hl 0 rfl) ?_
    refine zsz_ld hx hb hE hS f rfl (by omega) dX7_isValue_9 ?_
    refine zc_ge (tgt := 17) hx hb dX7_isValue_10 (by decide) (by omega) (by omega) (fun h10 => ?_) (fun h10 => ?_)
    · refine lv_iconst (v := zi 0) hx hb dX7_isValue_17 rfl ?_
      exact zend_z hx hb hr hlocks (by decide +kernel) hP hD hS (Nat.le_of_ble_eq_true rfl) (Nat.le_of_ble_eq_true rfl) dX7_isValue_18 ⟨_, rfl, (by omega), rfl⟩
    · refine lv_iconst (v := zi 1) hx hb dX7_isValue_13 rfl ?_
      refine lv_goto (tgt := 18) hx hb dX7_isValue_14 (by decide) ?_
      exact zend_z hx hb hr hlocks (by decide +kernel) hP hD hS (Nat.le_of_ble_eq_true rfl) (Nat.le_of_ble_eq_true rfl) dX7_isValue_18 ⟨_, rfl, (by omega), rfl⟩

set_option maxHeartbeats 4000000 in
set_option maxRecDepth 100000 in
/-- rules -/
theorem c_X7_rules (l : Launch) (G : zG) (ad : Nat → Nat) (X : Nat → Nat → Int) (hV : zV X) : zR l G yX7_rules wsX7_rules { frames := 0, cells := 0, slots := 0, locals := 0 } (zpic G ad X) [.ref (ad 52)] (zq G ad X (fun w => w = (zN X 0 : Int))) 0 0 := by
  refine zR_of (cc := cX7_rules) (maxL := 1) (rt := (some .int)) (by decide) rfl (Nat.le_of_ble_eq_true rfl) ?_
  intro p e s m below meth c A ls hx hb hml hr hts hown hlocks hin0 hA hE hP hD hS hl
  have hl : lv_has ls 1 [(0, .ref (ad 52))] := hl
  have hown : s.vm.findClass RX7 = some m.cls := hown
  have hn := hV.n (Or.inl rfl : zIsW 0)
  have hw7 : ∀ w ∈ u_ws RX7 TX7 8, w ∈ wsX7_rules := by decide +kernel
  have hf10 := hts (.fieldLink RX7 10 "Nettle" "wall" "LNettle$Wall;") (by decide +kernel)
  have hw6 : ∀ w ∈ u_ws RX6 TX6 3, w ∈ wsX7_rules := by decide +kernel
  have hf70 := hts (.fieldLink RX7 70 "Nettle$Wall" "count" "I") (by decide +kernel)
  refine lv_aload_n hx hb dX7_rules_0 rfl (lv_at hl 0 rfl) ?_
  refine va_get (D := G.1) (ci := 7) (v := .ref (ad 0)) (C := RX7) (T := TX7) (N := 8) hx hb hts hw7 hown hE.1 hP 52 p_52 rfl 0 (by decide) hf10 (fun _ h9 => h9) rfl dX7_rules_1 ?_
  refine va_get (D := G.1) (ci := 6) (v := .int (zi (X 0 1))) (C := RX6) (T := TX6) (N := 3) hx hb hts hw6 hown hE.1 hP 0 (p_w (Or.inl rfl)) rfl 1 (by decide) hf70 (fun _ h9 => h9) rfl dX7_rules_4 ?_
  exact zend_i hx hb hr hlocks hP hD hS (Nat.le_of_ble_eq_true rfl) (Nat.le_of_ble_eq_true rfl) dX7_rules_7 ⟨_, rfl, hn.1, rfl⟩
