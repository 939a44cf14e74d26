/-! RULES -/
theorem dX3_isNote_0 : decode cX3_isNote 0 = .ok (.aload_n 0, 1) := by decide +kernel
theorem dX3_isNote_1 : decode cX3_isNote 1 = .ok (.getfield 18, 3) := by decide +kernel
theorem dX3_isNote_4 : decode cX3_isNote 4 = .ok (.iconst 2, 1) := by decide +kernel
theorem dX3_isNote_5 : decode cX3_isNote 5 = .ok (.if_icmp .ne 7, 3) := by decide +kernel
theorem dX3_isNote_12 : decode cX3_isNote 12 = .ok (.iconst 0, 1) := by decide +kernel
theorem dX3_isNote_13 : decode cX3_isNote 13 = .ok (.ireturn, 1) := by decide +kernel
theorem dX3_isNote_8 : decode cX3_isNote 8 = .ok (.iconst 1, 1) := by decide +kernel
theorem dX3_isNote_9 : decode cX3_isNote 9 = .ok (.goto 4, 3) := by decide +kernel
theorem dX3_width_0 : decode cX3_width 0 = .ok (.aload_n 0, 1) := by decide +kernel
theorem dX3_width_1 : decode cX3_width 1 = .ok (.getfield 15, 3) := by decide +kernel
theorem dX3_width_4 : decode cX3_width 4 = .ok (.iload_n 1, 1) := by decide +kernel
theorem dX3_width_5 : decode cX3_width 5 = .ok (.iaload, 1) := by decide +kernel
theorem dX3_width_6 : decode cX3_width 6 = .ok (.aload_n 0, 1) := by decide +kernel
theorem dX3_width_7 : decode cX3_width 7 = .ok (.getfield 9, 3) := by decide +kernel
theorem dX3_width_10 : decode cX3_width 10 = .ok (.iload_n 1, 1) := by decide +kernel
theorem dX3_width_11 : decode cX3_width 11 = .ok (.iaload, 1) := by decide +kernel
theorem dX3_width_12 : decode cX3_width 12 = .ok (.isub, 1) := by decide +kernel
theorem dX3_width_13 : decode cX3_width 13 = .ok (.iconst 1, 1) := by decide +kernel
theorem dX3_width_14 : decode cX3_width 14 = .ok (.iadd, 1) := by decide +kernel
theorem dX3_width_15 : decode cX3_width 15 = .ok (.ireturn, 1) := by decide +kernel
theorem dX3_has_0 : decode cX3_has 0 = .ok (.aload_n 0, 1) := by decide +kernel
theorem dX3_has_1 : decode cX3_has 1 = .ok (.getfield 9, 3) := by decide +kernel
theorem dX3_has_4 : decode cX3_has 4 = .ok (.iload_n 1, 1) := by decide +kernel
theorem dX3_has_5 : decode cX3_has 5 = .ok (.iaload, 1) := by decide +kernel
theorem dX3_has_6 : decode cX3_has 6 = .ok (.iload_n 2, 1) := by decide +kernel
theorem dX3_has_7 : decode cX3_has 7 = .ok (.if_icmp .gt 17, 3) := by decide +kernel
theorem dX3_has_24 : decode cX3_has 24 = .ok (.iconst 0, 1) := by decide +kernel
theorem dX3_has_25 : decode cX3_has 25 = .ok (.ireturn, 1) := by decide +kernel
theorem dX3_has_10 : decode cX3_has 10 = .ok (.iload_n 2, 1) := by decide +kernel
theorem dX3_has_11 : decode cX3_has 11 = .ok (.aload_n 0, 1) := by decide +kernel
theorem dX3_has_12 : decode cX3_has 12 = .ok (.getfield 15, 3) := by decide +kernel
theorem dX3_has_15 : decode cX3_has 15 = .ok (.iload_n 1, 1) := by decide +kernel
theorem dX3_has_16 : decode cX3_has 16 = .ok (.iaload, 1) := by decide +kernel
theorem dX3_has_17 : decode cX3_has 17 = .ok (.if_icmp .gt 7, 3) := by decide +kernel
theorem dX3_has_20 : decode cX3_has 20 = .ok (.iconst 1, 1) := by decide +kernel
theorem dX3_has_21 : decode cX3_has 21 = .ok (.goto 4, 3) := by decide +kernel
theorem dX3_isWholeFrom_0 : decode cX3_isWholeFrom 0 = .ok (.iload_n 1, 1) := by decide +kernel
theorem dX3_isWholeFrom_1 : decode cX3_isWholeFrom 1 = .ok (.istore_n 2, 1) := by decide +kernel
theorem dX3_isWholeFrom_2 : decode cX3_isWholeFrom 2 = .ok (.iload_n 2, 1) := by decide +kernel
theorem dX3_isWholeFrom_3 : decode cX3_isWholeFrom 3 = .ok (.iconst 4, 1) := by decide +kernel
theorem dX3_isWholeFrom_4 : decode cX3_isWholeFrom 4 = .ok (.if_icmp .ge 36, 3) := by decide +kernel
theorem dX3_isWholeFrom_40 : decode cX3_isWholeFrom 40 = .ok (.iconst 1, 1) := by decide +kernel
theorem dX3_isWholeFrom_41 : decode cX3_isWholeFrom 41 = .ok (.ireturn, 1) := by decide +kernel
theorem dX3_isWholeFrom_7 : decode cX3_isWholeFrom 7 = .ok (.aload_n 0, 1) := by decide +kernel
theorem dX3_isWholeFrom_8 : decode cX3_isWholeFrom 8 = .ok (.getfield 9, 3) := by decide +kernel
theorem dX3_isWholeFrom_11 : decode cX3_isWholeFrom 11 = .ok (.iload_n 2, 1) := by decide +kernel
theorem dX3_isWholeFrom_12 : decode cX3_isWholeFrom 12 = .ok (.iaload, 1) := by decide +kernel
theorem dX3_isWholeFrom_13 : decode cX3_isWholeFrom 13 = .ok (.ifCond .ne 19, 3) := by decide +kernel
theorem dX3_isWholeFrom_32 : decode cX3_isWholeFrom 32 = .ok (.iconst 0, 1) := by decide +kernel
theorem dX3_isWholeFrom_33 : decode cX3_isWholeFrom 33 = .ok (.ireturn, 1) := by decide +kernel
theorem dX3_isWholeFrom_16 : decode cX3_isWholeFrom 16 = .ok (.aload_n 0, 1) := by decide +kernel
theorem dX3_isWholeFrom_17 : decode cX3_isWholeFrom 17 = .ok (.getfield 15, 3) := by decide +kernel
theorem dX3_isWholeFrom_20 : decode cX3_isWholeFrom 20 = .ok (.iload_n 2, 1) := by decide +kernel
theorem dX3_isWholeFrom_21 : decode cX3_isWholeFrom 21 = .ok (.iaload, 1) := by decide +kernel
theorem dX3_isWholeFrom_22 : decode cX3_isWholeFrom 22 = .ok (.getstatic 25, 3) := by decide +kernel
theorem dX3_isWholeFrom_25 : decode cX3_isWholeFrom 25 = .ok (.iload_n 2, 1) := by decide +kernel
theorem dX3_isWholeFrom_26 : decode cX3_isWholeFrom 26 = .ok (.iaload, 1) := by decide +kernel
theorem dX3_isWholeFrom_27 : decode cX3_isWholeFrom 27 = .ok (.iconst 1, 1) := by decide +kernel
theorem dX3_isWholeFrom_28 : decode cX3_isWholeFrom 28 = .ok (.isub, 1) := by decide +kernel
theorem dX3_isWholeFrom_29 : decode cX3_isWholeFrom 29 = .ok (.if_icmp .eq 5, 3) := by decide +kernel
theorem dX3_isWholeFrom_34 : decode cX3_isWholeFrom 34 = .ok (.iinc 2 1, 3) := by decide +kernel
theorem dX3_isWholeFrom_37 : decode cX3_isWholeFrom 37 = .ok (.goto (-35), 3) := by decide +kernel
set_option maxHeartbeats 4000000 in
set_option maxRecDepth 100000 in
/-- isNote -/
theorem c_X3_isNote (l : Launch) (G : zG) (ad : Nat → Nat) (X : Nat → Nat → Int) (r : Nat) (hV : zV X) (hR : zIsR r) : zR l G yX3_isNote wsX3_isNote { frames := 0, cells := 0, slots := 0, locals := 0 } (zpic G ad X) [.ref (ad r)] (zq G ad X (fun w => (w = 1 ∧ X r 0 = 2) ∨ (w = 0 ∧ X r 0 ≠ 2))) 0 0 := by
  refine zR_of (cc := cX3_isNote) (maxL := 1) (rt := (some .boolean)) (by decide) rfl (Nat.le_of_ble_eq_true rfl) ?_
  intro p e s m below meth c A ls hx hb hml hr hts hown hlocks hin0 hA hE hP hD hS hl
  have hl : lv_has ls 1 [(0, .ref (ad r))] := hl
  have hown : s.vm.findClass RX3 = some m.cls := hown
  have hr4 := hV.r4 hR
  have hw3 : ∀ w ∈ u_ws RX3 TX3 4, w ∈ wsX3_isNote := by decide +kernel
  have hf18 := hts (.fieldLink RX3 18 "Nettle$Rule" "verdict" "I") (by decide +kernel)
  refine lv_aload_n hx hb dX3_isNote_0 rfl (lv_at hl 0 rfl) ?_
  refine va_get (D := G.1) (ci := 3) (v := .int (zi (X r 0))) (C := RX3) (T := TX3) (N := 4) hx hb hts hw3 hown hE.1 hP r (p_r hR) rfl 0 (by decide) hf18 (fun _ h9 => h9) rfl dX3_isNote_1 ?_
  refine lv_iconst (v := zi 2) hx hb dX3_isNote_4 rfl ?_
  refine zc_ne (tgt := 12) hx hb dX3_isNote_5 (by decide) (by omega) (by decide) (fun h5 => ?_) (fun h5 => ?_)
  · refine lv_iconst (v := zi 0) hx hb dX3_isNote_12 rfl ?_
    exact zend_z hx hb hr hlocks (by decide +kernel) hP hD hS (Nat.le_of_ble_eq_true rfl) (Nat.le_of_ble_eq_true rfl) dX3_isNote_13 ⟨_, rfl, (by omega), rfl⟩
  · refine lv_iconst (v := zi 1) hx hb dX3_isNote_8 rfl ?_
    refine lv_goto (tgt := 13) hx hb dX3_isNote_9 (by decide) ?_
    exact zend_z hx hb hr hlocks (by decide +kernel) hP hD hS (Nat.le_of_ble_eq_true rfl) (Nat.le_of_ble_eq_true rfl) dX3_isNote_13 ⟨_, rfl, (by omega), rfl⟩

set_option maxHeartbeats 4000000 in
set_option maxRecDepth 100000 in
/-- width -/
theorem c_X3_width (l : Launch) (G : zG) (ad : Nat → Nat) (X : Nat → Nat → Int) (r : Nat) (f : Nat) (hV : zV X) (hR : zIsR r) (hf : f < 4) : zR l G yX3_width wsX3_width { frames := 0, cells := 0, slots := 0, locals := 0 } (zpic G ad X) [.ref (ad r), .int (zi (f : Int))] (zq G ad X (fun w => w = X (r + 2) f - X (r + 1) f + 1)) 0 0 := by
  refine zR_of (cc := cX3_width) (maxL := 2) (rt := (some .int)) (by decide) rfl (Nat.le_of_ble_eq_true rfl) ?_
  intro p e s m below meth c A ls hx hb hml hr hts hown hlocks hin0 hA hE hP hD hS hl
  have hl : lv_has ls 2 [(0, .ref (ad r)), (1, .int (zi (f : Int)))] := hl
  have hown : s.vm.findClass RX3 = some m.cls := hown
  have hrf := hV.rf hR hf
  have hw3 : ∀ w ∈ u_ws RX3 TX3 4, w ∈ wsX3_width := by decide +kernel
  have hf15 := hts (.fieldLink RX3 15 "Nettle$Rule" "highs" "[I") (by decide +kernel)
  have hf9 := hts (.fieldLink RX3 9 "Nettle$Rule" "lows" "[I") (by decide +kernel)
  refine lv_aload_n hx hb dX3_width_0 rfl (lv_at hl 0 rfl) ?_
  refine va_get (D := G.1) (ci := 3) (v := .ref (ad (r + 2))) (C := RX3) (T := TX3) (N := 4) hx hb hts hw3 hown hE.1 hP r (p_r hR) rfl 3 (by decide) hf15 (fun _ h9 => h9) rfl dX3_width_1 ?_
  refine lv_iload_n hx hb dX3_width_4 rfl (lv_at hl 1 rfl) ?_
  refine zild hx hb hE hP (r + 2) 4 (a_h hR) (by have := hR.lt; omega) f rfl (by omega) (by decide) dX3_width_5 ?_
  refine lv_aload_n hx hb dX3_width_6 rfl (lv_at hl 0 rfl) ?_
  refine va_get (D := G.1) (ci := 3) (v := .ref (ad (r + 1))) (C := RX3) (T := TX3) (N := 4) hx hb hts hw3 hown hE.1 hP r (p_r hR) rfl 2 (by decide) hf9 (fun _ h9 => h9) rfl dX3_width_7 ?_
  refine lv_iload_n hx hb dX3_width_10 rfl (lv_at hl 1 rfl) ?_
  refine zild hx hb hE hP (r + 1) 4 (a_l hR) (by have := hR.lt; omega) f rfl (by omega) (by decide) dX3_width_11 ?_
  refine lv_isub hx hb dX3_width_12 (zti (v := zi ((X (r + 2) f) - (X (r + 1) f))) (zi_sub _ _) ?_)
  refine lv_iconst (v := zi 1) hx hb dX3_width_13 rfl ?_
  refine lv_iadd hx hb dX3_width_14 (zti (v := zi (((X (r + 2) f) - (X (r + 1) f)) + 1)) (zi_add _ _) ?_)
  exact zend_i hx hb hr hlocks hP hD hS (Nat.le_of_ble_eq_true rfl) (Nat.le_of_ble_eq_true rfl) dX3_width_15 ⟨_, rfl, rfl, rfl⟩

set_option maxHeartbeats 4000000 in
set_option maxRecDepth 100000 in
/-- has -/
theorem c_X3_has (l : Launch) (G : zG) (ad : Nat → Nat) (X : Nat → Nat → Int) (r : Nat) (f : Nat) (v : Int) (hV : zV X) (hR : zIsR r) (hf : f < 4) (hv : -2147483648 ≤ v ∧ v ≤ 2147483647) : zR l G yX3_has wsX3_has { frames := 0, cells := 0, slots := 0, locals := 0 } (zpic G ad X) [.ref (ad r), .int (zi (f : Int)), .int (zi v)] (zq G ad X (fun w => (w = 1 ∧ X (r + 1) f ≤ v ∧ v ≤ X (r + 2) f) ∨ (w = 0 ∧ ¬ (X (r + 1) f ≤ v ∧ v ≤ X (r + 2) f)))) 0 0 := by
  refine zR_of (cc := cX3_has) (maxL := 3) (rt := (some .boolean)) (by decide) rfl (Nat.le_of_ble_eq_true rfl) ?_
  intro p e s m below meth c A ls hx hb hml hr hts hown hlocks hin0 hA hE hP hD hS hl
  have hl : lv_has ls 3 [(0, .ref (ad r)), (1, .int (zi (f : Int))), (2, .int (zi v))] := hl
  have hown : s.vm.findClass RX3 = some m.cls := hown
  have hrf := hV.rf hR hf
  have hw3 : ∀ w ∈ u_ws RX3 TX3 4, w ∈ wsX3_has := by decide +kernel
  have hf9 := hts (.fieldLink RX3 9 "Nettle$Rule" "lows" "[I") (by decide +kernel)
  have hf15 := hts (.fieldLink RX3 15 "Nettle$Rule" "highs" "[I") (by decide +kernel)
  refine lv_aload_n hx hb dX3_has_0 rfl (lv_at hl 0 rfl) ?_
  refine va_get (D := G.1) (ci := 3) (v := .ref (ad (r + 1))) (C := RX3) (T := TX3) (N := 4) hx hb hts hw3 hown hE.1 hP r (p_r hR) rfl 2 (by decide) hf9 (fun _ h9 => h9) rfl dX3_has_1 ?_
  refine lv_iload_n hx hb dX3_has_4 rfl (lv_at hl 1 rfl) ?_
  refine zild hx hb hE hP (r + 1) 4 (a_l hR) (by have := hR.lt; omega) f rfl (by omega) (by decide) dX3_has_5 ?_
  refine lv_iload_n hx hb dX3_has_6 rfl (lv_at hl 2 rfl) ?_
  refine zc_gt (tgt := 24) hx hb dX3_has_7 (by decide) (by omega) (by omega) (fun h7 => ?_) (fun h7 => ?_)
  · refine lv_iconst (v := zi 0) hx hb dX3_has_24 rfl ?_
    exact zend_z hx hb hr hlocks (by decide +kernel) hP hD hS (Nat.le_of_ble_eq_true rfl) (Nat.le_of_ble_eq_true rfl) dX3_has_25 ⟨_, rfl, (by omega), rfl⟩
  · refine lv_iload_n hx hb dX3_has_10 rfl (lv_at hl 2 rfl) ?_
    refine lv_aload_n hx hb dX3_has_11 rfl (lv_at hl 0 rfl) ?_
    refine va_get (D := G.1) (ci := 3) (v := .ref (ad (r + 2))) (C := RX3) (T := TX3) (N := 4) hx hb hts hw3 hown hE.1 hP r (p_r hR) rfl 3 (by decide) hf15 (fun _ h9 => h9) rfl dX3_has_12 ?_
    refine lv_iload_n hx hb dX3_has_15 rfl (lv_at hl 1 rfl) ?_
    refine zild hx hb hE hP (r + 2) 4 (a_h hR) (by have := hR.lt; omega) f rfl (by omega) (by decide) dX3_has_16 ?_
    refine zc_gt (tgt := 24) hx hb dX3_has_17 (by decide) (by omega) (by omega) (fun h17 => ?_) (fun h17 => ?_)
    · refine lv_iconst (v := zi 0) hx hb dX3_has_24 rfl ?_
      exact zend_z hx hb hr hlocks (by decide +kernel) hP hD hS (Nat.le_of_ble_eq_true rfl) (Nat.le_of_ble_eq_true rfl) dX3_has_25 ⟨_, rfl, (by omega), rfl⟩
    · refine lv_iconst (v := zi 1) hx hb dX3_has_20 rfl ?_
      refine lv_goto (tgt := 25) hx hb dX3_has_21 (by decide) ?_
      exact zend_z hx hb hr hlocks (by decide +kernel) hP hD hS (Nat.le_of_ble_eq_true rfl) (Nat.le_of_ble_eq_true rfl) dX3_has_25 ⟨_, rfl, (by omega), rfl⟩

set_option maxHeartbeats 4000000 in
set_option maxRecDepth 100000 in
/-- isWholeFrom -/
theorem c_X3_isWholeFrom (l : Launch) (G : zG) (ad : Nat → Nat) (X : Nat → Nat → Int) (r : Nat) (f : Nat) (hV : zV X) (hR : zIsR r) (hf : f ≤ 4) : zR l G yX3_isWholeFrom wsX3_isWholeFrom { frames := 0, cells := 0, slots := 0, locals := 0 } (zpic G ad X) [.ref (ad r), .int (zi (f : Int))] (zq G ad X (fun w => (w = 1 ∧ zWhole X r f) ∨ (w = 0 ∧ ¬ zWhole X r f))) 0 0 := by
  refine zR_of (cc := cX3_isWholeFrom) (maxL := 3) (rt := (some .boolean)) (by decide) rfl (Nat.le_of_ble_eq_true rfl) ?_
  intro p e s m below meth c A ls hx hb hml hr hts hown hlocks hin0 hA hE hP hD hS hl
  have hl : lv_has ls 3 [(0, .ref (ad r)), (1, .int (zi (f : Int)))] := hl
  have hown : s.vm.findClass RX3 = some m.cls := hown
  have hw3 : ∀ w ∈ u_ws RX3 TX3 4, w ∈ wsX3_isWholeFrom := by decide +kernel
  have hf9 := hts (.fieldLink RX3 9 "Nettle$Rule" "lows" "[I") (by decide +kernel)
  have hf15 := hts (.fieldLink RX3 15 "Nettle$Rule" "highs" "[I") (by decide +kernel)
  refine lv_iload_n hx hb dX3_isWholeFrom_0 rfl (lv_at hl 1 rfl) ?_
  refine lv_istore_n (lv' := [(2, .int (zi (f : Int))), (0, .ref (ad r)), (1, .int (zi (f : Int)))]) hx hb dX3_isWholeFrom_1 rfl hl (by decide) rfl (fun ls hl => ?_)
  refine zloop1 (fun (g : Nat) => 4 - g) (fun (g : Nat) (H : Heap) (locs : List Loc) (ls : Array Slot) => va_P G.1 vwCl (zpic G ad X) H ∧ va_D A (zpic G ad X) ∧ va_S A s.heap H locs ∧ lv_has ls 3 [(2, .int (zi (g : Int))), (0, .ref (ad r))] ∧ (f ≤ g ∧ g ≤ 4) ∧ (∀ k : Nat, f ≤ k → k < g → X (r + 1) k = 0 ∧ X (r + 2) k = zS k - 1)) ?_ f ⟨hP, hD, hS, lv_sub hl [0, 1] rfl, ⟨Nat.le_refl _, hf⟩, (fun k h1 h2 => by omega)⟩
  intro g ih H locs ls ⟨hP, hD, hS, hl, hg, hw⟩
  refine lv_iload_n hx hb dX3_isWholeFrom_2 rfl (lv_at hl 0 rfl) ?_
  refine lv_iconst (v := zi 4) hx hb dX3_isWholeFrom_3 rfl ?_
  refine zc_ge (tgt := 40) hx hb dX3_isWholeFrom_4 (by decide) (by omega) (by decide) (fun h4 => ?_) (fun h4 => ?_)
  · refine lv_iconst (v := zi 1) hx hb dX3_isWholeFrom_40 rfl ?_
    exact zend_z hx hb hr hlocks (by decide +kernel) hP hD hS (Nat.le_of_ble_eq_true rfl) (Nat.le_of_ble_eq_true rfl) dX3_isWholeFrom_41 ⟨_, rfl, (Or.inl ⟨rfl, fun k h1 h2 => hw k h1 (by omega)⟩), rfl⟩
  · have hrf := hV.rf hR (show g < 4 by omega)
    refine lv_aload_n hx hb dX3_isWholeFrom_7 rfl (lv_at hl 1 rfl) ?_
    refine va_get (D := G.1) (ci := 3) (v := .ref (ad (r + 1))) (C := RX3) (T := TX3) (N := 4) hx hb hts hw3 hown hE.1 hP r (p_r hR) rfl 2 (by decide) hf9 (fun _ h9 => h9) rfl dX3_isWholeFrom_8 ?_
    refine lv_iload_n hx hb dX3_isWholeFrom_11 rfl (lv_at hl 0 rfl) ?_
    refine zild hx hb hE hP (r + 1) 4 (a_l hR) (by have := hR.lt; omega) g rfl (by omega) (by decide) dX3_isWholeFrom_12 ?_
    refine z0_ne (tgt := 32) hx hb dX3_isWholeFrom_13 (by decide) (by omega) (fun h13 => ?_) (fun h13 => ?_)
    · refine lv_iconst (v := zi 0) hx hb dX3_isWholeFrom_32 rfl ?_
      exact zend_z hx hb hr hlocks (by decide +kernel) hP hD hS (Nat.le_of_ble_eq_true rfl) (Nat.le_of_ble_eq_true rfl) dX3_isWholeFrom_33 ⟨_, rfl, (Or.inr ⟨rfl, fun q => by have := q g hg.1 (by omega); omega⟩), rfl⟩
    · refine lv_aload_n hx hb dX3_isWholeFrom_16 rfl (lv_at hl 1 rfl) ?_
      refine va_get (D := G.1) (ci := 3) (v := .ref (ad (r + 2))) (C := RX3) (T := TX3) (N := 4) hx hb hts hw3 hown hE.1 hP r (p_r hR) rfl 3 (by decide) hf15 (fun _ h9 => h9) rfl dX3_isWholeFrom_17 ?_
      refine lv_iload_n hx hb dX3_isWholeFrom_20 rfl (lv_at hl 0 rfl) ?_
      refine zild hx hb hE hP (r + 2) 4 (a_h hR) (by have := hR.lt; omega) g rfl (by omega) (by decide) dX3_isWholeFrom_21 ?_
      refine va_getsN hx hb hE.2.1.1 hS hown (va_Nw.use rfl hE.2.2.2.1.2.2.2.2.2.2.1) (fun _ h9 => h9) dX3_isWholeFrom_22 ?_
      refine lv_iload_n hx hb dX3_isWholeFrom_25 rfl (lv_at hl 0 rfl) ?_
      refine zsz_ld hx hb hE hS g rfl (by omega) dX3_isWholeFrom_26 ?_
      refine lv_iconst (v := zi 1) hx hb dX3_isWholeFrom_27 rfl ?_
      refine lv_isub hx hb dX3_isWholeFrom_28 (zti (v := zi ((zS g) - 1)) (zi_sub _ _) ?_)
      refine zc_eq (tgt := 34) hx hb dX3_isWholeFrom_29 (by decide) (by omega) (by omega) (fun h29 => ?_) (fun h29 => ?_)
      · refine lv_iinc (v := zi ((g : Int) + 1)) (lv' := [(2, .int (zi ((g : Int) + 1))), (0, .ref (ad r))]) hx hb dX3_isWholeFrom_34 hl (k := 0) rfl (zi_add _ _) (by decide) rfl (fun ls hl => ?_)
        refine lv_goto (tgt := 2) hx hb dX3_isWholeFrom_37 (by decide) ?_
        exact ih (g + 1) (by omega) H locs ls ⟨hP, hD, hS, lv_sub hl [0, 1] rfl, (by omega), (fun k h1 h2 => by rcases Nat.lt_or_eq_of_le (Nat.le_of_lt_succ h2) with hk | rfl; exact hw k h1 hk; exact ⟨by omega, by omega⟩)⟩
      · refine lv_iconst (v := zi 0) hx hb dX3_isWholeFrom_32 rfl ?_
        exact zend_z hx hb hr hlocks (by decide +kernel) hP hD hS (Nat.le_of_ble_eq_true rfl) (Nat.le_of_ble_eq_true rfl) dX3_isWholeFrom_33 ⟨_, rfl, (Or.inr ⟨rfl, fun q => by have := q g hg.1 (by omega); omega⟩), rfl⟩
