/-! Nettle: meanSteps -/
theorem dX7_meanSteps_0 : decode cX7_meanSteps 0 = .ok (.aload_n 0, 1) := by decide +kernel
set_option maxRecDepth 20000 in
theorem ggX7_meanSteps_X7_compiled : GoodIn wsX7_meanSteps wsX7_compiled := goodIn_r _ [6, 7, 8, 9, 10, 11, 12, 13, 14, 15, 16, 17, 18, 19, 20, 21, 22, 23, 24, 25, 26, 27, 28, 29, 30, 31, 32, 33, 34, 35, 36, 37, 38, 39, 40, 41, 42, 43, 44, 45, 46, 47, 48, 49, 50, 51, 52, 53, 54, 55, 56, 57, 58, 59, 60, 61, 62, 63, 64, 65, 66, 67, 68, 69, 70, 71, 72, 73, 74, 75, 76, 77, 78, 79, 80, 81, 82, 83, 84, 85, 86, 87, 88, 89, 90, 91, 92, 93, 94, 99, 100, 101, 102, 103, 104, 105, 106, 107, 108, 109, 110, 111, 112, 113, 114, 115, 116, 117, 118, 119, 120, 121, 122, 123, 124, 125, 126] (by decide +kernel) (by decide +kernel)
set_option maxRecDepth 20000 in
theorem gX7_meanSteps_X7_compiled : GoodIn wsX7_meanSteps (wsV RX7 189 RX7 yX7_compiled wsX7_compiled) := goodIn_app (goodIn_of _ (by decide +kernel)) ggX7_meanSteps_X7_compiled
theorem dX7_meanSteps_1 : decode cX7_meanSteps 1 = .ok (.invokevirtual 189, 3) := by decide +kernel
set_option maxRecDepth 20000 in
theorem ggX7_meanSteps_X5_allSteps : GoodIn wsX7_meanSteps wsX5_allSteps := goodIn_r _ [98, 55, 73, 120, 121, 122, 123, 124, 125, 126] (by decide +kernel) (by decide +kernel)
set_option maxRecDepth 20000 in
theorem gX7_meanSteps_X5_allSteps : GoodIn wsX7_meanSteps (wsV RX7 232 RX5 yX5_allSteps wsX5_allSteps) := goodIn_app (goodIn_of _ (by decide +kernel)) ggX7_meanSteps_X5_allSteps
theorem dX7_meanSteps_4 : decode cX7_meanSteps 4 = .ok (.invokevirtual 232, 3) := by decide +kernel
theorem dX7_meanSteps_7 : decode cX7_meanSteps 7 = .ok (.i2d, 1) := by decide +kernel
theorem dX7_meanSteps_8 : decode cX7_meanSteps 8 = .ok (.getstatic 235, 3) := by decide +kernel
theorem dX7_meanSteps_11 : decode cX7_meanSteps 11 = .ok (.iconst 0, 1) := by decide +kernel
theorem dX7_meanSteps_12 : decode cX7_meanSteps 12 = .ok (.iaload, 1) := by decide +kernel
theorem dX7_meanSteps_13 : decode cX7_meanSteps 13 = .ok (.i2d, 1) := by decide +kernel
theorem dX7_meanSteps_14 : decode cX7_meanSteps 14 = .ok (.ddiv, 1) := by decide +kernel
theorem dX7_meanSteps_15 : decode cX7_meanSteps 15 = .ok (.dreturn, 1) := by decide +kernel
/-- the mean of steps -/
def zMean (v : UInt64) : Prop := ∃ n : Int, 0 ≤ n ∧ n ≤ 1073741824 ∧ v = FP.ddiv (FP.i2d (zi n)) (FP.i2d (zi 268435456))

set_option maxHeartbeats 4000000 in
set_option maxRecDepth 100000 in
/-- meanSteps -/
theorem c_X7_meanSteps (l : Launch) (G : zG) (ad : Nat → Nat) (X : Nat → Nat → Int) (hV : zV X) (hTf : zTf X) : zR l G yX7_meanSteps wsX7_meanSteps { frames := 8, cells := 0, slots := 0, locals := 203 } (zpic G ad X) [.ref (ad 52)] (zd G ad X (fun v => zMean v)) 0 0 := by
  refine zR_of (cc := cX7_meanSteps) (maxL := 1) (rt := (some .double)) (by decide) rfl (Nat.le_of_ble_eq_true rfl) ?_
  intro p e s m below meth c A ls hx hb hml hr hts hown hlocks hin0 hA hE hP hD hS hl
  have hl : lv_has ls 1 [(0, .ref (ad 52))] := hl
  have hown : s.vm.findClass RX7 = some m.cls := hown
  have hf235 := hts (.fieldLink RX7 235 "Nettle" "AMOUNTS" "[I") (by decide +kernel)
  refine lv_aload_n hx hb dX7_meanSteps_0 rfl (lv_at hl 0 rfl) ?_
  refine zcall (wr := []) (va_runV (As := []) (rest := []) ⟨hx, hb, hml, hown, hts⟩ (c_X7_compiled l G ad X hV (Or.inr ⟨hTf.2.1, hTf.2.2.1⟩) (Or.inr ⟨hTf.1, hTf.2.1, hTf.2.2.2⟩) s.heap.size) (cwV 0 hts gX7_meanSteps_X7_compiled rfl rfl rfl (by decide +kernel) ⟨Nat.le_of_ble_eq_true rfl, Nat.le_of_ble_eq_true rfl⟩) (zPreV (wr := []) (wc := zpic G ad X) (q0 := 52) (ci := 7) (q := (RX7, TX7, 8)) hP hD hE hS hA rfl p_52) rfl rfl hl.1 rfl (lv_room (Nat.le_of_ble_eq_true rfl)) dX7_meanSteps_1 ⟨Nat.le_of_ble_eq_true rfl, Nat.le_of_ble_eq_true rfl⟩) hP hD hS hA (fun _ _ H locs hf hP hD hS => ?_)
  obtain ⟨X1, rfl, hX1, rfl⟩ := hf
  have hP : va_P G.1 vwCl (zpic G ad X1) H := hP
  have hD : va_D A (zpic G ad X1) := hD
  refine W.eq (g2 := F0 m 4 ls [.ref (ad 61)]) rfl ?_
  have eX := zTd.again hTf hX1
  rw [eX] at hP hD
  refine zcall (wr := []) (va_runV (As := []) (rest := []) ⟨hx, hb, hml, hown, hts⟩ (c_X5_allSteps l G ad X hTf.2.2.2 H.size) (cwV 0 hts gX7_meanSteps_X5_allSteps rfl rfl rfl (by decide +kernel) ⟨Nat.le_of_ble_eq_true rfl, Nat.le_of_ble_eq_true rfl⟩) (zPreV (wr := []) (wc := zpic G ad X) (q0 := 61) (ci := 5) (q := (RX5, TX5, 7)) hP hD hE hS hA rfl p_61) rfl rfl hl.1 rfl (lv_room (Nat.le_of_ble_eq_true rfl)) dX7_meanSteps_4 ⟨Nat.le_of_ble_eq_true rfl, Nat.le_of_ble_eq_true rfl⟩) hP hD hS hA (fun _ _ H locs hf hP hD hS => ?_)
  obtain ⟨v1, rfl, hv1, rfl⟩ := hf
  have hP : va_P G.1 vwCl (zpic G ad X) H := hP
  have hD : va_D A (zpic G ad X) := hD
  refine W.eq (g2 := F0 m 7 ls [.int (zi v1)]) rfl ?_
  refine lv_i2d hx hb dX7_meanSteps_7 ?_
  refine va_gets hx hb hE.2.2.1.1 hS hown hf235 (fun _ h9 => h9) dX7_meanSteps_8 ?_
  refine lv_iconst (v := zi 0) hx hb dX7_meanSteps_11 rfl ?_
  refine zam_ld hx hb hE hS 0 rfl (by decide) dX7_meanSteps_12 ?_
  refine zti (v := zi 268435456) rfl ?_
  refine lv_i2d hx hb dX7_meanSteps_13 ?_
  refine lv_ddiv hx hb dX7_meanSteps_14 (zfl_n64 v1) ?_
  exact zend_d hx hb hr hlocks hP hD hS (Nat.le_of_ble_eq_true rfl) (Nat.le_of_ble_eq_true rfl) dX7_meanSteps_15 ⟨_, rfl, ⟨v1, hv1.1, hv1.2.1, rfl⟩, rfl⟩
