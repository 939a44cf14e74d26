/-! the Hedge draws -/
theorem dL_below_0 : decode cL_below 0 = .ok (.iload_n 0, 1) := by decide +kernel
theorem dL_below_1 : decode cL_below 1 = .ok (.ldc 7, 2) := by decide +kernel
theorem dL_below_3 : decode cL_below 3 = .ok (.iand, 1) := by decide +kernel
theorem dL_below_4 : decode cL_below 4 = .ok (.iload_n 1, 1) := by decide +kernel
theorem dL_below_5 : decode cL_below 5 = .ok (.irem, 1) := by decide +kernel
theorem dL_below_6 : decode cL_below 6 = .ok (.ireturn, 1) := by decide +kernel
theorem dL_cell_0 : decode cL_cell 0 = .ok (.iload_n 1, 1) := by decide +kernel
theorem dL_cell_1 : decode cL_cell 1 = .ok (.aload_n 0, 1) := by decide +kernel
theorem dL_cell_2 : decode cL_cell 2 = .ok (.arraylength, 1) := by decide +kernel
theorem dL_cell_3 : decode cL_cell 3 = .ok (.if_icmp .ge 9, 3) := by decide +kernel
theorem dL_cell_12 : decode cL_cell 12 = .ok (.ldc 8, 2) := by decide +kernel
theorem dL_cell_14 : decode cL_cell 14 = .ok (.iload_n 1, 1) := by decide +kernel
theorem dL_cell_15 : decode cL_cell 15 = .ok (.iconst 3, 1) := by decide +kernel
theorem dL_cell_16 : decode cL_cell 16 = .ok (.iadd, 1) := by decide +kernel
theorem dL_cell_17 : decode cL_cell 17 = .ok (.imul, 1) := by decide +kernel
theorem dL_cell_18 : decode cL_cell 18 = .ok (.ireturn, 1) := by decide +kernel
theorem dL_cell_6 : decode cL_cell 6 = .ok (.aload_n 0, 1) := by decide +kernel
theorem dL_cell_7 : decode cL_cell 7 = .ok (.iload_n 1, 1) := by decide +kernel
theorem dL_cell_8 : decode cL_cell 8 = .ok (.iaload, 1) := by decide +kernel
theorem dL_cell_9 : decode cL_cell 9 = .ok (.goto 9, 3) := by decide +kernel
theorem dX8_draw_0 : decode cX8_draw 0 = .ok (.aload_n 0, 1) := by decide +kernel
theorem dX8_draw_1 : decode cX8_draw 1 = .ok (.getfield 31, 3) := by decide +kernel
theorem dX8_draw_4 : decode cX8_draw 4 = .ok (.aload_n 0, 1) := by decide +kernel
theorem dX8_draw_5 : decode cX8_draw 5 = .ok (.getfield 34, 3) := by decide +kernel
theorem dX8_draw_8 : decode cX8_draw 8 = .ok (.bipush 24, 2) := by decide +kernel
theorem dX8_draw_10 : decode cX8_draw 10 = .ok (.irem, 1) := by decide +kernel
set_option maxRecDepth 20000 in
theorem ggX8_draw_L_cell : GoodIn wsX8_draw wsL_cell := goodIn_r _ [5, 6] (by decide +kernel) (by decide +kernel)
set_option maxRecDepth 20000 in
theorem gX8_draw_L_cell_n42 : GoodIn wsX8_draw (wsL_cell) := ggX8_draw_L_cell
theorem dX8_draw_11 : decode cX8_draw 11 = .ok (.invokestatic 42, 3) := by decide +kernel
theorem dX8_draw_14 : decode cX8_draw 14 = .ok (.aload_n 0, 1) := by decide +kernel
theorem dX8_draw_15 : decode cX8_draw 15 = .ok (.getfield 34, 3) := by decide +kernel
theorem dX8_draw_18 : decode cX8_draw 18 = .ok (.bipush 24, 2) := by decide +kernel
theorem dX8_draw_20 : decode cX8_draw 20 = .ok (.idiv, 1) := by decide +kernel
theorem dX8_draw_21 : decode cX8_draw 21 = .ok (.bipush 8, 2) := by decide +kernel
theorem dX8_draw_23 : decode cX8_draw 23 = .ok (.irem, 1) := by decide +kernel
theorem dX8_draw_24 : decode cX8_draw 24 = .ok (.ishr, 1) := by decide +kernel
theorem dX8_draw_25 : decode cX8_draw 25 = .ok (.sipush 131, 3) := by decide +kernel
theorem dX8_draw_28 : decode cX8_draw 28 = .ok (.aload_n 0, 1) := by decide +kernel
theorem dX8_draw_29 : decode cX8_draw 29 = .ok (.getfield 34, 3) := by decide +kernel
theorem dX8_draw_32 : decode cX8_draw 32 = .ok (.imul, 1) := by decide +kernel
theorem dX8_draw_33 : decode cX8_draw 33 = .ok (.iadd, 1) := by decide +kernel
theorem dX8_draw_34 : decode cX8_draw 34 = .ok (.iload_n 1, 1) := by decide +kernel
set_option maxRecDepth 20000 in
theorem ggX8_draw_L_below : GoodIn wsX8_draw wsL_below := goodIn_r _ [8, 9] (by decide +kernel) (by decide +kernel)
set_option maxRecDepth 20000 in
theorem gX8_draw_L_below_n48 : GoodIn wsX8_draw (wsL_below) := ggX8_draw_L_below
theorem dX8_draw_35 : decode cX8_draw 35 = .ok (.invokestatic 48, 3) := by decide +kernel
theorem dX8_draw_38 : decode cX8_draw 38 = .ok (.istore_n 2, 1) := by decide +kernel
theorem dX8_draw_39 : decode cX8_draw 39 = .ok (.aload_n 0, 1) := by decide +kernel
theorem dX8_draw_40 : decode cX8_draw 40 = .ok (.dup, 1) := by decide +kernel
theorem dX8_draw_41 : decode cX8_draw 41 = .ok (.getfield 34, 3) := by decide +kernel
theorem dX8_draw_44 : decode cX8_draw 44 = .ok (.iconst 1, 1) := by decide +kernel
theorem dX8_draw_45 : decode cX8_draw 45 = .ok (.iadd, 1) := by decide +kernel
theorem dX8_draw_46 : decode cX8_draw 46 = .ok (.putfield 34, 3) := by decide +kernel
theorem dX8_draw_49 : decode cX8_draw 49 = .ok (.iload_n 2, 1) := by decide +kernel
theorem dX8_draw_50 : decode cX8_draw 50 = .ok (.ireturn, 1) := by decide +kernel
theorem zi_ex (v : Int32) : ∃ z : Int, v = zi z := ⟨v.toInt, (Int32.ofInt_toInt v).symm⟩
theorem zlen (n : Nat) : Int32.ofNat n = zi (n : Int) := by rw [zi_ofNat]; rfl
theorem zi_pos (z : Int) : ∃ u : Nat, u ≤ 2147483647 ∧ zi z &&& zi 2147483647 = zi (u : Int) := by
  refine ⟨(zi z).toBitVec.toNat % 2147483648, by omega, ?_⟩
  rw [zi_ofNat]
  apply Int32.toBitVec_inj.1
  show (zi z).toBitVec &&& 2147483647#32 = BitVec.ofNat 32 _
  apply BitVec.eq_of_toNat_eq
  rw [BitVec.toNat_and, BitVec.toNat_ofNat, BitVec.toNat_ofNat]
  show (zi z).toBitVec.toNat &&& (2 ^ 31 - 1) = _
  rw [Nat.and_two_pow_sub_one_eq_mod]
  omega
theorem znz {n : Nat} (h : 0 < n ∧ n ≤ 100000) : ¬ zi (n : Int) = 0 := fun e => by
  have h1 := (zi_eq (a := (n : Int)) (b := 0) ⟨by omega, by omega⟩ ⟨by omega, by omega⟩).mp e
  omega
/-- an int below n; any int -/
def zlt (W0 : va_W) (n : Int) : Option Value → va_W → Prop := fun r w => ∃ v : Int, r = some (.int (zi v)) ∧ (0 ≤ v ∧ v < n) ∧ w = W0
def zany (W0 : va_W) : Option Value → va_W → Prop := fun r w => ∃ v : Int, r = some (.int (zi v)) ∧ True ∧ w = W0
/-- the Hedge's own cell -/
abbrev zho (G : zG) (f0 : Value) (dr : Nat) (f3 f4 f5 f6 f7 f8 f9 : Value) : va_E := .inr (8, [f0, .ref (zsb G), .int (zi (dr : Int)), f3, f4, f5, f6, f7, f8, f9])
/-- an int below n, one draw more -/
def zdr (W0 : va_W) (n : Int) (k0 a0 : Nat) (e : va_E) : Option Value → va_W → Prop := fun r w => ∃ v : Int, r = some (.int (zi v)) ∧ (0 ≤ v ∧ v < n) ∧ w = W0.set k0 (a0, e)

set_option maxHeartbeats 4000000 in
set_option maxRecDepth 100000 in
/-- below -/
theorem k_L_below (l : Launch) (G : zG) (W0 : va_W) (v : Int) (n : Nat) (hn : 0 < n ∧ n ≤ 100000) : zR l G yL_below wsL_below { frames := 0, cells := 0, slots := 0, locals := 0 } W0 [.int (zi v), .int (zi (n : Int))] (zlt W0 (n : Int)) 0 0 := by
  refine zR_of (cc := cL_below) (maxL := 2) (rt := (some .int)) (by decide) rfl (Nat.le_of_ble_eq_true rfl) ?_
  intro p e s m below meth c A ls hx hb hml hr hts hown hlocks hin0 hA hE hP hD hS hl
  have hl : lv_has ls 2 [(0, .int (zi v)), (1, .int (zi (n : Int)))] := hl
  have hown : s.vm.findClass RL = some m.cls := hown
  have hc7 := hts (.constant RL 7 (2147483647)) (by decide +kernel)
  refine lv_iload_n hx hb dL_below_0 rfl (lv_at hl 0 rfl) ?_
  refine lv_ldc (v := zi 2147483647) hx hb hown hc7 dL_below_1 ?_
  obtain ⟨u, hu, hue⟩ := zi_pos v
  refine lv_iand hx hb dL_below_3 (zti (v := zi (u : Int)) hue ?_)
  refine lv_iload_n hx hb dL_below_4 rfl (lv_at hl 1 rfl) ?_
  refine lv_irem hx hb dL_below_5 (znz hn) (zti (v := zi ((u % n : Nat) : Int)) (zi_rem (a := u) (b := n) hu hn.1 (by omega)) ?_)
  exact zend_i hx hb hr hlocks hP hD hS (Nat.le_of_ble_eq_true rfl) (Nat.le_of_ble_eq_true rfl) dL_below_6 ⟨_, rfl, by have h9 := Nat.mod_lt u hn.1; omega, rfl⟩

set_option maxHeartbeats 4000000 in
set_option maxRecDepth 100000 in
/-- cell -/
theorem k_L_cell (l : Launch) (G : zG) (W0 : va_W) (q : Nat) (hsl : zsl G ≤ 100000) (hq : q ≤ 100000) : zR l G yL_cell wsL_cell { frames := 0, cells := 0, slots := 0, locals := 0 } W0 [.ref (zsb G), .int (zi (q : Int))] (zany W0) 0 0 := by
  refine zR_of (cc := cL_cell) (maxL := 2) (rt := (some .int)) (by decide) rfl (Nat.le_of_ble_eq_true rfl) ?_
  intro p e s m below meth c A ls hx hb hml hr hts hown hlocks hin0 hA hE hP hD hS hl
  have hl : lv_has ls 2 [(0, .ref (zsb G)), (1, .int (zi (q : Int)))] := hl
  have hown : s.vm.findClass RL = some m.cls := hown
  have hc8 := hts (.constant RL 8 (790386105)) (by decide +kernel)
  refine lv_iload_n hx hb dL_cell_0 rfl (lv_at hl 1 rfl) ?_
  refine lv_aload_n hx hb dL_cell_1 rfl (lv_at hl 0 rfl) ?_
  refine va_slen hx hb hE.2.2.2.2.2.2.1 hE.2.2.2.2.2.2.2.1 hE.2.2.2.2.2.2.2.2 hS dL_cell_2 ?_
  refine zti (v := zi (zsl G : Int)) (zlen _) ?_
  refine zc_ge (tgt := 12) hx hb dL_cell_3 (by decide) (by omega) (by omega) (fun h3 => ?_) (fun h3 => ?_)
  · refine lv_ldc (v := zi 790386105) hx hb hown hc8 dL_cell_12 ?_
    refine lv_iload_n hx hb dL_cell_14 rfl (lv_at hl 1 rfl) ?_
    refine lv_iconst (v := zi 3) hx hb dL_cell_15 rfl ?_
    refine lv_iadd hx hb dL_cell_16 (zti (v := zi ((q : Int) + 3)) (zi_add _ _) ?_)
    refine lv_imul hx hb dL_cell_17 (zti (v := zi (790386105 * ((q : Int) + 3))) (zi_mul _ _) ?_)
    exact zend_i hx hb hr hlocks hP hD hS (Nat.le_of_ble_eq_true rfl) (Nat.le_of_ble_eq_true rfl) dL_cell_18 ⟨_, rfl, trivial, rfl⟩
  · refine lv_aload_n hx hb dL_cell_6 rfl (lv_at hl 0 rfl) ?_
    refine lv_iload_n hx hb dL_cell_7 rfl (lv_at hl 1 rfl) ?_
    refine va_sld hx hb hE.2.2.2.2.2.2.1 hE.2.2.2.2.2.2.2.1 hE.2.2.2.2.2.2.2.2 hS (zi_in (by omega) (by omega) (by omega)) dL_cell_8 ?_
    obtain ⟨z1, hz1⟩ := zi_ex (zsx G (zi (q : Int)).toNatClampNeg)
    refine zti (v := zi z1) hz1 ?_
    refine lv_goto (tgt := 18) hx hb dL_cell_9 (by decide) ?_
    exact zend_i hx hb hr hlocks hP hD hS (Nat.le_of_ble_eq_true rfl) (Nat.le_of_ble_eq_true rfl) dL_cell_18 ⟨_, rfl, trivial, rfl⟩

set_option maxHeartbeats 4000000 in
set_option maxRecDepth 100000 in
/-- draw -/
theorem k_X8_draw (l : Launch) (G : zG) (W0 : va_W) (k0 : Nat) (a0 : Nat) (f0 : Value) (dr : Nat) (f3 : Value) (f4 : Value) (f5 : Value) (f6 : Value) (f7 : Value) (f8 : Value) (f9 : Value) (n : Nat) (he : W0[k0]? = some (a0, zho G f0 dr f3 f4 f5 f6 f7 f8 f9)) (hsl : zsl G ≤ 100000) (hdr : dr ≤ 100000) (hn : 0 < n ∧ n ≤ 100000) : zR l G yX8_draw wsX8_draw { frames := 1, cells := 0, slots := 0, locals := 21 } W0 [.ref a0, .int (zi (n : Int))] (zdr W0 (n : Int) k0 a0 (zho G f0 (dr + 1) f3 f4 f5 f6 f7 f8 f9)) 0 0 := by
  refine zR_of (cc := cX8_draw) (maxL := 3) (rt := (some .int)) (by decide) rfl (Nat.le_of_ble_eq_true rfl) ?_
  intro p e s m below meth c A ls hx hb hml hr hts hown hlocks hin0 hA hE hP hD hS hl
  have hl : lv_has ls 3 [(0, .ref a0), (1, .int (zi (n : Int)))] := hl
  have hown : s.vm.findClass RX8 = some m.cls := hown
  have hw8 : ∀ w ∈ u_ws RX8 TX8 10, w ∈ wsX8_draw := by decide +kernel
  have hf31 := hts (.fieldLink RX8 31 "NettleLaw$Hedge" "s" "[I") (by decide +kernel)
  have hf34 := hts (.fieldLink RX8 34 "NettleLaw$Hedge" "draws" "I") (by decide +kernel)
  have hiniL := hts (.initialized RL) (by decide +kernel)
  have hstL_cell := hts (.static yL_cell) (by decide +kernel)
  have hstL_below := hts (.static yL_below) (by decide +kernel)
  refine lv_aload_n hx hb dX8_draw_0 rfl (lv_at hl 0 rfl) ?_
  refine va_get (D := G.1) (ci := 8) (v := .ref (zsb G)) (C := RX8) (T := TX8) (N := 10) hx hb hts hw8 hown hE.1 hP k0 he rfl 1 (by decide) hf31 (fun _ h9 => h9) rfl dX8_draw_1 ?_
  refine lv_aload_n hx hb dX8_draw_4 rfl (lv_at hl 0 rfl) ?_
  refine va_get (D := G.1) (ci := 8) (v := .int (zi (dr : Int))) (C := RX8) (T := TX8) (N := 10) hx hb hts hw8 hown hE.1 hP k0 he rfl 2 (by decide) hf34 (fun _ h9 => h9) rfl dX8_draw_5 ?_
  refine lv_bipush (v := zi 24) hx hb dX8_draw_8 (by decide +kernel) ?_
  refine lv_irem hx hb dX8_draw_10 (by decide +kernel) (zti (v := zi ((dr % 24 : Nat) : Int)) (zi_rem (a := dr) (b := 24) (by omega) (by omega) (by omega)) ?_)
  refine zcall (wr := []) (wc := W0) (va_runSN (As := [.ref (zsb G), .int (zi ((dr % 24 : Nat) : Int))]) (rest := []) ⟨hx, hb, hml, hown, hts⟩ (k_L_cell l G (W0) (dr % 24 : Nat) hsl (by omega) s.heap.size) ⟨va_cnB 2 hts gX8_draw_L_cell_n42 rfl rfl rfl hE.2.2.2.1.2.2.2.2.2.2.2.2.2.1 hiniL (by decide +kernel) ⟨Nat.le_of_ble_eq_true rfl, Nat.le_of_ble_eq_true rfl⟩, hstL_cell, trivial⟩ (zPre (wr := []) (wc := W0) (As := [.ref (zsb G), .int (zi ((dr % 24 : Nat) : Int))]) hP hD hE hS hA).1 rfl rfl hl.1 rfl (lv_room (Nat.le_of_ble_eq_true rfl)) dX8_draw_11 ⟨Nat.le_of_ble_eq_true rfl, Nat.le_of_ble_eq_true rfl⟩) hP hD hS hA (fun _ _ H locs hf hP hD hS => ?_)
  obtain ⟨v1, rfl, hv1, hw9⟩ := hf
  rw [hw9] at hP hD
  have hP : va_P G.1 vwCl (W0) H := hP
  have hD : va_D A (W0) := hD
  refine W.eq (g2 := F0 m 14 ls [.int (zi v1)]) rfl ?_
  refine lv_aload_n hx hb dX8_draw_14 rfl (lv_at hl 0 rfl) ?_
  refine va_get (D := G.1) (ci := 8) (v := .int (zi (dr : Int))) (C := RX8) (T := TX8) (N := 10) hx hb hts hw8 hown hE.1 hP k0 he rfl 2 (by decide) hf34 (fun _ h9 => h9) rfl dX8_draw_15 ?_
  refine lv_bipush (v := zi 24) hx hb dX8_draw_18 (by decide +kernel) ?_
  refine lv_idiv hx hb dX8_draw_20 (by decide +kernel) (zti (v := zi ((dr / 24 : Nat) : Int)) (zi_div (a := dr) (b := 24) (by omega) (by omega) (by omega)) ?_)
  refine lv_bipush (v := zi 8) hx hb dX8_draw_21 (by decide +kernel) ?_
  refine lv_irem hx hb dX8_draw_23 (by decide +kernel) (zti (v := zi ((dr / 24 % 8 : Nat) : Int)) (zi_rem (a := dr / 24) (b := 8) (by omega) (by omega) (by omega)) ?_)
  refine lv_ishr hx hb dX8_draw_24 ?_
  obtain ⟨z1, hz1⟩ := zi_ex (zi v1 >>> (zi ((dr / 24 % 8 : Nat) : Int) &&& 31))
  refine zti (v := zi z1) hz1 ?_
  refine lv_sipush (v := zi 131) hx hb dX8_draw_25 (by decide +kernel) ?_
  refine lv_aload_n hx hb dX8_draw_28 rfl (lv_at hl 0 rfl) ?_
  refine va_get (D := G.1) (ci := 8) (v := .int (zi (dr : Int))) (C := RX8) (T := TX8) (N := 10) hx hb hts hw8 hown hE.1 hP k0 he rfl 2 (by decide) hf34 (fun _ h9 => h9) rfl dX8_draw_29 ?_
  refine lv_imul hx hb dX8_draw_32 (zti (v := zi (131 * (dr : Int))) (zi_mul _ _) ?_)
  refine lv_iadd hx hb dX8_draw_33 (zti (v := zi (z1 + (131 * (dr : Int)))) (zi_add _ _) ?_)
  refine lv_iload_n hx hb dX8_draw_34 rfl (lv_at hl 1 rfl) ?_
  refine zcall (wr := []) (wc := W0) (va_runSN (As := [.int (zi (z1 + (131 * (dr : Int)))), .int (zi (n : Int))]) (rest := []) ⟨hx, hb, hml, hown, hts⟩ (k_L_below l G (W0) (z1 + (131 * (dr : Int))) n (by omega) H.size) ⟨va_cnB 2 hts gX8_draw_L_below_n48 rfl rfl rfl hE.2.2.2.1.2.2.2.2.2.2.2.2.2.2 hiniL (by decide +kernel) ⟨Nat.le_of_ble_eq_true rfl, Nat.le_of_ble_eq_true rfl⟩, hstL_below, trivial⟩ (zPre (wr := []) (wc := W0) (As := [.int (zi (z1 + (131 * (dr : Int)))), .int (zi (n : Int))]) hP hD hE hS hA).1 rfl rfl hl.1 rfl (lv_room (Nat.le_of_ble_eq_true rfl)) dX8_draw_35 ⟨Nat.le_of_ble_eq_true rfl, Nat.le_of_ble_eq_true rfl⟩) hP hD hS hA (fun _ _ H locs hf hP hD hS => ?_)
  obtain ⟨v2, rfl, hv2, hw9⟩ := hf
  rw [hw9] at hP hD
  have hP : va_P G.1 vwCl (W0) H := hP
  have hD : va_D A (W0) := hD
  refine W.eq (g2 := F0 m 38 ls [.int (zi v2)]) rfl ?_
  refine lv_istore_n (lv' := [(2, .int (zi v2)), (0, .ref a0), (1, .int (zi (n : Int)))]) hx hb dX8_draw_38 rfl hl (by decide) rfl (fun ls hl => ?_)
  refine lv_aload_n hx hb dX8_draw_39 rfl (lv_at hl 1 rfl) ?_
  refine lv_dup hx hb dX8_draw_40 rfl ?_
  refine va_get (D := G.1) (ci := 8) (v := .int (zi (dr : Int))) (C := RX8) (T := TX8) (N := 10) hx hb hts hw8 hown hE.1 hP k0 he rfl 2 (by decide) hf34 (fun _ h9 => h9) rfl dX8_draw_41 ?_
  refine lv_iconst (v := zi 1) hx hb dX8_draw_44 rfl ?_
  refine lv_iadd hx hb dX8_draw_45 (zti (v := zi ((dr : Int) + 1)) (zi_add _ _) ?_)
  refine va_put (D := G.1) (ci := 8) (v := .int (zi ((dr : Int) + 1))) (ty := tyX8 2) (C := RX8) (T := TX8) (N := 10) hx hb hts hw8 tyX8 tyX8_ok nmX8 hown hE.1 hP hD hS k0 he rfl 2 (by decide) hf34 (fun _ h9 => h9) rfl (by decide +kernel) rfl rfl (Nat.le_of_ble_eq_true rfl) dX8_draw_46 (fun H locs hP hD hS => ?_)
  have hP : va_P G.1 vwCl (W0.set k0 (a0, .inr (8, [f0, .ref (zsb G), .int (zi ((dr : Int) + 1)), f3, f4, f5, f6, f7, f8, f9]))) H := hP
  have hD : va_D A (W0.set k0 (a0, .inr (8, [f0, .ref (zsb G), .int (zi ((dr : Int) + 1)), f3, f4, f5, f6, f7, f8, f9]))) := hD
  refine lv_iload_n hx hb dX8_draw_49 rfl (lv_at hl 0 rfl) ?_
  exact zend_i hx hb hr hlocks hP hD hS (Nat.le_of_ble_eq_true rfl) (Nat.le_of_ble_eq_true rfl) dX8_draw_50 ⟨_, rfl, hv2, rfl⟩
