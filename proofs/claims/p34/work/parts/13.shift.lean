/-! walls: what changes their order -/
theorem dX6_shift_0 : decode cX6_shift 0 = .ok (.aload_n 0, 1) := by decide +kernel
theorem dX6_shift_1 : decode cX6_shift 1 = .ok (.getfield 11, 3) := by decide +kernel
theorem dX6_shift_4 : decode cX6_shift 4 = .ok (.iload_n 1, 1) := by decide +kernel
theorem dX6_shift_5 : decode cX6_shift 5 = .ok (.aaload, 1) := by decide +kernel
theorem dX6_shift_6 : decode cX6_shift 6 = .ok (.astore_n 3, 1) := by decide +kernel
theorem dX6_shift_7 : decode cX6_shift 7 = .ok (.iload_n 1, 1) := by decide +kernel
theorem dX6_shift_8 : decode cX6_shift 8 = .ok (.istore 4, 2) := by decide +kernel
theorem dX6_shift_10 : decode cX6_shift 10 = .ok (.iload 4, 2) := by decide +kernel
theorem dX6_shift_12 : decode cX6_shift 12 = .ok (.iload_n 2, 1) := by decide +kernel
theorem dX6_shift_13 : decode cX6_shift 13 = .ok (.if_icmp .ge 25, 3) := by decide +kernel
theorem dX6_shift_38 : decode cX6_shift 38 = .ok (.iload_n 1, 1) := by decide +kernel
theorem dX6_shift_39 : decode cX6_shift 39 = .ok (.istore 4, 2) := by decide +kernel
theorem dX6_shift_41 : decode cX6_shift 41 = .ok (.iload 4, 2) := by decide +kernel
theorem dX6_shift_43 : decode cX6_shift 43 = .ok (.iload_n 2, 1) := by decide +kernel
theorem dX6_shift_44 : decode cX6_shift 44 = .ok (.if_icmp .le 25, 3) := by decide +kernel
theorem dX6_shift_69 : decode cX6_shift 69 = .ok (.aload_n 0, 1) := by decide +kernel
theorem dX6_shift_70 : decode cX6_shift 70 = .ok (.getfield 11, 3) := by decide +kernel
theorem dX6_shift_73 : decode cX6_shift 73 = .ok (.iload_n 2, 1) := by decide +kernel
theorem dX6_shift_74 : decode cX6_shift 74 = .ok (.aload_n 3, 1) := by decide +kernel
theorem dX6_shift_75 : decode cX6_shift 75 = .ok (.aastore, 1) := by decide +kernel
theorem dX6_shift_76 : decode cX6_shift 76 = .ok (.return_, 1) := by decide +kernel
theorem dX6_shift_47 : decode cX6_shift 47 = .ok (.aload_n 0, 1) := by decide +kernel
theorem dX6_shift_48 : decode cX6_shift 48 = .ok (.getfield 11, 3) := by decide +kernel
theorem dX6_shift_51 : decode cX6_shift 51 = .ok (.iload 4, 2) := by decide +kernel
theorem dX6_shift_53 : decode cX6_shift 53 = .ok (.aload_n 0, 1) := by decide +kernel
theorem dX6_shift_54 : decode cX6_shift 54 = .ok (.getfield 11, 3) := by decide +kernel
theorem dX6_shift_57 : decode cX6_shift 57 = .ok (.iload 4, 2) := by decide +kernel
theorem dX6_shift_59 : decode cX6_shift 59 = .ok (.iconst 1, 1) := by decide +kernel
theorem dX6_shift_60 : decode cX6_shift 60 = .ok (.isub, 1) := by decide +kernel
theorem dX6_shift_61 : decode cX6_shift 61 = .ok (.aaload, 1) := by decide +kernel
theorem dX6_shift_62 : decode cX6_shift 62 = .ok (.aastore, 1) := by decide +kernel
theorem dX6_shift_63 : decode cX6_shift 63 = .ok (.iinc 4 (-1), 3) := by decide +kernel
theorem dX6_shift_66 : decode cX6_shift 66 = .ok (.goto (-25), 3) := by decide +kernel
theorem dX6_shift_16 : decode cX6_shift 16 = .ok (.aload_n 0, 1) := by decide +kernel
theorem dX6_shift_17 : decode cX6_shift 17 = .ok (.getfield 11, 3) := by decide +kernel
theorem dX6_shift_20 : decode cX6_shift 20 = .ok (.iload 4, 2) := by decide +kernel
theorem dX6_shift_22 : decode cX6_shift 22 = .ok (.aload_n 0, 1) := by decide +kernel
theorem dX6_shift_23 : decode cX6_shift 23 = .ok (.getfield 11, 3) := by decide +kernel
theorem dX6_shift_26 : decode cX6_shift 26 = .ok (.iload 4, 2) := by decide +kernel
theorem dX6_shift_28 : decode cX6_shift 28 = .ok (.iconst 1, 1) := by decide +kernel
theorem dX6_shift_29 : decode cX6_shift 29 = .ok (.iadd, 1) := by decide +kernel
theorem dX6_shift_30 : decode cX6_shift 30 = .ok (.aaload, 1) := by decide +kernel
theorem dX6_shift_31 : decode cX6_shift 31 = .ok (.aastore, 1) := by decide +kernel
theorem dX6_shift_32 : decode cX6_shift 32 = .ok (.iinc 4 1, 3) := by decide +kernel
theorem dX6_shift_35 : decode cX6_shift 35 = .ok (.goto (-25), 3) := by decide +kernel
set_option maxHeartbeats 4000000 in
set_option maxRecDepth 100000 in
/-- shift -/
theorem c_X6_shift (l : Launch) (G : zG) (ad : Nat → Nat) (X : Nat → Nat → Int) (a : Nat) (x : Nat) (y : Nat) (hV : zV X) (hW : zIsW a) (hx8 : x < 8) (hy8 : y < 8) : zR l G yX6_shift wsX6_shift { frames := 0, cells := 0, slots := 0, locals := 0 } (zpic G ad X) [.ref (ad a), .int (zi (x : Int)), .int (zi (y : Int))] (zv G ad (fun Y => (∀ c : Nat, c ≠ a + 1 → Y c = X c) ∧ ∀ j : Nat, Y (a + 1) j = X (a + 1) (zShf x y j))) 0 0 := by
  refine zR_of (cc := cX6_shift) (maxL := 5) (rt := none) (by decide) rfl (Nat.le_of_ble_eq_true rfl) ?_
  intro p e s m below meth c A ls hx hb hml hr hts hown hlocks hin0 hA hE hP hD hS hl
  have hl : lv_has ls 5 [(0, .ref (ad a)), (1, .int (zi (x : Int))), (2, .int (zi (y : Int)))] := hl
  have hown : s.vm.findClass RX6 = some m.cls := hown
  have hw6 : ∀ w ∈ u_ws RX6 TX6 3, w ∈ wsX6_shift := by decide +kernel
  have hf11 := hts (.fieldLink RX6 11 "Nettle$Wall" "rows" "[LNettle$Rule;") (by decide +kernel)
  refine lv_aload_n hx hb dX6_shift_0 rfl (lv_at hl 0 rfl) ?_
  refine va_get (D := G.1) (ci := 6) (v := .ref (ad (a + 1))) (C := RX6) (T := TX6) (N := 3) hx hb hts hw6 hown hE.1 hP a (p_w hW) rfl 0 (by decide) hf11 (fun _ h9 => h9) rfl dX6_shift_1 ?_
  refine lv_iload_n hx hb dX6_shift_4 rfl (lv_at hl 1 rfl) ?_
  refine zqld hx hb hE hP hW x rfl (by omega) dX6_shift_5 ?_
  have hR1 : zIsR (zr X a x) := hV.isR hW (by omega)
  refine lv_astore_n (lv' := [(3, .ref (ad (zr X a x))), (0, .ref (ad a)), (1, .int (zi (x : Int))), (2, .int (zi (y : Int)))]) hx hb dX6_shift_6 rfl hl (by decide) rfl (fun ls hl => ?_)
  refine lv_iload_n hx hb dX6_shift_7 rfl (lv_at hl 2 rfl) ?_
  refine lv_istore (lv' := [(4, .int (zi (x : Int))), (3, .ref (ad (zr X a x))), (0, .ref (ad a)), (1, .int (zi (x : Int))), (2, .int (zi (y : Int)))]) hx hb dX6_shift_8 hl (by decide) rfl (fun ls hl => ?_)
  refine zloop2 (fun (k : Nat) (Y : Nat → Nat → Int) => 8 - k) (fun (k : Nat) (Y : Nat → Nat → Int) (H : Heap) (locs : List Loc) (ls : Array Slot) => va_P G.1 vwCl (zpic G ad Y) H ∧ va_D A (zpic G ad Y) ∧ va_S A s.heap H locs ∧ lv_has ls 5 [(4, .int (zi (k : Int))), (3, .ref (ad (zr X a x))), (2, .int (zi (y : Int))), (1, .int (zi (x : Int))), (0, .ref (ad a))] ∧ (x ≤ k ∧ (k ≤ y ∨ k = x)) ∧ (∀ c : Nat, c ≠ a + 1 → Y c = X c) ∧ (∀ j : Nat, Y (a + 1) j = X (a + 1) (if x ≤ j ∧ j < k then j + 1 else j))) ?_ x X ⟨hP, hD, hS, lv_sub hl [0, 1, 4, 3, 2] rfl, (by omega), (fun c h1 => rfl), (fun j => by rw [if_neg (by omega)])⟩
  intro k Y ih H locs ls ⟨hP, hD, hS, hl, hk, hy, hw⟩
  refine lv_iload hx hb dX6_shift_10 (lv_at hl 0 rfl) ?_
  refine lv_iload_n hx hb dX6_shift_12 rfl (lv_at hl 2 rfl) ?_
  refine zc_ge (tgt := 38) hx hb dX6_shift_13 (by decide) (by omega) (by omega) (fun h13 => ?_) (fun h13 => ?_)
  · refine lv_iload_n hx hb dX6_shift_38 rfl (lv_at hl 3 rfl) ?_
    refine lv_istore (lv' := [(4, .int (zi (x : Int))), (3, .ref (ad (zr X a x))), (2, .int (zi (y : Int))), (1, .int (zi (x : Int))), (0, .ref (ad a))]) hx hb dX6_shift_39 hl (by decide) rfl (fun ls hl => ?_)
    refine zloop2 (fun (k : Nat) (Y : Nat → Nat → Int) => k) (fun (k : Nat) (Y : Nat → Nat → Int) (H : Heap) (locs : List Loc) (ls : Array Slot) => va_P G.1 vwCl (zpic G ad Y) H ∧ va_D A (zpic G ad Y) ∧ va_S A s.heap H locs ∧ lv_has ls 5 [(4, .int (zi (k : Int))), (3, .ref (ad (zr X a x))), (2, .int (zi (y : Int))), (1, .int (zi (x : Int))), (0, .ref (ad a))] ∧ (k ≤ x ∧ (y ≤ k ∨ k = x)) ∧ (∀ c : Nat, c ≠ a + 1 → Y c = X c) ∧ (∀ j : Nat, Y (a + 1) j = X (a + 1) (if x ≤ j ∧ j < y then j + 1 else if k < j ∧ j ≤ x then j - 1 else j))) ?_ x Y ⟨hP, hD, hS, lv_sub hl [0, 1, 2, 3, 4] rfl, (by omega), hy, (fun j => by rw [hw j]; by_cases h2 : x ≤ j ∧ j < k; (rw [if_pos h2, if_pos (by omega)]); (rw [if_neg h2, if_neg (by omega), if_neg (by omega)]))⟩
    intro k Y ih41 H locs ls ⟨hP, hD, hS, hl, hk, hy, hw⟩
    refine lv_iload hx hb dX6_shift_41 (lv_at hl 0 rfl) ?_
    refine lv_iload_n hx hb dX6_shift_43 rfl (lv_at hl 2 rfl) ?_
    refine zc_le (tgt := 69) hx hb dX6_shift_44 (by decide) (by omega) (by omega) (fun h44 => ?_) (fun h44 => ?_)
    · refine lv_aload_n hx hb dX6_shift_69 rfl (lv_at hl 4 rfl) ?_
      refine va_get (D := G.1) (ci := 6) (v := .ref (ad (a + 1))) (C := RX6) (T := TX6) (N := 3) hx hb hts hw6 hown hE.1 hP a (p_w hW) rfl 0 (by decide) hf11 (fun _ h9 => h9) rfl dX6_shift_70 ?_
      refine lv_iload_n hx hb dX6_shift_73 rfl (lv_at hl 2 rfl) ?_
      refine lv_aload_n hx hb dX6_shift_74 rfl (lv_at hl 1 rfl) ?_
      refine zqst hx hb hE hP hD hS hW y rfl (by omega) ((X (a + 1) x).toNat) (hV.slot hW hx8) dX6_shift_75 (fun H locs hP hD hS => ?_)
      exact zend_v hx hb hr hlocks hP hD hS (Nat.le_of_ble_eq_true rfl) (Nat.le_of_ble_eq_true rfl) dX6_shift_76 ⟨_, rfl, ⟨fun c h1 => by rw [zw_cell h1]; exact hy c h1, fun j => by have h8 := (hV.wok hW).2.2.1 x hx8; unfold zShf; rw [zw_get]; by_cases hj : j = y; (rw [if_pos ⟨rfl, hj⟩, if_pos hj]; omega); (rw [if_neg (fun q => hj q.2), if_neg hj, hw j]; have hkk : (k = y ∧ y ≤ x) ∨ x ≤ y := (by omega); by_cases h2 : x ≤ j ∧ j < y; (rw [if_pos h2, if_pos h2]); (rw [if_neg h2, if_neg h2]; by_cases h3 : k < j ∧ j ≤ x; (rw [if_pos h3, if_pos (by omega)]); (rw [if_neg h3, if_neg (by omega)])))⟩, rfl⟩
    · refine lv_aload_n hx hb dX6_shift_47 rfl (lv_at hl 4 rfl) ?_
      refine va_get (D := G.1) (ci := 6) (v := .ref (ad (a + 1))) (C := RX6) (T := TX6) (N := 3) hx hb hts hw6 hown hE.1 hP a (p_w hW) rfl 0 (by decide) hf11 (fun _ h9 => h9) rfl dX6_shift_48 ?_
      refine lv_iload hx hb dX6_shift_51 (lv_at hl 0 rfl) ?_
      refine lv_aload_n hx hb dX6_shift_53 rfl (lv_at hl 4 rfl) ?_
      refine va_get (D := G.1) (ci := 6) (v := .ref (ad (a + 1))) (C := RX6) (T := TX6) (N := 3) hx hb hts hw6 hown hE.1 hP a (p_w hW) rfl 0 (by decide) hf11 (fun _ h9 => h9) rfl dX6_shift_54 ?_
      refine lv_iload hx hb dX6_shift_57 (lv_at hl 0 rfl) ?_
      refine lv_iconst (v := zi 1) hx hb dX6_shift_59 rfl ?_
      refine lv_isub hx hb dX6_shift_60 (zti (v := zi ((k : Int) - 1)) (zi_sub _ _) ?_)
      refine zqld hx hb hE hP hW (k - 1) (by omega) (by omega) dX6_shift_61 ?_
      have hst : (((Y (a + 1) (k - 1)).toNat : Nat) : Int) = X (a + 1) (k - 1) := by have h7 := hw (k - 1); rw [if_neg (by omega), if_neg (by omega)] at h7; have h8 := (hV.wok hW).2.2.1 (k - 1) (by omega); omega
      have hs8 : (Y (a + 1) (k - 1)).toNat < 8 := by have h8 := (hV.wok hW).2.2.1 (k - 1) (by omega); omega
      refine zqst hx hb hE hP hD hS hW k rfl (by omega) ((Y (a + 1) (k - 1)).toNat) hs8 dX6_shift_62 (fun H locs hP hD hS => ?_)
      refine lv_iinc (v := zi ((k : Int) + (-1))) (lv' := [(4, .int (zi ((k : Int) + (-1)))), (3, .ref (ad (zr X a x))), (2, .int (zi (y : Int))), (1, .int (zi (x : Int))), (0, .ref (ad a))]) hx hb dX6_shift_63 hl (k := 0) rfl (zi_add _ _) (by decide) rfl (fun ls hl => ?_)
      refine lv_goto (tgt := 41) hx hb dX6_shift_66 (by decide) ?_
      have e9 : (k : Int) + (-1) = ((k - 1 : Nat) : Int) := by omega
      rw [e9] at hl
      exact ih41 (k - 1) (zw Y (a + 1) k (((Y (a + 1) (k - 1)).toNat : Nat) : Int)) (by omega) H locs ls ⟨hP, hD, hS, lv_sub hl [0, 1, 2, 3, 4] rfl, (by omega), (fun c h1 => by rw [zw_cell h1]; exact hy c h1), (fun j => by rw [zw_get]; by_cases hj : j = k; (rw [if_pos ⟨rfl, hj⟩, if_neg (by omega), if_pos (by omega), hj]; exact hst); (rw [if_neg (fun q => hj q.2), hw j]; by_cases h2 : x ≤ j ∧ j < y; (rw [if_pos h2, if_pos h2]); (rw [if_neg h2, if_neg h2]; by_cases h3 : k < j ∧ j ≤ x; (rw [if_pos h3, if_pos (by omega)]); (rw [if_neg h3, if_neg (by omega)]))))⟩
  · refine lv_aload_n hx hb dX6_shift_16 rfl (lv_at hl 4 rfl) ?_
    refine va_get (D := G.1) (ci := 6) (v := .ref (ad (a + 1))) (C := RX6) (T := TX6) (N := 3) hx hb hts hw6 hown hE.1 hP a (p_w hW) rfl 0 (by decide) hf11 (fun _ h9 => h9) rfl dX6_shift_17 ?_
    refine lv_iload hx hb dX6_shift_20 (lv_at hl 0 rfl) ?_
    refine lv_aload_n hx hb dX6_shift_22 rfl (lv_at hl 4 rfl) ?_
    refine va_get (D := G.1) (ci := 6) (v := .ref (ad (a + 1))) (C := RX6) (T := TX6) (N := 3) hx hb hts hw6 hown hE.1 hP a (p_w hW) rfl 0 (by decide) hf11 (fun _ h9 => h9) rfl dX6_shift_23 ?_
    refine lv_iload hx hb dX6_shift_26 (lv_at hl 0 rfl) ?_
    refine lv_iconst (v := zi 1) hx hb dX6_shift_28 rfl ?_
    refine lv_iadd hx hb dX6_shift_29 (zti (v := zi ((k : Int) + 1)) (zi_add _ _) ?_)
    refine zqld hx hb hE hP hW (k + 1) rfl (by omega) dX6_shift_30 ?_
    have hst : (((Y (a + 1) (k + 1)).toNat : Nat) : Int) = X (a + 1) (k + 1) := by have h7 := hw (k + 1); rw [if_neg (by omega)] at h7; have h8 := (hV.wok hW).2.2.1 (k + 1) (by omega); omega
    have hs8 : (Y (a + 1) (k + 1)).toNat < 8 := by have h8 := (hV.wok hW).2.2.1 (k + 1) (by omega); omega
    refine zqst hx hb hE hP hD hS hW k rfl (by omega) ((Y (a + 1) (k + 1)).toNat) hs8 dX6_shift_31 (fun H locs hP hD hS => ?_)
    refine lv_iinc (v := zi ((k : Int) + 1)) (lv' := [(4, .int (zi ((k : Int) + 1))), (3, .ref (ad (zr X a x))), (2, .int (zi (y : Int))), (1, .int (zi (x : Int))), (0, .ref (ad a))]) hx hb dX6_shift_32 hl (k := 0) rfl (zi_add _ _) (by decide) rfl (fun ls hl => ?_)
    refine lv_goto (tgt := 10) hx hb dX6_shift_35 (by decide) ?_
    exact ih (k + 1) (zw Y (a + 1) k (((Y (a + 1) (k + 1)).toNat : Nat) : Int)) (by omega) H locs ls ⟨hP, hD, hS, lv_sub hl [0, 1, 2, 3, 4] rfl, (by omega), (fun c h1 => by rw [zw_cell h1]; exact hy c h1), (fun j => by rw [zw_get]; by_cases hj : j = k; (rw [if_pos ⟨rfl, hj⟩, if_pos (by omega), hj]; exact hst); (rw [if_neg (fun q => hj q.2), hw j]; by_cases h2 : x ≤ j ∧ j < k; (rw [if_pos h2, if_pos (by omega)]); (rw [if_neg h2, if_neg (by omega)])))⟩
