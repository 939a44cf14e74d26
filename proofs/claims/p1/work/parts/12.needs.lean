/-! Nettle: what the calls need -/
theorem dX7_needVerdict_0 : decode cX7_needVerdict 0 = .ok (.iload_n 0, 1) := by decide +kernel
theorem dX7_needVerdict_1 : decode cX7_needVerdict 1 = .ok (.ifCond .lt 8, 3) := by decide +kernel
theorem dX7_needVerdict_4 : decode cX7_needVerdict 4 = .ok (.iload_n 0, 1) := by decide +kernel
theorem dX7_needVerdict_5 : decode cX7_needVerdict 5 = .ok (.iconst 2, 1) := by decide +kernel
theorem dX7_needVerdict_6 : decode cX7_needVerdict 6 = .ok (.if_icmp .le 14, 3) := by decide +kernel
theorem dX7_needVerdict_20 : decode cX7_needVerdict 20 = .ok (.return_, 1) := by decide +kernel
theorem dX7_needVerdict_9 : decode cX7_needVerdict 9 = .ok (.new 99, 3) := by decide +kernel
theorem dX7_needVerdict_12 : decode cX7_needVerdict 12 = .ok (.dup, 1) := by decide +kernel
theorem dX7_needVerdict_13 : decode cX7_needVerdict 13 = .ok (.ldc_w 362, 3) := by decide +kernel
theorem dX7_needVerdict_16 : decode cX7_needVerdict 16 = .ok (.invokespecial 103, 3) := by decide +kernel
theorem dX7_needVerdict_19 : decode cX7_needVerdict 19 = .ok (.athrow, 1) := by decide +kernel
theorem dX7_needRule_0 : decode cX7_needRule 0 = .ok (.iload_n 1, 1) := by decide +kernel
theorem dX7_needRule_1 : decode cX7_needRule 1 = .ok (.ifCond .lt 14, 3) := by decide +kernel
theorem dX7_needRule_15 : decode cX7_needRule 15 = .ok (.new 90, 3) := by decide +kernel
theorem dX7_needRule_18 : decode cX7_needRule 18 = .ok (.dup, 1) := by decide +kernel
theorem dX7_needRule_19 : decode cX7_needRule 19 = .ok (.ldc_w 358, 3) := by decide +kernel
theorem dX7_needRule_22 : decode cX7_needRule 22 = .ok (.invokespecial 94, 3) := by decide +kernel
theorem dX7_needRule_25 : decode cX7_needRule 25 = .ok (.athrow, 1) := by decide +kernel
theorem dX7_needRule_4 : decode cX7_needRule 4 = .ok (.iload_n 1, 1) := by decide +kernel
theorem dX7_needRule_5 : decode cX7_needRule 5 = .ok (.aload_n 0, 1) := by decide +kernel
theorem dX7_needRule_6 : decode cX7_needRule 6 = .ok (.getfield 10, 3) := by decide +kernel
theorem dX7_needRule_9 : decode cX7_needRule 9 = .ok (.getfield 70, 3) := by decide +kernel
theorem dX7_needRule_12 : decode cX7_needRule 12 = .ok (.if_icmp .lt 14, 3) := by decide +kernel
theorem dX7_needWhat_0 : decode cX7_needWhat 0 = .ok (.iload_n 0, 1) := by decide +kernel
theorem dX7_needWhat_1 : decode cX7_needWhat 1 = .ok (.ifCond .lt 8, 3) := by decide +kernel
theorem dX7_needWhat_4 : decode cX7_needWhat 4 = .ok (.iload_n 0, 1) := by decide +kernel
theorem dX7_needWhat_5 : decode cX7_needWhat 5 = .ok (.iload_n 1, 1) := by decide +kernel
theorem dX7_needWhat_6 : decode cX7_needWhat 6 = .ok (.if_icmp .le 14, 3) := by decide +kernel
theorem dX7_needWhat_20 : decode cX7_needWhat 20 = .ok (.return_, 1) := by decide +kernel
theorem dX7_needWhat_9 : decode cX7_needWhat 9 = .ok (.new 99, 3) := by decide +kernel
theorem dX7_needWhat_12 : decode cX7_needWhat 12 = .ok (.dup, 1) := by decide +kernel
theorem dX7_needWhat_13 : decode cX7_needWhat 13 = .ok (.ldc_w 364, 3) := by decide +kernel
theorem dX7_needWhat_16 : decode cX7_needWhat 16 = .ok (.invokespecial 103, 3) := by decide +kernel
theorem dX7_needWhat_19 : decode cX7_needWhat 19 = .ok (.athrow, 1) := by decide +kernel
theorem dX7_needNode_0 : decode cX7_needNode 0 = .ok (.iload_n 1, 1) := by decide +kernel
theorem dX7_needNode_1 : decode cX7_needNode 1 = .ok (.ifCond .lt 11, 3) := by decide +kernel
theorem dX7_needNode_12 : decode cX7_needNode 12 = .ok (.new 90, 3) := by decide +kernel
theorem dX7_needNode_15 : decode cX7_needNode 15 = .ok (.dup, 1) := by decide +kernel
theorem dX7_needNode_16 : decode cX7_needNode 16 = .ok (.ldc_w 360, 3) := by decide +kernel
theorem dX7_needNode_19 : decode cX7_needNode 19 = .ok (.invokespecial 94, 3) := by decide +kernel
theorem dX7_needNode_22 : decode cX7_needNode 22 = .ok (.athrow, 1) := by decide +kernel
theorem dX7_needNode_4 : decode cX7_needNode 4 = .ok (.iload_n 1, 1) := by decide +kernel
theorem dX7_needNode_5 : decode cX7_needNode 5 = .ok (.aload_n 0, 1) := by decide +kernel
theorem dX7_needNode_6 : decode cX7_needNode 6 = .ok (.getfield 193, 3) := by decide +kernel
theorem dX7_needNode_9 : decode cX7_needNode 9 = .ok (.if_icmp .lt 14, 3) := by decide +kernel
theorem dX7_isValue_0 : decode cX7_isValue 0 = .ok (.iload_n 1, 1) := by decide +kernel
theorem dX7_isValue_1 : decode cX7_isValue 1 = .ok (.ifCond .lt 16, 3) := by decide +kernel
theorem dX7_isValue_4 : decode cX7_isValue 4 = .ok (.iload_n 1, 1) := by decide +kernel
theorem dX7_isValue_5 : decode cX7_isValue 5 = .ok (.getstatic 366, 3) := by decide +kernel
theorem dX7_isValue_8 : decode cX7_isValue 8 = .ok (.iload_n 0, 1) := by decide +kernel
theorem dX7_isValue_9 : decode cX7_isValue 9 = .ok (.iaload, 1) := by decide +kernel
theorem dX7_isValue_10 : decode cX7_isValue 10 = .ok (.if_icmp .ge 7, 3) := by decide +kernel
theorem dX7_isValue_13 : decode cX7_isValue 13 = .ok (.iconst 1, 1) := by decide +kernel
theorem dX7_isValue_14 : decode cX7_isValue 14 = .ok (.goto 4, 3) := by decide +kernel
theorem dX7_isValue_18 : decode cX7_isValue 18 = .ok (.ireturn, 1) := by decide +kernel
theorem dX7_isValue_17 : decode cX7_isValue 17 = .ok (.iconst 0, 1) := by decide +kernel
theorem dX7_takePacket_0 : decode cX7_takePacket 0 = .ok (.iconst 0, 1) := by decide +kernel
theorem dX7_takePacket_1 : decode cX7_takePacket 1 = .ok (.iload_n 1, 1) := by decide +kernel
set_option maxRecDepth 20000 in
theorem ggX7_takePacket_X7_isValue : GoodIn wsX7_takePacket wsX7_isValue := goodIn_r _ [7, 8] (by decide +kernel) (by decide +kernel)
set_option maxRecDepth 20000 in
theorem gX7_takePacket_X7_isValue : GoodIn wsX7_takePacket (va_wsS RX7 95 yX7_isValue wsX7_isValue) := goodIn_app (goodIn_of _ (by decide +kernel)) ggX7_takePacket_X7_isValue
theorem dX7_takePacket_2 : decode cX7_takePacket 2 = .ok (.invokestatic 95, 3) := by decide +kernel
theorem dX7_takePacket_5 : decode cX7_takePacket 5 = .ok (.ifCond .eq 28, 3) := by decide +kernel
theorem dX7_takePacket_8 : decode cX7_takePacket 8 = .ok (.iconst 1, 1) := by decide +kernel
theorem dX7_takePacket_9 : decode cX7_takePacket 9 = .ok (.iload_n 2, 1) := by decide +kernel
theorem dX7_takePacket_10 : decode cX7_takePacket 10 = .ok (.invokestatic 95, 3) := by decide +kernel
theorem dX7_takePacket_13 : decode cX7_takePacket 13 = .ok (.ifCond .eq 20, 3) := by decide +kernel
theorem dX7_takePacket_16 : decode cX7_takePacket 16 = .ok (.iconst 2, 1) := by decide +kernel
theorem dX7_takePacket_17 : decode cX7_takePacket 17 = .ok (.iload_n 3, 1) := by decide +kernel
theorem dX7_takePacket_18 : decode cX7_takePacket 18 = .ok (.invokestatic 95, 3) := by decide +kernel
theorem dX7_takePacket_21 : decode cX7_takePacket 21 = .ok (.ifCond .eq 12, 3) := by decide +kernel
theorem dX7_takePacket_24 : decode cX7_takePacket 24 = .ok (.iconst 3, 1) := by decide +kernel
theorem dX7_takePacket_25 : decode cX7_takePacket 25 = .ok (.iload 4, 2) := by decide +kernel
theorem dX7_takePacket_27 : decode cX7_takePacket 27 = .ok (.invokestatic 95, 3) := by decide +kernel
theorem dX7_takePacket_30 : decode cX7_takePacket 30 = .ok (.ifCond .ne 14, 3) := by decide +kernel
theorem dX7_takePacket_44 : decode cX7_takePacket 44 = .ok (.aload_n 0, 1) := by decide +kernel
theorem dX7_takePacket_45 : decode cX7_takePacket 45 = .ok (.getfield 62, 3) := by decide +kernel
theorem dX7_takePacket_48 : decode cX7_takePacket 48 = .ok (.iconst 0, 1) := by decide +kernel
theorem dX7_takePacket_49 : decode cX7_takePacket 49 = .ok (.iload_n 1, 1) := by decide +kernel
theorem dX7_takePacket_50 : decode cX7_takePacket 50 = .ok (.iastore, 1) := by decide +kernel
theorem dX7_takePacket_51 : decode cX7_takePacket 51 = .ok (.aload_n 0, 1) := by decide +kernel
theorem dX7_takePacket_52 : decode cX7_takePacket 52 = .ok (.getfield 62, 3) := by decide +kernel
theorem dX7_takePacket_55 : decode cX7_takePacket 55 = .ok (.iconst 1, 1) := by decide +kernel
theorem dX7_takePacket_56 : decode cX7_takePacket 56 = .ok (.iload_n 2, 1) := by decide +kernel
theorem dX7_takePacket_57 : decode cX7_takePacket 57 = .ok (.iastore, 1) := by decide +kernel
theorem dX7_takePacket_58 : decode cX7_takePacket 58 = .ok (.aload_n 0, 1) := by decide +kernel
theorem dX7_takePacket_59 : decode cX7_takePacket 59 = .ok (.getfield 62, 3) := by decide +kernel
theorem dX7_takePacket_62 : decode cX7_takePacket 62 = .ok (.iconst 2, 1) := by decide +kernel
theorem dX7_takePacket_63 : decode cX7_takePacket 63 = .ok (.iload_n 3, 1) := by decide +kernel
theorem dX7_takePacket_64 : decode cX7_takePacket 64 = .ok (.iastore, 1) := by decide +kernel
theorem dX7_takePacket_65 : decode cX7_takePacket 65 = .ok (.aload_n 0, 1) := by decide +kernel
theorem dX7_takePacket_66 : decode cX7_takePacket 66 = .ok (.getfield 62, 3) := by decide +kernel
theorem dX7_takePacket_69 : decode cX7_takePacket 69 = .ok (.iconst 3, 1) := by decide +kernel
theorem dX7_takePacket_70 : decode cX7_takePacket 70 = .ok (.iload 4, 2) := by decide +kernel
theorem dX7_takePacket_72 : decode cX7_takePacket 72 = .ok (.iastore, 1) := by decide +kernel
theorem dX7_takePacket_73 : decode cX7_takePacket 73 = .ok (.return_, 1) := by decide +kernel
theorem dX7_takePacket_33 : decode cX7_takePacket 33 = .ok (.new 99, 3) := by decide +kernel
theorem dX7_takePacket_36 : decode cX7_takePacket 36 = .ok (.dup, 1) := by decide +kernel
theorem dX7_takePacket_37 : decode cX7_takePacket 37 = .ok (.ldc_w 369, 3) := by decide +kernel
theorem dX7_takePacket_40 : decode cX7_takePacket 40 = .ok (.invokespecial 103, 3) := by decide +kernel
theorem dX7_takePacket_43 : decode cX7_takePacket 43 = .ok (.athrow, 1) := by decide +kernel
theorem dX7_outdate_0 : decode cX7_outdate 0 = .ok (.aload_n 0, 1) := by decide +kernel
theorem dX7_outdate_1 : decode cX7_outdate 1 = .ok (.getfield 24, 3) := by decide +kernel
theorem dX7_outdate_4 : decode cX7_outdate 4 = .ok (.iconst 0, 1) := by decide +kernel
theorem dX7_outdate_5 : decode cX7_outdate 5 = .ok (.putfield 371, 3) := by decide +kernel
theorem dX7_outdate_8 : decode cX7_outdate 8 = .ok (.aload_n 0, 1) := by decide +kernel
theorem dX7_outdate_9 : decode cX7_outdate 9 = .ok (.getfield 33, 3) := by decide +kernel
theorem dX7_outdate_12 : decode cX7_outdate 12 = .ok (.iconst 0, 1) := by decide +kernel
theorem dX7_outdate_13 : decode cX7_outdate 13 = .ok (.putfield 374, 3) := by decide +kernel
theorem dX7_outdate_16 : decode cX7_outdate 16 = .ok (.aload_n 0, 1) := by decide +kernel
theorem dX7_outdate_17 : decode cX7_outdate 17 = .ok (.getfield 42, 3) := by decide +kernel
theorem dX7_outdate_20 : decode cX7_outdate 20 = .ok (.iconst 0, 1) := by decide +kernel
theorem dX7_outdate_21 : decode cX7_outdate 21 = .ok (.putfield 375, 3) := by decide +kernel
theorem dX7_outdate_24 : decode cX7_outdate 24 = .ok (.aload_n 0, 1) := by decide +kernel
theorem dX7_outdate_25 : decode cX7_outdate 25 = .ok (.getfield 51, 3) := by decide +kernel
theorem dX7_outdate_28 : decode cX7_outdate 28 = .ok (.iconst 0, 1) := by decide +kernel
theorem dX7_outdate_29 : decode cX7_outdate 29 = .ok (.putfield 376, 3) := by decide +kernel
theorem dX7_outdate_32 : decode cX7_outdate 32 = .ok (.return_, 1) := by decide +kernel
theorem dX7_surveyed_0 : decode cX7_surveyed 0 = .ok (.aload_n 0, 1) := by decide +kernel
theorem dX7_surveyed_1 : decode cX7_surveyed 1 = .ok (.getfield 24, 3) := by decide +kernel
set_option maxRecDepth 20000 in
theorem ggX7_surveyed_X4_refresh : GoodIn wsX7_surveyed wsX4_refresh := goodIn_r _ [6, 7, 8, 9, 10, 11, 12, 13, 5, 14, 15, 16, 17, 18, 19, 20, 21, 22, 23, 24, 25, 26, 27, 28, 29, 30, 31, 32, 33, 34, 35, 36, 37, 38, 39, 40, 49, 50, 51, 52, 53, 54, 55, 56, 57, 58, 59, 60] (by decide +kernel) (by decide +kernel)
set_option maxRecDepth 20000 in
theorem gX7_surveyed_X4_refresh : GoodIn wsX7_surveyed (wsV RX7 377 RX4 yX4_refresh wsX4_refresh) := goodIn_app (goodIn_of _ (by decide +kernel)) ggX7_surveyed_X4_refresh
theorem dX7_surveyed_4 : decode cX7_surveyed 4 = .ok (.invokevirtual 377, 3) := by decide +kernel
theorem dX7_surveyed_7 : decode cX7_surveyed 7 = .ok (.aload_n 0, 1) := by decide +kernel
theorem dX7_surveyed_8 : decode cX7_surveyed 8 = .ok (.getfield 24, 3) := by decide +kernel
theorem dX7_surveyed_11 : decode cX7_surveyed 11 = .ok (.areturn, 1) := by decide +kernel
/-- a packet of values -/
def zOk (p0 p1 p2 p3 : Int32) : Prop := ((¬ p0 < 0 ∧ ¬ 256 ≤ p0) ∧ (¬ p1 < 0 ∧ ¬ 256 ≤ p1)) ∧ ((¬ p2 < 0 ∧ ¬ 1024 ≤ p2) ∧ (¬ p3 < 0 ∧ ¬ 4 ≤ p3))
/-- one that isn't: which value is the first that is none -/
def zBad (p0 p1 p2 p3 : Int32) : Prop := p0 < 0 ∨ (¬ p0 < 0 ∧ 256 ≤ p0) ∨ ((¬ p0 < 0 ∧ ¬ 256 ≤ p0) ∧ (p1 < 0 ∨ (¬ p1 < 0 ∧ 256 ≤ p1) ∨ ((¬ p1 < 0 ∧ ¬ 256 ≤ p1) ∧ (p2 < 0 ∨ (¬ p2 < 0 ∧ 1024 ≤ p2) ∨ ((¬ p2 < 0 ∧ ¬ 1024 ≤ p2) ∧ (p3 < 0 ∨ (¬ p3 < 0 ∧ 4 ≤ p3)))))))
theorem zOk_or (p0 p1 p2 p3 : Int32) : zOk p0 p1 p2 p3 ∨ zBad p0 p1 p2 p3 := by
  unfold zOk zBad
  by_cases a0 : p0 < 0
  · exact Or.inr (Or.inl a0)
  by_cases b0 : 256 ≤ p0
  · exact Or.inr (Or.inr (Or.inl ⟨a0, b0⟩))
  by_cases a1 : p1 < 0
  · exact Or.inr (Or.inr (Or.inr ⟨⟨a0, b0⟩, Or.inl a1⟩))
  by_cases b1 : 256 ≤ p1
  · exact Or.inr (Or.inr (Or.inr ⟨⟨a0, b0⟩, Or.inr (Or.inl ⟨a1, b1⟩)⟩))
  by_cases a2 : p2 < 0
  · exact Or.inr (Or.inr (Or.inr ⟨⟨a0, b0⟩, Or.inr (Or.inr ⟨⟨a1, b1⟩, Or.inl a2⟩)⟩))
  by_cases b2 : 1024 ≤ p2
  · exact Or.inr (Or.inr (Or.inr ⟨⟨a0, b0⟩, Or.inr (Or.inr ⟨⟨a1, b1⟩, Or.inr (Or.inl ⟨a2, b2⟩)⟩)⟩))
  by_cases a3 : p3 < 0
  · exact Or.inr (Or.inr (Or.inr ⟨⟨a0, b0⟩, Or.inr (Or.inr ⟨⟨a1, b1⟩, Or.inr (Or.inr ⟨⟨a2, b2⟩, Or.inl a3⟩)⟩)⟩))
  by_cases b3 : 4 ≤ p3
  · exact Or.inr (Or.inr (Or.inr ⟨⟨a0, b0⟩, Or.inr (Or.inr ⟨⟨a1, b1⟩, Or.inr (Or.inr ⟨⟨a2, b2⟩, Or.inr ⟨a3, b3⟩⟩)⟩)⟩))
  exact Or.inl ⟨⟨⟨a0, b0⟩, ⟨a1, b1⟩⟩, ⟨⟨a2, b2⟩, ⟨a3, b3⟩⟩⟩

set_option maxHeartbeats 4000000 in
set_option maxRecDepth 100000 in
theorem z_X7_needVerdict (l : Launch) (G : zG) (p0 : Int32) (hv1 : ¬ p0 < 0) (hv2 : p0 ≤ 2) : zR l G yX7_needVerdict wsX7_needVerdict { frames := 0, cells := 0, slots := 0, locals := 0 } [] [.int p0] none (fun u => []) 0 0 := by
  refine zR_of (cc := cX7_needVerdict) (maxL := 1) (rt := none) (by decide) rfl (Nat.le_of_ble_eq_true rfl) ?_
  intro p e s m below meth c A ls hx hb hml hr hts hown hlocks hin hA hE hP hD hS hl
  have hl : lv_has ls 1 [(0, .int p0)] := hl
  have hown : s.vm.findClass RX7 = some m.cls := hown
  have hP : va_P G.1 vwCl [] s.heap := hP
  refine lv_iload_n hx hb dX7_needVerdict_0 rfl (lv_at hl 0 rfl) ?_
  refine lv_if_lt (tgt := 9) hx hb dX7_needVerdict_1 (by decide) (fun h9 => absurd h9 hv1) (fun _ => ?_)
  refine lv_iload_n hx hb dX7_needVerdict_4 rfl (lv_at hl 0 rfl) ?_
  refine lv_iconst (v := 2) hx hb dX7_needVerdict_5 (by decide) ?_
  refine lv_icmp_le (tgt := 20) hx hb dX7_needVerdict_6 (by decide) (fun _ => ?_) (fun h9 => absurd hv2 h9)
  exact zend_v hx hb hr hlocks (fun k => [].getD k 0) hP hD hS (Nat.le_of_ble_eq_true rfl) (Nat.le_of_ble_eq_true rfl) dX7_needVerdict_20

set_option maxHeartbeats 4000000 in
set_option maxRecDepth 100000 in
theorem z_X7_needVerdictT (l : Launch) (G : zG) (p0 : Int32) (hl0 : l.stackTraces = false) (hv : p0 < 0 ∨ (¬ p0 < 0 ∧ ¬ p0 ≤ 2)) : zT l G yX7_needVerdict wsX7_needVerdict { frames := 6, cells := 1, slots := 6, locals := 82 } [] [.int p0] "java/lang/IllegalArgumentException" [] 1 6 := by
  refine zT_of (cc := cX7_needVerdict) (maxL := 1) (rt := none) (by decide) rfl (Nat.le_of_ble_eq_true rfl) ?_
  intro p e s m below meth c A ls hx hb hml hr hts hown hlocks ht hA hE hP hD hS hl
  have hl : lv_has ls 1 [(0, .int p0)] := hl
  have hown : s.vm.findClass RX7 = some m.cls := hown
  have hP : va_P G.1 vwCl [] s.heap := hP
  have hcl99 := hts (.classLink RX7 99 "java/lang/IllegalArgumentException") (by decide +kernel)
  have hiniIllegalArgumentException := hts (.initialized "java/lang/IllegalArgumentException") (by decide +kernel)
  rcases hv with h1 | ⟨h1, h2⟩
  · refine lv_iload_n hx hb dX7_needVerdict_0 rfl (lv_at hl 0 rfl) ?_
    refine lv_if_lt (tgt := 9) hx hb dX7_needVerdict_1 (by decide) (fun _ => ?_) (fun h9 => absurd h1 h9)
    exact zthrowW (ik := 99) (ic := 103) hx hb hl0 hown (by decide +kernel) hcl99 hiniIllegalArgumentException (fun w h => hts w (List.mem_cons_of_mem _ (List.mem_append_right _ h))) (by decide +kernel) (va_Nw.use rfl hE.2.2.2.2.2.2.2.2.2.2.1) (by decide +kernel) (hE.2.2.2.2.2.1 (362, "no such verdict") (by simp)) hE hP hD hS (hl.1.trans hml.symm) dX7_needVerdict_9 dX7_needVerdict_12 dX7_needVerdict_13 dX7_needVerdict_16 dX7_needVerdict_19 ht (Nat.le_of_ble_eq_true rfl) (Nat.le_of_ble_eq_true rfl) (Nat.le_of_ble_eq_true rfl) (Nat.le_of_ble_eq_true rfl) hlocks (Nat.le_of_ble_eq_true rfl) (Nat.le_of_ble_eq_true rfl)
  · refine lv_iload_n hx hb dX7_needVerdict_0 rfl (lv_at hl 0 rfl) ?_
    refine lv_if_lt (tgt := 9) hx hb dX7_needVerdict_1 (by decide) (fun h9 => absurd h9 h1) (fun _ => ?_)
    refine lv_iload_n hx hb dX7_needVerdict_4 rfl (lv_at hl 0 rfl) ?_
    refine lv_iconst (v := 2) hx hb dX7_needVerdict_5 (by decide) ?_
    refine lv_icmp_le (tgt := 20) hx hb dX7_needVerdict_6 (by decide) (fun h9 => absurd h9 h2) (fun _ => ?_)
    exact zthrowW (ik := 99) (ic := 103) hx hb hl0 hown (by decide +kernel) hcl99 hiniIllegalArgumentException (fun w h => hts w (List.mem_cons_of_mem _ (List.mem_append_right _ h))) (by decide +kernel) (va_Nw.use rfl hE.2.2.2.2.2.2.2.2.2.2.1) (by decide +kernel) (hE.2.2.2.2.2.1 (362, "no such verdict") (by simp)) hE hP hD hS (hl.1.trans hml.symm) dX7_needVerdict_9 dX7_needVerdict_12 dX7_needVerdict_13 dX7_needVerdict_16 dX7_needVerdict_19 ht (Nat.le_of_ble_eq_true rfl) (Nat.le_of_ble_eq_true rfl) (Nat.le_of_ble_eq_true rfl) (Nat.le_of_ble_eq_true rfl) hlocks (Nat.le_of_ble_eq_true rfl) (Nat.le_of_ble_eq_true rfl)

set_option maxHeartbeats 4000000 in
set_option maxRecDepth 100000 in
theorem z_X7_needRule (l : Launch) (G : zG) (x : Nat) (wa : Nat) (wb : Nat) (su : Nat) (cu : Nat) (tr : Nat) (co : Nat) (lo : Nat) (pk : Nat) (ro : Nat) (p0 : Int32) (hl0 : l.stackTraces = false) : zT l G yX7_needRule wsX7_needRule { frames := 6, cells := 1, slots := 6, locals := 82 } [(x, .inr (7, [.ref wa, .ref wb, .ref su, .ref cu, .ref tr, .ref co, .ref lo, .ref pk])), (wa, .inr (6, [.ref ro, .int 0, .int 0]))] [.ref x, .int p0] "java/lang/IndexOutOfBoundsException" [(x, .inr (7, [.ref wa, .ref wb, .ref su, .ref cu, .ref tr, .ref co, .ref lo, .ref pk])), (wa, .inr (6, [.ref ro, .int 0, .int 0]))] 1 6 := by
  refine zT_of (cc := cX7_needRule) (maxL := 2) (rt := none) (by decide) rfl (Nat.le_of_ble_eq_true rfl) ?_
  intro p e s m below meth c A ls hx hb hml hr hts hown hlocks ht hA hE hP hD hS hl
  have hl : lv_has ls 2 [(0, .ref x), (1, .int p0)] := hl
  have hown : s.vm.findClass RX7 = some m.cls := hown
  have hP : va_P G.1 vwCl [(x, .inr (7, [.ref wa, .ref wb, .ref su, .ref cu, .ref tr, .ref co, .ref lo, .ref pk])), (wa, .inr (6, [.ref ro, .int 0, .int 0]))] s.heap := hP
  have hcl90 := hts (.classLink RX7 90 "java/lang/IndexOutOfBoundsException") (by decide +kernel)
  have hiniIndexOutOfBoundsException := hts (.initialized "java/lang/IndexOutOfBoundsException") (by decide +kernel)
  have hw7 : ∀ w ∈ u_ws RX7 TX7 8, w ∈ wsX7_needRule := by decide +kernel
  have hf10 := hts (.fieldLink RX7 10 "Nettle" "wall" "LNettle$Wall;") (by decide +kernel)
  have hw6 : ∀ w ∈ u_ws RX6 TX6 3, w ∈ wsX7_needRule := by decide +kernel
  have hf70 := hts (.fieldLink RX7 70 "Nettle$Wall" "count" "I") (by decide +kernel)
  by_cases h1 : p0 < 0
  · refine lv_iload_n hx hb dX7_needRule_0 rfl (lv_at hl 1 rfl) ?_
    refine lv_if_lt (tgt := 15) hx hb dX7_needRule_1 (by decide) (fun _ => ?_) (fun h9 => absurd h1 h9)
    exact zthrowW (ik := 90) (ic := 94) hx hb hl0 hown (by decide +kernel) hcl90 hiniIndexOutOfBoundsException (fun w h => hts w (List.mem_cons_of_mem _ (List.mem_append_right _ h))) (by decide +kernel) (va_Nw.use rfl hE.2.2.2.2.2.2.2.2.2.1) (by decide +kernel) (hE.2.2.2.2.2.1 (358, "no such rule") (by simp)) hE hP hD hS (hl.1.trans hml.symm) dX7_needRule_15 dX7_needRule_18 dX7_needRule_19 dX7_needRule_22 dX7_needRule_25 ht (Nat.le_of_ble_eq_true rfl) (Nat.le_of_ble_eq_true rfl) (Nat.le_of_ble_eq_true rfl) (Nat.le_of_ble_eq_true rfl) hlocks (Nat.le_of_ble_eq_true rfl) (Nat.le_of_ble_eq_true rfl)
  · refine lv_iload_n hx hb dX7_needRule_0 rfl (lv_at hl 1 rfl) ?_
    refine lv_if_lt (tgt := 15) hx hb dX7_needRule_1 (by decide) (fun h9 => absurd h9 h1) (fun _ => ?_)
    refine lv_iload_n hx hb dX7_needRule_4 rfl (lv_at hl 1 rfl) ?_
    refine lv_aload_n hx hb dX7_needRule_5 rfl (lv_at hl 0 rfl) ?_
    refine va_get (D := G.1) (ci := 7) (v := .ref wa) (C := RX7) (T := TX7) (N := 8) hx hb hts hw7 hown hE.1 hP 0 rfl rfl 0 (by decide) hf10 (fun _ h9 => h9) rfl dX7_needRule_6 ?_
    refine va_get (D := G.1) (ci := 6) (v := .int 0) (C := RX6) (T := TX6) (N := 3) hx hb hts hw6 hown hE.1 hP 1 rfl rfl 1 (by decide) hf70 (fun _ h9 => h9) rfl dX7_needRule_9 ?_
    refine lv_icmp_lt (tgt := 26) hx hb dX7_needRule_12 (by decide) (fun h9 => absurd h9 h1) (fun _ => ?_)
    exact zthrowW (ik := 90) (ic := 94) hx hb hl0 hown (by decide +kernel) hcl90 hiniIndexOutOfBoundsException (fun w h => hts w (List.mem_cons_of_mem _ (List.mem_append_right _ h))) (by decide +kernel) (va_Nw.use rfl hE.2.2.2.2.2.2.2.2.2.1) (by decide +kernel) (hE.2.2.2.2.2.1 (358, "no such rule") (by simp)) hE hP hD hS (hl.1.trans hml.symm) dX7_needRule_15 dX7_needRule_18 dX7_needRule_19 dX7_needRule_22 dX7_needRule_25 ht (Nat.le_of_ble_eq_true rfl) (Nat.le_of_ble_eq_true rfl) (Nat.le_of_ble_eq_true rfl) (Nat.le_of_ble_eq_true rfl) hlocks (Nat.le_of_ble_eq_true rfl) (Nat.le_of_ble_eq_true rfl)

set_option maxHeartbeats 4000000 in
set_option maxRecDepth 100000 in
theorem z_X7_needWhat4 (l : Launch) (G : zG) (p0 : Int32) (hv1 : ¬ p0 < 0) (hv2 : p0 ≤ 4) : zR l G yX7_needWhat wsX7_needWhat { frames := 0, cells := 0, slots := 0, locals := 0 } [] [.int p0, .int 4] none (fun u => []) 0 0 := by
  refine zR_of (cc := cX7_needWhat) (maxL := 2) (rt := none) (by decide) rfl (Nat.le_of_ble_eq_true rfl) ?_
  intro p e s m below meth c A ls hx hb hml hr hts hown hlocks hin hA hE hP hD hS hl
  have hl : lv_has ls 2 [(0, .int p0), (1, .int 4)] := hl
  have hown : s.vm.findClass RX7 = some m.cls := hown
  have hP : va_P G.1 vwCl [] s.heap := hP
  refine lv_iload_n hx hb dX7_needWhat_0 rfl (lv_at hl 0 rfl) ?_
  refine lv_if_lt (tgt := 9) hx hb dX7_needWhat_1 (by decide) (fun h9 => absurd h9 hv1) (fun _ => ?_)
  refine lv_iload_n hx hb dX7_needWhat_4 rfl (lv_at hl 0 rfl) ?_
  refine lv_iload_n hx hb dX7_needWhat_5 rfl (lv_at hl 1 rfl) ?_
  refine lv_icmp_le (tgt := 20) hx hb dX7_needWhat_6 (by decide) (fun _ => ?_) (fun h9 => absurd hv2 h9)
  exact zend_v hx hb hr hlocks (fun k => [].getD k 0) hP hD hS (Nat.le_of_ble_eq_true rfl) (Nat.le_of_ble_eq_true rfl) dX7_needWhat_20

set_option maxHeartbeats 4000000 in
set_option maxRecDepth 100000 in
theorem z_X7_needWhat2 (l : Launch) (G : zG) (p0 : Int32) (hv1 : ¬ p0 < 0) (hv2 : p0 ≤ 2) : zR l G yX7_needWhat wsX7_needWhat { frames := 0, cells := 0, slots := 0, locals := 0 } [] [.int p0, .int 2] none (fun u => []) 0 0 := by
  refine zR_of (cc := cX7_needWhat) (maxL := 2) (rt := none) (by decide) rfl (Nat.le_of_ble_eq_true rfl) ?_
  intro p e s m below meth c A ls hx hb hml hr hts hown hlocks hin hA hE hP hD hS hl
  have hl : lv_has ls 2 [(0, .int p0), (1, .int 2)] := hl
  have hown : s.vm.findClass RX7 = some m.cls := hown
  have hP : va_P G.1 vwCl [] s.heap := hP
  refine lv_iload_n hx hb dX7_needWhat_0 rfl (lv_at hl 0 rfl) ?_
  refine lv_if_lt (tgt := 9) hx hb dX7_needWhat_1 (by decide) (fun h9 => absurd h9 hv1) (fun _ => ?_)
  refine lv_iload_n hx hb dX7_needWhat_4 rfl (lv_at hl 0 rfl) ?_
  refine lv_iload_n hx hb dX7_needWhat_5 rfl (lv_at hl 1 rfl) ?_
  refine lv_icmp_le (tgt := 20) hx hb dX7_needWhat_6 (by decide) (fun _ => ?_) (fun h9 => absurd hv2 h9)
  exact zend_v hx hb hr hlocks (fun k => [].getD k 0) hP hD hS (Nat.le_of_ble_eq_true rfl) (Nat.le_of_ble_eq_true rfl) dX7_needWhat_20

set_option maxHeartbeats 4000000 in
set_option maxRecDepth 100000 in
theorem z_X7_needWhat9 (l : Launch) (G : zG) (p0 : Int32) (hv1 : ¬ p0 < 0) (hv2 : p0 ≤ 9) : zR l G yX7_needWhat wsX7_needWhat { frames := 0, cells := 0, slots := 0, locals := 0 } [] [.int p0, .int 9] none (fun u => []) 0 0 := by
  refine zR_of (cc := cX7_needWhat) (maxL := 2) (rt := none) (by decide) rfl (Nat.le_of_ble_eq_true rfl) ?_
  intro p e s m below meth c A ls hx hb hml hr hts hown hlocks hin hA hE hP hD hS hl
  have hl : lv_has ls 2 [(0, .int p0), (1, .int 9)] := hl
  have hown : s.vm.findClass RX7 = some m.cls := hown
  have hP : va_P G.1 vwCl [] s.heap := hP
  refine lv_iload_n hx hb dX7_needWhat_0 rfl (lv_at hl 0 rfl) ?_
  refine lv_if_lt (tgt := 9) hx hb dX7_needWhat_1 (by decide) (fun h9 => absurd h9 hv1) (fun _ => ?_)
  refine lv_iload_n hx hb dX7_needWhat_4 rfl (lv_at hl 0 rfl) ?_
  refine lv_iload_n hx hb dX7_needWhat_5 rfl (lv_at hl 1 rfl) ?_
  refine lv_icmp_le (tgt := 20) hx hb dX7_needWhat_6 (by decide) (fun _ => ?_) (fun h9 => absurd hv2 h9)
  exact zend_v hx hb hr hlocks (fun k => [].getD k 0) hP hD hS (Nat.le_of_ble_eq_true rfl) (Nat.le_of_ble_eq_true rfl) dX7_needWhat_20

set_option maxHeartbeats 4000000 in
set_option maxRecDepth 100000 in
theorem z_X7_needWhatT4 (l : Launch) (G : zG) (p0 : Int32) (hl0 : l.stackTraces = false) (hv : p0 < 0 ∨ (¬ p0 < 0 ∧ ¬ p0 ≤ 4)) : zT l G yX7_needWhat wsX7_needWhat { frames := 6, cells := 1, slots := 6, locals := 82 } [] [.int p0, .int 4] "java/lang/IllegalArgumentException" [] 1 6 := by
  refine zT_of (cc := cX7_needWhat) (maxL := 2) (rt := none) (by decide) rfl (Nat.le_of_ble_eq_true rfl) ?_
  intro p e s m below meth c A ls hx hb hml hr hts hown hlocks ht hA hE hP hD hS hl
  have hl : lv_has ls 2 [(0, .int p0), (1, .int 4)] := hl
  have hown : s.vm.findClass RX7 = some m.cls := hown
  have hP : va_P G.1 vwCl [] s.heap := hP
  have hcl99 := hts (.classLink RX7 99 "java/lang/IllegalArgumentException") (by decide +kernel)
  have hiniIllegalArgumentException := hts (.initialized "java/lang/IllegalArgumentException") (by decide +kernel)
  rcases hv with h1 | ⟨h1, h2⟩
  · refine lv_iload_n hx hb dX7_needWhat_0 rfl (lv_at hl 0 rfl) ?_
    refine lv_if_lt (tgt := 9) hx hb dX7_needWhat_1 (by decide) (fun _ => ?_) (fun h9 => absurd h1 h9)
    exact zthrowW (ik := 99) (ic := 103) hx hb hl0 hown (by decide +kernel) hcl99 hiniIllegalArgumentException (fun w h => hts w (List.mem_cons_of_mem _ (List.mem_append_right _ h))) (by decide +kernel) (va_Nw.use rfl hE.2.2.2.2.2.2.2.2.2.2.1) (by decide +kernel) (hE.2.2.2.2.2.1 (364, "nothing with this number can be asked") (by simp)) hE hP hD hS (hl.1.trans hml.symm) dX7_needWhat_9 dX7_needWhat_12 dX7_needWhat_13 dX7_needWhat_16 dX7_needWhat_19 ht (Nat.le_of_ble_eq_true rfl) (Nat.le_of_ble_eq_true rfl) (Nat.le_of_ble_eq_true rfl) (Nat.le_of_ble_eq_true rfl) hlocks (Nat.le_of_ble_eq_true rfl) (Nat.le_of_ble_eq_true rfl)
  · refine lv_iload_n hx hb dX7_needWhat_0 rfl (lv_at hl 0 rfl) ?_
    refine lv_if_lt (tgt := 9) hx hb dX7_needWhat_1 (by decide) (fun h9 => absurd h9 h1) (fun _ => ?_)
    refine lv_iload_n hx hb dX7_needWhat_4 rfl (lv_at hl 0 rfl) ?_
    refine lv_iload_n hx hb dX7_needWhat_5 rfl (lv_at hl 1 rfl) ?_
    refine lv_icmp_le (tgt := 20) hx hb dX7_needWhat_6 (by decide) (fun h9 => absurd h9 h2) (fun _ => ?_)
    exact zthrowW (ik := 99) (ic := 103) hx hb hl0 hown (by decide +kernel) hcl99 hiniIllegalArgumentException (fun w h => hts w (List.mem_cons_of_mem _ (List.mem_append_right _ h))) (by decide +kernel) (va_Nw.use rfl hE.2.2.2.2.2.2.2.2.2.2.1) (by decide +kernel) (hE.2.2.2.2.2.1 (364, "nothing with this number can be asked") (by simp)) hE hP hD hS (hl.1.trans hml.symm) dX7_needWhat_9 dX7_needWhat_12 dX7_needWhat_13 dX7_needWhat_16 dX7_needWhat_19 ht (Nat.le_of_ble_eq_true rfl) (Nat.le_of_ble_eq_true rfl) (Nat.le_of_ble_eq_true rfl) (Nat.le_of_ble_eq_true rfl) hlocks (Nat.le_of_ble_eq_true rfl) (Nat.le_of_ble_eq_true rfl)

set_option maxHeartbeats 4000000 in
set_option maxRecDepth 100000 in
theorem z_X7_needNode (l : Launch) (G : zG) (tr : Nat) (wa : Nat) (cu : Nat) (tn : Nat) (tc : Nat) (ts : Nat) (fsh : Int32) (p0 : Int32) (hl0 : l.stackTraces = false) : zT l G yX7_needNode wsX7_needNode { frames := 6, cells := 1, slots := 6, locals := 82 } [(tr, .inr (5, [.ref wa, .ref cu, .ref tn, .ref tc, .ref ts, .int 0, .int fsh]))] [.ref tr, .int p0] "java/lang/IndexOutOfBoundsException" [(tr, .inr (5, [.ref wa, .ref cu, .ref tn, .ref tc, .ref ts, .int 0, .int fsh]))] 1 6 := by
  refine zT_of (cc := cX7_needNode) (maxL := 2) (rt := none) (by decide) rfl (Nat.le_of_ble_eq_true rfl) ?_
  intro p e s m below meth c A ls hx hb hml hr hts hown hlocks ht hA hE hP hD hS hl
  have hl : lv_has ls 2 [(0, .ref tr), (1, .int p0)] := hl
  have hown : s.vm.findClass RX7 = some m.cls := hown
  have hP : va_P G.1 vwCl [(tr, .inr (5, [.ref wa, .ref cu, .ref tn, .ref tc, .ref ts, .int 0, .int fsh]))] s.heap := hP
  have hcl90 := hts (.classLink RX7 90 "java/lang/IndexOutOfBoundsException") (by decide +kernel)
  have hiniIndexOutOfBoundsException := hts (.initialized "java/lang/IndexOutOfBoundsException") (by decide +kernel)
  have hw5 : ∀ w ∈ u_ws RX5 TX5 7, w ∈ wsX7_needNode := by decide +kernel
  have hf193 := hts (.fieldLink RX7 193 "Nettle$Tree" "count" "I") (by decide +kernel)
  by_cases h1 : p0 < 0
  · refine lv_iload_n hx hb dX7_needNode_0 rfl (lv_at hl 1 rfl) ?_
    refine lv_if_lt (tgt := 12) hx hb dX7_needNode_1 (by decide) (fun _ => ?_) (fun h9 => absurd h1 h9)
    exact zthrowW (ik := 90) (ic := 94) hx hb hl0 hown (by decide +kernel) hcl90 hiniIndexOutOfBoundsException (fun w h => hts w (List.mem_cons_of_mem _ (List.mem_append_right _ h))) (by decide +kernel) (va_Nw.use rfl hE.2.2.2.2.2.2.2.2.2.1) (by decide +kernel) (hE.2.2.2.2.2.1 (360, "no such node") (by simp)) hE hP hD hS (hl.1.trans hml.symm) dX7_needNode_12 dX7_needNode_15 dX7_needNode_16 dX7_needNode_19 dX7_needNode_22 ht (Nat.le_of_ble_eq_true rfl) (Nat.le_of_ble_eq_true rfl) (Nat.le_of_ble_eq_true rfl) (Nat.le_of_ble_eq_true rfl) hlocks (Nat.le_of_ble_eq_true rfl) (Nat.le_of_ble_eq_true rfl)
  · refine lv_iload_n hx hb dX7_needNode_0 rfl (lv_at hl 1 rfl) ?_
    refine lv_if_lt (tgt := 12) hx hb dX7_needNode_1 (by decide) (fun h9 => absurd h9 h1) (fun _ => ?_)
    refine lv_iload_n hx hb dX7_needNode_4 rfl (lv_at hl 1 rfl) ?_
    refine lv_aload_n hx hb dX7_needNode_5 rfl (lv_at hl 0 rfl) ?_
    refine va_get (D := G.1) (ci := 5) (v := .int 0) (C := RX5) (T := TX5) (N := 7) hx hb hts hw5 hown hE.1 hP 0 rfl rfl 5 (by decide) hf193 (fun _ h9 => h9) rfl dX7_needNode_6 ?_
    refine lv_icmp_lt (tgt := 23) hx hb dX7_needNode_9 (by decide) (fun h9 => absurd h9 h1) (fun _ => ?_)
    exact zthrowW (ik := 90) (ic := 94) hx hb hl0 hown (by decide +kernel) hcl90 hiniIndexOutOfBoundsException (fun w h => hts w (List.mem_cons_of_mem _ (List.mem_append_right _ h))) (by decide +kernel) (va_Nw.use rfl hE.2.2.2.2.2.2.2.2.2.1) (by decide +kernel) (hE.2.2.2.2.2.1 (360, "no such node") (by simp)) hE hP hD hS (hl.1.trans hml.symm) dX7_needNode_12 dX7_needNode_15 dX7_needNode_16 dX7_needNode_19 dX7_needNode_22 ht (Nat.le_of_ble_eq_true rfl) (Nat.le_of_ble_eq_true rfl) (Nat.le_of_ble_eq_true rfl) (Nat.le_of_ble_eq_true rfl) hlocks (Nat.le_of_ble_eq_true rfl) (Nat.le_of_ble_eq_true rfl)

set_option maxHeartbeats 4000000 in
set_option maxRecDepth 100000 in
theorem z_X7_isValue0 (l : Launch) (G : zG) (p0 : Int32) (hv1 : ¬ p0 < 0) (hv2 : ¬ 256 ≤ p0) : zR l G yX7_isValue wsX7_isValue { frames := 0, cells := 0, slots := 0, locals := 0 } [] [.int 0, .int p0] (some (.int 1)) (fun u => []) 0 0 := by
  refine zR_of (cc := cX7_isValue) (maxL := 2) (rt := (some .boolean)) (by decide) rfl (Nat.le_of_ble_eq_true rfl) ?_
  intro p e s m below meth c A ls hx hb hml hr hts hown hlocks hin hA hE hP hD hS hl
  have hl : lv_has ls 2 [(0, .int 0), (1, .int p0)] := hl
  have hown : s.vm.findClass RX7 = some m.cls := hown
  have hP : va_P G.1 vwCl [] s.heap := hP
  have hf366 := hts (.fieldLink RX7 366 "Nettle" "SIZES" "[I") (by decide +kernel)
  refine lv_iload_n hx hb dX7_isValue_0 rfl (lv_at hl 1 rfl) ?_
  refine lv_if_lt (tgt := 17) hx hb dX7_isValue_1 (by decide) (fun h9 => absurd h9 hv1) (fun _ => ?_)
  refine lv_iload_n hx hb dX7_isValue_4 rfl (lv_at hl 1 rfl) ?_
  refine va_gets hx hb hE.2.1.1 hS hown hf366 (fun _ h9 => h9) dX7_isValue_5 ?_
  refine lv_iload_n hx hb dX7_isValue_8 rfl (lv_at hl 0 rfl) ?_
  refine va_ti (v := .int 256) hx hb hE.2.1.2 hS (zin (by decide +kernel)) rfl dX7_isValue_9 ?_
  refine lv_icmp_ge (tgt := 17) hx hb dX7_isValue_10 (by decide) (fun h9 => absurd h9 hv2) (fun _ => ?_)
  refine lv_iconst (v := 1) hx hb dX7_isValue_13 (by decide) ?_
  refine lv_goto (tgt := 18) hx hb dX7_isValue_14 (by decide) ?_
  exact zend_z hx hb hr hlocks rfl (fun k => [].getD k 0) hP hD hS (Nat.le_of_ble_eq_true rfl) (Nat.le_of_ble_eq_true rfl) dX7_isValue_18

set_option maxHeartbeats 4000000 in
set_option maxRecDepth 100000 in
theorem z_X7_isValue0n (l : Launch) (G : zG) (p0 : Int32) (hv1 : p0 < 0) : zR l G yX7_isValue wsX7_isValue { frames := 0, cells := 0, slots := 0, locals := 0 } [] [.int 0, .int p0] (some (.int 0)) (fun u => []) 0 0 := by
  refine zR_of (cc := cX7_isValue) (maxL := 2) (rt := (some .boolean)) (by decide) rfl (Nat.le_of_ble_eq_true rfl) ?_
  intro p e s m below meth c A ls hx hb hml hr hts hown hlocks hin hA hE hP hD hS hl
  have hl : lv_has ls 2 [(0, .int 0), (1, .int p0)] := hl
  have hown : s.vm.findClass RX7 = some m.cls := hown
  have hP : va_P G.1 vwCl [] s.heap := hP
  refine lv_iload_n hx hb dX7_isValue_0 rfl (lv_at hl 1 rfl) ?_
  refine lv_if_lt (tgt := 17) hx hb dX7_isValue_1 (by decide) (fun _ => ?_) (fun h9 => absurd hv1 h9)
  refine lv_iconst (v := 0) hx hb dX7_isValue_17 (by decide) ?_
  exact zend_z hx hb hr hlocks rfl (fun k => [].getD k 0) hP hD hS (Nat.le_of_ble_eq_true rfl) (Nat.le_of_ble_eq_true rfl) dX7_isValue_18

set_option maxHeartbeats 4000000 in
set_option maxRecDepth 100000 in
theorem z_X7_isValue0b (l : Launch) (G : zG) (p0 : Int32) (hv1 : ¬ p0 < 0) (hv2 : 256 ≤ p0) : zR l G yX7_isValue wsX7_isValue { frames := 0, cells := 0, slots := 0, locals := 0 } [] [.int 0, .int p0] (some (.int 0)) (fun u => []) 0 0 := by
  refine zR_of (cc := cX7_isValue) (maxL := 2) (rt := (some .boolean)) (by decide) rfl (Nat.le_of_ble_eq_true rfl) ?_
  intro p e s m below meth c A ls hx hb hml hr hts hown hlocks hin hA hE hP hD hS hl
  have hl : lv_has ls 2 [(0, .int 0), (1, .int p0)] := hl
  have hown : s.vm.findClass RX7 = some m.cls := hown
  have hP : va_P G.1 vwCl [] s.heap := hP
  have hf366 := hts (.fieldLink RX7 366 "Nettle" "SIZES" "[I") (by decide +kernel)
  refine lv_iload_n hx hb dX7_isValue_0 rfl (lv_at hl 1 rfl) ?_
  refine lv_if_lt (tgt := 17) hx hb dX7_isValue_1 (by decide) (fun h9 => absurd h9 hv1) (fun _ => ?_)
  refine lv_iload_n hx hb dX7_isValue_4 rfl (lv_at hl 1 rfl) ?_
  refine va_gets hx hb hE.2.1.1 hS hown hf366 (fun _ h9 => h9) dX7_isValue_5 ?_
  refine lv_iload_n hx hb dX7_isValue_8 rfl (lv_at hl 0 rfl) ?_
  refine va_ti (v := .int 256) hx hb hE.2.1.2 hS (zin (by decide +kernel)) rfl dX7_isValue_9 ?_
  refine lv_icmp_ge (tgt := 17) hx hb dX7_isValue_10 (by decide) (fun _ => ?_) (fun h9 => absurd hv2 h9)
  refine lv_iconst (v := 0) hx hb dX7_isValue_17 (by decide) ?_
  exact zend_z hx hb hr hlocks rfl (fun k => [].getD k 0) hP hD hS (Nat.le_of_ble_eq_true rfl) (Nat.le_of_ble_eq_true rfl) dX7_isValue_18

set_option maxHeartbeats 4000000 in
set_option maxRecDepth 100000 in
theorem z_X7_isValue1 (l : Launch) (G : zG) (p0 : Int32) (hv1 : ¬ p0 < 0) (hv2 : ¬ 256 ≤ p0) : zR l G yX7_isValue wsX7_isValue { frames := 0, cells := 0, slots := 0, locals := 0 } [] [.int 1, .int p0] (some (.int 1)) (fun u => []) 0 0 := by
  refine zR_of (cc := cX7_isValue) (maxL := 2) (rt := (some .boolean)) (by decide) rfl (Nat.le_of_ble_eq_true rfl) ?_
  intro p e s m below meth c A ls hx hb hml hr hts hown hlocks hin hA hE hP hD hS hl
  have hl : lv_has ls 2 [(0, .int 1), (1, .int p0)] := hl
  have hown : s.vm.findClass RX7 = some m.cls := hown
  have hP : va_P G.1 vwCl [] s.heap := hP
  have hf366 := hts (.fieldLink RX7 366 "Nettle" "SIZES" "[I") (by decide +kernel)
  refine lv_iload_n hx hb dX7_isValue_0 rfl (lv_at hl 1 rfl) ?_
  refine lv_if_lt (tgt := 17) hx hb dX7_isValue_1 (by decide) (fun h9 => absurd h9 hv1) (fun _ => ?_)
  refine lv_iload_n hx hb dX7_isValue_4 rfl (lv_at hl 1 rfl) ?_
  refine va_gets hx hb hE.2.1.1 hS hown hf366 (fun _ h9 => h9) dX7_isValue_5 ?_
  refine lv_iload_n hx hb dX7_isValue_8 rfl (lv_at hl 0 rfl) ?_
  refine va_ti (v := .int 256) hx hb hE.2.1.2 hS (zin (by decide +kernel)) rfl dX7_isValue_9 ?_
  refine lv_icmp_ge (tgt := 17) hx hb dX7_isValue_10 (by decide) (fun h9 => absurd h9 hv2) (fun _ => ?_)
  refine lv_iconst (v := 1) hx hb dX7_isValue_13 (by decide) ?_
  refine lv_goto (tgt := 18) hx hb dX7_isValue_14 (by decide) ?_
  exact zend_z hx hb hr hlocks rfl (fun k => [].getD k 0) hP hD hS (Nat.le_of_ble_eq_true rfl) (Nat.le_of_ble_eq_true rfl) dX7_isValue_18

set_option maxHeartbeats 4000000 in
set_option maxRecDepth 100000 in
theorem z_X7_isValue1n (l : Launch) (G : zG) (p0 : Int32) (hv1 : p0 < 0) : zR l G yX7_isValue wsX7_isValue { frames := 0, cells := 0, slots := 0, locals := 0 } [] [.int 1, .int p0] (some (.int 0)) (fun u => []) 0 0 := by
  refine zR_of (cc := cX7_isValue) (maxL := 2) (rt := (some .boolean)) (by decide) rfl (Nat.le_of_ble_eq_true rfl) ?_
  intro p e s m below meth c A ls hx hb hml hr hts hown hlocks hin hA hE hP hD hS hl
  have hl : lv_has ls 2 [(0, .int 1), (1, .int p0)] := hl
  have hown : s.vm.findClass RX7 = some m.cls := hown
  have hP : va_P G.1 vwCl [] s.heap := hP
  refine lv_iload_n hx hb dX7_isValue_0 rfl (lv_at hl 1 rfl) ?_
  refine lv_if_lt (tgt := 17) hx hb dX7_isValue_1 (by decide) (fun _ => ?_) (fun h9 => absurd hv1 h9)
  refine lv_iconst (v := 0) hx hb dX7_isValue_17 (by decide) ?_
  exact zend_z hx hb hr hlocks rfl (fun k => [].getD k 0) hP hD hS (Nat.le_of_ble_eq_true rfl) (Nat.le_of_ble_eq_true rfl) dX7_isValue_18

set_option maxHeartbeats 4000000 in
set_option maxRecDepth 100000 in
theorem z_X7_isValue1b (l : Launch) (G : zG) (p0 : Int32) (hv1 : ¬ p0 < 0) (hv2 : 256 ≤ p0) : zR l G yX7_isValue wsX7_isValue { frames := 0, cells := 0, slots := 0, locals := 0 } [] [.int 1, .int p0] (some (.int 0)) (fun u => []) 0 0 := by
  refine zR_of (cc := cX7_isValue) (maxL := 2) (rt := (some .boolean)) (by decide) rfl (Nat.le_of_ble_eq_true rfl) ?_
  intro p e s m below meth c A ls hx hb hml hr hts hown hlocks hin hA hE hP hD hS hl
  have hl : lv_has ls 2 [(0, .int 1), (1, .int p0)] := hl
  have hown : s.vm.findClass RX7 = some m.cls := hown
  have hP : va_P G.1 vwCl [] s.heap := hP
  have hf366 := hts (.fieldLink RX7 366 "Nettle" "SIZES" "[I") (by decide +kernel)
  refine lv_iload_n hx hb dX7_isValue_0 rfl (lv_at hl 1 rfl) ?_
  refine lv_if_lt (tgt := 17) hx hb dX7_isValue_1 (by decide) (fun h9 => absurd h9 hv1) (fun _ => ?_)
  refine lv_iload_n hx hb dX7_isValue_4 rfl (lv_at hl 1 rfl) ?_
  refine va_gets hx hb hE.2.1.1 hS hown hf366 (fun _ h9 => h9) dX7_isValue_5 ?_
  refine lv_iload_n hx hb dX7_isValue_8 rfl (lv_at hl 0 rfl) ?_
  refine va_ti (v := .int 256) hx hb hE.2.1.2 hS (zin (by decide +kernel)) rfl dX7_isValue_9 ?_
  refine lv_icmp_ge (tgt := 17) hx hb dX7_isValue_10 (by decide) (fun _ => ?_) (fun h9 => absurd hv2 h9)
  refine lv_iconst (v := 0) hx hb dX7_isValue_17 (by decide) ?_
  exact zend_z hx hb hr hlocks rfl (fun k => [].getD k 0) hP hD hS (Nat.le_of_ble_eq_true rfl) (Nat.le_of_ble_eq_true rfl) dX7_isValue_18

set_option maxHeartbeats 4000000 in
set_option maxRecDepth 100000 in
theorem z_X7_isValue2 (l : Launch) (G : zG) (p0 : Int32) (hv1 : ¬ p0 < 0) (hv2 : ¬ 1024 ≤ p0) : zR l G yX7_isValue wsX7_isValue { frames := 0, cells := 0, slots := 0, locals := 0 } [] [.int 2, .int p0] (some (.int 1)) (fun u => []) 0 0 := by
  refine zR_of (cc := cX7_isValue) (maxL := 2) (rt := (some .boolean)) (by decide) rfl (Nat.le_of_ble_eq_true rfl) ?_
  intro p e s m below meth c A ls hx hb hml hr hts hown hlocks hin hA hE hP hD hS hl
  have hl : lv_has ls 2 [(0, .int 2), (1, .int p0)] := hl
  have hown : s.vm.findClass RX7 = some m.cls := hown
  have hP : va_P G.1 vwCl [] s.heap := hP
  have hf366 := hts (.fieldLink RX7 366 "Nettle" "SIZES" "[I") (by decide +kernel)
  refine lv_iload_n hx hb dX7_isValue_0 rfl (lv_at hl 1 rfl) ?_
  refine lv_if_lt (tgt := 17) hx hb dX7_isValue_1 (by decide) (fun h9 => absurd h9 hv1) (fun _ => ?_)
  refine lv_iload_n hx hb dX7_isValue_4 rfl (lv_at hl 1 rfl) ?_
  refine va_gets hx hb hE.2.1.1 hS hown hf366 (fun _ h9 => h9) dX7_isValue_5 ?_
  refine lv_iload_n hx hb dX7_isValue_8 rfl (lv_at hl 0 rfl) ?_
  refine va_ti (v := .int 1024) hx hb hE.2.1.2 hS (zin (by decide +kernel)) rfl dX7_isValue_9 ?_
  refine lv_icmp_ge (tgt := 17) hx hb dX7_isValue_10 (by decide) (fun h9 => absurd h9 hv2) (fun _ => ?_)
  refine lv_iconst (v := 1) hx hb dX7_isValue_13 (by decide) ?_
  refine lv_goto (tgt := 18) hx hb dX7_isValue_14 (by decide) ?_
  exact zend_z hx hb hr hlocks rfl (fun k => [].getD k 0) hP hD hS (Nat.le_of_ble_eq_true rfl) (Nat.le_of_ble_eq_true rfl) dX7_isValue_18

set_option maxHeartbeats 4000000 in
set_option maxRecDepth 100000 in
theorem z_X7_isValue2n (l : Launch) (G : zG) (p0 : Int32) (hv1 : p0 < 0) : zR l G yX7_isValue wsX7_isValue { frames := 0, cells := 0, slots := 0, locals := 0 } [] [.int 2, .int p0] (some (.int 0)) (fun u => []) 0 0 := by
  refine zR_of (cc := cX7_isValue) (maxL := 2) (rt := (some .boolean)) (by decide) rfl (Nat.le_of_ble_eq_true rfl) ?_
  intro p e s m below meth c A ls hx hb hml hr hts hown hlocks hin hA hE hP hD hS hl
  have hl : lv_has ls 2 [(0, .int 2), (1, .int p0)] := hl
  have hown : s.vm.findClass RX7 = some m.cls := hown
  have hP : va_P G.1 vwCl [] s.heap := hP
  refine lv_iload_n hx hb dX7_isValue_0 rfl (lv_at hl 1 rfl) ?_
  refine lv_if_lt (tgt := 17) hx hb dX7_isValue_1 (by decide) (fun _ => ?_) (fun h9 => absurd hv1 h9)
  refine lv_iconst (v := 0) hx hb dX7_isValue_17 (by decide) ?_
  exact zend_z hx hb hr hlocks rfl (fun k => [].getD k 0) hP hD hS (Nat.le_of_ble_eq_true rfl) (Nat.le_of_ble_eq_true rfl) dX7_isValue_18

set_option maxHeartbeats 4000000 in
set_option maxRecDepth 100000 in
theorem z_X7_isValue2b (l : Launch) (G : zG) (p0 : Int32) (hv1 : ¬ p0 < 0) (hv2 : 1024 ≤ p0) : zR l G yX7_isValue wsX7_isValue { frames := 0, cells := 0, slots := 0, locals := 0 } [] [.int 2, .int p0] (some (.int 0)) (fun u => []) 0 0 := by
  refine zR_of (cc := cX7_isValue) (maxL := 2) (rt := (some .boolean)) (by decide) rfl (Nat.le_of_ble_eq_true rfl) ?_
  intro p e s m below meth c A ls hx hb hml hr hts hown hlocks hin hA hE hP hD hS hl
  have hl : lv_has ls 2 [(0, .int 2), (1, .int p0)] := hl
  have hown : s.vm.findClass RX7 = some m.cls := hown
  have hP : va_P G.1 vwCl [] s.heap := hP
  have hf366 := hts (.fieldLink RX7 366 "Nettle" "SIZES" "[I") (by decide +kernel)
  refine lv_iload_n hx hb dX7_isValue_0 rfl (lv_at hl 1 rfl) ?_
  refine lv_if_lt (tgt := 17) hx hb dX7_isValue_1 (by decide) (fun h9 => absurd h9 hv1) (fun _ => ?_)
  refine lv_iload_n hx hb dX7_isValue_4 rfl (lv_at hl 1 rfl) ?_
  refine va_gets hx hb hE.2.1.1 hS hown hf366 (fun _ h9 => h9) dX7_isValue_5 ?_
  refine lv_iload_n hx hb dX7_isValue_8 rfl (lv_at hl 0 rfl) ?_
  refine va_ti (v := .int 1024) hx hb hE.2.1.2 hS (zin (by decide +kernel)) rfl dX7_isValue_9 ?_
  refine lv_icmp_ge (tgt := 17) hx hb dX7_isValue_10 (by decide) (fun _ => ?_) (fun h9 => absurd hv2 h9)
  refine lv_iconst (v := 0) hx hb dX7_isValue_17 (by decide) ?_
  exact zend_z hx hb hr hlocks rfl (fun k => [].getD k 0) hP hD hS (Nat.le_of_ble_eq_true rfl) (Nat.le_of_ble_eq_true rfl) dX7_isValue_18

set_option maxHeartbeats 4000000 in
set_option maxRecDepth 100000 in
theorem z_X7_isValue3 (l : Launch) (G : zG) (p0 : Int32) (hv1 : ¬ p0 < 0) (hv2 : ¬ 4 ≤ p0) : zR l G yX7_isValue wsX7_isValue { frames := 0, cells := 0, slots := 0, locals := 0 } [] [.int 3, .int p0] (some (.int 1)) (fun u => []) 0 0 := by
  refine zR_of (cc := cX7_isValue) (maxL := 2) (rt := (some .boolean)) (by decide) rfl (Nat.le_of_ble_eq_true rfl) ?_
  intro p e s m below meth c A ls hx hb hml hr hts hown hlocks hin hA hE hP hD hS hl
  have hl : lv_has ls 2 [(0, .int 3), (1, .int p0)] := hl
  have hown : s.vm.findClass RX7 = some m.cls := hown
  have hP : va_P G.1 vwCl [] s.heap := hP
  have hf366 := hts (.fieldLink RX7 366 "Nettle" "SIZES" "[I") (by decide +kernel)
  refine lv_iload_n hx hb dX7_isValue_0 rfl (lv_at hl 1 rfl) ?_
  refine lv_if_lt (tgt := 17) hx hb dX7_isValue_1 (by decide) (fun h9 => absurd h9 hv1) (fun _ => ?_)
  refine lv_iload_n hx hb dX7_isValue_4 rfl (lv_at hl 1 rfl) ?_
  refine va_gets hx hb hE.2.1.1 hS hown hf366 (fun _ h9 => h9) dX7_isValue_5 ?_
  refine lv_iload_n hx hb dX7_isValue_8 rfl (lv_at hl 0 rfl) ?_
  refine va_ti (v := .int 4) hx hb hE.2.1.2 hS (zin (by decide +kernel)) rfl dX7_isValue_9 ?_
  refine lv_icmp_ge (tgt := 17) hx hb dX7_isValue_10 (by decide) (fun h9 => absurd h9 hv2) (fun _ => ?_)
  refine lv_iconst (v := 1) hx hb dX7_isValue_13 (by decide) ?_
  refine lv_goto (tgt := 18) hx hb dX7_isValue_14 (by decide) ?_
  exact zend_z hx hb hr hlocks rfl (fun k => [].getD k 0) hP hD hS (Nat.le_of_ble_eq_true rfl) (Nat.le_of_ble_eq_true rfl) dX7_isValue_18

set_option maxHeartbeats 4000000 in
set_option maxRecDepth 100000 in
theorem z_X7_isValue3n (l : Launch) (G : zG) (p0 : Int32) (hv1 : p0 < 0) : zR l G yX7_isValue wsX7_isValue { frames := 0, cells := 0, slots := 0, locals := 0 } [] [.int 3, .int p0] (some (.int 0)) (fun u => []) 0 0 := by
  refine zR_of (cc := cX7_isValue) (maxL := 2) (rt := (some .boolean)) (by decide) rfl (Nat.le_of_ble_eq_true rfl) ?_
  intro p e s m below meth c A ls hx hb hml hr hts hown hlocks hin hA hE hP hD hS hl
  have hl : lv_has ls 2 [(0, .int 3), (1, .int p0)] := hl
  have hown : s.vm.findClass RX7 = some m.cls := hown
  have hP : va_P G.1 vwCl [] s.heap := hP
  refine lv_iload_n hx hb dX7_isValue_0 rfl (lv_at hl 1 rfl) ?_
  refine lv_if_lt (tgt := 17) hx hb dX7_isValue_1 (by decide) (fun _ => ?_) (fun h9 => absurd hv1 h9)
  refine lv_iconst (v := 0) hx hb dX7_isValue_17 (by decide) ?_
  exact zend_z hx hb hr hlocks rfl (fun k => [].getD k 0) hP hD hS (Nat.le_of_ble_eq_true rfl) (Nat.le_of_ble_eq_true rfl) dX7_isValue_18

set_option maxHeartbeats 4000000 in
set_option maxRecDepth 100000 in
theorem z_X7_isValue3b (l : Launch) (G : zG) (p0 : Int32) (hv1 : ¬ p0 < 0) (hv2 : 4 ≤ p0) : zR l G yX7_isValue wsX7_isValue { frames := 0, cells := 0, slots := 0, locals := 0 } [] [.int 3, .int p0] (some (.int 0)) (fun u => []) 0 0 := by
  refine zR_of (cc := cX7_isValue) (maxL := 2) (rt := (some .boolean)) (by decide) rfl (Nat.le_of_ble_eq_true rfl) ?_
  intro p e s m below meth c A ls hx hb hml hr hts hown hlocks hin hA hE hP hD hS hl
  have hl : lv_has ls 2 [(0, .int 3), (1, .int p0)] := hl
  have hown : s.vm.findClass RX7 = some m.cls := hown
  have hP : va_P G.1 vwCl [] s.heap := hP
  have hf366 := hts (.fieldLink RX7 366 "Nettle" "SIZES" "[I") (by decide +kernel)
  refine lv_iload_n hx hb dX7_isValue_0 rfl (lv_at hl 1 rfl) ?_
  refine lv_if_lt (tgt := 17) hx hb dX7_isValue_1 (by decide) (fun h9 => absurd h9 hv1) (fun _ => ?_)
  refine lv_iload_n hx hb dX7_isValue_4 rfl (lv_at hl 1 rfl) ?_
  refine va_gets hx hb hE.2.1.1 hS hown hf366 (fun _ h9 => h9) dX7_isValue_5 ?_
  refine lv_iload_n hx hb dX7_isValue_8 rfl (lv_at hl 0 rfl) ?_
  refine va_ti (v := .int 4) hx hb hE.2.1.2 hS (zin (by decide +kernel)) rfl dX7_isValue_9 ?_
  refine lv_icmp_ge (tgt := 17) hx hb dX7_isValue_10 (by decide) (fun _ => ?_) (fun h9 => absurd hv2 h9)
  refine lv_iconst (v := 0) hx hb dX7_isValue_17 (by decide) ?_
  exact zend_z hx hb hr hlocks rfl (fun k => [].getD k 0) hP hD hS (Nat.le_of_ble_eq_true rfl) (Nat.le_of_ble_eq_true rfl) dX7_isValue_18

set_option maxHeartbeats 4000000 in
set_option maxRecDepth 100000 in
theorem z_X7_takePacket (l : Launch) (G : zG) (x : Nat) (wa : Nat) (wb : Nat) (su : Nat) (cu : Nat) (tr : Nat) (co : Nat) (lo : Nat) (pk : Nat) (p0 : Int32) (p1 : Int32) (p2 : Int32) (p3 : Int32) (fp : Nat → Int32) (hok : zOk p0 p1 p2 p3) : zR l G yX7_takePacket wsX7_takePacket { frames := 1, cells := 0, slots := 0, locals := 21 } [(x, .inr (7, [.ref wa, .ref wb, .ref su, .ref cu, .ref tr, .ref co, .ref lo, .ref pk])), (pk, .inl (G.2.1, 4, .inl (fp)))] [.ref x, .int p0, .int p1, .int p2, .int p3] none (fun u => [(x, .inr (7, [.ref wa, .ref wb, .ref su, .ref cu, .ref tr, .ref co, .ref lo, .ref pk])), (pk, .inl (G.2.1, 4, .inl (upd (upd (upd (upd fp 0 p0) 1 p1) 2 p2) 3 p3)))]) 0 0 := by
  refine zR_of (cc := cX7_takePacket) (maxL := 5) (rt := none) (by decide) rfl (Nat.le_of_ble_eq_true rfl) ?_
  intro p e s m below meth c A ls hx hb hml hr hts hown hlocks hin hA hE hP hD hS hl
  have hl : lv_has ls 5 [(0, .ref x), (1, .int p0), (2, .int p1), (3, .int p2), (4, .int p3)] := hl
  have hown : s.vm.findClass RX7 = some m.cls := hown
  have hP : va_P G.1 vwCl [(x, .inr (7, [.ref wa, .ref wb, .ref su, .ref cu, .ref tr, .ref co, .ref lo, .ref pk])), (pk, .inl (G.2.1, 4, .inl (fp)))] s.heap := hP
  have hw7 : ∀ w ∈ u_ws RX7 TX7 8, w ∈ wsX7_takePacket := by decide +kernel
  have hf62 := hts (.fieldLink RX7 62 "Nettle" "packet" "[I") (by decide +kernel)
  refine lv_iconst (v := 0) hx hb dX7_takePacket_0 (by decide) ?_
  refine lv_iload_n hx hb dX7_takePacket_1 rfl (lv_at hl 1 rfl) ?_
  refine zcall (wr := [(x, .inr (7, [.ref wa, .ref wb, .ref su, .ref cu, .ref tr, .ref co, .ref lo, .ref pk])), (pk, .inl (G.2.1, 4, .inl (fp)))]) (va_runS (As := [.int 0, .int p0]) (rest := []) ⟨hx, hb, hml, hown, hts⟩ (z_X7_isValue0 l G p0 hok.1.1.1 hok.1.1.2 s.heap.size) (va_cwS 2 hts gX7_takePacket_X7_isValue rfl rfl rfl (by decide +kernel) ⟨Nat.le_of_ble_eq_true rfl, Nat.le_of_ble_eq_true rfl⟩) (zPre (Wc := []) hP hD hE hS hA [] rfl (by decide)) rfl rfl hl.1 rfl (lv_room (Nat.le_of_ble_eq_true rfl)) dX7_takePacket_2 ⟨Nat.le_of_ble_eq_true rfl, Nat.le_of_ble_eq_true rfl⟩) hP hD hS hA [] [0, 1] rfl rfl (by decide) (by decide) (fun u1 H locs hP hD hS => ?_)
  have hP : va_P G.1 vwCl [(x, .inr (7, [.ref wa, .ref wb, .ref su, .ref cu, .ref tr, .ref co, .ref lo, .ref pk])), (pk, .inl (G.2.1, 4, .inl (fp)))] H := hP
  have hD : va_D A [(x, .inr (7, [.ref wa, .ref wb, .ref su, .ref cu, .ref tr, .ref co, .ref lo, .ref pk])), (pk, .inl (G.2.1, 4, .inl (fp)))] := hD
  refine W.eq (g2 := F0 m 5 ls [.int 1]) rfl ?_
  refine lv_if_eq (tgt := 33) hx hb dX7_takePacket_5 (by decide) (fun h9 => absurd h9 (by decide)) (fun _ => ?_)
  refine lv_iconst (v := 1) hx hb dX7_takePacket_8 (by decide) ?_
  refine lv_iload_n hx hb dX7_takePacket_9 rfl (lv_at hl 2 rfl) ?_
  refine zcall (wr := [(x, .inr (7, [.ref wa, .ref wb, .ref su, .ref cu, .ref tr, .ref co, .ref lo, .ref pk])), (pk, .inl (G.2.1, 4, .inl (fp)))]) (va_runS (As := [.int 1, .int p1]) (rest := []) ⟨hx, hb, hml, hown, hts⟩ (z_X7_isValue1 l G p1 hok.1.2.1 hok.1.2.2 H.size) (va_cwS 2 hts gX7_takePacket_X7_isValue rfl rfl rfl (by decide +kernel) ⟨Nat.le_of_ble_eq_true rfl, Nat.le_of_ble_eq_true rfl⟩) (zPre (Wc := []) hP hD hE hS hA [] rfl (by decide)) rfl rfl hl.1 rfl (lv_room (Nat.le_of_ble_eq_true rfl)) dX7_takePacket_10 ⟨Nat.le_of_ble_eq_true rfl, Nat.le_of_ble_eq_true rfl⟩) hP hD hS hA [] [0, 1] rfl rfl (by decide) (by decide) (fun u2 H locs hP hD hS => ?_)
  have hP : va_P G.1 vwCl [(x, .inr (7, [.ref wa, .ref wb, .ref su, .ref cu, .ref tr, .ref co, .ref lo, .ref pk])), (pk, .inl (G.2.1, 4, .inl (fp)))] H := hP
  have hD : va_D A [(x, .inr (7, [.ref wa, .ref wb, .ref su, .ref cu, .ref tr, .ref co, .ref lo, .ref pk])), (pk, .inl (G.2.1, 4, .inl (fp)))] := hD
  refine W.eq (g2 := F0 m 13 ls [.int 1]) rfl ?_
  refine lv_if_eq (tgt := 33) hx hb dX7_takePacket_13 (by decide) (fun h9 => absurd h9 (by decide)) (fun _ => ?_)
  refine lv_iconst (v := 2) hx hb dX7_takePacket_16 (by decide) ?_
  refine lv_iload_n hx hb dX7_takePacket_17 rfl (lv_at hl 3 rfl) ?_
  refine zcall (wr := [(x, .inr (7, [.ref wa, .ref wb, .ref su, .ref cu, .ref tr, .ref co, .ref lo, .ref pk])), (pk, .inl (G.2.1, 4, .inl (fp)))]) (va_runS (As := [.int 2, .int p2]) (rest := []) ⟨hx, hb, hml, hown, hts⟩ (z_X7_isValue2 l G p2 hok.2.1.1 hok.2.1.2 H.size) (va_cwS 2 hts gX7_takePacket_X7_isValue rfl rfl rfl (by decide +kernel) ⟨Nat.le_of_ble_eq_true rfl, Nat.le_of_ble_eq_true rfl⟩) (zPre (Wc := []) hP hD hE hS hA [] rfl (by decide)) rfl rfl hl.1 rfl (lv_room (Nat.le_of_ble_eq_true rfl)) dX7_takePacket_18 ⟨Nat.le_of_ble_eq_true rfl, Nat.le_of_ble_eq_true rfl⟩) hP hD hS hA [] [0, 1] rfl rfl (by decide) (by decide) (fun u3 H locs hP hD hS => ?_)
  have hP : va_P G.1 vwCl [(x, .inr (7, [.ref wa, .ref wb, .ref su, .ref cu, .ref tr, .ref co, .ref lo, .ref pk])), (pk, .inl (G.2.1, 4, .inl (fp)))] H := hP
  have hD : va_D A [(x, .inr (7, [.ref wa, .ref wb, .ref su, .ref cu, .ref tr, .ref co, .ref lo, .ref pk])), (pk, .inl (G.2.1, 4, .inl (fp)))] := hD
  refine W.eq (g2 := F0 m 21 ls [.int 1]) rfl ?_
  refine lv_if_eq (tgt := 33) hx hb dX7_takePacket_21 (by decide) (fun h9 => absurd h9 (by decide)) (fun _ => ?_)
  refine lv_iconst (v := 3) hx hb dX7_takePacket_24 (by decide) ?_
  refine lv_iload hx hb dX7_takePacket_25 (lv_at hl 4 rfl) ?_
  refine zcall (wr := [(x, .inr (7, [.ref wa, .ref wb, .ref su, .ref cu, .ref tr, .ref co, .ref lo, .ref pk])), (pk, .inl (G.2.1, 4, .inl (fp)))]) (va_runS (As := [.int 3, .int p3]) (rest := []) ⟨hx, hb, hml, hown, hts⟩ (z_X7_isValue3 l G p3 hok.2.2.1 hok.2.2.2 H.size) (va_cwS 2 hts gX7_takePacket_X7_isValue rfl rfl rfl (by decide +kernel) ⟨Nat.le_of_ble_eq_true rfl, Nat.le_of_ble_eq_true rfl⟩) (zPre (Wc := []) hP hD hE hS hA [] rfl (by decide)) rfl rfl hl.1 rfl (lv_room (Nat.le_of_ble_eq_true rfl)) dX7_takePacket_27 ⟨Nat.le_of_ble_eq_true rfl, Nat.le_of_ble_eq_true rfl⟩) hP hD hS hA [] [0, 1] rfl rfl (by decide) (by decide) (fun u4 H locs hP hD hS => ?_)
  have hP : va_P G.1 vwCl [(x, .inr (7, [.ref wa, .ref wb, .ref su, .ref cu, .ref tr, .ref co, .ref lo, .ref pk])), (pk, .inl (G.2.1, 4, .inl (fp)))] H := hP
  have hD : va_D A [(x, .inr (7, [.ref wa, .ref wb, .ref su, .ref cu, .ref tr, .ref co, .ref lo, .ref pk])), (pk, .inl (G.2.1, 4, .inl (fp)))] := hD
  refine W.eq (g2 := F0 m 30 ls [.int 1]) rfl ?_
  refine lv_if_ne (tgt := 44) hx hb dX7_takePacket_30 (by decide) (fun _ => ?_) (fun h9 => absurd h9 (by decide))
  refine lv_aload_n hx hb dX7_takePacket_44 rfl (lv_at hl 0 rfl) ?_
  refine va_get (D := G.1) (ci := 7) (v := .ref pk) (C := RX7) (T := TX7) (N := 8) hx hb hts hw7 hown hE.1 hP 0 rfl rfl 7 (by decide) hf62 (fun _ h9 => h9) rfl dX7_takePacket_45 ?_
  refine lv_iconst (v := 0) hx hb dX7_takePacket_48 (by decide) ?_
  refine lv_iload_n hx hb dX7_takePacket_49 rfl (lv_at hl 1 rfl) ?_
  refine va_iast hx hb hE.1 hP hD hS 1 0 rfl rfl (zin (by decide +kernel)) dX7_takePacket_50 (fun H locs hP hD hS => ?_)
  have hP : va_P G.1 vwCl [(x, .inr (7, [.ref wa, .ref wb, .ref su, .ref cu, .ref tr, .ref co, .ref lo, .ref pk])), (pk, .inl (G.2.1, 4, .inl (upd fp 0 p0)))] H := hP
  have hD : va_D A [(x, .inr (7, [.ref wa, .ref wb, .ref su, .ref cu, .ref tr, .ref co, .ref lo, .ref pk])), (pk, .inl (G.2.1, 4, .inl (upd fp 0 p0)))] := hD
  refine lv_aload_n hx hb dX7_takePacket_51 rfl (lv_at hl 0 rfl) ?_
  refine va_get (D := G.1) (ci := 7) (v := .ref pk) (C := RX7) (T := TX7) (N := 8) hx hb hts hw7 hown hE.1 hP 0 rfl rfl 7 (by decide) hf62 (fun _ h9 => h9) rfl dX7_takePacket_52 ?_
  refine lv_iconst (v := 1) hx hb dX7_takePacket_55 (by decide) ?_
  refine lv_iload_n hx hb dX7_takePacket_56 rfl (lv_at hl 2 rfl) ?_
  refine va_iast hx hb hE.1 hP hD hS 1 0 rfl rfl (zin (by decide +kernel)) dX7_takePacket_57 (fun H locs hP hD hS => ?_)
  have hP : va_P G.1 vwCl [(x, .inr (7, [.ref wa, .ref wb, .ref su, .ref cu, .ref tr, .ref co, .ref lo, .ref pk])), (pk, .inl (G.2.1, 4, .inl (upd (upd fp 0 p0) 1 p1)))] H := hP
  have hD : va_D A [(x, .inr (7, [.ref wa, .ref wb, .ref su, .ref cu, .ref tr, .ref co, .ref lo, .ref pk])), (pk, .inl (G.2.1, 4, .inl (upd (upd fp 0 p0) 1 p1)))] := hD
  refine lv_aload_n hx hb dX7_takePacket_58 rfl (lv_at hl 0 rfl) ?_
  refine va_get (D := G.1) (ci := 7) (v := .ref pk) (C := RX7) (T := TX7) (N := 8) hx hb hts hw7 hown hE.1 hP 0 rfl rfl 7 (by decide) hf62 (fun _ h9 => h9) rfl dX7_takePacket_59 ?_
  refine lv_iconst (v := 2) hx hb dX7_takePacket_62 (by decide) ?_
  refine lv_iload_n hx hb dX7_takePacket_63 rfl (lv_at hl 3 rfl) ?_
  refine va_iast hx hb hE.1 hP hD hS 1 0 rfl rfl (zin (by decide +kernel)) dX7_takePacket_64 (fun H locs hP hD hS => ?_)
  have hP : va_P G.1 vwCl [(x, .inr (7, [.ref wa, .ref wb, .ref su, .ref cu, .ref tr, .ref co, .ref lo, .ref pk])), (pk, .inl (G.2.1, 4, .inl (upd (upd (upd fp 0 p0) 1 p1) 2 p2)))] H := hP
  have hD : va_D A [(x, .inr (7, [.ref wa, .ref wb, .ref su, .ref cu, .ref tr, .ref co, .ref lo, .ref pk])), (pk, .inl (G.2.1, 4, .inl (upd (upd (upd fp 0 p0) 1 p1) 2 p2)))] := hD
  refine lv_aload_n hx hb dX7_takePacket_65 rfl (lv_at hl 0 rfl) ?_
  refine va_get (D := G.1) (ci := 7) (v := .ref pk) (C := RX7) (T := TX7) (N := 8) hx hb hts hw7 hown hE.1 hP 0 rfl rfl 7 (by decide) hf62 (fun _ h9 => h9) rfl dX7_takePacket_66 ?_
  refine lv_iconst (v := 3) hx hb dX7_takePacket_69 (by decide) ?_
  refine lv_iload hx hb dX7_takePacket_70 (lv_at hl 4 rfl) ?_
  refine va_iast hx hb hE.1 hP hD hS 1 0 rfl rfl (zin (by decide +kernel)) dX7_takePacket_72 (fun H locs hP hD hS => ?_)
  have hP : va_P G.1 vwCl [(x, .inr (7, [.ref wa, .ref wb, .ref su, .ref cu, .ref tr, .ref co, .ref lo, .ref pk])), (pk, .inl (G.2.1, 4, .inl (upd (upd (upd (upd fp 0 p0) 1 p1) 2 p2) 3 p3)))] H := hP
  have hD : va_D A [(x, .inr (7, [.ref wa, .ref wb, .ref su, .ref cu, .ref tr, .ref co, .ref lo, .ref pk])), (pk, .inl (G.2.1, 4, .inl (upd (upd (upd (upd fp 0 p0) 1 p1) 2 p2) 3 p3)))] := hD
  exact zend_v hx hb hr hlocks (fun k => [].getD k 0) hP hD hS (Nat.le_of_ble_eq_true rfl) (Nat.le_of_ble_eq_true rfl) dX7_takePacket_73

set_option maxHeartbeats 4000000 in
set_option maxRecDepth 100000 in
theorem z_X7_takePacketT (l : Launch) (G : zG) (x : Nat) (wa : Nat) (wb : Nat) (su : Nat) (cu : Nat) (tr : Nat) (co : Nat) (lo : Nat) (pk : Nat) (p0 : Int32) (p1 : Int32) (p2 : Int32) (p3 : Int32) (hl0 : l.stackTraces = false) (hbad : zBad p0 p1 p2 p3) : zT l G yX7_takePacket wsX7_takePacket { frames := 6, cells := 1, slots := 6, locals := 82 } [(x, .inr (7, [.ref wa, .ref wb, .ref su, .ref cu, .ref tr, .ref co, .ref lo, .ref pk]))] [.ref x, .int p0, .int p1, .int p2, .int p3] "java/lang/IllegalArgumentException" [(x, .inr (7, [.ref wa, .ref wb, .ref su, .ref cu, .ref tr, .ref co, .ref lo, .ref pk]))] 1 6 := by
  refine zT_of (cc := cX7_takePacket) (maxL := 5) (rt := none) (by decide) rfl (Nat.le_of_ble_eq_true rfl) ?_
  intro p e s m below meth c A ls hx hb hml hr hts hown hlocks ht hA hE hP hD hS hl
  have hl : lv_has ls 5 [(0, .ref x), (1, .int p0), (2, .int p1), (3, .int p2), (4, .int p3)] := hl
  have hown : s.vm.findClass RX7 = some m.cls := hown
  have hP : va_P G.1 vwCl [(x, .inr (7, [.ref wa, .ref wb, .ref su, .ref cu, .ref tr, .ref co, .ref lo, .ref pk]))] s.heap := hP
  have hcl99 := hts (.classLink RX7 99 "java/lang/IllegalArgumentException") (by decide +kernel)
  have hiniIllegalArgumentException := hts (.initialized "java/lang/IllegalArgumentException") (by decide +kernel)
  rcases hbad with a0 | ⟨a0, b0⟩ | ⟨⟨a0, b0⟩, a1 | ⟨a1, b1⟩ | ⟨⟨a1, b1⟩, a2 | ⟨a2, b2⟩ | ⟨⟨a2, b2⟩, a3 | ⟨a3, b3⟩⟩⟩⟩
  · refine lv_iconst (v := 0) hx hb dX7_takePacket_0 (by decide) ?_
    refine lv_iload_n hx hb dX7_takePacket_1 rfl (lv_at hl 1 rfl) ?_
    refine zcall (wr := [(x, .inr (7, [.ref wa, .ref wb, .ref su, .ref cu, .ref tr, .ref co, .ref lo, .ref pk]))]) (va_runS (As := [.int 0, .int p0]) (rest := []) ⟨hx, hb, hml, hown, hts⟩ (z_X7_isValue0n l G p0 a0 s.heap.size) (va_cwS 2 hts gX7_takePacket_X7_isValue rfl rfl rfl (by decide +kernel) ⟨Nat.le_of_ble_eq_true rfl, Nat.le_of_ble_eq_true rfl⟩) (zPre (Wc := []) hP hD hE hS hA [] rfl (by decide)) rfl rfl hl.1 rfl (lv_room (Nat.le_of_ble_eq_true rfl)) dX7_takePacket_2 ⟨Nat.le_of_ble_eq_true rfl, Nat.le_of_ble_eq_true rfl⟩) hP hD hS hA [] [0] rfl rfl (by decide) (by decide) (fun u1 H locs hP hD hS => ?_)
    have hP : va_P G.1 vwCl [(x, .inr (7, [.ref wa, .ref wb, .ref su, .ref cu, .ref tr, .ref co, .ref lo, .ref pk]))] H := hP
    have hD : va_D A [(x, .inr (7, [.ref wa, .ref wb, .ref su, .ref cu, .ref tr, .ref co, .ref lo, .ref pk]))] := hD
    refine W.eq (g2 := F0 m 5 ls [.int 0]) rfl ?_
    refine lv_if_eq (tgt := 33) hx hb dX7_takePacket_5 (by decide) (fun _ => ?_) (fun h9 => absurd (by decide) h9)
    exact zthrowW (ik := 99) (ic := 103) hx hb hl0 hown (by decide +kernel) hcl99 hiniIllegalArgumentException (fun w h => hts w (List.mem_cons_of_mem _ (List.mem_append_right _ h))) (by decide +kernel) (va_Nw.use rfl hE.2.2.2.2.2.2.2.2.2.2.1) (by decide +kernel) (hE.2.2.2.2.2.1 (369, "no such packet") (by simp)) hE hP hD hS (hl.1.trans hml.symm) dX7_takePacket_33 dX7_takePacket_36 dX7_takePacket_37 dX7_takePacket_40 dX7_takePacket_43 ht (Nat.le_of_ble_eq_true rfl) (Nat.le_of_ble_eq_true rfl) (Nat.le_of_ble_eq_true rfl) (Nat.le_of_ble_eq_true rfl) hlocks (Nat.le_of_ble_eq_true rfl) (Nat.le_of_ble_eq_true rfl)
  · refine lv_iconst (v := 0) hx hb dX7_takePacket_0 (by decide) ?_
    refine lv_iload_n hx hb dX7_takePacket_1 rfl (lv_at hl 1 rfl) ?_
    refine zcall (wr := [(x, .inr (7, [.ref wa, .ref wb, .ref su, .ref cu, .ref tr, .ref co, .ref lo, .ref pk]))]) (va_runS (As := [.int 0, .int p0]) (rest := []) ⟨hx, hb, hml, hown, hts⟩ (z_X7_isValue0b l G p0 a0 b0 s.heap.size) (va_cwS 2 hts gX7_takePacket_X7_isValue rfl rfl rfl (by decide +kernel) ⟨Nat.le_of_ble_eq_true rfl, Nat.le_of_ble_eq_true rfl⟩) (zPre (Wc := []) hP hD hE hS hA [] rfl (by decide)) rfl rfl hl.1 rfl (lv_room (Nat.le_of_ble_eq_true rfl)) dX7_takePacket_2 ⟨Nat.le_of_ble_eq_true rfl, Nat.le_of_ble_eq_true rfl⟩) hP hD hS hA [] [0] rfl rfl (by decide) (by decide) (fun u1 H locs hP hD hS => ?_)
    have hP : va_P G.1 vwCl [(x, .inr (7, [.ref wa, .ref wb, .ref su, .ref cu, .ref tr, .ref co, .ref lo, .ref pk]))] H := hP
    have hD : va_D A [(x, .inr (7, [.ref wa, .ref wb, .ref su, .ref cu, .ref tr, .ref co, .ref lo, .ref pk]))] := hD
    refine W.eq (g2 := F0 m 5 ls [.int 0]) rfl ?_
    refine lv_if_eq (tgt := 33) hx hb dX7_takePacket_5 (by decide) (fun _ => ?_) (fun h9 => absurd (by decide) h9)
    exact zthrowW (ik := 99) (ic := 103) hx hb hl0 hown (by decide +kernel) hcl99 hiniIllegalArgumentException (fun w h => hts w (List.mem_cons_of_mem _ (List.mem_append_right _ h))) (by decide +kernel) (va_Nw.use rfl hE.2.2.2.2.2.2.2.2.2.2.1) (by decide +kernel) (hE.2.2.2.2.2.1 (369, "no such packet") (by simp)) hE hP hD hS (hl.1.trans hml.symm) dX7_takePacket_33 dX7_takePacket_36 dX7_takePacket_37 dX7_takePacket_40 dX7_takePacket_43 ht (Nat.le_of_ble_eq_true rfl) (Nat.le_of_ble_eq_true rfl) (Nat.le_of_ble_eq_true rfl) (Nat.le_of_ble_eq_true rfl) hlocks (Nat.le_of_ble_eq_true rfl) (Nat.le_of_ble_eq_true rfl)
  · refine lv_iconst (v := 0) hx hb dX7_takePacket_0 (by decide) ?_
    refine lv_iload_n hx hb dX7_takePacket_1 rfl (lv_at hl 1 rfl) ?_
    refine zcall (wr := [(x, .inr (7, [.ref wa, .ref wb, .ref su, .ref cu, .ref tr, .ref co, .ref lo, .ref pk]))]) (va_runS (As := [.int 0, .int p0]) (rest := []) ⟨hx, hb, hml, hown, hts⟩ (z_X7_isValue0 l G p0 a0 b0 s.heap.size) (va_cwS 2 hts gX7_takePacket_X7_isValue rfl rfl rfl (by decide +kernel) ⟨Nat.le_of_ble_eq_true rfl, Nat.le_of_ble_eq_true rfl⟩) (zPre (Wc := []) hP hD hE hS hA [] rfl (by decide)) rfl rfl hl.1 rfl (lv_room (Nat.le_of_ble_eq_true rfl)) dX7_takePacket_2 ⟨Nat.le_of_ble_eq_true rfl, Nat.le_of_ble_eq_true rfl⟩) hP hD hS hA [] [0] rfl rfl (by decide) (by decide) (fun u1 H locs hP hD hS => ?_)
    have hP : va_P G.1 vwCl [(x, .inr (7, [.ref wa, .ref wb, .ref su, .ref cu, .ref tr, .ref co, .ref lo, .ref pk]))] H := hP
    have hD : va_D A [(x, .inr (7, [.ref wa, .ref wb, .ref su, .ref cu, .ref tr, .ref co, .ref lo, .ref pk]))] := hD
    refine W.eq (g2 := F0 m 5 ls [.int 1]) rfl ?_
    refine lv_if_eq (tgt := 33) hx hb dX7_takePacket_5 (by decide) (fun h9 => absurd h9 (by decide)) (fun _ => ?_)
    refine lv_iconst (v := 1) hx hb dX7_takePacket_8 (by decide) ?_
    refine lv_iload_n hx hb dX7_takePacket_9 rfl (lv_at hl 2 rfl) ?_
    refine zcall (wr := [(x, .inr (7, [.ref wa, .ref wb, .ref su, .ref cu, .ref tr, .ref co, .ref lo, .ref pk]))]) (va_runS (As := [.int 1, .int p1]) (rest := []) ⟨hx, hb, hml, hown, hts⟩ (z_X7_isValue1n l G p1 a1 H.size) (va_cwS 2 hts gX7_takePacket_X7_isValue rfl rfl rfl (by decide +kernel) ⟨Nat.le_of_ble_eq_true rfl, Nat.le_of_ble_eq_true rfl⟩) (zPre (Wc := []) hP hD hE hS hA [] rfl (by decide)) rfl rfl hl.1 rfl (lv_room (Nat.le_of_ble_eq_true rfl)) dX7_takePacket_10 ⟨Nat.le_of_ble_eq_true rfl, Nat.le_of_ble_eq_true rfl⟩) hP hD hS hA [] [0] rfl rfl (by decide) (by decide) (fun u2 H locs hP hD hS => ?_)
    have hP : va_P G.1 vwCl [(x, .inr (7, [.ref wa, .ref wb, .ref su, .ref cu, .ref tr, .ref co, .ref lo, .ref pk]))] H := hP
    have hD : va_D A [(x, .inr (7, [.ref wa, .ref wb, .ref su, .ref cu, .ref tr, .ref co, .ref lo, .ref pk]))] := hD
    refine W.eq (g2 := F0 m 13 ls [.int 0]) rfl ?_
    refine lv_if_eq (tgt := 33) hx hb dX7_takePacket_13 (by decide) (fun _ => ?_) (fun h9 => absurd (by decide) h9)
    exact zthrowW (ik := 99) (ic := 103) hx hb hl0 hown (by decide +kernel) hcl99 hiniIllegalArgumentException (fun w h => hts w (List.mem_cons_of_mem _ (List.mem_append_right _ h))) (by decide +kernel) (va_Nw.use rfl hE.2.2.2.2.2.2.2.2.2.2.1) (by decide +kernel) (hE.2.2.2.2.2.1 (369, "no such packet") (by simp)) hE hP hD hS (hl.1.trans hml.symm) dX7_takePacket_33 dX7_takePacket_36 dX7_takePacket_37 dX7_takePacket_40 dX7_takePacket_43 ht (Nat.le_of_ble_eq_true rfl) (Nat.le_of_ble_eq_true rfl) (Nat.le_of_ble_eq_true rfl) (Nat.le_of_ble_eq_true rfl) hlocks (Nat.le_of_ble_eq_true rfl) (Nat.le_of_ble_eq_true rfl)
  · refine lv_iconst (v := 0) hx hb dX7_takePacket_0 (by decide) ?_
    refine lv_iload_n hx hb dX7_takePacket_1 rfl (lv_at hl 1 rfl) ?_
    refine zcall (wr := [(x, .inr (7, [.ref wa, .ref wb, .ref su, .ref cu, .ref tr, .ref co, .ref lo, .ref pk]))]) (va_runS (As := [.int 0, .int p0]) (rest := []) ⟨hx, hb, hml, hown, hts⟩ (z_X7_isValue0 l G p0 a0 b0 s.heap.size) (va_cwS 2 hts gX7_takePacket_X7_isValue rfl rfl rfl (by decide +kernel) ⟨Nat.le_of_ble_eq_true rfl, Nat.le_of_ble_eq_true rfl⟩) (zPre (Wc := []) hP hD hE hS hA [] rfl (by decide)) rfl rfl hl.1 rfl (lv_room (Nat.le_of_ble_eq_true rfl)) dX7_takePacket_2 ⟨Nat.le_of_ble_eq_true rfl, Nat.le_of_ble_eq_true rfl⟩) hP hD hS hA [] [0] rfl rfl (by decide) (by decide) (fun u1 H locs hP hD hS => ?_)
    have hP : va_P G.1 vwCl [(x, .inr (7, [.ref wa, .ref wb, .ref su, .ref cu, .ref tr, .ref co, .ref lo, .ref pk]))] H := hP
    have hD : va_D A [(x, .inr (7, [.ref wa, .ref wb, .ref su, .ref cu, .ref tr, .ref co, .ref lo, .ref pk]))] := hD
    refine W.eq (g2 := F0 m 5 ls [.int 1]) rfl ?_
    refine lv_if_eq (tgt := 33) hx hb dX7_takePacket_5 (by decide) (fun h9 => absurd h9 (by decide)) (fun _ => ?_)
    refine lv_iconst (v := 1) hx hb dX7_takePacket_8 (by decide) ?_
    refine lv_iload_n hx hb dX7_takePacket_9 rfl (lv_at hl 2 rfl) ?_
    refine zcall (wr := [(x, .inr (7, [.ref wa, .ref wb, .ref su, .ref cu, .ref tr, .ref co, .ref lo, .ref pk]))]) (va_runS (As := [.int 1, .int p1]) (rest := []) ⟨hx, hb, hml, hown, hts⟩ (z_X7_isValue1b l G p1 a1 b1 H.size) (va_cwS 2 hts gX7_takePacket_X7_isValue rfl rfl rfl (by decide +kernel) ⟨Nat.le_of_ble_eq_true rfl, Nat.le_of_ble_eq_true rfl⟩) (zPre (Wc := []) hP hD hE hS hA [] rfl (by decide)) rfl rfl hl.1 rfl (lv_room (Nat.le_of_ble_eq_true rfl)) dX7_takePacket_10 ⟨Nat.le_of_ble_eq_true rfl, Nat.le_of_ble_eq_true rfl⟩) hP hD hS hA [] [0] rfl rfl (by decide) (by decide) (fun u2 H locs hP hD hS => ?_)
    have hP : va_P G.1 vwCl [(x, .inr (7, [.ref wa, .ref wb, .ref su, .ref cu, .ref tr, .ref co, .ref lo, .ref pk]))] H := hP
    have hD : va_D A [(x, .inr (7, [.ref wa, .ref wb, .ref su, .ref cu, .ref tr, .ref co, .ref lo, .ref pk]))] := hD
    refine W.eq (g2 := F0 m 13 ls [.int 0]) rfl ?_
    refine lv_if_eq (tgt := 33) hx hb dX7_takePacket_13 (by decide) (fun _ => ?_) (fun h9 => absurd (by decide) h9)
    exact zthrowW (ik := 99) (ic := 103) hx hb hl0 hown (by decide +kernel) hcl99 hiniIllegalArgumentException (fun w h => hts w (List.mem_cons_of_mem _ (List.mem_append_right _ h))) (by decide +kernel) (va_Nw.use rfl hE.2.2.2.2.2.2.2.2.2.2.1) (by decide +kernel) (hE.2.2.2.2.2.1 (369, "no such packet") (by simp)) hE hP hD hS (hl.1.trans hml.symm) dX7_takePacket_33 dX7_takePacket_36 dX7_takePacket_37 dX7_takePacket_40 dX7_takePacket_43 ht (Nat.le_of_ble_eq_true rfl) (Nat.le_of_ble_eq_true rfl) (Nat.le_of_ble_eq_true rfl) (Nat.le_of_ble_eq_true rfl) hlocks (Nat.le_of_ble_eq_true rfl) (Nat.le_of_ble_eq_true rfl)
  · refine lv_iconst (v := 0) hx hb dX7_takePacket_0 (by decide) ?_
    refine lv_iload_n hx hb dX7_takePacket_1 rfl (lv_at hl 1 rfl) ?_
    refine zcall (wr := [(x, .inr (7, [.ref wa, .ref wb, .ref su, .ref cu, .ref tr, .ref co, .ref lo, .ref pk]))]) (va_runS (As := [.int 0, .int p0]) (rest := []) ⟨hx, hb, hml, hown, hts⟩ (z_X7_isValue0 l G p0 a0 b0 s.heap.size) (va_cwS 2 hts gX7_takePacket_X7_isValue rfl rfl rfl (by decide +kernel) ⟨Nat.le_of_ble_eq_true rfl, Nat.le_of_ble_eq_true rfl⟩) (zPre (Wc := []) hP hD hE hS hA [] rfl (by decide)) rfl rfl hl.1 rfl (lv_room (Nat.le_of_ble_eq_true rfl)) dX7_takePacket_2 ⟨Nat.le_of_ble_eq_true rfl, Nat.le_of_ble_eq_true rfl⟩) hP hD hS hA [] [0] rfl rfl (by decide) (by decide) (fun u1 H locs hP hD hS => ?_)
    have hP : va_P G.1 vwCl [(x, .inr (7, [.ref wa, .ref wb, .ref su, .ref cu, .ref tr, .ref co, .ref lo, .ref pk]))] H := hP
    have hD : va_D A [(x, .inr (7, [.ref wa, .ref wb, .ref su, .ref cu, .ref tr, .ref co, .ref lo, .ref pk]))] := hD
    refine W.eq (g2 := F0 m 5 ls [.int 1]) rfl ?_
    refine lv_if_eq (tgt := 33) hx hb dX7_takePacket_5 (by decide) (fun h9 => absurd h9 (by decide)) (fun _ => ?_)
    refine lv_iconst (v := 1) hx hb dX7_takePacket_8 (by decide) ?_
    refine lv_iload_n hx hb dX7_takePacket_9 rfl (lv_at hl 2 rfl) ?_
    refine zcall (wr := [(x, .inr (7, [.ref wa, .ref wb, .ref su, .ref cu, .ref tr, .ref co, .ref lo, .ref pk]))]) (va_runS (As := [.int 1, .int p1]) (rest := []) ⟨hx, hb, hml, hown, hts⟩ (z_X7_isValue1 l G p1 a1 b1 H.size) (va_cwS 2 hts gX7_takePacket_X7_isValue rfl rfl rfl (by decide +kernel) ⟨Nat.le_of_ble_eq_true rfl, Nat.le_of_ble_eq_true rfl⟩) (zPre (Wc := []) hP hD hE hS hA [] rfl (by decide)) rfl rfl hl.1 rfl (lv_room (Nat.le_of_ble_eq_true rfl)) dX7_takePacket_10 ⟨Nat.le_of_ble_eq_true rfl, Nat.le_of_ble_eq_true rfl⟩) hP hD hS hA [] [0] rfl rfl (by decide) (by decide) (fun u2 H locs hP hD hS => ?_)
    have hP : va_P G.1 vwCl [(x, .inr (7, [.ref wa, .ref wb, .ref su, .ref cu, .ref tr, .ref co, .ref lo, .ref pk]))] H := hP
    have hD : va_D A [(x, .inr (7, [.ref wa, .ref wb, .ref su, .ref cu, .ref tr, .ref co, .ref lo, .ref pk]))] := hD
    refine W.eq (g2 := F0 m 13 ls [.int 1]) rfl ?_
    refine lv_if_eq (tgt := 33) hx hb dX7_takePacket_13 (by decide) (fun h9 => absurd h9 (by decide)) (fun _ => ?_)
    refine lv_iconst (v := 2) hx hb dX7_takePacket_16 (by decide) ?_
    refine lv_iload_n hx hb dX7_takePacket_17 rfl (lv_at hl 3 rfl) ?_
    refine zcall (wr := [(x, .inr (7, [.ref wa, .ref wb, .ref su, .ref cu, .ref tr, .ref co, .ref lo, .ref pk]))]) (va_runS (As := [.int 2, .int p2]) (rest := []) ⟨hx, hb, hml, hown, hts⟩ (z_X7_isValue2n l G p2 a2 H.size) (va_cwS 2 hts gX7_takePacket_X7_isValue rfl rfl rfl (by decide +kernel) ⟨Nat.le_of_ble_eq_true rfl, Nat.le_of_ble_eq_true rfl⟩) (zPre (Wc := []) hP hD hE hS hA [] rfl (by decide)) rfl rfl hl.1 rfl (lv_room (Nat.le_of_ble_eq_true rfl)) dX7_takePacket_18 ⟨Nat.le_of_ble_eq_true rfl, Nat.le_of_ble_eq_true rfl⟩) hP hD hS hA [] [0] rfl rfl (by decide) (by decide) (fun u3 H locs hP hD hS => ?_)
    have hP : va_P G.1 vwCl [(x, .inr (7, [.ref wa, .ref wb, .ref su, .ref cu, .ref tr, .ref co, .ref lo, .ref pk]))] H := hP
    have hD : va_D A [(x, .inr (7, [.ref wa, .ref wb, .ref su, .ref cu, .ref tr, .ref co, .ref lo, .ref pk]))] := hD
    refine W.eq (g2 := F0 m 21 ls [.int 0]) rfl ?_
    refine lv_if_eq (tgt := 33) hx hb dX7_takePacket_21 (by decide) (fun _ => ?_) (fun h9 => absurd (by decide) h9)
    exact zthrowW (ik := 99) (ic := 103) hx hb hl0 hown (by decide +kernel) hcl99 hiniIllegalArgumentException (fun w h => hts w (List.mem_cons_of_mem _ (List.mem_append_right _ h))) (by decide +kernel) (va_Nw.use rfl hE.2.2.2.2.2.2.2.2.2.2.1) (by decide +kernel) (hE.2.2.2.2.2.1 (369, "no such packet") (by simp)) hE hP hD hS (hl.1.trans hml.symm) dX7_takePacket_33 dX7_takePacket_36 dX7_takePacket_37 dX7_takePacket_40 dX7_takePacket_43 ht (Nat.le_of_ble_eq_true rfl) (Nat.le_of_ble_eq_true rfl) (Nat.le_of_ble_eq_true rfl) (Nat.le_of_ble_eq_true rfl) hlocks (Nat.le_of_ble_eq_true rfl) (Nat.le_of_ble_eq_true rfl)
  · refine lv_iconst (v := 0) hx hb dX7_takePacket_0 (by decide) ?_
    refine lv_iload_n hx hb dX7_takePacket_1 rfl (lv_at hl 1 rfl) ?_
    refine zcall (wr := [(x, .inr (7, [.ref wa, .ref wb, .ref su, .ref cu, .ref tr, .ref co, .ref lo, .ref pk]))]) (va_runS (As := [.int 0, .int p0]) (rest := []) ⟨hx, hb, hml, hown, hts⟩ (z_X7_isValue0 l G p0 a0 b0 s.heap.size) (va_cwS 2 hts gX7_takePacket_X7_isValue rfl rfl rfl (by decide +kernel) ⟨Nat.le_of_ble_eq_true rfl, Nat.le_of_ble_eq_true rfl⟩) (zPre (Wc := []) hP hD hE hS hA [] rfl (by decide)) rfl rfl hl.1 rfl (lv_room (Nat.le_of_ble_eq_true rfl)) dX7_takePacket_2 ⟨Nat.le_of_ble_eq_true rfl, Nat.le_of_ble_eq_true rfl⟩) hP hD hS hA [] [0] rfl rfl (by decide) (by decide) (fun u1 H locs hP hD hS => ?_)
    have hP : va_P G.1 vwCl [(x, .inr (7, [.ref wa, .ref wb, .ref su, .ref cu, .ref tr, .ref co, .ref lo, .ref pk]))] H := hP
    have hD : va_D A [(x, .inr (7, [.ref wa, .ref wb, .ref su, .ref cu, .ref tr, .ref co, .ref lo, .ref pk]))] := hD
    refine W.eq (g2 := F0 m 5 ls [.int 1]) rfl ?_
    refine lv_if_eq (tgt := 33) hx hb dX7_takePacket_5 (by decide) (fun h9 => absurd h9 (by decide)) (fun _ => ?_)
    refine lv_iconst (v := 1) hx hb dX7_takePacket_8 (by decide) ?_
    refine lv_iload_n hx hb dX7_takePacket_9 rfl (lv_at hl 2 rfl) ?_
    refine zcall (wr := [(x, .inr (7, [.ref wa, .ref wb, .ref su, .ref cu, .ref tr, .ref co, .ref lo, .ref pk]))]) (va_runS (As := [.int 1, .int p1]) (rest := []) ⟨hx, hb, hml, hown, hts⟩ (z_X7_isValue1 l G p1 a1 b1 H.size) (va_cwS 2 hts gX7_takePacket_X7_isValue rfl rfl rfl (by decide +kernel) ⟨Nat.le_of_ble_eq_true rfl, Nat.le_of_ble_eq_true rfl⟩) (zPre (Wc := []) hP hD hE hS hA [] rfl (by decide)) rfl rfl hl.1 rfl (lv_room (Nat.le_of_ble_eq_true rfl)) dX7_takePacket_10 ⟨Nat.le_of_ble_eq_true rfl, Nat.le_of_ble_eq_true rfl⟩) hP hD hS hA [] [0] rfl rfl (by decide) (by decide) (fun u2 H locs hP hD hS => ?_)
    have hP : va_P G.1 vwCl [(x, .inr (7, [.ref wa, .ref wb, .ref su, .ref cu, .ref tr, .ref co, .ref lo, .ref pk]))] H := hP
    have hD : va_D A [(x, .inr (7, [.ref wa, .ref wb, .ref su, .ref cu, .ref tr, .ref co, .ref lo, .ref pk]))] := hD
    refine W.eq (g2 := F0 m 13 ls [.int 1]) rfl ?_
    refine lv_if_eq (tgt := 33) hx hb dX7_takePacket_13 (by decide) (fun h9 => absurd h9 (by decide)) (fun _ => ?_)
    refine lv_iconst (v := 2) hx hb dX7_takePacket_16 (by decide) ?_
    refine lv_iload_n hx hb dX7_takePacket_17 rfl (lv_at hl 3 rfl) ?_
    refine zcall (wr := [(x, .inr (7, [.ref wa, .ref wb, .ref su, .ref cu, .ref tr, .ref co, .ref lo, .ref pk]))]) (va_runS (As := [.int 2, .int p2]) (rest := []) ⟨hx, hb, hml, hown, hts⟩ (z_X7_isValue2b l G p2 a2 b2 H.size) (va_cwS 2 hts gX7_takePacket_X7_isValue rfl rfl rfl (by decide +kernel) ⟨Nat.le_of_ble_eq_true rfl, Nat.le_of_ble_eq_true rfl⟩) (zPre (Wc := []) hP hD hE hS hA [] rfl (by decide)) rfl rfl hl.1 rfl (lv_room (Nat.le_of_ble_eq_true rfl)) dX7_takePacket_18 ⟨Nat.le_of_ble_eq_true rfl, Nat.le_of_ble_eq_true rfl⟩) hP hD hS hA [] [0] rfl rfl (by decide) (by decide) (fun u3 H locs hP hD hS => ?_)
    have hP : va_P G.1 vwCl [(x, .inr (7, [.ref wa, .ref wb, .ref su, .ref cu, .ref tr, .ref co, .ref lo, .ref pk]))] H := hP
    have hD : va_D A [(x, .inr (7, [.ref wa, .ref wb, .ref su, .ref cu, .ref tr, .ref co, .ref lo, .ref pk]))] := hD
    refine W.eq (g2 := F0 m 21 ls [.int 0]) rfl ?_
    refine lv_if_eq (tgt := 33) hx hb dX7_takePacket_21 (by decide) (fun _ => ?_) (fun h9 => absurd (by decide) h9)
    exact zthrowW (ik := 99) (ic := 103) hx hb hl0 hown (by decide +kernel) hcl99 hiniIllegalArgumentException (fun w h => hts w (List.mem_cons_of_mem _ (List.mem_append_right _ h))) (by decide +kernel) (va_Nw.use rfl hE.2.2.2.2.2.2.2.2.2.2.1) (by decide +kernel) (hE.2.2.2.2.2.1 (369, "no such packet") (by simp)) hE hP hD hS (hl.1.trans hml.symm) dX7_takePacket_33 dX7_takePacket_36 dX7_takePacket_37 dX7_takePacket_40 dX7_takePacket_43 ht (Nat.le_of_ble_eq_true rfl) (Nat.le_of_ble_eq_true rfl) (Nat.le_of_ble_eq_true rfl) (Nat.le_of_ble_eq_true rfl) hlocks (Nat.le_of_ble_eq_true rfl) (Nat.le_of_ble_eq_true rfl)
  · refine lv_iconst (v := 0) hx hb dX7_takePacket_0 (by decide) ?_
    refine lv_iload_n hx hb dX7_takePacket_1 rfl (lv_at hl 1 rfl) ?_
    refine zcall (wr := [(x, .inr (7, [.ref wa, .ref wb, .ref su, .ref cu, .ref tr, .ref co, .ref lo, .ref pk]))]) (va_runS (As := [.int 0, .int p0]) (rest := []) ⟨hx, hb, hml, hown, hts⟩ (z_X7_isValue0 l G p0 a0 b0 s.heap.size) (va_cwS 2 hts gX7_takePacket_X7_isValue rfl rfl rfl (by decide +kernel) ⟨Nat.le_of_ble_eq_true rfl, Nat.le_of_ble_eq_true rfl⟩) (zPre (Wc := []) hP hD hE hS hA [] rfl (by decide)) rfl rfl hl.1 rfl (lv_room (Nat.le_of_ble_eq_true rfl)) dX7_takePacket_2 ⟨Nat.le_of_ble_eq_true rfl, Nat.le_of_ble_eq_true rfl⟩) hP hD hS hA [] [0] rfl rfl (by decide) (by decide) (fun u1 H locs hP hD hS => ?_)
    have hP : va_P G.1 vwCl [(x, .inr (7, [.ref wa, .ref wb, .ref su, .ref cu, .ref tr, .ref co, .ref lo, .ref pk]))] H := hP
    have hD : va_D A [(x, .inr (7, [.ref wa, .ref wb, .ref su, .ref cu, .ref tr, .ref co, .ref lo, .ref pk]))] := hD
    refine W.eq (g2 := F0 m 5 ls [.int 1]) rfl ?_
    refine lv_if_eq (tgt := 33) hx hb dX7_takePacket_5 (by decide) (fun h9 => absurd h9 (by decide)) (fun _ => ?_)
    refine lv_iconst (v := 1) hx hb dX7_takePacket_8 (by decide) ?_
    refine lv_iload_n hx hb dX7_takePacket_9 rfl (lv_at hl 2 rfl) ?_
    refine zcall (wr := [(x, .inr (7, [.ref wa, .ref wb, .ref su, .ref cu, .ref tr, .ref co, .ref lo, .ref pk]))]) (va_runS (As := [.int 1, .int p1]) (rest := []) ⟨hx, hb, hml, hown, hts⟩ (z_X7_isValue1 l G p1 a1 b1 H.size) (va_cwS 2 hts gX7_takePacket_X7_isValue rfl rfl rfl (by decide +kernel) ⟨Nat.le_of_ble_eq_true rfl, Nat.le_of_ble_eq_true rfl⟩) (zPre (Wc := []) hP hD hE hS hA [] rfl (by decide)) rfl rfl hl.1 rfl (lv_room (Nat.le_of_ble_eq_true rfl)) dX7_takePacket_10 ⟨Nat.le_of_ble_eq_true rfl, Nat.le_of_ble_eq_true rfl⟩) hP hD hS hA [] [0] rfl rfl (by decide) (by decide) (fun u2 H locs hP hD hS => ?_)
    have hP : va_P G.1 vwCl [(x, .inr (7, [.ref wa, .ref wb, .ref su, .ref cu, .ref tr, .ref co, .ref lo, .ref pk]))] H := hP
    have hD : va_D A [(x, .inr (7, [.ref wa, .ref wb, .ref su, .ref cu, .ref tr, .ref co, .ref lo, .ref pk]))] := hD
    refine W.eq (g2 := F0 m 13 ls [.int 1]) rfl ?_
    refine lv_if_eq (tgt := 33) hx hb dX7_takePacket_13 (by decide) (fun h9 => absurd h9 (by decide)) (fun _ => ?_)
    refine lv_iconst (v := 2) hx hb dX7_takePacket_16 (by decide) ?_
    refine lv_iload_n hx hb dX7_takePacket_17 rfl (lv_at hl 3 rfl) ?_
    refine zcall (wr := [(x, .inr (7, [.ref wa, .ref wb, .ref su, .ref cu, .ref tr, .ref co, .ref lo, .ref pk]))]) (va_runS (As := [.int 2, .int p2]) (rest := []) ⟨hx, hb, hml, hown, hts⟩ (z_X7_isValue2 l G p2 a2 b2 H.size) (va_cwS 2 hts gX7_takePacket_X7_isValue rfl rfl rfl (by decide +kernel) ⟨Nat.le_of_ble_eq_true rfl, Nat.le_of_ble_eq_true rfl⟩) (zPre (Wc := []) hP hD hE hS hA [] rfl (by decide)) rfl rfl hl.1 rfl (lv_room (Nat.le_of_ble_eq_true rfl)) dX7_takePacket_18 ⟨Nat.le_of_ble_eq_true rfl, Nat.le_of_ble_eq_true rfl⟩) hP hD hS hA [] [0] rfl rfl (by decide) (by decide) (fun u3 H locs hP hD hS => ?_)
    have hP : va_P G.1 vwCl [(x, .inr (7, [.ref wa, .ref wb, .ref su, .ref cu, .ref tr, .ref co, .ref lo, .ref pk]))] H := hP
    have hD : va_D A [(x, .inr (7, [.ref wa, .ref wb, .ref su, .ref cu, .ref tr, .ref co, .ref lo, .ref pk]))] := hD
    refine W.eq (g2 := F0 m 21 ls [.int 1]) rfl ?_
    refine lv_if_eq (tgt := 33) hx hb dX7_takePacket_21 (by decide) (fun h9 => absurd h9 (by decide)) (fun _ => ?_)
    refine lv_iconst (v := 3) hx hb dX7_takePacket_24 (by decide) ?_
    refine lv_iload hx hb dX7_takePacket_25 (lv_at hl 4 rfl) ?_
    refine zcall (wr := [(x, .inr (7, [.ref wa, .ref wb, .ref su, .ref cu, .ref tr, .ref co, .ref lo, .ref pk]))]) (va_runS (As := [.int 3, .int p3]) (rest := []) ⟨hx, hb, hml, hown, hts⟩ (z_X7_isValue3n l G p3 a3 H.size) (va_cwS 2 hts gX7_takePacket_X7_isValue rfl rfl rfl (by decide +kernel) ⟨Nat.le_of_ble_eq_true rfl, Nat.le_of_ble_eq_true rfl⟩) (zPre (Wc := []) hP hD hE hS hA [] rfl (by decide)) rfl rfl hl.1 rfl (lv_room (Nat.le_of_ble_eq_true rfl)) dX7_takePacket_27 ⟨Nat.le_of_ble_eq_true rfl, Nat.le_of_ble_eq_true rfl⟩) hP hD hS hA [] [0] rfl rfl (by decide) (by decide) (fun u4 H locs hP hD hS => ?_)
    have hP : va_P G.1 vwCl [(x, .inr (7, [.ref wa, .ref wb, .ref su, .ref cu, .ref tr, .ref co, .ref lo, .ref pk]))] H := hP
    have hD : va_D A [(x, .inr (7, [.ref wa, .ref wb, .ref su, .ref cu, .ref tr, .ref co, .ref lo, .ref pk]))] := hD
    refine W.eq (g2 := F0 m 30 ls [.int 0]) rfl ?_
    refine lv_if_ne (tgt := 44) hx hb dX7_takePacket_30 (by decide) (fun h9 => absurd (by decide) h9) (fun _ => ?_)
    exact zthrowW (ik := 99) (ic := 103) hx hb hl0 hown (by decide +kernel) hcl99 hiniIllegalArgumentException (fun w h => hts w (List.mem_cons_of_mem _ (List.mem_append_right _ h))) (by decide +kernel) (va_Nw.use rfl hE.2.2.2.2.2.2.2.2.2.2.1) (by decide +kernel) (hE.2.2.2.2.2.1 (369, "no such packet") (by simp)) hE hP hD hS (hl.1.trans hml.symm) dX7_takePacket_33 dX7_takePacket_36 dX7_takePacket_37 dX7_takePacket_40 dX7_takePacket_43 ht (Nat.le_of_ble_eq_true rfl) (Nat.le_of_ble_eq_true rfl) (Nat.le_of_ble_eq_true rfl) (Nat.le_of_ble_eq_true rfl) hlocks (Nat.le_of_ble_eq_true rfl) (Nat.le_of_ble_eq_true rfl)
  · refine lv_iconst (v := 0) hx hb dX7_takePacket_0 (by decide) ?_
    refine lv_iload_n hx hb dX7_takePacket_1 rfl (lv_at hl 1 rfl) ?_
    refine zcall (wr := [(x, .inr (7, [.ref wa, .ref wb, .ref su, .ref cu, .ref tr, .ref co, .ref lo, .ref pk]))]) (va_runS (As := [.int 0, .int p0]) (rest := []) ⟨hx, hb, hml, hown, hts⟩ (z_X7_isValue0 l G p0 a0 b0 s.heap.size) (va_cwS 2 hts gX7_takePacket_X7_isValue rfl rfl rfl (by decide +kernel) ⟨Nat.le_of_ble_eq_true rfl, Nat.le_of_ble_eq_true rfl⟩) (zPre (Wc := []) hP hD hE hS hA [] rfl (by decide)) rfl rfl hl.1 rfl (lv_room (Nat.le_of_ble_eq_true rfl)) dX7_takePacket_2 ⟨Nat.le_of_ble_eq_true rfl, Nat.le_of_ble_eq_true rfl⟩) hP hD hS hA [] [0] rfl rfl (by decide) (by decide) (fun u1 H locs hP hD hS => ?_)
    have hP : va_P G.1 vwCl [(x, .inr (7, [.ref wa, .ref wb, .ref su, .ref cu, .ref tr, .ref co, .ref lo, .ref pk]))] H := hP
    have hD : va_D A [(x, .inr (7, [.ref wa, .ref wb, .ref su, .ref cu, .ref tr, .ref co, .ref lo, .ref pk]))] := hD
    refine W.eq (g2 := F0 m 5 ls [.int 1]) rfl ?_
    refine lv_if_eq (tgt := 33) hx hb dX7_takePacket_5 (by decide) (fun h9 => absurd h9 (by decide)) (fun _ => ?_)
    refine lv_iconst (v := 1) hx hb dX7_takePacket_8 (by decide) ?_
    refine lv_iload_n hx hb dX7_takePacket_9 rfl (lv_at hl 2 rfl) ?_
    refine zcall (wr := [(x, .inr (7, [.ref wa, .ref wb, .ref su, .ref cu, .ref tr, .ref co, .ref lo, .ref pk]))]) (va_runS (As := [.int 1, .int p1]) (rest := []) ⟨hx, hb, hml, hown, hts⟩ (z_X7_isValue1 l G p1 a1 b1 H.size) (va_cwS 2 hts gX7_takePacket_X7_isValue rfl rfl rfl (by decide +kernel) ⟨Nat.le_of_ble_eq_true rfl, Nat.le_of_ble_eq_true rfl⟩) (zPre (Wc := []) hP hD hE hS hA [] rfl (by decide)) rfl rfl hl.1 rfl (lv_room (Nat.le_of_ble_eq_true rfl)) dX7_takePacket_10 ⟨Nat.le_of_ble_eq_true rfl, Nat.le_of_ble_eq_true rfl⟩) hP hD hS hA [] [0] rfl rfl (by decide) (by decide) (fun u2 H locs hP hD hS => ?_)
    have hP : va_P G.1 vwCl [(x, .inr (7, [.ref wa, .ref wb, .ref su, .ref cu, .ref tr, .ref co, .ref lo, .ref pk]))] H := hP
    have hD : va_D A [(x, .inr (7, [.ref wa, .ref wb, .ref su, .ref cu, .ref tr, .ref co, .ref lo, .ref pk]))] := hD
    refine W.eq (g2 := F0 m 13 ls [.int 1]) rfl ?_
    refine lv_if_eq (tgt := 33) hx hb dX7_takePacket_13 (by decide) (fun h9 => absurd h9 (by decide)) (fun _ => ?_)
    refine lv_iconst (v := 2) hx hb dX7_takePacket_16 (by decide) ?_
    refine lv_iload_n hx hb dX7_takePacket_17 rfl (lv_at hl 3 rfl) ?_
    refine zcall (wr := [(x, .inr (7, [.ref wa, .ref wb, .ref su, .ref cu, .ref tr, .ref co, .ref lo, .ref pk]))]) (va_runS (As := [.int 2, .int p2]) (rest := []) ⟨hx, hb, hml, hown, hts⟩ (z_X7_isValue2 l G p2 a2 b2 H.size) (va_cwS 2 hts gX7_takePacket_X7_isValue rfl rfl rfl (by decide +kernel) ⟨Nat.le_of_ble_eq_true rfl, Nat.le_of_ble_eq_true rfl⟩) (zPre (Wc := []) hP hD hE hS hA [] rfl (by decide)) rfl rfl hl.1 rfl (lv_room (Nat.le_of_ble_eq_true rfl)) dX7_takePacket_18 ⟨Nat.le_of_ble_eq_true rfl, Nat.le_of_ble_eq_true rfl⟩) hP hD hS hA [] [0] rfl rfl (by decide) (by decide) (fun u3 H locs hP hD hS => ?_)
    have hP : va_P G.1 vwCl [(x, .inr (7, [.ref wa, .ref wb, .ref su, .ref cu, .ref tr, .ref co, .ref lo, .ref pk]))] H := hP
    have hD : va_D A [(x, .inr (7, [.ref wa, .ref wb, .ref su, .ref cu, .ref tr, .ref co, .ref lo, .ref pk]))] := hD
    refine W.eq (g2 := F0 m 21 ls [.int 1]) rfl ?_
    refine lv_if_eq (tgt := 33) hx hb dX7_takePacket_21 (by decide) (fun h9 => absurd h9 (by decide)) (fun _ => ?_)
    refine lv_iconst (v := 3) hx hb dX7_takePacket_24 (by decide) ?_
    refine lv_iload hx hb dX7_takePacket_25 (lv_at hl 4 rfl) ?_
    refine zcall (wr := [(x, .inr (7, [.ref wa, .ref wb, .ref su, .ref cu, .ref tr, .ref co, .ref lo, .ref pk]))]) (va_runS (As := [.int 3, .int p3]) (rest := []) ⟨hx, hb, hml, hown, hts⟩ (z_X7_isValue3b l G p3 a3 b3 H.size) (va_cwS 2 hts gX7_takePacket_X7_isValue rfl rfl rfl (by decide +kernel) ⟨Nat.le_of_ble_eq_true rfl, Nat.le_of_ble_eq_true rfl⟩) (zPre (Wc := []) hP hD hE hS hA [] rfl (by decide)) rfl rfl hl.1 rfl (lv_room (Nat.le_of_ble_eq_true rfl)) dX7_takePacket_27 ⟨Nat.le_of_ble_eq_true rfl, Nat.le_of_ble_eq_true rfl⟩) hP hD hS hA [] [0] rfl rfl (by decide) (by decide) (fun u4 H locs hP hD hS => ?_)
    have hP : va_P G.1 vwCl [(x, .inr (7, [.ref wa, .ref wb, .ref su, .ref cu, .ref tr, .ref co, .ref lo, .ref pk]))] H := hP
    have hD : va_D A [(x, .inr (7, [.ref wa, .ref wb, .ref su, .ref cu, .ref tr, .ref co, .ref lo, .ref pk]))] := hD
    refine W.eq (g2 := F0 m 30 ls [.int 0]) rfl ?_
    refine lv_if_ne (tgt := 44) hx hb dX7_takePacket_30 (by decide) (fun h9 => absurd (by decide) h9) (fun _ => ?_)
    exact zthrowW (ik := 99) (ic := 103) hx hb hl0 hown (by decide +kernel) hcl99 hiniIllegalArgumentException (fun w h => hts w (List.mem_cons_of_mem _ (List.mem_append_right _ h))) (by decide +kernel) (va_Nw.use rfl hE.2.2.2.2.2.2.2.2.2.2.1) (by decide +kernel) (hE.2.2.2.2.2.1 (369, "no such packet") (by simp)) hE hP hD hS (hl.1.trans hml.symm) dX7_takePacket_33 dX7_takePacket_36 dX7_takePacket_37 dX7_takePacket_40 dX7_takePacket_43 ht (Nat.le_of_ble_eq_true rfl) (Nat.le_of_ble_eq_true rfl) (Nat.le_of_ble_eq_true rfl) (Nat.le_of_ble_eq_true rfl) hlocks (Nat.le_of_ble_eq_true rfl) (Nat.le_of_ble_eq_true rfl)

set_option maxHeartbeats 4000000 in
set_option maxRecDepth 100000 in
theorem z_X7_outdate (l : Launch) (G : zG) (x : Nat) (wa : Nat) (wb : Nat) (su : Nat) (cu : Nat) (tr : Nat) (co : Nat) (lo : Nat) (pk : Nat) (sl : Nat) (sh : Nat) (sa : Nat) (cc : Nat) (cs : Nat) (cm : Nat) (tn : Nat) (tc : Nat) (ts : Nat) (cf : Nat) (cp : Nat) (f1 : Int32) (f2 : Int32) (f3 : Int32) (f4 : Int32) : zR l G yX7_outdate wsX7_outdate { frames := 0, cells := 0, slots := 0, locals := 0 } [(x, .inr (7, [.ref wa, .ref wb, .ref su, .ref cu, .ref tr, .ref co, .ref lo, .ref pk])), (su, .inr (4, [.ref wa, .ref sl, .ref sh, .ref sa, .int f1])), (cu, .inr (1, [.ref wa, .ref wb, .ref cc, .ref cs, .ref cm, .int f2])), (tr, .inr (5, [.ref wa, .ref cu, .ref tn, .ref tc, .ref ts, .int 0, .int f3])), (co, .inr (0, [.ref wa, .ref wb, .ref cu, .ref cf, .ref cp, .int 0, .int f4]))] [.ref x] none (fun u => [(x, .inr (7, [.ref wa, .ref wb, .ref su, .ref cu, .ref tr, .ref co, .ref lo, .ref pk])), (su, .inr (4, [.ref wa, .ref sl, .ref sh, .ref sa, .int 0])), (cu, .inr (1, [.ref wa, .ref wb, .ref cc, .ref cs, .ref cm, .int 0])), (tr, .inr (5, [.ref wa, .ref cu, .ref tn, .ref tc, .ref ts, .int 0, .int 0])), (co, .inr (0, [.ref wa, .ref wb, .ref cu, .ref cf, .ref cp, .int 0, .int 0]))]) 0 0 := by
  refine zR_of (cc := cX7_outdate) (maxL := 1) (rt := none) (by decide) rfl (Nat.le_of_ble_eq_true rfl) ?_
  intro p e s m below meth c A ls hx hb hml hr hts hown hlocks hin hA hE hP hD hS hl
  have hl : lv_has ls 1 [(0, .ref x)] := hl
  have hown : s.vm.findClass RX7 = some m.cls := hown
  have hP : va_P G.1 vwCl [(x, .inr (7, [.ref wa, .ref wb, .ref su, .ref cu, .ref tr, .ref co, .ref lo, .ref pk])), (su, .inr (4, [.ref wa, .ref sl, .ref sh, .ref sa, .int f1])), (cu, .inr (1, [.ref wa, .ref wb, .ref cc, .ref cs, .ref cm, .int f2])), (tr, .inr (5, [.ref wa, .ref cu, .ref tn, .ref tc, .ref ts, .int 0, .int f3])), (co, .inr (0, [.ref wa, .ref wb, .ref cu, .ref cf, .ref cp, .int 0, .int f4]))] s.heap := hP
  have hw7 : ∀ w ∈ u_ws RX7 TX7 8, w ∈ wsX7_outdate := by decide +kernel
  have hf24 := hts (.fieldLink RX7 24 "Nettle" "survey" "LNettle$Survey;") (by decide +kernel)
  have hw4 : ∀ w ∈ u_ws RX4 TX4 5, w ∈ wsX7_outdate := by decide +kernel
  have hf371 := hts (.fieldLink RX7 371 "Nettle$Survey" "isFresh" "Z") (by decide +kernel)
  have hf33 := hts (.fieldLink RX7 33 "Nettle" "cuts" "LNettle$Cuts;") (by decide +kernel)
  have hw1 : ∀ w ∈ u_ws RX1 TX1 6, w ∈ wsX7_outdate := by decide +kernel
  have hf374 := hts (.fieldLink RX7 374 "Nettle$Cuts" "isFresh" "Z") (by decide +kernel)
  have hf42 := hts (.fieldLink RX7 42 "Nettle" "tree" "LNettle$Tree;") (by decide +kernel)
  have hw5 : ∀ w ∈ u_ws RX5 TX5 7, w ∈ wsX7_outdate := by decide +kernel
  have hf375 := hts (.fieldLink RX7 375 "Nettle$Tree" "isFresh" "Z") (by decide +kernel)
  have hf51 := hts (.fieldLink RX7 51 "Nettle" "comparison" "LNettle$Comparison;") (by decide +kernel)
  have hw0 : ∀ w ∈ u_ws RX0 TX0 7, w ∈ wsX7_outdate := by decide +kernel
  have hf376 := hts (.fieldLink RX7 376 "Nettle$Comparison" "isFresh" "Z") (by decide +kernel)
  refine lv_aload_n hx hb dX7_outdate_0 rfl (lv_at hl 0 rfl) ?_
  refine va_get (D := G.1) (ci := 7) (v := .ref su) (C := RX7) (T := TX7) (N := 8) hx hb hts hw7 hown hE.1 hP 0 rfl rfl 2 (by decide) hf24 (fun _ h9 => h9) rfl dX7_outdate_1 ?_
  refine lv_iconst (v := 0) hx hb dX7_outdate_4 (by decide) ?_
  refine va_put (D := G.1) (ci := 4) (v := .int 0) (ty := tyX4 4) (C := RX4) (T := TX4) (N := 5) hx hb hts hw4 tyX4 tyX4_ok nmX4 hown hE.1 hP hD hS 1 rfl rfl 4 (by decide) hf371 (fun _ h9 => h9) rfl (by decide +kernel) rfl rfl (Nat.le_of_ble_eq_true rfl) dX7_outdate_5 (fun H locs hP hD hS => ?_)
  have hP : va_P G.1 vwCl [(x, .inr (7, [.ref wa, .ref wb, .ref su, .ref cu, .ref tr, .ref co, .ref lo, .ref pk])), (su, .inr (4, [.ref wa, .ref sl, .ref sh, .ref sa, .int 0])), (cu, .inr (1, [.ref wa, .ref wb, .ref cc, .ref cs, .ref cm, .int f2])), (tr, .inr (5, [.ref wa, .ref cu, .ref tn, .ref tc, .ref ts, .int 0, .int f3])), (co, .inr (0, [.ref wa, .ref wb, .ref cu, .ref cf, .ref cp, .int 0, .int f4]))] H := hP
  have hD : va_D A [(x, .inr (7, [.ref wa, .ref wb, .ref su, .ref cu, .ref tr, .ref co, .ref lo, .ref pk])), (su, .inr (4, [.ref wa, .ref sl, .ref sh, .ref sa, .int 0])), (cu, .inr (1, [.ref wa, .ref wb, .ref cc, .ref cs, .ref cm, .int f2])), (tr, .inr (5, [.ref wa, .ref cu, .ref tn, .ref tc, .ref ts, .int 0, .int f3])), (co, .inr (0, [.ref wa, .ref wb, .ref cu, .ref cf, .ref cp, .int 0, .int f4]))] := hD
  refine lv_aload_n hx hb dX7_outdate_8 rfl (lv_at hl 0 rfl) ?_
  refine va_get (D := G.1) (ci := 7) (v := .ref cu) (C := RX7) (T := TX7) (N := 8) hx hb hts hw7 hown hE.1 hP 0 rfl rfl 3 (by decide) hf33 (fun _ h9 => h9) rfl dX7_outdate_9 ?_
  refine lv_iconst (v := 0) hx hb dX7_outdate_12 (by decide) ?_
  refine va_put (D := G.1) (ci := 1) (v := .int 0) (ty := tyX1 5) (C := RX1) (T := TX1) (N := 6) hx hb hts hw1 tyX1 tyX1_ok nmX1 hown hE.1 hP hD hS 2 rfl rfl 5 (by decide) hf374 (fun _ h9 => h9) rfl (by decide +kernel) rfl rfl (Nat.le_of_ble_eq_true rfl) dX7_outdate_13 (fun H locs hP hD hS => ?_)
  have hP : va_P G.1 vwCl [(x, .inr (7, [.ref wa, .ref wb, .ref su, .ref cu, .ref tr, .ref co, .ref lo, .ref pk])), (su, .inr (4, [.ref wa, .ref sl, .ref sh, .ref sa, .int 0])), (cu, .inr (1, [.ref wa, .ref wb, .ref cc, .ref cs, .ref cm, .int 0])), (tr, .inr (5, [.ref wa, .ref cu, .ref tn, .ref tc, .ref ts, .int 0, .int f3])), (co, .inr (0, [.ref wa, .ref wb, .ref cu, .ref cf, .ref cp, .int 0, .int f4]))] H := hP
  have hD : va_D A [(x, .inr (7, [.ref wa, .ref wb, .ref su, .ref cu, .ref tr, .ref co, .ref lo, .ref pk])), (su, .inr (4, [.ref wa, .ref sl, .ref sh, .ref sa, .int 0])), (cu, .inr (1, [.ref wa, .ref wb, .ref cc, .ref cs, .ref cm, .int 0])), (tr, .inr (5, [.ref wa, .ref cu, .ref tn, .ref tc, .ref ts, .int 0, .int f3])), (co, .inr (0, [.ref wa, .ref wb, .ref cu, .ref cf, .ref cp, .int 0, .int f4]))] := hD
  refine lv_aload_n hx hb dX7_outdate_16 rfl (lv_at hl 0 rfl) ?_
  refine va_get (D := G.1) (ci := 7) (v := .ref tr) (C := RX7) (T := TX7) (N := 8) hx hb hts hw7 hown hE.1 hP 0 rfl rfl 4 (by decide) hf42 (fun _ h9 => h9) rfl dX7_outdate_17 ?_
  refine lv_iconst (v := 0) hx hb dX7_outdate_20 (by decide) ?_
  refine va_put (D := G.1) (ci := 5) (v := .int 0) (ty := tyX5 6) (C := RX5) (T := TX5) (N := 7) hx hb hts hw5 tyX5 tyX5_ok nmX5 hown hE.1 hP hD hS 3 rfl rfl 6 (by decide) hf375 (fun _ h9 => h9) rfl (by decide +kernel) rfl rfl (Nat.le_of_ble_eq_true rfl) dX7_outdate_21 (fun H locs hP hD hS => ?_)
  have hP : va_P G.1 vwCl [(x, .inr (7, [.ref wa, .ref wb, .ref su, .ref cu, .ref tr, .ref co, .ref lo, .ref pk])), (su, .inr (4, [.ref wa, .ref sl, .ref sh, .ref sa, .int 0])), (cu, .inr (1, [.ref wa, .ref wb, .ref cc, .ref cs, .ref cm, .int 0])), (tr, .inr (5, [.ref wa, .ref cu, .ref tn, .ref tc, .ref ts, .int 0, .int 0])), (co, .inr (0, [.ref wa, .ref wb, .ref cu, .ref cf, .ref cp, .int 0, .int f4]))] H := hP
  have hD : va_D A [(x, .inr (7, [.ref wa, .ref wb, .ref su, .ref cu, .ref tr, .ref co, .ref lo, .ref pk])), (su, .inr (4, [.ref wa, .ref sl, .ref sh, .ref sa, .int 0])), (cu, .inr (1, [.ref wa, .ref wb, .ref cc, .ref cs, .ref cm, .int 0])), (tr, .inr (5, [.ref wa, .ref cu, .ref tn, .ref tc, .ref ts, .int 0, .int 0])), (co, .inr (0, [.ref wa, .ref wb, .ref cu, .ref cf, .ref cp, .int 0, .int f4]))] := hD
  refine lv_aload_n hx hb dX7_outdate_24 rfl (lv_at hl 0 rfl) ?_
  refine va_get (D := G.1) (ci := 7) (v := .ref co) (C := RX7) (T := TX7) (N := 8) hx hb hts hw7 hown hE.1 hP 0 rfl rfl 5 (by decide) hf51 (fun _ h9 => h9) rfl dX7_outdate_25 ?_
  refine lv_iconst (v := 0) hx hb dX7_outdate_28 (by decide) ?_
  refine va_put (D := G.1) (ci := 0) (v := .int 0) (ty := tyX0 6) (C := RX0) (T := TX0) (N := 7) hx hb hts hw0 tyX0 tyX0_ok nmX0 hown hE.1 hP hD hS 4 rfl rfl 6 (by decide) hf376 (fun _ h9 => h9) rfl (by decide +kernel) rfl rfl (Nat.le_of_ble_eq_true rfl) dX7_outdate_29 (fun H locs hP hD hS => ?_)
  have hP : va_P G.1 vwCl [(x, .inr (7, [.ref wa, .ref wb, .ref su, .ref cu, .ref tr, .ref co, .ref lo, .ref pk])), (su, .inr (4, [.ref wa, .ref sl, .ref sh, .ref sa, .int 0])), (cu, .inr (1, [.ref wa, .ref wb, .ref cc, .ref cs, .ref cm, .int 0])), (tr, .inr (5, [.ref wa, .ref cu, .ref tn, .ref tc, .ref ts, .int 0, .int 0])), (co, .inr (0, [.ref wa, .ref wb, .ref cu, .ref cf, .ref cp, .int 0, .int 0]))] H := hP
  have hD : va_D A [(x, .inr (7, [.ref wa, .ref wb, .ref su, .ref cu, .ref tr, .ref co, .ref lo, .ref pk])), (su, .inr (4, [.ref wa, .ref sl, .ref sh, .ref sa, .int 0])), (cu, .inr (1, [.ref wa, .ref wb, .ref cc, .ref cs, .ref cm, .int 0])), (tr, .inr (5, [.ref wa, .ref cu, .ref tn, .ref tc, .ref ts, .int 0, .int 0])), (co, .inr (0, [.ref wa, .ref wb, .ref cu, .ref cf, .ref cp, .int 0, .int 0]))] := hD
  exact zend_v hx hb hr hlocks (fun k => [].getD k 0) hP hD hS (Nat.le_of_ble_eq_true rfl) (Nat.le_of_ble_eq_true rfl) dX7_outdate_32

set_option maxHeartbeats 4000000 in
set_option maxRecDepth 100000 in
theorem z_X7_surveyed0 (l : Launch) (G : zG) (x : Nat) (wa : Nat) (wb : Nat) (su : Nat) (cu : Nat) (tr : Nat) (co : Nat) (lo : Nat) (pk : Nat) (ro : Nat) (sl : Nat) (sh : Nat) (sa : Nat) (fl : Nat → Int32) (fh : Nat → Int32) (fa : Nat → Int32) : zR l G yX7_surveyed wsX7_surveyed { frames := 2, cells := 0, slots := 0, locals := 44 } [(x, .inr (7, [.ref wa, .ref wb, .ref su, .ref cu, .ref tr, .ref co, .ref lo, .ref pk])), (su, .inr (4, [.ref wa, .ref sl, .ref sh, .ref sa, .int 0])), (wa, .inr (6, [.ref ro, .int 0, .int 0])), (sl, .inl (G.2.1, 1024, .inl (fl))), (sh, .inl (G.2.1, 1024, .inl (fh))), (sa, .inl (G.2.1, 256, .inl (fa)))] [.ref x] (some (.ref su)) (fun u => [(x, .inr (7, [.ref wa, .ref wb, .ref su, .ref cu, .ref tr, .ref co, .ref lo, .ref pk])), (sl, .inl (G.2.1, 1024, .inl (upd (upd (upd (upd fl 0 0) 1 0) 2 0) 3 0))), (sh, .inl (G.2.1, 1024, .inl (upd (upd (upd (upd fh 0 255) 1 255) 2 1023) 3 3))), (sa, .inl (G.2.1, 256, .inl (upd fa 0 268435456))), (su, .inr (4, [.ref wa, .ref sl, .ref sh, .ref sa, .int 1])), (wa, .inr (6, [.ref ro, .int 0, .int 0]))]) 0 0 := by
  refine zR_of (cc := cX7_surveyed) (maxL := 1) (rt := (some (.object "Nettle$Survey"))) (by decide) rfl (Nat.le_of_ble_eq_true rfl) ?_
  intro p e s m below meth c A ls hx hb hml hr hts hown hlocks hin hA hE hP hD hS hl
  have hl : lv_has ls 1 [(0, .ref x)] := hl
  have hown : s.vm.findClass RX7 = some m.cls := hown
  have hP : va_P G.1 vwCl [(x, .inr (7, [.ref wa, .ref wb, .ref su, .ref cu, .ref tr, .ref co, .ref lo, .ref pk])), (su, .inr (4, [.ref wa, .ref sl, .ref sh, .ref sa, .int 0])), (wa, .inr (6, [.ref ro, .int 0, .int 0])), (sl, .inl (G.2.1, 1024, .inl (fl))), (sh, .inl (G.2.1, 1024, .inl (fh))), (sa, .inl (G.2.1, 256, .inl (fa)))] s.heap := hP
  have hw7 : ∀ w ∈ u_ws RX7 TX7 8, w ∈ wsX7_surveyed := by decide +kernel
  have hf24 := hts (.fieldLink RX7 24 "Nettle" "survey" "LNettle$Survey;") (by decide +kernel)
  refine lv_aload_n hx hb dX7_surveyed_0 rfl (lv_at hl 0 rfl) ?_
  refine va_get (D := G.1) (ci := 7) (v := .ref su) (C := RX7) (T := TX7) (N := 8) hx hb hts hw7 hown hE.1 hP 0 rfl rfl 2 (by decide) hf24 (fun _ h9 => h9) rfl dX7_surveyed_1 ?_
  refine zcall (wr := [(x, .inr (7, [.ref wa, .ref wb, .ref su, .ref cu, .ref tr, .ref co, .ref lo, .ref pk]))]) (va_runV (As := []) (rest := []) ⟨hx, hb, hml, hown, hts⟩ (z_X4_refresh0 l G su wa ro sl sh sa (fl) (fh) (fa) s.heap.size) (cwV 0 hts gX7_surveyed_X4_refresh rfl rfl rfl (by decide +kernel) ⟨Nat.le_of_ble_eq_true rfl, Nat.le_of_ble_eq_true rfl⟩) (zPreV (Wc := [(su, .inr (4, [.ref wa, .ref sl, .ref sh, .ref sa, .int 0])), (wa, .inr (6, [.ref ro, .int 0, .int 0])), (sl, .inl (G.2.1, 1024, .inl (fl))), (sh, .inl (G.2.1, 1024, .inl (fh))), (sa, .inl (G.2.1, 256, .inl (fa)))]) (q0 := 1) (ci := 4) (q := (RX4, TX4, 5)) hP hD hE hS hA [1, 2, 3, 4, 5] rfl (by decide) rfl rfl) rfl rfl hl.1 rfl (lv_room (Nat.le_of_ble_eq_true rfl)) dX7_surveyed_4 ⟨Nat.le_of_ble_eq_true rfl, Nat.le_of_ble_eq_true rfl⟩) hP hD hS hA [1, 2, 3, 4, 5] [0] rfl rfl (by decide) (by decide) (fun u1 H locs hP hD hS => ?_)
  have hP : va_P G.1 vwCl [(x, .inr (7, [.ref wa, .ref wb, .ref su, .ref cu, .ref tr, .ref co, .ref lo, .ref pk])), (sl, .inl (G.2.1, 1024, .inl (upd (upd (upd (upd fl 0 0) 1 0) 2 0) 3 0))), (sh, .inl (G.2.1, 1024, .inl (upd (upd (upd (upd fh 0 255) 1 255) 2 1023) 3 3))), (sa, .inl (G.2.1, 256, .inl (upd fa 0 268435456))), (su, .inr (4, [.ref wa, .ref sl, .ref sh, .ref sa, .int 1])), (wa, .inr (6, [.ref ro, .int 0, .int 0]))] H := hP
  have hD : va_D A [(x, .inr (7, [.ref wa, .ref wb, .ref su, .ref cu, .ref tr, .ref co, .ref lo, .ref pk])), (sl, .inl (G.2.1, 1024, .inl (upd (upd (upd (upd fl 0 0) 1 0) 2 0) 3 0))), (sh, .inl (G.2.1, 1024, .inl (upd (upd (upd (upd fh 0 255) 1 255) 2 1023) 3 3))), (sa, .inl (G.2.1, 256, .inl (upd fa 0 268435456))), (su, .inr (4, [.ref wa, .ref sl, .ref sh, .ref sa, .int 1])), (wa, .inr (6, [.ref ro, .int 0, .int 0]))] := hD
  refine W.eq (g2 := F0 m 7 ls []) rfl ?_
  refine lv_aload_n hx hb dX7_surveyed_7 rfl (lv_at hl 0 rfl) ?_
  refine va_get (D := G.1) (ci := 7) (v := .ref su) (C := RX7) (T := TX7) (N := 8) hx hb hts hw7 hown hE.1 hP 0 rfl rfl 2 (by decide) hf24 (fun _ h9 => h9) rfl dX7_surveyed_8 ?_
  exact zend_a hx hb hr hlocks (Or.inl ⟨_, rfl⟩) (fun k => [].getD k 0) hP hD hS (Nat.le_of_ble_eq_true rfl) (Nat.le_of_ble_eq_true rfl) dX7_surveyed_11
