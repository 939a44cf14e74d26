/-! the law: a PACKET down the TREE -/
theorem dL_law_753 : decode cL_law 753 = .ok (.iconst 0, 1) := by decide +kernel
theorem dL_law_754 : decode cL_law 754 = .ok (.istore 16, 2) := by decide +kernel
theorem dL_law_756 : decode cL_law 756 = .ok (.iconst 0, 1) := by decide +kernel
theorem dL_law_757 : decode cL_law 757 = .ok (.istore 17, 2) := by decide +kernel
theorem dL_law_759 : decode cL_law 759 = .ok (.iload 16, 2) := by decide +kernel
theorem dL_law_761 : decode cL_law 761 = .ok (.ifCond .lt 46, 3) := by decide +kernel
theorem dL_law_807 : decode cL_law 807 = .ok (.aload_n 3, 1) := by decide +kernel
theorem dL_law_808 : decode cL_law 808 = .ok (.aload 15, 2) := by decide +kernel
theorem dL_law_810 : decode cL_law 810 = .ok (.iconst 0, 1) := by decide +kernel
theorem dL_law_811 : decode cL_law 811 = .ok (.iaload, 1) := by decide +kernel
theorem dL_law_812 : decode cL_law 812 = .ok (.aload 15, 2) := by decide +kernel
theorem dL_law_814 : decode cL_law 814 = .ok (.iconst 1, 1) := by decide +kernel
theorem dL_law_815 : decode cL_law 815 = .ok (.iaload, 1) := by decide +kernel
theorem dL_law_816 : decode cL_law 816 = .ok (.aload 15, 2) := by decide +kernel
theorem dL_law_818 : decode cL_law 818 = .ok (.iconst 2, 1) := by decide +kernel
theorem dL_law_819 : decode cL_law 819 = .ok (.iaload, 1) := by decide +kernel
theorem dL_law_820 : decode cL_law 820 = .ok (.aload 15, 2) := by decide +kernel
theorem dL_law_822 : decode cL_law 822 = .ok (.iconst 3, 1) := by decide +kernel
theorem dL_law_823 : decode cL_law 823 = .ok (.iaload, 1) := by decide +kernel
set_option maxRecDepth 20000 in
theorem ggL_law_X7_steps : GoodIn wsL_law wsX7_steps := goodIn_ca (goodIn_r _ [609, 36, 58, 610, 611, 612, 20, 613, 185, 186, 208, 209, 210, 211, 614, 328, 329, 35, 330, 156, 64, 331, 332, 333, 66, 334, 195, 615, 440, 441, 442, 354, 316, 317, 318, 443, 444, 445, 446, 70, 71, 616, 414, 415, 416, 417, 418, 419, 420, 637, 638, 639, 640, 641, 642, 643, 644, 645, 646, 647, 679, 680, 681, 682] (by decide +kernel) (by decide +kernel)) (goodIn_sub (fun _ h => List.mem_append_right _ h) (by decide +kernel))
set_option maxRecDepth 20000 in
theorem gL_law_X7_steps : GoodIn wsL_law (wsV RL 103 RX7 yX7_steps wsX7_steps) := goodIn_app (goodIn_of _ (by decide +kernel)) ggL_law_X7_steps
theorem dL_law_824 : decode cL_law 824 = .ok (.invokevirtual 103, 3) := by decide +kernel
theorem dL_law_827 : decode cL_law 827 = .ok (.iload 17, 2) := by decide +kernel
theorem dL_law_829 : decode cL_law 829 = .ok (.if_icmp .ne 41, 3) := by decide +kernel
theorem dL_law_832 : decode cL_law 832 = .ok (.aload_n 3, 1) := by decide +kernel
theorem dL_law_833 : decode cL_law 833 = .ok (.aload 15, 2) := by decide +kernel
theorem dL_law_835 : decode cL_law 835 = .ok (.iconst 0, 1) := by decide +kernel
theorem dL_law_836 : decode cL_law 836 = .ok (.iaload, 1) := by decide +kernel
theorem dL_law_837 : decode cL_law 837 = .ok (.aload 15, 2) := by decide +kernel
theorem dL_law_839 : decode cL_law 839 = .ok (.iconst 1, 1) := by decide +kernel
theorem dL_law_840 : decode cL_law 840 = .ok (.iaload, 1) := by decide +kernel
theorem dL_law_841 : decode cL_law 841 = .ok (.aload 15, 2) := by decide +kernel
theorem dL_law_843 : decode cL_law 843 = .ok (.iconst 2, 1) := by decide +kernel
theorem dL_law_844 : decode cL_law 844 = .ok (.iaload, 1) := by decide +kernel
theorem dL_law_845 : decode cL_law 845 = .ok (.aload 15, 2) := by decide +kernel
theorem dL_law_847 : decode cL_law 847 = .ok (.iconst 3, 1) := by decide +kernel
theorem dL_law_848 : decode cL_law 848 = .ok (.iaload, 1) := by decide +kernel
set_option maxRecDepth 20000 in
theorem ggL_law_X7_decider : GoodIn wsL_law wsX7_decider := goodIn_ca (goodIn_r _ [620, 36, 145, 205, 58, 610, 611, 612, 20, 613, 185, 186, 208, 209, 210, 211, 621, 332, 333, 66, 334, 195, 622, 623, 624, 625, 626, 418, 419, 420, 70, 71, 637, 638, 639, 640, 641, 642, 643, 644, 645, 646, 647, 679, 680, 681, 682] (by decide +kernel) (by decide +kernel)) (goodIn_sub (fun _ h => List.mem_append_right _ h) (by decide +kernel))
set_option maxRecDepth 20000 in
theorem gL_law_X7_decider : GoodIn wsL_law (wsV RL 107 RX7 yX7_decider wsX7_decider) := goodIn_app (goodIn_of _ (by decide +kernel)) ggL_law_X7_decider
theorem dL_law_849 : decode cL_law 849 = .ok (.invokevirtual 107, 3) := by decide +kernel
theorem dL_law_852 : decode cL_law 852 = .ok (.iload 16, 2) := by decide +kernel
theorem dL_law_854 : decode cL_law 854 = .ok (.iconst (-1), 1) := by decide +kernel
theorem dL_law_855 : decode cL_law 855 = .ok (.if_icmp .ne 7, 3) := by decide +kernel
theorem dL_law_862 : decode cL_law 862 = .ok (.bipush (-2), 2) := by decide +kernel
theorem dL_law_864 : decode cL_law 864 = .ok (.iload 16, 2) := by decide +kernel
theorem dL_law_866 : decode cL_law 866 = .ok (.isub, 1) := by decide +kernel
theorem dL_law_867 : decode cL_law 867 = .ok (.if_icmp .eq 5, 3) := by decide +kernel
theorem dL_law_858 : decode cL_law 858 = .ok (.iconst (-1), 1) := by decide +kernel
theorem dL_law_859 : decode cL_law 859 = .ok (.goto 8, 3) := by decide +kernel
theorem dL_law_764 : decode cL_law 764 = .ok (.iconst 0, 1) := by decide +kernel
theorem dL_law_765 : decode cL_law 765 = .ok (.istore 18, 2) := by decide +kernel
theorem dL_law_767 : decode cL_law 767 = .ok (.aload_n 3, 1) := by decide +kernel
theorem dL_law_768 : decode cL_law 768 = .ok (.iload 16, 2) := by decide +kernel
theorem dL_law_770 : decode cL_law 770 = .ok (.iload 18, 2) := by decide +kernel
theorem dL_law_772 : decode cL_law 772 = .ok (.iconst 1, 1) := by decide +kernel
theorem dL_law_773 : decode cL_law 773 = .ok (.invokevirtual 93, 3) := by decide +kernel
theorem dL_law_776 : decode cL_law 776 = .ok (.aload 15, 2) := by decide +kernel
theorem dL_law_778 : decode cL_law 778 = .ok (.iload 17, 2) := by decide +kernel
theorem dL_law_780 : decode cL_law 780 = .ok (.iaload, 1) := by decide +kernel
theorem dL_law_781 : decode cL_law 781 = .ok (.if_icmp .ge 9, 3) := by decide +kernel
theorem dL_law_790 : decode cL_law 790 = .ok (.aload_n 3, 1) := by decide +kernel
theorem dL_law_791 : decode cL_law 791 = .ok (.iload 16, 2) := by decide +kernel
theorem dL_law_793 : decode cL_law 793 = .ok (.iload 18, 2) := by decide +kernel
theorem dL_law_795 : decode cL_law 795 = .ok (.iconst 2, 1) := by decide +kernel
theorem dL_law_796 : decode cL_law 796 = .ok (.invokevirtual 93, 3) := by decide +kernel
theorem dL_law_799 : decode cL_law 799 = .ok (.istore 16, 2) := by decide +kernel
theorem dL_law_801 : decode cL_law 801 = .ok (.iinc 17 1, 3) := by decide +kernel
theorem dL_law_804 : decode cL_law 804 = .ok (.goto (-45), 3) := by decide +kernel
theorem dL_law_784 : decode cL_law 784 = .ok (.iinc 18 1, 3) := by decide +kernel
theorem dL_law_787 : decode cL_law 787 = .ok (.goto (-20), 3) := by decide +kernel
set_option maxHeartbeats 4000000 in
set_option maxRecDepth 100000 in
/-- a PACKET down the TREE -/
theorem law_walk {p : Program} {l : Launch} {e : Env} {s : State} {m : MethodId} {below : List Frame} {meth : Method} {c : Code} {A : Nat → Prop} {G : zG} {b : Nat} {Q : State → Prop} {cells slots : Nat} {H : Heap} {locs : List Loc} {ls : Array Slot} {wr : va_W} {ad : Nat → Nat} {X : Nat → Nat → Int} {tm st : Int} {g0 : Nat} {dg : Int64} {N kk0 pq : Nat} {pk : Nat → Int} (hx : p.tables.exec = Jvm.exec) (hb : c.code = cL_law) (hml : c.maxLocals = 19) (hown : s.vm.findClass RL = some m.cls) (hts : ∀ w ∈ wsL_law, w.before #[Value.ref b] s = true) (hA : ∀ q : Nat, s.heap.size ≤ q → A q) (hE : zZ G A s s.heap) (hc : cells ≤ 500000) (hn : slots ≤ 6000000) (hI : zI X) (hFr : zFr X) (hTf : zTf X) (hN0 : X 61 5 = (N : Int)) (hN1 : 0 < N) (hpk : wr[7]? = some (pq, .inl (zci G, 4, .inl (fun j => zi (pk j))))) (hpb : ∀ g : Nat, g < 4 → 0 ≤ pk g ∧ pk g < zS g) (hP : va_P G.1 vwCl (wr ++ zpic G ad X) H) (hD : va_D A (wr ++ zpic G ad X)) (hS : va_S A s.heap H locs) (hl : lv_has ls 19 [(0, .ref b), (1, .int (zi tm)), (2, .ref g0), (3, .ref (ad 52)), (4, .int (zi st)), (5, .long dg), (9, .int (zi (zN X 0 : Int))), (13, .int (zi (N : Int))), (14, .int (zi (kk0 : Int))), (15, .ref pq)])
    (kk : ∀ (Y : Nat → Nat → Int) (H : Heap) (locs : List Loc) (ls : Array Slot), (∀ c : Nat, c ≠ 70 → Y c = X c) → va_P G.1 vwCl (wr ++ zpic G ad Y) H → va_D A (wr ++ zpic G ad Y) → va_S A s.heap H locs → lv_has ls 19 [(0, .ref b), (1, .int (zi tm)), (2, .ref g0), (3, .ref (ad 52)), (4, .int (zi st)), (5, .long dg), (9, .int (zi (zN X 0 : Int))), (13, .int (zi (N : Int))), (14, .int (zi (kk0 : Int)))] → W p l e room_1 s m #[Value.ref b] below meth c H locs cells slots Q (F0 m 872 ls [])) : W p l e room_1 s m #[Value.ref b] below meth c H locs cells slots Q (F0 m 753 ls []) := by
  have hn8 := hI.1.n (Or.inl rfl : zIsW 0)
  have hb0 := hpb 0 (by omega)
  have hb1 := hpb 1 (by omega)
  have hb2 := hpb 2 (by omega)
  have hb3 := hpb 3 (by omega)
  have hcn := hTf.2.2.2.1.cnt
  refine lv_iconst (v := zi 0) hx hb dL_law_753 rfl ?_
  refine lv_istore (lv' := [(16, .int (zi 0)), (0, .ref b), (1, .int (zi tm)), (2, .ref g0), (3, .ref (ad 52)), (4, .int (zi st)), (5, .long dg), (9, .int (zi (zN X 0 : Int))), (13, .int (zi (N : Int))), (14, .int (zi (kk0 : Int))), (15, .ref pq)]) hx hb dL_law_754 hl (by decide) rfl (fun ls hl => ?_)
  refine lv_iconst (v := zi 0) hx hb dL_law_756 rfl ?_
  refine lv_istore (lv' := [(17, .int (zi 0)), (16, .int (zi 0)), (0, .ref b), (1, .int (zi tm)), (2, .ref g0), (3, .ref (ad 52)), (4, .int (zi st)), (5, .long dg), (9, .int (zi (zN X 0 : Int))), (13, .int (zi (N : Int))), (14, .int (zi (kk0 : Int))), (15, .ref pq)]) hx hb dL_law_757 hl (by decide) rfl (fun ls hl => ?_)
  refine zloop2 (fun (aa : Int) (t : Nat) => 4 - t) (fun (aa : Int) (t : Nat) (H : Heap) (locs : List Loc) (ls : Array Slot) => va_P G.1 vwCl (wr ++ zpic G ad X) H ∧ va_D A (wr ++ zpic G ad X) ∧ va_S A s.heap H locs ∧ lv_has ls 19 [(0, .ref b), (1, .int (zi tm)), (2, .ref g0), (3, .ref (ad 52)), (4, .int (zi st)), (5, .long dg), (9, .int (zi (zN X 0 : Int))), (13, .int (zi (N : Int))), (14, .int (zi (kk0 : Int))), (15, .ref pq), (16, .int (zi aa)), (17, .int (zi (t : Int)))] ∧ (zWk X pk aa t)) ?_ 0 0 ⟨hP, hD, hS, lv_sub hl [2, 3, 4, 5, 6, 7, 8, 9, 10, 11, 1, 0] rfl, zWk_0 hI.1 hTf (by omega) pk⟩
  intro aa t ihw H locs ls ⟨hP, hD, hS, hl, hwk⟩
  refine lv_iload hx hb dL_law_759 (lv_at hl 10 rfl) ?_
  have hbt : t ≤ 4 := hwk.1
  have hba : -10 < aa ∧ aa ≤ (N : Int) := by by_cases c : 0 ≤ aa; (have h9 := (hwk.2.1 c).1; omega); (have h9 := (hwk.2.2.1 (by omega)).1; omega)
  refine z0_lt (tgt := 807) hx hb dL_law_761 (by decide) (by omega) (fun h761 => ?_) (fun h761 => ?_)
  · refine lv_aload_n hx hb dL_law_807 rfl (lv_at hl 3 rfl) ?_
    refine lv_aload hx hb dL_law_808 (lv_at hl 9 rfl) ?_
    refine lv_iconst (v := zi 0) hx hb dL_law_810 rfl ?_
    refine zildL hx hb hE hP 7 (zget_old hpk) 0 rfl (by omega) (by decide) dL_law_811 ?_
    refine lv_aload hx hb dL_law_812 (lv_at hl 9 rfl) ?_
    refine lv_iconst (v := zi 1) hx hb dL_law_814 rfl ?_
    refine zildL hx hb hE hP 7 (zget_old hpk) 1 rfl (by omega) (by decide) dL_law_815 ?_
    refine lv_aload hx hb dL_law_816 (lv_at hl 9 rfl) ?_
    refine lv_iconst (v := zi 2) hx hb dL_law_818 rfl ?_
    refine zildL hx hb hE hP 7 (zget_old hpk) 2 rfl (by omega) (by decide) dL_law_819 ?_
    refine lv_aload hx hb dL_law_820 (lv_at hl 9 rfl) ?_
    refine lv_iconst (v := zi 3) hx hb dL_law_822 rfl ?_
    refine zildL hx hb hE hP 7 (zget_old hpk) 3 rfl (by omega) (by decide) dL_law_823 ?_
    refine zcall (wr := wr) (wc := zpic G ad X) (va_runV (As := [.int (zi (pk 0)), .int (zi (pk 1)), .int (zi (pk 2)), .int (zi (pk 3))]) (rest := []) ⟨hx, hb, hml, hown, hts⟩ (c_X7_steps l G ad X (pk 0) (pk 1) (pk 2) (pk 3) hI.1 (hpb 0 (by omega)) (hpb 1 (by omega)) (hpb 2 (by omega)) (hpb 3 (by omega)) H.size) (cwV 4 hts gL_law_X7_steps rfl rfl rfl (by decide +kernel) ⟨Nat.le_of_ble_eq_true rfl, Nat.le_of_ble_eq_true rfl⟩) (zPreV (As := [.int (zi (pk 0)), .int (zi (pk 1)), .int (zi (pk 2)), .int (zi (pk 3))]) (wr := wr) (wc := zpic G ad X) (q0 := 52) (ci := 7) (q := (RX7, TX7, 8)) hP hD hE hS hA rfl p_52) rfl rfl hl.1 rfl (lv_room (Nat.le_of_ble_eq_true rfl)) dL_law_824 ⟨(by show _ ≤ 600104; omega), (by show _ ≤ 7301314; omega)⟩) hP hD hS hA (fun _ _ H locs hf9 hP hD hS => ?_)
    obtain ⟨v1, Y1, rfl, hv1, rfl⟩ := hf9
    have hP : va_P G.1 vwCl (wr ++ zpic G ad Y1) H := hP
    have hD : va_D A (wr ++ zpic G ad Y1) := hD
    refine W.eq (g2 := F0 m 827 ls [.int (zi v1)]) rfl ?_
    obtain ⟨hY1, f9, hf9a, hf9b⟩ := hv1
    have hwe1 : zWe X Y1 := fun c hc => by rw [hY1]; rw [zw_cell (by omega), zw_cell (by omega), zw_cell (by omega), zw_cell (by omega)]
    have h70 : ∀ g : Nat, g < 4 → Y1 70 g = pk g := fun g hg => by rw [hY1]; rcases (show g = 0 ∨ g = 1 ∨ g = 2 ∨ g = 3 by omega) with rfl | rfl | rfl | rfl <;> simp [zw_get]
    have hVY := hwe1.v hI.1
    have hfe : f9 = t := zStp_eq hwk.1 h70 (by rw [hwe1.pt hI.1]; exact (hwe1.lf hI.1 t _).mpr (hwk.2.2.1 (by omega)).2.1) (fun g hg => by rw [hwe1.pt hI.1]; exact fun z => hwk.2.2.2 g hg ((hwe1.lf hI.1 g _).mp z)) hf9b
    refine lv_iload hx hb dL_law_827 (lv_at hl 11 rfl) ?_
    refine zc_ne (tgt := 870) hx hb dL_law_829 (by decide) (by omega) (by omega) (fun h9 => by exfalso; omega) (fun h829 => ?_)
    refine lv_aload_n hx hb dL_law_832 rfl (lv_at hl 3 rfl) ?_
    refine lv_aload hx hb dL_law_833 (lv_at hl 9 rfl) ?_
    refine lv_iconst (v := zi 0) hx hb dL_law_835 rfl ?_
    refine zildL hx hb hE hP 7 (zget_old hpk) 0 rfl (by omega) (by decide) dL_law_836 ?_
    refine lv_aload hx hb dL_law_837 (lv_at hl 9 rfl) ?_
    refine lv_iconst (v := zi 1) hx hb dL_law_839 rfl ?_
    refine zildL hx hb hE hP 7 (zget_old hpk) 1 rfl (by omega) (by decide) dL_law_840 ?_
    refine lv_aload hx hb dL_law_841 (lv_at hl 9 rfl) ?_
    refine lv_iconst (v := zi 2) hx hb dL_law_843 rfl ?_
    refine zildL hx hb hE hP 7 (zget_old hpk) 2 rfl (by omega) (by decide) dL_law_844 ?_
    refine lv_aload hx hb dL_law_845 (lv_at hl 9 rfl) ?_
    refine lv_iconst (v := zi 3) hx hb dL_law_847 rfl ?_
    refine zildL hx hb hE hP 7 (zget_old hpk) 3 rfl (by omega) (by decide) dL_law_848 ?_
    refine zcall (wr := wr) (wc := zpic G ad Y1) (va_runV (As := [.int (zi (pk 0)), .int (zi (pk 1)), .int (zi (pk 2)), .int (zi (pk 3))]) (rest := []) ⟨hx, hb, hml, hown, hts⟩ (c_X7_decider l G ad Y1 (pk 0) (pk 1) (pk 2) (pk 3) hVY (hpb 0 (by omega)) (hpb 1 (by omega)) (hpb 2 (by omega)) (hpb 3 (by omega)) H.size) (cwV 4 hts gL_law_X7_decider rfl rfl rfl (by decide +kernel) ⟨Nat.le_of_ble_eq_true rfl, Nat.le_of_ble_eq_true rfl⟩) (zPreV (As := [.int (zi (pk 0)), .int (zi (pk 1)), .int (zi (pk 2)), .int (zi (pk 3))]) (wr := wr) (wc := zpic G ad Y1) (q0 := 52) (ci := 7) (q := (RX7, TX7, 8)) hP hD hE hS hA rfl p_52) rfl rfl hl.1 rfl (lv_room (Nat.le_of_ble_eq_true rfl)) dL_law_849 ⟨(by show _ ≤ 600104; omega), (by show _ ≤ 7301314; omega)⟩) hP hD hS hA (fun _ _ H locs hf9 hP hD hS => ?_)
    obtain ⟨v2, Y2, rfl, hv2, rfl⟩ := hf9
    have hP : va_P G.1 vwCl (wr ++ zpic G ad Y2) H := hP
    have hD : va_D A (wr ++ zpic G ad Y2) := hD
    refine W.eq (g2 := F0 m 852 ls [.int (zi v2)]) rfl ?_
    obtain ⟨hY2, hdd⟩ := hv2
    have hwe2 : zWe X Y2 := fun c hc => by rw [hY2]; rw [zw_cell (by omega), zw_cell (by omega), zw_cell (by omega), zw_cell (by omega)]; exact hwe1 c hc
    have h70b : ∀ g : Nat, g < 4 → Y2 70 g = pk g := fun g hg => by rw [hY2]; rcases (show g = 0 ∨ g = 1 ∨ g = 2 ∨ g = 3 by omega) with rfl | rfl | rfl | rfl <;> simp [zw_get]
    have hdw : v2 = -2 - aa := zPt_dcd (hwe2.v hI.1) hwk.1 hpb (by rw [hwe2.pt hI.1]; exact (hwe2.lf hI.1 t _).mpr (hwk.2.2.1 (by omega)).2.1) (by rw [hwe2.pt hI.1, hwe2.n (Or.inl rfl : zIsW 0)]; exact (hwk.2.2.1 (by omega)).2.2) h70b hdd
    have haa := (hwk.2.2.1 (by omega)).1
    have hout : ∀ c : Nat, c ≠ 70 → Y2 c = X c := fun c hc => by rw [hY2, zw_cell hc, zw_cell hc, zw_cell hc, zw_cell hc, hY1, zw_cell hc, zw_cell hc, zw_cell hc, zw_cell hc]
    refine lv_iload hx hb dL_law_852 (lv_at hl 10 rfl) ?_
    refine lv_iconst (v := zi (-1)) hx hb dL_law_854 rfl ?_
    refine zc_ne (tgt := 862) hx hb dL_law_855 (by decide) (by omega) (by decide) (fun h855 => ?_) (fun h855 => ?_)
    · refine lv_bipush (v := zi (-2)) hx hb dL_law_862 (by decide +kernel) ?_
      refine lv_iload hx hb dL_law_864 (lv_at hl 10 rfl) ?_
      refine lv_isub hx hb dL_law_866 (zti (v := zi ((-2) - aa)) (zi_sub _ _) ?_)
      refine zc_eq (tgt := 872) hx hb dL_law_867 (by decide) (by omega) (by omega) (fun h867 => ?_) (fun h9 => by exfalso; omega)
      exact kk Y2 H locs ls hout hP hD hS (lv_sub hl [0, 1, 2, 3, 4, 5, 6, 7, 8] rfl)
    · refine lv_iconst (v := zi (-1)) hx hb dL_law_858 rfl ?_
      refine lv_goto (tgt := 867) hx hb dL_law_859 (by decide) ?_
      refine zc_eq (tgt := 872) hx hb dL_law_867 (by decide) (by omega) (by decide) (fun h867 => ?_) (fun h9 => by exfalso; omega)
      exact kk Y2 H locs ls hout hP hD hS (lv_sub hl [0, 1, 2, 3, 4, 5, 6, 7, 8] rfl)
  · obtain ⟨ka, rfl⟩ : ∃ z : Nat, aa = (z : Int) := ⟨aa.toNat, by omega⟩
    have hw2 := hwk.2.1 (by omega)
    rw [Int.toNat_natCast] at hw2
    have hka : (ka : Int) < X 61 5 := hw2.1
    have hnd := hTf.2.2.2.node hka
    have ht4 : t < 4 := by have h9 := hw2.2.1; have h8 := hnd.2.2.1; omega
    have hpt := hpb t ht4
    have hnp := zNp_pos hTf hka
    have hnle := zNp_le hTf hka
    have he0 := zEn_0 hTf hka
    refine lv_iconst (v := zi 0) hx hb dL_law_764 rfl ?_
    refine lv_istore (lv' := [(18, .int (zi 0)), (0, .ref b), (1, .int (zi tm)), (2, .ref g0), (3, .ref (ad 52)), (4, .int (zi st)), (5, .long dg), (9, .int (zi (zN X 0 : Int))), (13, .int (zi (N : Int))), (14, .int (zi (kk0 : Int))), (15, .ref pq), (16, .int (zi (ka : Int))), (17, .int (zi (t : Int)))]) hx hb dL_law_765 hl (by decide) rfl (fun ls hl => ?_)
    refine zloop1 (fun (i : Nat) => zNp X ka - i) (fun (i : Nat) (H : Heap) (locs : List Loc) (ls : Array Slot) => va_P G.1 vwCl (wr ++ zpic G ad X) H ∧ va_D A (wr ++ zpic G ad X) ∧ va_S A s.heap H locs ∧ lv_has ls 19 [(0, .ref b), (1, .int (zi tm)), (2, .ref g0), (3, .ref (ad 52)), (4, .int (zi st)), (5, .long dg), (9, .int (zi (zN X 0 : Int))), (13, .int (zi (N : Int))), (14, .int (zi (kk0 : Int))), (15, .ref pq), (16, .int (zi (ka : Int))), (17, .int (zi (t : Int))), (18, .int (zi (i : Int)))] ∧ (i < zNp X ka) ∧ (zEn X ka i ≤ pk t)) ?_ 0 ⟨hP, hD, hS, lv_sub hl [1, 2, 3, 4, 5, 6, 7, 8, 9, 10, 11, 12, 0] rfl, (by omega), (by omega)⟩
    intro i ihi H locs ls ⟨hP, hD, hS, hl, hi, hi2⟩
    refine lv_aload_n hx hb dL_law_767 rfl (lv_at hl 3 rfl) ?_
    refine lv_iload hx hb dL_law_768 (lv_at hl 10 rfl) ?_
    refine lv_iload hx hb dL_law_770 (lv_at hl 12 rfl) ?_
    refine lv_iconst (v := zi 1) hx hb dL_law_772 rfl ?_
    refine zcall (wr := wr) (wc := zpic G ad X) (va_runV (As := [.int (zi (ka : Int)), .int (zi (i : Int)), .int (zi 1)]) (rest := []) ⟨hx, hb, hml, hown, hts⟩ (c_X7_piece l G ad X ka i 1 hI.1 hTf (by omega) (by show i < zNp X ka; omega) (by omega) H.size) (cwV 3 hts gL_law_X7_piece rfl rfl rfl (by decide +kernel) ⟨Nat.le_of_ble_eq_true rfl, Nat.le_of_ble_eq_true rfl⟩) (zPreV (As := [.int (zi (ka : Int)), .int (zi (i : Int)), .int (zi 1)]) (wr := wr) (wc := zpic G ad X) (q0 := 52) (ci := 7) (q := (RX7, TX7, 8)) hP hD hE hS hA rfl p_52) rfl rfl hl.1 rfl (lv_room (Nat.le_of_ble_eq_true rfl)) dL_law_773 ⟨(by show _ ≤ 600104; omega), (by show _ ≤ 7301314; omega)⟩) hP hD hS hA (fun _ _ H locs hf9 hP hD hS => ?_)
    obtain ⟨v1, rfl, hv1, rfl⟩ := hf9
    have hP : va_P G.1 vwCl (wr ++ zpic G ad X) H := hP
    have hD : va_D A (wr ++ zpic G ad X) := hD
    refine W.eq (g2 := F0 m 776 ls [.int (zi v1)]) rfl ?_
    have hv9 : v1 = zPf X ka i 1 := hv1
    have hes := zEn_step hTf hka (i := i) hi
    have hsf := zS_le (zFo X ka)
    have hft : zFo X ka = t := hw2.2.1
    have hen := zEn_s (X := X) (k := ka)
    rw [hft] at hes hen
    have hst4 := zS_le t
    refine lv_aload hx hb dL_law_776 (lv_at hl 9 rfl) ?_
    refine lv_iload hx hb dL_law_778 (lv_at hl 11 rfl) ?_
    refine zildL hx hb hE hP 7 (zget_old hpk) t rfl (by omega) (by decide) dL_law_780 ?_
    refine zc_ge (tgt := 790) hx hb dL_law_781 (by decide) (by omega) (by omega) (fun h781 => ?_) (fun h781 => ?_)
    · refine lv_aload_n hx hb dL_law_790 rfl (lv_at hl 3 rfl) ?_
      refine lv_iload hx hb dL_law_791 (lv_at hl 10 rfl) ?_
      refine lv_iload hx hb dL_law_793 (lv_at hl 12 rfl) ?_
      refine lv_iconst (v := zi 2) hx hb dL_law_795 rfl ?_
      refine zcall (wr := wr) (wc := zpic G ad X) (va_runV (As := [.int (zi (ka : Int)), .int (zi (i : Int)), .int (zi 2)]) (rest := []) ⟨hx, hb, hml, hown, hts⟩ (c_X7_piece l G ad X ka i 2 hI.1 hTf (by omega) (by show i < zNp X ka; omega) (by omega) H.size) (cwV 3 hts gL_law_X7_piece rfl rfl rfl (by decide +kernel) ⟨Nat.le_of_ble_eq_true rfl, Nat.le_of_ble_eq_true rfl⟩) (zPreV (As := [.int (zi (ka : Int)), .int (zi (i : Int)), .int (zi 2)]) (wr := wr) (wc := zpic G ad X) (q0 := 52) (ci := 7) (q := (RX7, TX7, 8)) hP hD hE hS hA rfl p_52) rfl rfl hl.1 rfl (lv_room (Nat.le_of_ble_eq_true rfl)) dL_law_796 ⟨(by show _ ≤ 600104; omega), (by show _ ≤ 7301314; omega)⟩) hP hD hS hA (fun _ _ H locs hf9 hP hD hS => ?_)
      obtain ⟨v2, rfl, hv2, rfl⟩ := hf9
      have hP : va_P G.1 vwCl (wr ++ zpic G ad X) H := hP
      have hD : va_D A (wr ++ zpic G ad X) := hD
      refine W.eq (g2 := F0 m 799 ls [.int (zi v2)]) rfl ?_
      have hwn := zWk_step hI.1 hTf hwk hi hpt (by omega) hi2 hv2
      refine lv_istore (lv' := [(16, .int (zi v2)), (0, .ref b), (1, .int (zi tm)), (2, .ref g0), (3, .ref (ad 52)), (4, .int (zi st)), (5, .long dg), (9, .int (zi (zN X 0 : Int))), (13, .int (zi (N : Int))), (14, .int (zi (kk0 : Int))), (15, .ref pq), (17, .int (zi (t : Int))), (18, .int (zi (i : Int)))]) hx hb dL_law_799 hl (by decide) rfl (fun ls hl => ?_)
      refine lv_iinc (v := zi ((t : Int) + 1)) (lv' := [(17, .int (zi ((t : Int) + 1))), (16, .int (zi v2)), (0, .ref b), (1, .int (zi tm)), (2, .ref g0), (3, .ref (ad 52)), (4, .int (zi st)), (5, .long dg), (9, .int (zi (zN X 0 : Int))), (13, .int (zi (N : Int))), (14, .int (zi (kk0 : Int))), (15, .ref pq), (18, .int (zi (i : Int)))]) hx hb dL_law_801 hl (k := 11) rfl (zi_add _ _) (by decide) rfl (fun ls hl => ?_)
      refine lv_goto (tgt := 759) hx hb dL_law_804 (by decide) ?_
      exact ihw v2 (t + 1) (by omega) H locs ls ⟨hP, hD, hS, lv_sub hl [2, 3, 4, 5, 6, 7, 8, 9, 10, 11, 1, 0] rfl, hwn⟩
    · refine lv_iinc (v := zi ((i : Int) + 1)) (lv' := [(18, .int (zi ((i : Int) + 1))), (0, .ref b), (1, .int (zi tm)), (2, .ref g0), (3, .ref (ad 52)), (4, .int (zi st)), (5, .long dg), (9, .int (zi (zN X 0 : Int))), (13, .int (zi (N : Int))), (14, .int (zi (kk0 : Int))), (15, .ref pq), (16, .int (zi (ka : Int))), (17, .int (zi (t : Int)))]) hx hb dL_law_784 hl (k := 12) rfl (zi_add _ _) (by decide) rfl (fun ls hl => ?_)
      refine lv_goto (tgt := 767) hx hb dL_law_787 (by decide) ?_
      exact ihi (i + 1) (by omega) H locs ls ⟨hP, hD, hS, lv_sub hl [1, 2, 3, 4, 5, 6, 7, 8, 9, 10, 11, 12, 0] rfl, (by by_cases c9 : i + 1 < zNp X ka; exact c9; (have c8 : i + 1 = zNp X ka := (by omega); rw [c8] at hes; omega)), (by omega)⟩
