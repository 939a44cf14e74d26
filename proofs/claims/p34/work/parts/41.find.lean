/-! NODES are found -/
theorem dX5_find_0 : decode cX5_find 0 = .ok (.iload_n 1, 1) := by decide +kernel
theorem dX5_find_1 : decode cX5_find 1 = .ok (.iconst 4, 1) := by decide +kernel
theorem dX5_find_2 : decode cX5_find 2 = .ok (.if_icmp .ge 15, 3) := by decide +kernel
theorem dX5_find_17 : decode cX5_find 17 = .ok (.bipush (-2), 2) := by decide +kernel
theorem dX5_find_19 : decode cX5_find 19 = .ok (.aload_n 0, 1) := by decide +kernel
theorem dX5_find_20 : decode cX5_find 20 = .ok (.getfield 21, 3) := by decide +kernel
theorem dX5_find_23 : decode cX5_find 23 = .ok (.iload_n 2, 1) := by decide +kernel
set_option maxRecDepth 20000 in
theorem ggX5_find_X6_firstOf : GoodIn wsX5_find wsX6_firstOf := goodIn_r _ [17, 18, 55, 56, 57] (by decide +kernel) (by decide +kernel)
set_option maxRecDepth 20000 in
theorem gX5_find_X6_firstOf : GoodIn wsX5_find (wsV RX5 51 RX6 yX6_firstOf wsX6_firstOf) := goodIn_app (goodIn_of _ (by decide +kernel)) ggX5_find_X6_firstOf
theorem dX5_find_24 : decode cX5_find 24 = .ok (.invokevirtual 51, 3) := by decide +kernel
theorem dX5_find_27 : decode cX5_find 27 = .ok (.isub, 1) := by decide +kernel
theorem dX5_find_28 : decode cX5_find 28 = .ok (.ireturn, 1) := by decide +kernel
theorem dX5_find_5 : decode cX5_find 5 = .ok (.aload_n 0, 1) := by decide +kernel
theorem dX5_find_6 : decode cX5_find 6 = .ok (.getfield 21, 3) := by decide +kernel
theorem dX5_find_9 : decode cX5_find 9 = .ok (.iload_n 1, 1) := by decide +kernel
theorem dX5_find_10 : decode cX5_find 10 = .ok (.iload_n 2, 1) := by decide +kernel
set_option maxRecDepth 20000 in
theorem ggX5_find_X6_isSettled : GoodIn wsX5_find wsX6_isSettled := goodIn_r _ [12, 13, 14, 15, 16, 11, 17, 18, 19, 20, 21, 22, 23, 24, 25, 55, 56, 57, 58, 59, 60, 61] (by decide +kernel) (by decide +kernel)
set_option maxRecDepth 20000 in
theorem gX5_find_X6_isSettled : GoodIn wsX5_find (wsV RX5 47 RX6 yX6_isSettled wsX6_isSettled) := goodIn_app (goodIn_of _ (by decide +kernel)) ggX5_find_X6_isSettled
theorem dX5_find_11 : decode cX5_find 11 = .ok (.invokevirtual 47, 3) := by decide +kernel
theorem dX5_find_14 : decode cX5_find 14 = .ok (.ifCond .eq 15, 3) := by decide +kernel
theorem dX5_find_29 : decode cX5_find 29 = .ok (.iload_n 1, 1) := by decide +kernel
theorem dX5_find_30 : decode cX5_find 30 = .ok (.sipush 256, 3) := by decide +kernel
theorem dX5_find_33 : decode cX5_find 33 = .ok (.imul, 1) := by decide +kernel
theorem dX5_find_34 : decode cX5_find 34 = .ok (.iload_n 2, 1) := by decide +kernel
theorem dX5_find_35 : decode cX5_find 35 = .ok (.iadd, 1) := by decide +kernel
theorem dX5_find_36 : decode cX5_find 36 = .ok (.istore_n 3, 1) := by decide +kernel
theorem dX5_find_37 : decode cX5_find 37 = .ok (.aload_n 0, 1) := by decide +kernel
theorem dX5_find_38 : decode cX5_find 38 = .ok (.getfield 9, 3) := by decide +kernel
theorem dX5_find_41 : decode cX5_find 41 = .ok (.iload_n 3, 1) := by decide +kernel
theorem dX5_find_42 : decode cX5_find 42 = .ok (.iaload, 1) := by decide +kernel
theorem dX5_find_43 : decode cX5_find 43 = .ok (.ifCond .lt 10, 3) := by decide +kernel
theorem dX5_find_53 : decode cX5_find 53 = .ok (.aload_n 0, 1) := by decide +kernel
theorem dX5_find_54 : decode cX5_find 54 = .ok (.getfield 33, 3) := by decide +kernel
theorem dX5_find_57 : decode cX5_find 57 = .ok (.istore 4, 2) := by decide +kernel
theorem dX5_find_59 : decode cX5_find 59 = .ok (.aload_n 0, 1) := by decide +kernel
theorem dX5_find_60 : decode cX5_find 60 = .ok (.dup, 1) := by decide +kernel
theorem dX5_find_61 : decode cX5_find 61 = .ok (.getfield 33, 3) := by decide +kernel
theorem dX5_find_64 : decode cX5_find 64 = .ok (.iconst 1, 1) := by decide +kernel
theorem dX5_find_65 : decode cX5_find 65 = .ok (.iadd, 1) := by decide +kernel
theorem dX5_find_66 : decode cX5_find 66 = .ok (.putfield 33, 3) := by decide +kernel
theorem dX5_find_69 : decode cX5_find 69 = .ok (.aload_n 0, 1) := by decide +kernel
theorem dX5_find_70 : decode cX5_find 70 = .ok (.getfield 9, 3) := by decide +kernel
theorem dX5_find_73 : decode cX5_find 73 = .ok (.iload_n 3, 1) := by decide +kernel
theorem dX5_find_74 : decode cX5_find 74 = .ok (.iload 4, 2) := by decide +kernel
theorem dX5_find_76 : decode cX5_find 76 = .ok (.iastore, 1) := by decide +kernel
theorem dX5_find_77 : decode cX5_find 77 = .ok (.aload_n 0, 1) := by decide +kernel
theorem dX5_find_78 : decode cX5_find 78 = .ok (.getfield 15, 3) := by decide +kernel
theorem dX5_find_81 : decode cX5_find 81 = .ok (.iload 4, 2) := by decide +kernel
theorem dX5_find_83 : decode cX5_find 83 = .ok (.iload_n 3, 1) := by decide +kernel
theorem dX5_find_84 : decode cX5_find 84 = .ok (.iastore, 1) := by decide +kernel
theorem dX5_find_85 : decode cX5_find 85 = .ok (.getstatic 55, 3) := by decide +kernel
theorem dX5_find_88 : decode cX5_find 88 = .ok (.iload_n 1, 1) := by decide +kernel
theorem dX5_find_89 : decode cX5_find 89 = .ok (.iaload, 1) := by decide +kernel
theorem dX5_find_90 : decode cX5_find 90 = .ok (.istore 5, 2) := by decide +kernel
theorem dX5_find_92 : decode cX5_find 92 = .ok (.iconst 0, 1) := by decide +kernel
theorem dX5_find_93 : decode cX5_find 93 = .ok (.istore 6, 2) := by decide +kernel
theorem dX5_find_95 : decode cX5_find 95 = .ok (.iload 6, 2) := by decide +kernel
theorem dX5_find_97 : decode cX5_find 97 = .ok (.aload_n 0, 1) := by decide +kernel
theorem dX5_find_98 : decode cX5_find 98 = .ok (.getfield 25, 3) := by decide +kernel
theorem dX5_find_101 : decode cX5_find 101 = .ok (.getfield 58, 3) := by decide +kernel
theorem dX5_find_104 : decode cX5_find 104 = .ok (.iload_n 1, 1) := by decide +kernel
theorem dX5_find_105 : decode cX5_find 105 = .ok (.iaload, 1) := by decide +kernel
theorem dX5_find_106 : decode cX5_find 106 = .ok (.if_icmp .ge 75, 3) := by decide +kernel
theorem dX5_find_181 : decode cX5_find 181 = .ok (.aload_n 0, 1) := by decide +kernel
theorem dX5_find_182 : decode cX5_find 182 = .ok (.getfield 18, 3) := by decide +kernel
theorem dX5_find_185 : decode cX5_find 185 = .ok (.iload 4, 2) := by decide +kernel
theorem dX5_find_187 : decode cX5_find 187 = .ok (.iload 5, 2) := by decide +kernel
theorem dX5_find_189 : decode cX5_find 189 = .ok (.iastore, 1) := by decide +kernel
theorem dX5_find_190 : decode cX5_find 190 = .ok (.iload 4, 2) := by decide +kernel
theorem dX5_find_192 : decode cX5_find 192 = .ok (.ireturn, 1) := by decide +kernel
theorem dX5_find_109 : decode cX5_find 109 = .ok (.aload_n 0, 1) := by decide +kernel
theorem dX5_find_110 : decode cX5_find 110 = .ok (.iload_n 1, 1) := by decide +kernel
theorem dX5_find_111 : decode cX5_find 111 = .ok (.iconst 1, 1) := by decide +kernel
theorem dX5_find_112 : decode cX5_find 112 = .ok (.iadd, 1) := by decide +kernel
theorem dX5_find_113 : decode cX5_find 113 = .ok (.iload_n 2, 1) := by decide +kernel
theorem dX5_find_114 : decode cX5_find 114 = .ok (.aload_n 0, 1) := by decide +kernel
theorem dX5_find_115 : decode cX5_find 115 = .ok (.getfield 25, 3) := by decide +kernel
theorem dX5_find_118 : decode cX5_find 118 = .ok (.iload_n 1, 1) := by decide +kernel
theorem dX5_find_119 : decode cX5_find 119 = .ok (.iload 6, 2) := by decide +kernel
set_option maxRecDepth 20000 in
theorem ggX5_find_X1_mask : GoodIn wsX5_find wsX1_mask := goodIn_r _ [31, 32, 49, 50, 51, 52, 53, 54] (by decide +kernel) (by decide +kernel)
set_option maxRecDepth 20000 in
theorem gX5_find_X1_mask : GoodIn wsX5_find (wsV RX5 63 RX1 yX1_mask wsX1_mask) := goodIn_app (goodIn_of _ (by decide +kernel)) ggX5_find_X1_mask
theorem dX5_find_121 : decode cX5_find 121 = .ok (.invokevirtual 63, 3) := by decide +kernel
theorem dX5_find_124 : decode cX5_find 124 = .ok (.iand, 1) := by decide +kernel
set_option maxRecDepth 20000 in
theorem ggX5_find_X5_find : GoodIn wsX5_find wsX5_find := goodIn_r _ [0, 1, 2, 3, 4, 5, 6, 7, 8, 9, 10, 11, 12, 13, 14, 15, 16, 17, 18, 19, 20, 21, 22, 23, 24, 25, 26, 27, 28, 29, 30, 31, 32, 33, 34, 35, 36, 37, 38, 39, 40, 41, 42, 43, 44, 45, 46, 47, 48, 49, 50, 51, 52, 53, 54, 55, 56, 57, 58, 59, 60, 61] (by decide +kernel) (by decide +kernel)
set_option maxRecDepth 20000 in
theorem gX5_find_X5_find : GoodIn wsX5_find (va_wsS RX5 43 yX5_find wsX5_find) := goodIn_app (goodIn_of _ (by decide +kernel)) ggX5_find_X5_find
theorem dX5_find_125 : decode cX5_find 125 = .ok (.invokestatic 43, 3) := by decide +kernel
theorem dX5_find_128 : decode cX5_find 128 = .ok (.istore 7, 2) := by decide +kernel
theorem dX5_find_130 : decode cX5_find 130 = .ok (.iload 7, 2) := by decide +kernel
theorem dX5_find_132 : decode cX5_find 132 = .ok (.ifCond .lt 43, 3) := by decide +kernel
theorem dX5_find_175 : decode cX5_find 175 = .ok (.iinc 6 1, 3) := by decide +kernel
theorem dX5_find_178 : decode cX5_find 178 = .ok (.goto (-83), 3) := by decide +kernel
theorem dX5_find_46 : decode cX5_find 46 = .ok (.aload_n 0, 1) := by decide +kernel
theorem dX5_find_47 : decode cX5_find 47 = .ok (.getfield 9, 3) := by decide +kernel
theorem dX5_find_50 : decode cX5_find 50 = .ok (.iload_n 3, 1) := by decide +kernel
theorem dX5_find_51 : decode cX5_find 51 = .ok (.iaload, 1) := by decide +kernel
theorem dX5_find_52 : decode cX5_find 52 = .ok (.ireturn, 1) := by decide +kernel
theorem dX5_find_135 : decode cX5_find 135 = .ok (.aload_n 0, 1) := by decide +kernel
theorem dX5_find_136 : decode cX5_find 136 = .ok (.getfield 25, 3) := by decide +kernel
theorem dX5_find_139 : decode cX5_find 139 = .ok (.iload_n 1, 1) := by decide +kernel
theorem dX5_find_140 : decode cX5_find 140 = .ok (.iload 6, 2) := by decide +kernel
theorem dX5_find_142 : decode cX5_find 142 = .ok (.iconst 1, 1) := by decide +kernel
theorem dX5_find_143 : decode cX5_find 143 = .ok (.iadd, 1) := by decide +kernel
set_option maxRecDepth 20000 in
theorem ggX5_find_X1_start : GoodIn wsX5_find wsX1_start := goodIn_r _ [39, 40, 41, 49, 50, 51, 52, 53, 54] (by decide +kernel) (by decide +kernel)
set_option maxRecDepth 20000 in
theorem gX5_find_X1_start : GoodIn wsX5_find (wsV RX5 67 RX1 yX1_start wsX1_start) := goodIn_app (goodIn_of _ (by decide +kernel)) ggX5_find_X1_start
theorem dX5_find_144 : decode cX5_find 144 = .ok (.invokevirtual 67, 3) := by decide +kernel
theorem dX5_find_147 : decode cX5_find 147 = .ok (.aload_n 0, 1) := by decide +kernel
theorem dX5_find_148 : decode cX5_find 148 = .ok (.getfield 25, 3) := by decide +kernel
theorem dX5_find_151 : decode cX5_find 151 = .ok (.iload_n 1, 1) := by decide +kernel
theorem dX5_find_152 : decode cX5_find 152 = .ok (.iload 6, 2) := by decide +kernel
theorem dX5_find_154 : decode cX5_find 154 = .ok (.invokevirtual 67, 3) := by decide +kernel
theorem dX5_find_157 : decode cX5_find 157 = .ok (.isub, 1) := by decide +kernel
theorem dX5_find_158 : decode cX5_find 158 = .ok (.istore 8, 2) := by decide +kernel
theorem dX5_find_160 : decode cX5_find 160 = .ok (.iload 5, 2) := by decide +kernel
theorem dX5_find_162 : decode cX5_find 162 = .ok (.iload 8, 2) := by decide +kernel
theorem dX5_find_164 : decode cX5_find 164 = .ok (.aload_n 0, 1) := by decide +kernel
theorem dX5_find_165 : decode cX5_find 165 = .ok (.getfield 18, 3) := by decide +kernel
theorem dX5_find_168 : decode cX5_find 168 = .ok (.iload 7, 2) := by decide +kernel
theorem dX5_find_170 : decode cX5_find 170 = .ok (.iaload, 1) := by decide +kernel
theorem dX5_find_171 : decode cX5_find 171 = .ok (.imul, 1) := by decide +kernel
theorem dX5_find_172 : decode cX5_find 172 = .ok (.iadd, 1) := by decide +kernel
theorem dX5_find_173 : decode cX5_find 173 = .ok (.istore 5, 2) := by decide +kernel
theorem zFd_leaf {X : Nat → Nat → Int} {g u : Nat} {v : Int} (hti : zTi X X g) (hl : zLf X g u) (hv : -1 ≤ v ∧ v < 8 ∧ zIsF (zN X 0) u v) : zFd g X u (-2 - v) X := by
  have e : -2 - (-2 - v) = v := by omega
  exact ⟨hti, zTx.rf X, fun k h1 h2 => by omega, Or.inl ⟨hl, by rw [e]; exact hv.2.2, by omega, by omega, rfl⟩⟩
theorem zFd_new {X : Nat → Nat → Int} {g u n : Nat} {cv : Int} (hg : g ≤ 3) (hu : u < 256) (hti : zTi X X g) (hn : X 61 5 = (n : Int)) (hno : X 62 (g * 256 + u) = -1) (hnl : ¬ zLf X g u) (hsub : u &&& zDec X 0 = u) (hcv : cv = ((g * 256 + u : Nat) : Int)) {M : Nat → Nat → Int} (hM : zw (zw (zw X 61 5 (X 61 5 + 1)) 62 (g * 256 + u) (n : Int)) 63 n cv = M) :
    zTi X M (g + 1) ∧ zTx X M ∧ M 61 5 = (n : Int) + 1 ∧ M 62 (g * 256 + u) = (n : Int) ∧ M 63 n = ((g * 256 + u : Nat) : Int) := by
  have hmod : (g * 256 + u) % 256 = u := by omega
  have hdiv : (g * 256 + u) / 256 = g := by omega
  have e5 : M 61 5 = (n : Int) + 1 := by rw [← hM, zw_cell (show (61 : Nat) ≠ 63 by decide), zw_cell (show (61 : Nat) ≠ 62 by decide), zw_at, hn]
  have e62 : ∀ d : Nat, M 62 d = if d = g * 256 + u then (n : Int) else X 62 d := fun d => by
    rw [← hM, zw_cell (show (62 : Nat) ≠ 63 by decide)]
    by_cases e9 : d = g * 256 + u
    · rw [if_pos e9, e9, zw_at]
    · rw [if_neg e9, zw_ne e9, zw_cell (show (62 : Nat) ≠ 61 by decide)]
  have e63 : ∀ k : Nat, M 63 k = if k = n then ((g * 256 + u : Nat) : Int) else X 63 k := fun k => by
    rw [← hM]
    by_cases e9 : k = n
    · rw [if_pos e9, e9, zw_at, hcv]
    · rw [if_neg e9, zw_ne e9, zw_cell (show (63 : Nat) ≠ 62 by decide), zw_cell (show (63 : Nat) ≠ 61 by decide)]
  have eo : ∀ c : Nat, c ≠ 61 → c ≠ 62 → c ≠ 63 → M c = X c := fun c h1 h2 h3 => by rw [← hM, zw_cell h3, zw_cell h2, zw_cell h1]
  refine ⟨zTi_new hti hn (c := g * 256 + u) (by omega) hdiv hno (by rw [hmod]; exact hsub) (by rw [hdiv, hmod]; exact hnl) e5 e62 e63 (eo 64 (by omega) (by omega) (by omega)), ⟨by omega, fun c hc => ?_, fun k hk => ?_, fun c h1 h2 h3 _ => eo c h1 h2 h3, ?_⟩, e5, by rw [e62, if_pos rfl], by rw [e63, if_pos rfl]⟩
  · rw [e62, if_neg (fun e => by rw [e, hno] at hc; omega)]
  · rw [e63, if_neg (by omega), eo 64 (by omega) (by omega) (by omega)]
    exact ⟨rfl, rfl⟩
  · rw [← hM, zw_cell (show (61 : Nat) ≠ 63 by decide), zw_cell (show (61 : Nat) ≠ 62 by decide), zw_ne (show (6 : Nat) ≠ 5 by decide)]
theorem zFd_end {X X1 Y : Nat → Nat → Int} {g u n : Nat} {sum : Int} (hg : g ≤ 3) (hu : u < 256) (hti : zTi X X g) (hn : X 61 5 = (n : Int)) (hno : X 62 (g * 256 + u) = -1) (hnl : ¬ zLf X g u) (hx01 : zTx X X1) (e5 : X1 61 5 = (n : Int) + 1) (e62 : X1 62 (g * 256 + u) = (n : Int)) (e63 : X1 63 n = ((g * 256 + u : Nat) : Int)) (hT : zTi X Y (g + 1)) (hx : zTx X1 Y)
    (hnew : ∀ k : Nat, (n : Int) + 1 ≤ (k : Int) → (k : Int) < Y 61 5 → ((g : Int) + 1) * 256 ≤ Y 63 k) (hcl : ∀ i : Nat, i < zCn X g → zCh X Y (g + 1) (u &&& zMa X g i)) (hs : 0 ≤ sum ∧ sum ≤ zBS g) : zFd g X u (n : Int) (zw Y 64 n sum) := by
  have hmod : (g * 256 + u) % 256 = u := by omega
  have hdiv : (g * 256 + u) / 256 = g := by omega
  have eo : ∀ d : Nat, d ≠ 64 → zw Y 64 n sum d = Y d := fun d h => zw_cell h
  have hle := hx.1
  have f63 : Y 63 n = ((g * 256 + u : Nat) : Int) := by rw [(hx.2.2.1 n (by omega)).1, e63]
  have f62 : Y 62 (g * 256 + u) = (n : Int) := by rw [hx.2.1 _ (by rw [e62]; omega), e62]
  have hxz := hx01.trans hx
  refine ⟨zTi_end hti hn (c := g * 256 + u) hdiv hT (fun k hk => hx01.2.2.1 k (by omega)) hx01.2.1 e5 e63 hx hnew (fun i hi => ?_) hs eo (fun k => ?_), ⟨?_, fun c hc => ?_, fun k hk => ?_, fun c h1 h2 h3 h4 => ?_, ?_⟩, fun k h1 h2 => ?_, Or.inr ⟨hnl, by omega, ?_, ?_, Or.inr ⟨hno, hn.symm⟩⟩⟩
  · rw [hdiv] at hi ⊢
    rw [hmod]
    exact hcl i hi
  · by_cases e9 : k = n
    · rw [if_pos e9, e9, zw_at]
    · rw [if_neg e9, zw_ne e9]
  · rw [eo 61 (by omega)]; exact hxz.1
  · rw [eo 62 (by omega)]; exact hxz.2.1 c hc
  · rw [eo 63 (by omega), zw_ne (by omega)]
    exact hxz.2.2.1 k hk
  · rw [eo c h4]; exact hxz.2.2.2.1 c h1 h2 h3 h4
  · rw [eo 61 (by omega)]; exact hxz.2.2.2.2
  · rw [eo 61 (by omega)] at h2
    rw [eo 63 (by omega)]
    by_cases e9 : k = n
    · rw [e9, f63]; omega
    · have h3 := hnew k (by omega) h2
      omega
  · rw [eo 61 (by omega)]; omega
  · rw [eo 62 (by omega)]; exact f62

set_option maxHeartbeats 4000000 in
set_option maxRecDepth 100000 in
/-- find at the FIELD 4 -/
theorem c_find4 (l : Launch) (G : zG) (ad : Nat → Nat) (X : Nat → Nat → Int) (u : Nat) (hV : zV X) (hCs : zCs X) (hu : u < 256) (hsub : u &&& zDec X 0 = u) (hti : zTi X X 4) : zR l G yX5_find wsX5_find { frames := 1, cells := 0, slots := 0, locals := 22 } (zpic G ad X) [.ref (ad 61), .int (zi 4), .int (zi (u : Int))] (zu G ad (fun w Y => zFd 4 X u w Y)) 0 0 := by
  refine zR_of (cc := cX5_find) (maxL := 9) (rt := (some .int)) (by decide) rfl (Nat.le_of_ble_eq_true rfl) ?_
  intro p e s m below meth c A ls hx hb hml hr hts hown hlocks hin0 hA hE hP hD hS hl
  have hl : lv_has ls 9 [(0, .ref (ad 61)), (1, .int (zi 4)), (2, .int (zi (u : Int)))] := hl
  have hown : s.vm.findClass RX5 = some m.cls := hown
  have hw5 : ∀ w ∈ u_ws RX5 TX5 7, w ∈ wsX5_find := by decide +kernel
  have hf21 := hts (.fieldLink RX5 21 "Nettle$Tree" "wall" "LNettle$Wall;") (by decide +kernel)
  refine lv_iload_n hx hb dX5_find_0 rfl (lv_at hl 1 rfl) ?_
  refine lv_iconst (v := zi 4) hx hb dX5_find_1 rfl ?_
  refine zc_ge (tgt := 17) hx hb dX5_find_2 (by decide) (by decide) (by decide) (fun h2 => ?_) (fun h9 => absurd h9 (by decide))
  refine lv_bipush (v := zi (-2)) hx hb dX5_find_17 (by decide +kernel) ?_
  refine lv_aload_n hx hb dX5_find_19 rfl (lv_at hl 0 rfl) ?_
  refine va_get (D := G.1) (ci := 5) (v := .ref (ad 0)) (C := RX5) (T := TX5) (N := 7) hx hb hts hw5 hown hE.1 hP 61 p_61 rfl 0 (by decide) hf21 (fun _ h9 => h9) rfl dX5_find_20 ?_
  refine lv_iload_n hx hb dX5_find_23 rfl (lv_at hl 2 rfl) ?_
  refine zcall (wr := []) (va_runV (As := [.int (zi (u : Int))]) (rest := [.int (zi (-2))]) ⟨hx, hb, hml, hown, hts⟩ (c_X6_firstOf l G ad X 0 u hV (Or.inl rfl) (by omega) s.heap.size) (cwV 1 hts gX5_find_X6_firstOf rfl rfl rfl (by decide +kernel) ⟨Nat.le_of_ble_eq_true rfl, Nat.le_of_ble_eq_true rfl⟩) (zPreV (wr := []) (wc := zpic G ad X) (q0 := 0) (ci := 6) (q := (RX6, TX6, 3)) hP hD hE hS hA rfl (p_w (Or.inl rfl))) rfl rfl hl.1 rfl (lv_room (Nat.le_of_ble_eq_true rfl)) dX5_find_24 ⟨Nat.le_of_ble_eq_true rfl, Nat.le_of_ble_eq_true rfl⟩) hP hD hS hA (fun _ _ H locs hf hP hD hS => ?_)
  obtain ⟨v1, rfl, hv1, rfl⟩ := hf
  have hP : va_P G.1 vwCl (zpic G ad X) H := hP
  have hD : va_D A (zpic G ad X) := hD
  refine W.eq (g2 := F0 m 27 ls [.int (zi v1), .int (zi (-2))]) rfl ?_
  refine lv_isub hx hb dX5_find_27 (zti (v := zi ((-2) - v1)) (zi_sub _ _) ?_)
  exact zend_i hx hb hr hlocks hP hD hS (Nat.le_of_ble_eq_true rfl) (Nat.le_of_ble_eq_true rfl) dX5_find_28 ⟨_, _, rfl, (zFd_leaf hti (Or.inl (by omega)) hv1), rfl⟩

set_option maxHeartbeats 4000000 in
set_option maxRecDepth 100000 in
/-- find at the FIELD 3 -/
theorem c_find3 (l : Launch) (G : zG) (ad : Nat → Nat) (X : Nat → Nat → Int) (u : Nat) (hV : zV X) (hCs : zCs X) (hu : u < 256) (hsub : u &&& zDec X 0 = u) (hti : zTi X X 3) : zR l G yX5_find wsX5_find { frames := 2, cells := 0, slots := 0, locals := 50 } (zpic G ad X) [.ref (ad 61), .int (zi 3), .int (zi (u : Int))] (zu G ad (fun w Y => zFd 3 X u w Y)) 0 0 := by
  refine zR_of (cc := cX5_find) (maxL := 9) (rt := (some .int)) (by decide) rfl (Nat.le_of_ble_eq_true rfl) ?_
  intro p e s m below meth c A ls hx hb hml hr hts hown hlocks hin0 hA hE hP hD hS hl
  have hl : lv_has ls 9 [(0, .ref (ad 61)), (1, .int (zi 3)), (2, .int (zi (u : Int)))] := hl
  have hown : s.vm.findClass RX5 = some m.cls := hown
  have hw5 : ∀ w ∈ u_ws RX5 TX5 7, w ∈ wsX5_find := by decide +kernel
  have hf21 := hts (.fieldLink RX5 21 "Nettle$Tree" "wall" "LNettle$Wall;") (by decide +kernel)
  have hf9 := hts (.fieldLink RX5 9 "Nettle$Tree" "numbers" "[I") (by decide +kernel)
  have hf33 := hts (.fieldLink RX5 33 "Nettle$Tree" "count" "I") (by decide +kernel)
  have hf15 := hts (.fieldLink RX5 15 "Nettle$Tree" "codes" "[I") (by decide +kernel)
  have hf25 := hts (.fieldLink RX5 25 "Nettle$Tree" "cuts" "LNettle$Cuts;") (by decide +kernel)
  have hw1 : ∀ w ∈ u_ws RX1 TX1 6, w ∈ wsX5_find := by decide +kernel
  have hf58 := hts (.fieldLink RX5 58 "Nettle$Cuts" "counts" "[I") (by decide +kernel)
  have hf18 := hts (.fieldLink RX5 18 "Nettle$Tree" "sums" "[I") (by decide +kernel)
  refine lv_iload_n hx hb dX5_find_0 rfl (lv_at hl 1 rfl) ?_
  refine lv_iconst (v := zi 4) hx hb dX5_find_1 rfl ?_
  refine zc_ge (tgt := 17) hx hb dX5_find_2 (by decide) (by decide) (by decide) (fun h9 => absurd h9 (by decide)) (fun h2 => ?_)
  refine lv_aload_n hx hb dX5_find_5 rfl (lv_at hl 0 rfl) ?_
  refine va_get (D := G.1) (ci := 5) (v := .ref (ad 0)) (C := RX5) (T := TX5) (N := 7) hx hb hts hw5 hown hE.1 hP 61 p_61 rfl 0 (by decide) hf21 (fun _ h9 => h9) rfl dX5_find_6 ?_
  refine lv_iload_n hx hb dX5_find_9 rfl (lv_at hl 1 rfl) ?_
  refine lv_iload_n hx hb dX5_find_10 rfl (lv_at hl 2 rfl) ?_
  refine zcall (wr := []) (va_runV (As := [.int (zi 3), .int (zi (u : Int))]) (rest := []) ⟨hx, hb, hml, hown, hts⟩ (c_X6_isSettled l G ad X 0 3 u hV (Or.inl rfl) (by omega) (by omega) s.heap.size) (cwV 2 hts gX5_find_X6_isSettled rfl rfl rfl (by decide +kernel) ⟨Nat.le_of_ble_eq_true rfl, Nat.le_of_ble_eq_true rfl⟩) (zPreV (wr := []) (wc := zpic G ad X) (q0 := 0) (ci := 6) (q := (RX6, TX6, 3)) hP hD hE hS hA rfl (p_w (Or.inl rfl))) rfl rfl hl.1 rfl (lv_room (Nat.le_of_ble_eq_true rfl)) dX5_find_11 ⟨Nat.le_of_ble_eq_true rfl, Nat.le_of_ble_eq_true rfl⟩) hP hD hS hA (fun _ _ H locs hf hP hD hS => ?_)
  obtain ⟨v1, rfl, hv1, rfl⟩ := hf
  have hP : va_P G.1 vwCl (zpic G ad X) H := hP
  have hD : va_D A (zpic G ad X) := hD
  refine W.eq (g2 := F0 m 14 ls [.int (zi v1)]) rfl ?_
  refine z0_eq (tgt := 29) hx hb dX5_find_14 (by decide) (by omega) (fun h14 => ?_) (fun h14 => ?_)
  · have hnl : ¬ zLf X 3 u := fun q => by rcases hv1 with h | h; omega; rcases q with q | q; omega; exact h.2 q
    have hc2 := hti.2.1 (3 * 256 + u) (by omega)
    have hcnt := hti.cnt
    refine lv_iload_n hx hb dX5_find_29 rfl (lv_at hl 1 rfl) ?_
    refine lv_sipush (v := zi 256) hx hb dX5_find_30 (by decide +kernel) ?_
    refine lv_imul hx hb dX5_find_33 (zti (v := zi 768) (zi_mul _ _) ?_)
    refine lv_iload_n hx hb dX5_find_34 rfl (lv_at hl 2 rfl) ?_
    refine lv_iadd hx hb dX5_find_35 (zti (v := zi (768 + (u : Int))) (zi_add _ _) ?_)
    refine lv_istore_n (lv' := [(3, .int (zi (768 + (u : Int)))), (0, .ref (ad 61)), (1, .int (zi 3)), (2, .int (zi (u : Int)))]) hx hb dX5_find_36 rfl hl (by decide) rfl (fun ls hl => ?_)
    refine lv_aload_n hx hb dX5_find_37 rfl (lv_at hl 1 rfl) ?_
    refine va_get (D := G.1) (ci := 5) (v := .ref (ad 62)) (C := RX5) (T := TX5) (N := 7) hx hb hts hw5 hown hE.1 hP 61 p_61 rfl 2 (by decide) hf9 (fun _ h9 => h9) rfl dX5_find_38 ?_
    refine lv_iload_n hx hb dX5_find_41 rfl (lv_at hl 0 rfl) ?_
    refine zild hx hb hE hP 62 1024 (fun _ => rfl) (by decide) (3 * 256 + u) (by omega) (by omega) (by decide) dX5_find_42 ?_
    refine z0_lt (tgt := 53) hx hb dX5_find_43 (by decide) (by omega) (fun h43 => ?_) (fun h43 => ?_)
    · obtain ⟨n, hn5⟩ : ∃ n : Nat, X 61 5 = (n : Int) := ⟨(X 61 5).toNat, by omega⟩
      have hroom := hti.room (c := 3 * 256 + u) (by omega) (by omega)
      refine lv_aload_n hx hb dX5_find_53 rfl (lv_at hl 1 rfl) ?_
      refine va_get (D := G.1) (ci := 5) (v := .int (zi (X 61 5))) (C := RX5) (T := TX5) (N := 7) hx hb hts hw5 hown hE.1 hP 61 p_61 rfl 5 (by decide) hf33 (fun _ h9 => h9) rfl dX5_find_54 ?_
      refine zti (v := zi (n : Int)) (congrArg zi hn5) ?_
      refine lv_istore (lv' := [(4, .int (zi (n : Int))), (3, .int (zi (768 + (u : Int)))), (0, .ref (ad 61)), (1, .int (zi 3)), (2, .int (zi (u : Int)))]) hx hb dX5_find_57 hl (by decide) rfl (fun ls hl => ?_)
      refine lv_aload_n hx hb dX5_find_59 rfl (lv_at hl 2 rfl) ?_
      refine lv_dup hx hb dX5_find_60 rfl ?_
      refine va_get (D := G.1) (ci := 5) (v := .int (zi (X 61 5))) (C := RX5) (T := TX5) (N := 7) hx hb hts hw5 hown hE.1 hP 61 p_61 rfl 5 (by decide) hf33 (fun _ h9 => h9) rfl dX5_find_61 ?_
      refine lv_iconst (v := zi 1) hx hb dX5_find_64 rfl ?_
      refine lv_iadd hx hb dX5_find_65 (zti (v := zi ((X 61 5) + 1)) (zi_add _ _) ?_)
      refine zput (C := RX5) (T := TX5) (N := 7) (ci := 5) (v := .int (zi ((X 61 5) + 1))) (ty := tyX5 5) hx hb hts hw5 tyX5 tyX5_ok nmX5 hown hE hP hD hS 61 p_61 rfl 5 (by decide) hf33 (fun _ h9 => h9) rfl (by decide +kernel) rfl rfl (Nat.le_of_ble_eq_true rfl) (s_615 ((X 61 5) + 1)) dX5_find_66 (fun H locs hP hD hS => ?_)
      refine lv_aload_n hx hb dX5_find_69 rfl (lv_at hl 2 rfl) ?_
      refine va_get (D := G.1) (ci := 5) (v := .ref (ad 62)) (C := RX5) (T := TX5) (N := 7) hx hb hts hw5 hown hE.1 hP 61 p_61 rfl 2 (by decide) hf9 (fun _ h9 => h9) rfl dX5_find_70 ?_
      refine lv_iload_n hx hb dX5_find_73 rfl (lv_at hl 1 rfl) ?_
      refine lv_iload hx hb dX5_find_74 (lv_at hl 0 rfl) ?_
      refine zist hx hb hE hP hD hS 62 1024 (fun _ => rfl) (by decide) (3 * 256 + u) (by omega) (by omega) (by decide) dX5_find_76 (fun H locs hP hD hS => ?_)
      refine lv_aload_n hx hb dX5_find_77 rfl (lv_at hl 2 rfl) ?_
      refine va_get (D := G.1) (ci := 5) (v := .ref (ad 63)) (C := RX5) (T := TX5) (N := 7) hx hb hts hw5 hown hE.1 hP 61 p_61 rfl 3 (by decide) hf15 (fun _ h9 => h9) rfl dX5_find_78 ?_
      refine lv_iload hx hb dX5_find_81 (lv_at hl 0 rfl) ?_
      refine lv_iload_n hx hb dX5_find_83 rfl (lv_at hl 1 rfl) ?_
      refine zist hx hb hE hP hD hS 63 1024 (fun _ => rfl) (by decide) n rfl (by omega) (by decide) dX5_find_84 (fun H locs hP hD hS => ?_)
      generalize eX1 : (zw (zw (zw X 61 5 ((X 61 5) + 1)) 62 (3 * 256 + u) (n : Int)) 63 n (768 + (u : Int))) = X1 at hP hD
      have hfn := zFd_new (g := 3) (by omega) hu hti hn5 (by omega) hnl hsub (by omega) eX1
      refine va_getsN hx hb hE.2.2.1.1 hS hown (va_Nw.use rfl hE.2.2.2.1.2.2.2.2.2.2.2.1) (fun _ h9 => h9) dX5_find_85 ?_
      refine lv_iload_n hx hb dX5_find_88 rfl (lv_at hl 3 rfl) ?_
      refine zam_ld hx hb hE hS 3 rfl (by decide) dX5_find_89 ?_
      refine zti (v := zi 4) rfl ?_
      refine lv_istore (lv' := [(5, .int (zi 4)), (4, .int (zi (n : Int))), (3, .int (zi (768 + (u : Int)))), (0, .ref (ad 61)), (1, .int (zi 3)), (2, .int (zi (u : Int)))]) hx hb dX5_find_90 hl (by decide) rfl (fun ls hl => ?_)
      refine lv_iconst (v := zi 0) hx hb dX5_find_92 rfl ?_
      refine lv_istore (lv' := [(6, .int (zi 0)), (5, .int (zi 4)), (4, .int (zi (n : Int))), (3, .int (zi (768 + (u : Int)))), (0, .ref (ad 61)), (1, .int (zi 3)), (2, .int (zi (u : Int)))]) hx hb dX5_find_93 hl (by decide) rfl (fun ls hl => ?_)
      refine zloop3 (fun (j : Nat) (Y : Nat → Nat → Int) (sum : Int) => 33 - j) (fun (j : Nat) (Y : Nat → Nat → Int) (sum : Int) (H : Heap) (locs : List Loc) (ls : Array Slot) => va_P G.1 vwCl (zpic G ad Y) H ∧ va_D A (zpic G ad Y) ∧ va_S A s.heap H locs ∧ lv_has ls 9 [(6, .int (zi (j : Int))), (5, .int (zi sum)), (4, .int (zi (n : Int))), (2, .int (zi (u : Int))), (1, .int (zi 3)), (0, .ref (ad 61))] ∧ (j ≤ zCn X 3) ∧ (zTi X Y (3 + 1)) ∧ (zTx X1 Y) ∧ (∀ k : Nat, (n : Int) + 1 ≤ (k : Int) → (k : Int) < Y 61 5 → (((3 : Nat) : Int) + 1) * 256 ≤ Y 63 k) ∧ (∀ i : Nat, i < j → zCh X Y (3 + 1) (u &&& zMa X 3 i)) ∧ (4 ≤ sum ∧ sum ≤ 4 + zS0 X 3 j * 0)) ?_ 0 X1 4 ⟨hP, hD, hS, lv_sub hl [0, 1, 2, 6, 5, 4] rfl, (by omega), hfn.1, (zTx.rf X1), (fun k h1 h2 => by have e5 := hfn.2.2.1; omega), (fun i h1 => by omega), (by rw [hCs.s0 (by omega)]; omega)⟩
      intro j Y sum ih H locs ls ⟨hP, hD, hS, hl, hj, hT, hxt, hnew, hcl, hsm⟩
      have hwY : zWc X Y := hfn.2.1.wc.trans hxt.wc
      have hVY : zV Y := hwY.1.v hV
      have hCY : zCs Y := hwY.cs hV hCs
      have hcn := hCs.n (show 3 < 4 by omega)
      have hcnY : zCn Y 3 = zCn X 3 := hwY.cn 3
      have hcY := hCY.n (show 3 < 4 by omega)
      have hau : u &&& zMa X 3 j ≤ u := Nat.and_le_left
      refine lv_iload hx hb dX5_find_95 (lv_at hl 0 rfl) ?_
      refine lv_aload_n hx hb dX5_find_97 rfl (lv_at hl 5 rfl) ?_
      refine va_get (D := G.1) (ci := 5) (v := .ref (ad 57)) (C := RX5) (T := TX5) (N := 7) hx hb hts hw5 hown hE.1 hP 61 p_61 rfl 1 (by decide) hf25 (fun _ h9 => h9) rfl dX5_find_98 ?_
      refine va_get (D := G.1) (ci := 1) (v := .ref (ad 58)) (C := RX1) (T := TX1) (N := 6) hx hb hts hw1 hown hE.1 hP 57 p_57 rfl 2 (by decide) hf58 (fun _ h9 => h9) rfl dX5_find_101 ?_
      refine lv_iload_n hx hb dX5_find_104 rfl (lv_at hl 4 rfl) ?_
      refine zild hx hb hE hP 58 4 (fun _ => rfl) (by decide) 3 rfl (by decide) (by decide) dX5_find_105 ?_
      refine zc_ge (tgt := 181) hx hb dX5_find_106 (by decide) (by omega) (by omega) (fun h106 => ?_) (fun h106 => ?_)
      · refine lv_aload_n hx hb dX5_find_181 rfl (lv_at hl 5 rfl) ?_
        refine va_get (D := G.1) (ci := 5) (v := .ref (ad 64)) (C := RX5) (T := TX5) (N := 7) hx hb hts hw5 hown hE.1 hP 61 p_61 rfl 4 (by decide) hf18 (fun _ h9 => h9) rfl dX5_find_182 ?_
        refine lv_iload hx hb dX5_find_185 (lv_at hl 2 rfl) ?_
        refine lv_iload hx hb dX5_find_187 (lv_at hl 1 rfl) ?_
        refine zist hx hb hE hP hD hS 64 1024 (fun _ => rfl) (by decide) n rfl (by omega) (by decide) dX5_find_189 (fun H locs hP hD hS => ?_)
        refine lv_iload hx hb dX5_find_190 (lv_at hl 2 rfl) ?_
        exact zend_i hx hb hr hlocks hP hD hS (Nat.le_of_ble_eq_true rfl) (Nat.le_of_ble_eq_true rfl) dX5_find_192 ⟨_, _, rfl, (by have hjn : j = zCn X 3 := (by omega); rw [hjn] at hcl hsm; rw [zCs.sn] at hsm; exact zFd_end (g := 3) (by omega) hu hti hn5 (by omega) hnl hfn.2.1 hfn.2.2.1 hfn.2.2.2.1 hfn.2.2.2.2 hT hxt hnew hcl (by have e1 : zBS 3 = 4 := rfl; have e2 : zS 3 = 4 := rfl; rw [e1]; rw [e2] at hsm; omega)), rfl⟩
      · refine lv_aload_n hx hb dX5_find_109 rfl (lv_at hl 5 rfl) ?_
        refine lv_iload_n hx hb dX5_find_110 rfl (lv_at hl 4 rfl) ?_
        refine lv_iconst (v := zi 1) hx hb dX5_find_111 rfl ?_
        refine lv_iadd hx hb dX5_find_112 (zti (v := zi 4) (zi_add _ _) ?_)
        refine lv_iload_n hx hb dX5_find_113 rfl (lv_at hl 3 rfl) ?_
        refine lv_aload_n hx hb dX5_find_114 rfl (lv_at hl 5 rfl) ?_
        refine va_get (D := G.1) (ci := 5) (v := .ref (ad 57)) (C := RX5) (T := TX5) (N := 7) hx hb hts hw5 hown hE.1 hP 61 p_61 rfl 1 (by decide) hf25 (fun _ h9 => h9) rfl dX5_find_115 ?_
        refine lv_iload_n hx hb dX5_find_118 rfl (lv_at hl 4 rfl) ?_
        refine lv_iload hx hb dX5_find_119 (lv_at hl 0 rfl) ?_
        refine zcall (wr := []) (va_runV (As := [.int (zi 3), .int (zi (j : Int))]) (rest := [.int (zi (u : Int)), .int (zi 4), .ref (ad 61)]) ⟨hx, hb, hml, hown, hts⟩ (c_X1_mask l G ad Y 3 j hCY (by omega) (by omega) H.size) (cwV 2 hts gX5_find_X1_mask rfl rfl rfl (by decide +kernel) ⟨Nat.le_of_ble_eq_true rfl, Nat.le_of_ble_eq_true rfl⟩) (zPreV (wr := []) (wc := zpic G ad Y) (q0 := 57) (ci := 1) (q := (RX1, TX1, 6)) hP hD hE hS hA rfl p_57) rfl rfl hl.1 rfl (lv_room (Nat.le_of_ble_eq_true rfl)) dX5_find_121 ⟨Nat.le_of_ble_eq_true rfl, Nat.le_of_ble_eq_true rfl⟩) hP hD hS hA (fun _ _ H locs hf hP hD hS => ?_)
        obtain ⟨v2, rfl, hv2, rfl⟩ := hf
        have hP : va_P G.1 vwCl (zpic G ad Y) H := hP
        have hD : va_D A (zpic G ad Y) := hD
        refine W.eq (g2 := F0 m 124 ls [.int (zi v2), .int (zi (u : Int)), .int (zi 4), .ref (ad 61)]) rfl ?_
        have hsg := hCs.seg (f := 3) (j := j) (by omega) (by omega)
        rw [hwY.ma 3 j] at hv2
        rw [hv2]
        refine lv_iand hx hb dX5_find_124 (zti (v := zi ((u &&& zMa X 3 j : Nat) : Int)) (zi_and _ _) ?_)
        refine zcall (wr := []) (va_runS (As := [.ref (ad 61), .int (zi 4), .int (zi ((u &&& zMa X 3 j : Nat) : Int))]) (rest := []) ⟨hx, hb, hml, hown, hts⟩ (c_find4 l G ad Y (u &&& zMa X 3 j : Nat) hVY hCY (by omega) (by rw [hwY.1.dec hV (Or.inl rfl : zIsW 0)]; exact zand_sub hsub) ((hwY.ti hV).mpr hT) H.size) (va_cwS 3 hts gX5_find_X5_find rfl rfl rfl (by decide +kernel) ⟨Nat.le_of_ble_eq_true rfl, Nat.le_of_ble_eq_true rfl⟩) (zPre (wr := []) (wc := zpic G ad Y) (As := [.ref (ad 61), .int (zi 4), .int (zi ((u &&& zMa X 3 j : Nat) : Int))]) hP hD hE hS hA).1 rfl rfl hl.1 rfl (lv_room (Nat.le_of_ble_eq_true rfl)) dX5_find_125 ⟨Nat.le_of_ble_eq_true rfl, Nat.le_of_ble_eq_true rfl⟩) hP hD hS hA (fun _ _ H locs hf hP hD hS => ?_)
        obtain ⟨v3, X2, rfl, hv3, rfl⟩ := hf
        have hP : va_P G.1 vwCl (zpic G ad X2) H := hP
        have hD : va_D A (zpic G ad X2) := hD
        refine W.eq (g2 := F0 m 128 ls [.int (zi v3)]) rfl ?_
        have hx2 := hv3.2.1
        have hT2 : zTi X X2 (3 + 1) := (hwY.ti hV).mp hv3.1
        have hxx : zTx X1 X2 := hxt.trans hx2
        have hwc2 : zWc X X2 := hwY.trans hx2.wc
        have hV2 : zV X2 := hwc2.1.v hV
        have hC2 : zCs X2 := hwc2.cs hV hCs
        have hcn2 : zCn X2 3 = zCn X 3 := hwc2.cn 3
        have hch2 : zCh X X2 (3 + 1) (u &&& zMa X 3 j) := (hwY.ch hV).mp hv3.ch
        have hcnt2 := hT2.cnt
        have hnew2 : ∀ k : Nat, (n : Int) + 1 ≤ (k : Int) → (k : Int) < X2 61 5 → (((3 : Nat) : Int) + 1) * 256 ≤ X2 63 k := fun k h1 h2 => by by_cases e9 : (k : Int) < Y 61 5; (rw [(hx2.2.2.1 k e9).1]; exact hnew k h1 e9); exact hv3.2.2.1 k (by omega) h2
        have hvb : -10 < v3 ∧ v3 < 1024 := by rcases hv3.2.2.2 with q | q; (have q1 := q.2.2; omega); (have q1 := q.2; omega)
        have hneg : v3 < 0 := by rcases hv3.2.2.2 with q | q; exact q.2.2.2.1; exact absurd (Or.inl (by omega)) q.1
        refine lv_istore (lv' := [(7, .int (zi v3)), (6, .int (zi (j : Int))), (5, .int (zi sum)), (4, .int (zi (n : Int))), (2, .int (zi (u : Int))), (1, .int (zi 3)), (0, .ref (ad 61))]) hx hb dX5_find_128 hl (by decide) rfl (fun ls hl => ?_)
        refine lv_iload hx hb dX5_find_130 (lv_at hl 0 rfl) ?_
        refine z0_lt (tgt := 175) hx hb dX5_find_132 (by decide) (by omega) (fun h132 => ?_) (fun h9 => by exfalso; omega)
        refine lv_iinc (v := zi ((j : Int) + 1)) (lv' := [(6, .int (zi ((j : Int) + 1))), (7, .int (zi v3)), (5, .int (zi sum)), (4, .int (zi (n : Int))), (2, .int (zi (u : Int))), (1, .int (zi 3)), (0, .ref (ad 61))]) hx hb dX5_find_175 hl (k := 1) rfl (zi_add _ _) (by decide) rfl (fun ls hl => ?_)
        refine lv_goto (tgt := 95) hx hb dX5_find_178 (by decide) ?_
        exact ih (j + 1) X2 sum (by omega) H locs ls ⟨hP, hD, hS, lv_sub hl [0, 2, 3, 4, 5, 6] rfl, (by omega), hT2, hxx, hnew2, (fun i h1 => by by_cases e9 : i = j; (rw [e9]; exact hch2); exact (hcl i (by omega)).ext hx2), (by omega)⟩
    · refine lv_aload_n hx hb dX5_find_46 rfl (lv_at hl 1 rfl) ?_
      refine va_get (D := G.1) (ci := 5) (v := .ref (ad 62)) (C := RX5) (T := TX5) (N := 7) hx hb hts hw5 hown hE.1 hP 61 p_61 rfl 2 (by decide) hf9 (fun _ h9 => h9) rfl dX5_find_47 ?_
      refine lv_iload_n hx hb dX5_find_50 rfl (lv_at hl 0 rfl) ?_
      refine zild hx hb hE hP 62 1024 (fun _ => rfl) (by decide) (3 * 256 + u) (by omega) (by omega) (by decide) dX5_find_51 ?_
      exact zend_i hx hb hr hlocks hP hD hS (Nat.le_of_ble_eq_true rfl) (Nat.le_of_ble_eq_true rfl) dX5_find_52 ⟨_, _, rfl, ⟨hti, zTx.rf X, fun k h1 h2 => by omega, Or.inr ⟨hnl, by omega, by omega, rfl, Or.inl ⟨by omega, rfl⟩⟩⟩, rfl⟩
  · refine lv_bipush (v := zi (-2)) hx hb dX5_find_17 (by decide +kernel) ?_
    refine lv_aload_n hx hb dX5_find_19 rfl (lv_at hl 0 rfl) ?_
    refine va_get (D := G.1) (ci := 5) (v := .ref (ad 0)) (C := RX5) (T := TX5) (N := 7) hx hb hts hw5 hown hE.1 hP 61 p_61 rfl 0 (by decide) hf21 (fun _ h9 => h9) rfl dX5_find_20 ?_
    refine lv_iload_n hx hb dX5_find_23 rfl (lv_at hl 2 rfl) ?_
    refine zcall (wr := []) (va_runV (As := [.int (zi (u : Int))]) (rest := [.int (zi (-2))]) ⟨hx, hb, hml, hown, hts⟩ (c_X6_firstOf l G ad X 0 u hV (Or.inl rfl) (by omega) H.size) (cwV 1 hts gX5_find_X6_firstOf rfl rfl rfl (by decide +kernel) ⟨Nat.le_of_ble_eq_true rfl, Nat.le_of_ble_eq_true rfl⟩) (zPreV (wr := []) (wc := zpic G ad X) (q0 := 0) (ci := 6) (q := (RX6, TX6, 3)) hP hD hE hS hA rfl (p_w (Or.inl rfl))) rfl rfl hl.1 rfl (lv_room (Nat.le_of_ble_eq_true rfl)) dX5_find_24 ⟨Nat.le_of_ble_eq_true rfl, Nat.le_of_ble_eq_true rfl⟩) hP hD hS hA (fun _ _ H locs hf hP hD hS => ?_)
    obtain ⟨v2, rfl, hv2, rfl⟩ := hf
    have hP : va_P G.1 vwCl (zpic G ad X) H := hP
    have hD : va_D A (zpic G ad X) := hD
    refine W.eq (g2 := F0 m 27 ls [.int (zi v2), .int (zi (-2))]) rfl ?_
    refine lv_isub hx hb dX5_find_27 (zti (v := zi ((-2) - v2)) (zi_sub _ _) ?_)
    exact zend_i hx hb hr hlocks hP hD hS (Nat.le_of_ble_eq_true rfl) (Nat.le_of_ble_eq_true rfl) dX5_find_28 ⟨_, _, rfl, (zFd_leaf hti (Or.inr (by rcases hv1 with h | h; exact h.2; omega)) hv2), rfl⟩

set_option maxHeartbeats 4000000 in
set_option maxRecDepth 100000 in
/-- find at the FIELD 2 -/
theorem c_find2 (l : Launch) (G : zG) (ad : Nat → Nat) (X : Nat → Nat → Int) (u : Nat) (hV : zV X) (hCs : zCs X) (hu : u < 256) (hsub : u &&& zDec X 0 = u) (hti : zTi X X 2) : zR l G yX5_find wsX5_find { frames := 3, cells := 0, slots := 0, locals := 78 } (zpic G ad X) [.ref (ad 61), .int (zi 2), .int (zi (u : Int))] (zu G ad (fun w Y => zFd 2 X u w Y)) 0 0 := by
  refine zR_of (cc := cX5_find) (maxL := 9) (rt := (some .int)) (by decide) rfl (Nat.le_of_ble_eq_true rfl) ?_
  intro p e s m below meth c A ls hx hb hml hr hts hown hlocks hin0 hA hE hP hD hS hl
  have hl : lv_has ls 9 [(0, .ref (ad 61)), (1, .int (zi 2)), (2, .int (zi (u : Int)))] := hl
  have hown : s.vm.findClass RX5 = some m.cls := hown
  have hw5 : ∀ w ∈ u_ws RX5 TX5 7, w ∈ wsX5_find := by decide +kernel
  have hf21 := hts (.fieldLink RX5 21 "Nettle$Tree" "wall" "LNettle$Wall;") (by decide +kernel)
  have hf9 := hts (.fieldLink RX5 9 "Nettle$Tree" "numbers" "[I") (by decide +kernel)
  have hf33 := hts (.fieldLink RX5 33 "Nettle$Tree" "count" "I") (by decide +kernel)
  have hf15 := hts (.fieldLink RX5 15 "Nettle$Tree" "codes" "[I") (by decide +kernel)
  have hf25 := hts (.fieldLink RX5 25 "Nettle$Tree" "cuts" "LNettle$Cuts;") (by decide +kernel)
  have hw1 : ∀ w ∈ u_ws RX1 TX1 6, w ∈ wsX5_find := by decide +kernel
  have hf58 := hts (.fieldLink RX5 58 "Nettle$Cuts" "counts" "[I") (by decide +kernel)
  have hf18 := hts (.fieldLink RX5 18 "Nettle$Tree" "sums" "[I") (by decide +kernel)
  refine lv_iload_n hx hb dX5_find_0 rfl (lv_at hl 1 rfl) ?_
  refine lv_iconst (v := zi 4) hx hb dX5_find_1 rfl ?_
  refine zc_ge (tgt := 17) hx hb dX5_find_2 (by decide) (by decide) (by decide) (fun h9 => absurd h9 (by decide)) (fun h2 => ?_)
  refine lv_aload_n hx hb dX5_find_5 rfl (lv_at hl 0 rfl) ?_
  refine va_get (D := G.1) (ci := 5) (v := .ref (ad 0)) (C := RX5) (T := TX5) (N := 7) hx hb hts hw5 hown hE.1 hP 61 p_61 rfl 0 (by decide) hf21 (fun _ h9 => h9) rfl dX5_find_6 ?_
  refine lv_iload_n hx hb dX5_find_9 rfl (lv_at hl 1 rfl) ?_
  refine lv_iload_n hx hb dX5_find_10 rfl (lv_at hl 2 rfl) ?_
  refine zcall (wr := []) (va_runV (As := [.int (zi 2), .int (zi (u : Int))]) (rest := []) ⟨hx, hb, hml, hown, hts⟩ (c_X6_isSettled l G ad X 0 2 u hV (Or.inl rfl) (by omega) (by omega) s.heap.size) (cwV 2 hts gX5_find_X6_isSettled rfl rfl rfl (by decide +kernel) ⟨Nat.le_of_ble_eq_true rfl, Nat.le_of_ble_eq_true rfl⟩) (zPreV (wr := []) (wc := zpic G ad X) (q0 := 0) (ci := 6) (q := (RX6, TX6, 3)) hP hD hE hS hA rfl (p_w (Or.inl rfl))) rfl rfl hl.1 rfl (lv_room (Nat.le_of_ble_eq_true rfl)) dX5_find_11 ⟨Nat.le_of_ble_eq_true rfl, Nat.le_of_ble_eq_true rfl⟩) hP hD hS hA (fun _ _ H locs hf hP hD hS => ?_)
  obtain ⟨v1, rfl, hv1, rfl⟩ := hf
  have hP : va_P G.1 vwCl (zpic G ad X) H := hP
  have hD : va_D A (zpic G ad X) := hD
  refine W.eq (g2 := F0 m 14 ls [.int (zi v1)]) rfl ?_
  refine z0_eq (tgt := 29) hx hb dX5_find_14 (by decide) (by omega) (fun h14 => ?_) (fun h14 => ?_)
  · have hnl : ¬ zLf X 2 u := fun q => by rcases hv1 with h | h; omega; rcases q with q | q; omega; exact h.2 q
    have hc2 := hti.2.1 (2 * 256 + u) (by omega)
    have hcnt := hti.cnt
    refine lv_iload_n hx hb dX5_find_29 rfl (lv_at hl 1 rfl) ?_
    refine lv_sipush (v := zi 256) hx hb dX5_find_30 (by decide +kernel) ?_
    refine lv_imul hx hb dX5_find_33 (zti (v := zi 512) (zi_mul _ _) ?_)
    refine lv_iload_n hx hb dX5_find_34 rfl (lv_at hl 2 rfl) ?_
    refine lv_iadd hx hb dX5_find_35 (zti (v := zi (512 + (u : Int))) (zi_add _ _) ?_)
    refine lv_istore_n (lv' := [(3, .int (zi (512 + (u : Int)))), (0, .ref (ad 61)), (1, .int (zi 2)), (2, .int (zi (u : Int)))]) hx hb dX5_find_36 rfl hl (by decide) rfl (fun ls hl => ?_)
    refine lv_aload_n hx hb dX5_find_37 rfl (lv_at hl 1 rfl) ?_
    refine va_get (D := G.1) (ci := 5) (v := .ref (ad 62)) (C := RX5) (T := TX5) (N := 7) hx hb hts hw5 hown hE.1 hP 61 p_61 rfl 2 (by decide) hf9 (fun _ h9 => h9) rfl dX5_find_38 ?_
    refine lv_iload_n hx hb dX5_find_41 rfl (lv_at hl 0 rfl) ?_
    refine zild hx hb hE hP 62 1024 (fun _ => rfl) (by decide) (2 * 256 + u) (by omega) (by omega) (by decide) dX5_find_42 ?_
    refine z0_lt (tgt := 53) hx hb dX5_find_43 (by decide) (by omega) (fun h43 => ?_) (fun h43 => ?_)
    · obtain ⟨n, hn5⟩ : ∃ n : Nat, X 61 5 = (n : Int) := ⟨(X 61 5).toNat, by omega⟩
      have hroom := hti.room (c := 2 * 256 + u) (by omega) (by omega)
      refine lv_aload_n hx hb dX5_find_53 rfl (lv_at hl 1 rfl) ?_
      refine va_get (D := G.1) (ci := 5) (v := .int (zi (X 61 5))) (C := RX5) (T := TX5) (N := 7) hx hb hts hw5 hown hE.1 hP 61 p_61 rfl 5 (by decide) hf33 (fun _ h9 => h9) rfl dX5_find_54 ?_
      refine zti (v := zi (n : Int)) (congrArg zi hn5) ?_
      refine lv_istore (lv' := [(4, .int (zi (n : Int))), (3, .int (zi (512 + (u : Int)))), (0, .ref (ad 61)), (1, .int (zi 2)), (2, .int (zi (u : Int)))]) hx hb dX5_find_57 hl (by decide) rfl (fun ls hl => ?_)
      refine lv_aload_n hx hb dX5_find_59 rfl (lv_at hl 2 rfl) ?_
      refine lv_dup hx hb dX5_find_60 rfl ?_
      refine va_get (D := G.1) (ci := 5) (v := .int (zi (X 61 5))) (C := RX5) (T := TX5) (N := 7) hx hb hts hw5 hown hE.1 hP 61 p_61 rfl 5 (by decide) hf33 (fun _ h9 => h9) rfl dX5_find_61 ?_
      refine lv_iconst (v := zi 1) hx hb dX5_find_64 rfl ?_
      refine lv_iadd hx hb dX5_find_65 (zti (v := zi ((X 61 5) + 1)) (zi_add _ _) ?_)
      refine zput (C := RX5) (T := TX5) (N := 7) (ci := 5) (v := .int (zi ((X 61 5) + 1))) (ty := tyX5 5) hx hb hts hw5 tyX5 tyX5_ok nmX5 hown hE hP hD hS 61 p_61 rfl 5 (by decide) hf33 (fun _ h9 => h9) rfl (by decide +kernel) rfl rfl (Nat.le_of_ble_eq_true rfl) (s_615 ((X 61 5) + 1)) dX5_find_66 (fun H locs hP hD hS => ?_)
      refine lv_aload_n hx hb dX5_find_69 rfl (lv_at hl 2 rfl) ?_
      refine va_get (D := G.1) (ci := 5) (v := .ref (ad 62)) (C := RX5) (T := TX5) (N := 7) hx hb hts hw5 hown hE.1 hP 61 p_61 rfl 2 (by decide) hf9 (fun _ h9 => h9) rfl dX5_find_70 ?_
      refine lv_iload_n hx hb dX5_find_73 rfl (lv_at hl 1 rfl) ?_
      refine lv_iload hx hb dX5_find_74 (lv_at hl 0 rfl) ?_
      refine zist hx hb hE hP hD hS 62 1024 (fun _ => rfl) (by decide) (2 * 256 + u) (by omega) (by omega) (by decide) dX5_find_76 (fun H locs hP hD hS => ?_)
      refine lv_aload_n hx hb dX5_find_77 rfl (lv_at hl 2 rfl) ?_
      refine va_get (D := G.1) (ci := 5) (v := .ref (ad 63)) (C := RX5) (T := TX5) (N := 7) hx hb hts hw5 hown hE.1 hP 61 p_61 rfl 3 (by decide) hf15 (fun _ h9 => h9) rfl dX5_find_78 ?_
      refine lv_iload hx hb dX5_find_81 (lv_at hl 0 rfl) ?_
      refine lv_iload_n hx hb dX5_find_83 rfl (lv_at hl 1 rfl) ?_
      refine zist hx hb hE hP hD hS 63 1024 (fun _ => rfl) (by decide) n rfl (by omega) (by decide) dX5_find_84 (fun H locs hP hD hS => ?_)
      generalize eX1 : (zw (zw (zw X 61 5 ((X 61 5) + 1)) 62 (2 * 256 + u) (n : Int)) 63 n (512 + (u : Int))) = X1 at hP hD
      have hfn := zFd_new (g := 2) (by omega) hu hti hn5 (by omega) hnl hsub (by omega) eX1
      refine va_getsN hx hb hE.2.2.1.1 hS hown (va_Nw.use rfl hE.2.2.2.1.2.2.2.2.2.2.2.1) (fun _ h9 => h9) dX5_find_85 ?_
      refine lv_iload_n hx hb dX5_find_88 rfl (lv_at hl 3 rfl) ?_
      refine zam_ld hx hb hE hS 2 rfl (by decide) dX5_find_89 ?_
      refine zti (v := zi 4096) rfl ?_
      refine lv_istore (lv' := [(5, .int (zi 4096)), (4, .int (zi (n : Int))), (3, .int (zi (512 + (u : Int)))), (0, .ref (ad 61)), (1, .int (zi 2)), (2, .int (zi (u : Int)))]) hx hb dX5_find_90 hl (by decide) rfl (fun ls hl => ?_)
      refine lv_iconst (v := zi 0) hx hb dX5_find_92 rfl ?_
      refine lv_istore (lv' := [(6, .int (zi 0)), (5, .int (zi 4096)), (4, .int (zi (n : Int))), (3, .int (zi (512 + (u : Int)))), (0, .ref (ad 61)), (1, .int (zi 2)), (2, .int (zi (u : Int)))]) hx hb dX5_find_93 hl (by decide) rfl (fun ls hl => ?_)
      refine zloop3 (fun (j : Nat) (Y : Nat → Nat → Int) (sum : Int) => 33 - j) (fun (j : Nat) (Y : Nat → Nat → Int) (sum : Int) (H : Heap) (locs : List Loc) (ls : Array Slot) => va_P G.1 vwCl (zpic G ad Y) H ∧ va_D A (zpic G ad Y) ∧ va_S A s.heap H locs ∧ lv_has ls 9 [(6, .int (zi (j : Int))), (5, .int (zi sum)), (4, .int (zi (n : Int))), (2, .int (zi (u : Int))), (1, .int (zi 2)), (0, .ref (ad 61))] ∧ (j ≤ zCn X 2) ∧ (zTi X Y (2 + 1)) ∧ (zTx X1 Y) ∧ (∀ k : Nat, (n : Int) + 1 ≤ (k : Int) → (k : Int) < Y 61 5 → (((2 : Nat) : Int) + 1) * 256 ≤ Y 63 k) ∧ (∀ i : Nat, i < j → zCh X Y (2 + 1) (u &&& zMa X 2 i)) ∧ (4096 ≤ sum ∧ sum ≤ 4096 + zS0 X 2 j * 4)) ?_ 0 X1 4096 ⟨hP, hD, hS, lv_sub hl [0, 1, 2, 6, 5, 4] rfl, (by omega), hfn.1, (zTx.rf X1), (fun k h1 h2 => by have e5 := hfn.2.2.1; omega), (fun i h1 => by omega), (by rw [hCs.s0 (by omega)]; omega)⟩
      intro j Y sum ih H locs ls ⟨hP, hD, hS, hl, hj, hT, hxt, hnew, hcl, hsm⟩
      have hwY : zWc X Y := hfn.2.1.wc.trans hxt.wc
      have hVY : zV Y := hwY.1.v hV
      have hCY : zCs Y := hwY.cs hV hCs
      have hcn := hCs.n (show 2 < 4 by omega)
      have hcnY : zCn Y 2 = zCn X 2 := hwY.cn 2
      have hcY := hCY.n (show 2 < 4 by omega)
      have hau : u &&& zMa X 2 j ≤ u := Nat.and_le_left
      refine lv_iload hx hb dX5_find_95 (lv_at hl 0 rfl) ?_
      refine lv_aload_n hx hb dX5_find_97 rfl (lv_at hl 5 rfl) ?_
      refine va_get (D := G.1) (ci := 5) (v := .ref (ad 57)) (C := RX5) (T := TX5) (N := 7) hx hb hts hw5 hown hE.1 hP 61 p_61 rfl 1 (by decide) hf25 (fun _ h9 => h9) rfl dX5_find_98 ?_
      refine va_get (D := G.1) (ci := 1) (v := .ref (ad 58)) (C := RX1) (T := TX1) (N := 6) hx hb hts hw1 hown hE.1 hP 57 p_57 rfl 2 (by decide) hf58 (fun _ h9 => h9) rfl dX5_find_101 ?_
      refine lv_iload_n hx hb dX5_find_104 rfl (lv_at hl 4 rfl) ?_
      refine zild hx hb hE hP 58 4 (fun _ => rfl) (by decide) 2 rfl (by decide) (by decide) dX5_find_105 ?_
      refine zc_ge (tgt := 181) hx hb dX5_find_106 (by decide) (by omega) (by omega) (fun h106 => ?_) (fun h106 => ?_)
      · refine lv_aload_n hx hb dX5_find_181 rfl (lv_at hl 5 rfl) ?_
        refine va_get (D := G.1) (ci := 5) (v := .ref (ad 64)) (C := RX5) (T := TX5) (N := 7) hx hb hts hw5 hown hE.1 hP 61 p_61 rfl 4 (by decide) hf18 (fun _ h9 => h9) rfl dX5_find_182 ?_
        refine lv_iload hx hb dX5_find_185 (lv_at hl 2 rfl) ?_
        refine lv_iload hx hb dX5_find_187 (lv_at hl 1 rfl) ?_
        refine zist hx hb hE hP hD hS 64 1024 (fun _ => rfl) (by decide) n rfl (by omega) (by decide) dX5_find_189 (fun H locs hP hD hS => ?_)
        refine lv_iload hx hb dX5_find_190 (lv_at hl 2 rfl) ?_
        exact zend_i hx hb hr hlocks hP hD hS (Nat.le_of_ble_eq_true rfl) (Nat.le_of_ble_eq_true rfl) dX5_find_192 ⟨_, _, rfl, (by have hjn : j = zCn X 2 := (by omega); rw [hjn] at hcl hsm; rw [zCs.sn] at hsm; exact zFd_end (g := 2) (by omega) hu hti hn5 (by omega) hnl hfn.2.1 hfn.2.2.1 hfn.2.2.2.1 hfn.2.2.2.2 hT hxt hnew hcl (by have e1 : zBS 2 = 8192 := rfl; have e2 : zS 2 = 1024 := rfl; rw [e1]; rw [e2] at hsm; omega)), rfl⟩
      · refine lv_aload_n hx hb dX5_find_109 rfl (lv_at hl 5 rfl) ?_
        refine lv_iload_n hx hb dX5_find_110 rfl (lv_at hl 4 rfl) ?_
        refine lv_iconst (v := zi 1) hx hb dX5_find_111 rfl ?_
        refine lv_iadd hx hb dX5_find_112 (zti (v := zi 3) (zi_add _ _) ?_)
        refine lv_iload_n hx hb dX5_find_113 rfl (lv_at hl 3 rfl) ?_
        refine lv_aload_n hx hb dX5_find_114 rfl (lv_at hl 5 rfl) ?_
        refine va_get (D := G.1) (ci := 5) (v := .ref (ad 57)) (C := RX5) (T := TX5) (N := 7) hx hb hts hw5 hown hE.1 hP 61 p_61 rfl 1 (by decide) hf25 (fun _ h9 => h9) rfl dX5_find_115 ?_
        refine lv_iload_n hx hb dX5_find_118 rfl (lv_at hl 4 rfl) ?_
        refine lv_iload hx hb dX5_find_119 (lv_at hl 0 rfl) ?_
        refine zcall (wr := []) (va_runV (As := [.int (zi 2), .int (zi (j : Int))]) (rest := [.int (zi (u : Int)), .int (zi 3), .ref (ad 61)]) ⟨hx, hb, hml, hown, hts⟩ (c_X1_mask l G ad Y 2 j hCY (by omega) (by omega) H.size) (cwV 2 hts gX5_find_X1_mask rfl rfl rfl (by decide +kernel) ⟨Nat.le_of_ble_eq_true rfl, Nat.le_of_ble_eq_true rfl⟩) (zPreV (wr := []) (wc := zpic G ad Y) (q0 := 57) (ci := 1) (q := (RX1, TX1, 6)) hP hD hE hS hA rfl p_57) rfl rfl hl.1 rfl (lv_room (Nat.le_of_ble_eq_true rfl)) dX5_find_121 ⟨Nat.le_of_ble_eq_true rfl, Nat.le_of_ble_eq_true rfl⟩) hP hD hS hA (fun _ _ H locs hf hP hD hS => ?_)
        obtain ⟨v2, rfl, hv2, rfl⟩ := hf
        have hP : va_P G.1 vwCl (zpic G ad Y) H := hP
        have hD : va_D A (zpic G ad Y) := hD
        refine W.eq (g2 := F0 m 124 ls [.int (zi v2), .int (zi (u : Int)), .int (zi 3), .ref (ad 61)]) rfl ?_
        have hsg := hCs.seg (f := 2) (j := j) (by omega) (by omega)
        rw [hwY.ma 2 j] at hv2
        rw [hv2]
        refine lv_iand hx hb dX5_find_124 (zti (v := zi ((u &&& zMa X 2 j : Nat) : Int)) (zi_and _ _) ?_)
        refine zcall (wr := []) (va_runS (As := [.ref (ad 61), .int (zi 3), .int (zi ((u &&& zMa X 2 j : Nat) : Int))]) (rest := []) ⟨hx, hb, hml, hown, hts⟩ (c_find3 l G ad Y (u &&& zMa X 2 j : Nat) hVY hCY (by omega) (by rw [hwY.1.dec hV (Or.inl rfl : zIsW 0)]; exact zand_sub hsub) ((hwY.ti hV).mpr hT) H.size) (va_cwS 3 hts gX5_find_X5_find rfl rfl rfl (by decide +kernel) ⟨Nat.le_of_ble_eq_true rfl, Nat.le_of_ble_eq_true rfl⟩) (zPre (wr := []) (wc := zpic G ad Y) (As := [.ref (ad 61), .int (zi 3), .int (zi ((u &&& zMa X 2 j : Nat) : Int))]) hP hD hE hS hA).1 rfl rfl hl.1 rfl (lv_room (Nat.le_of_ble_eq_true rfl)) dX5_find_125 ⟨Nat.le_of_ble_eq_true rfl, Nat.le_of_ble_eq_true rfl⟩) hP hD hS hA (fun _ _ H locs hf hP hD hS => ?_)
        obtain ⟨v3, X2, rfl, hv3, rfl⟩ := hf
        have hP : va_P G.1 vwCl (zpic G ad X2) H := hP
        have hD : va_D A (zpic G ad X2) := hD
        refine W.eq (g2 := F0 m 128 ls [.int (zi v3)]) rfl ?_
        have hx2 := hv3.2.1
        have hT2 : zTi X X2 (2 + 1) := (hwY.ti hV).mp hv3.1
        have hxx : zTx X1 X2 := hxt.trans hx2
        have hwc2 : zWc X X2 := hwY.trans hx2.wc
        have hV2 : zV X2 := hwc2.1.v hV
        have hC2 : zCs X2 := hwc2.cs hV hCs
        have hcn2 : zCn X2 2 = zCn X 2 := hwc2.cn 2
        have hch2 : zCh X X2 (2 + 1) (u &&& zMa X 2 j) := (hwY.ch hV).mp hv3.ch
        have hcnt2 := hT2.cnt
        have hnew2 : ∀ k : Nat, (n : Int) + 1 ≤ (k : Int) → (k : Int) < X2 61 5 → (((2 : Nat) : Int) + 1) * 256 ≤ X2 63 k := fun k h1 h2 => by by_cases e9 : (k : Int) < Y 61 5; (rw [(hx2.2.2.1 k e9).1]; exact hnew k h1 e9); exact hv3.2.2.1 k (by omega) h2
        have hvb : -10 < v3 ∧ v3 < 1024 := by rcases hv3.2.2.2 with q | q; (have q1 := q.2.2; omega); (have q1 := q.2; omega)
        refine lv_istore (lv' := [(7, .int (zi v3)), (6, .int (zi (j : Int))), (5, .int (zi sum)), (4, .int (zi (n : Int))), (2, .int (zi (u : Int))), (1, .int (zi 2)), (0, .ref (ad 61))]) hx hb dX5_find_128 hl (by decide) rfl (fun ls hl => ?_)
        refine lv_iload hx hb dX5_find_130 (lv_at hl 0 rfl) ?_
        refine z0_lt (tgt := 175) hx hb dX5_find_132 (by decide) (by omega) (fun h132 => ?_) (fun h132 => ?_)
        · refine lv_iinc (v := zi ((j : Int) + 1)) (lv' := [(6, .int (zi ((j : Int) + 1))), (7, .int (zi v3)), (5, .int (zi sum)), (4, .int (zi (n : Int))), (2, .int (zi (u : Int))), (1, .int (zi 2)), (0, .ref (ad 61))]) hx hb dX5_find_175 hl (k := 1) rfl (zi_add _ _) (by decide) rfl (fun ls hl => ?_)
          refine lv_goto (tgt := 95) hx hb dX5_find_178 (by decide) ?_
          exact ih (j + 1) X2 sum (by omega) H locs ls ⟨hP, hD, hS, lv_sub hl [0, 2, 3, 4, 5, 6] rfl, (by omega), hT2, hxx, hnew2, (fun i h1 => by by_cases e9 : i = j; (rw [e9]; exact hch2); exact (hcl i (by omega)).ext hx2), (by omega)⟩
        · obtain ⟨kx, hkx⟩ : ∃ kx : Nat, v3 = (kx : Int) := ⟨v3.toNat, by omega⟩
          have hss := hv3.sum (by omega) (by omega) (by omega)
          rw [hkx, Int.toNat_natCast] at hss
          have hbs : zBS (2 + 1) = 4 := rfl
          rw [hbs] at hss
          refine lv_aload_n hx hb dX5_find_135 rfl (lv_at hl 6 rfl) ?_
          refine va_get (D := G.1) (ci := 5) (v := .ref (ad 57)) (C := RX5) (T := TX5) (N := 7) hx hb hts hw5 hown hE.1 hP 61 p_61 rfl 1 (by decide) hf25 (fun _ h9 => h9) rfl dX5_find_136 ?_
          refine lv_iload_n hx hb dX5_find_139 rfl (lv_at hl 5 rfl) ?_
          refine lv_iload hx hb dX5_find_140 (lv_at hl 1 rfl) ?_
          refine lv_iconst (v := zi 1) hx hb dX5_find_142 rfl ?_
          refine lv_iadd hx hb dX5_find_143 (zti (v := zi ((j : Int) + 1)) (zi_add _ _) ?_)
          refine zcall (wr := []) (va_runV (As := [.int (zi 2), .int (zi ((j : Int) + 1))]) (rest := []) ⟨hx, hb, hml, hown, hts⟩ (c_X1_start l G ad X2 2 (j + 1) hC2 (by omega) (by omega) H.size) (cwV 2 hts gX5_find_X1_start rfl rfl rfl (by decide +kernel) ⟨Nat.le_of_ble_eq_true rfl, Nat.le_of_ble_eq_true rfl⟩) (zPreV (wr := []) (wc := zpic G ad X2) (q0 := 57) (ci := 1) (q := (RX1, TX1, 6)) hP hD hE hS hA rfl p_57) rfl rfl hl.1 rfl (lv_room (Nat.le_of_ble_eq_true rfl)) dX5_find_144 ⟨Nat.le_of_ble_eq_true rfl, Nat.le_of_ble_eq_true rfl⟩) hP hD hS hA (fun _ _ H locs hf hP hD hS => ?_)
          obtain ⟨v4, rfl, hv4, rfl⟩ := hf
          have hP : va_P G.1 vwCl (zpic G ad X2) H := hP
          have hD : va_D A (zpic G ad X2) := hD
          refine W.eq (g2 := F0 m 147 ls [.int (zi v4)]) rfl ?_
          refine lv_aload_n hx hb dX5_find_147 rfl (lv_at hl 6 rfl) ?_
          refine va_get (D := G.1) (ci := 5) (v := .ref (ad 57)) (C := RX5) (T := TX5) (N := 7) hx hb hts hw5 hown hE.1 hP 61 p_61 rfl 1 (by decide) hf25 (fun _ h9 => h9) rfl dX5_find_148 ?_
          refine lv_iload_n hx hb dX5_find_151 rfl (lv_at hl 5 rfl) ?_
          refine lv_iload hx hb dX5_find_152 (lv_at hl 1 rfl) ?_
          refine zcall (wr := []) (va_runV (As := [.int (zi 2), .int (zi (j : Int))]) (rest := [.int (zi v4)]) ⟨hx, hb, hml, hown, hts⟩ (c_X1_start l G ad X2 2 j hC2 (by omega) (by omega) H.size) (cwV 2 hts gX5_find_X1_start rfl rfl rfl (by decide +kernel) ⟨Nat.le_of_ble_eq_true rfl, Nat.le_of_ble_eq_true rfl⟩) (zPreV (wr := []) (wc := zpic G ad X2) (q0 := 57) (ci := 1) (q := (RX1, TX1, 6)) hP hD hE hS hA rfl p_57) rfl rfl hl.1 rfl (lv_room (Nat.le_of_ble_eq_true rfl)) dX5_find_154 ⟨Nat.le_of_ble_eq_true rfl, Nat.le_of_ble_eq_true rfl⟩) hP hD hS hA (fun _ _ H locs hf hP hD hS => ?_)
          obtain ⟨v5, rfl, hv5, rfl⟩ := hf
          have hP : va_P G.1 vwCl (zpic G ad X2) H := hP
          have hD : va_D A (zpic G ad X2) := hD
          refine W.eq (g2 := F0 m 157 ls [.int (zi v5), .int (zi v4)]) rfl ?_
          refine lv_isub hx hb dX5_find_157 (zti (v := zi (v4 - v5)) (zi_sub _ _) ?_)
          refine lv_istore (lv' := [(8, .int (zi (v4 - v5))), (7, .int (zi v3)), (6, .int (zi (j : Int))), (5, .int (zi sum)), (4, .int (zi (n : Int))), (2, .int (zi (u : Int))), (1, .int (zi 2)), (0, .ref (ad 61))]) hx hb dX5_find_158 hl (by decide) rfl (fun ls hl => ?_)
          refine lv_iload hx hb dX5_find_160 (lv_at hl 3 rfl) ?_
          refine lv_iload hx hb dX5_find_162 (lv_at hl 0 rfl) ?_
          refine lv_aload_n hx hb dX5_find_164 rfl (lv_at hl 7 rfl) ?_
          refine va_get (D := G.1) (ci := 5) (v := .ref (ad 64)) (C := RX5) (T := TX5) (N := 7) hx hb hts hw5 hown hE.1 hP 61 p_61 rfl 4 (by decide) hf18 (fun _ h9 => h9) rfl dX5_find_165 ?_
          refine lv_iload hx hb dX5_find_168 (lv_at hl 1 rfl) ?_
          refine zild hx hb hE hP 64 1024 (fun _ => rfl) (by decide) kx hkx (by omega) (by decide) dX5_find_170 ?_
          refine lv_imul hx hb dX5_find_171 (zti (v := zi ((v4 - v5) * (X2 64 kx))) (zi_mul _ _) ?_)
          refine lv_iadd hx hb dX5_find_172 (zti (v := zi (sum + ((v4 - v5) * (X2 64 kx)))) (zi_add _ _) ?_)
          have e3 : v4 = zS0 X 2 (j + 1) := by rw [hv4, hwc2.s0]
          have e4 : v5 = zS0 X 2 j := by rw [hv5, hwc2.s0]
          have hm0 := Int.mul_nonneg (show 0 ≤ v4 - v5 by omega) hss.1
          have hm1 := Int.mul_le_mul_of_nonneg_left hss.2 (show 0 ≤ v4 - v5 by omega)
          refine lv_istore (lv' := [(5, .int (zi (sum + ((v4 - v5) * (X2 64 kx))))), (8, .int (zi (v4 - v5))), (7, .int (zi v3)), (6, .int (zi (j : Int))), (4, .int (zi (n : Int))), (2, .int (zi (u : Int))), (1, .int (zi 2)), (0, .ref (ad 61))]) hx hb dX5_find_173 hl (by decide) rfl (fun ls hl => ?_)
          refine lv_iinc (v := zi ((j : Int) + 1)) (lv' := [(6, .int (zi ((j : Int) + 1))), (5, .int (zi (sum + ((v4 - v5) * (X2 64 kx))))), (8, .int (zi (v4 - v5))), (7, .int (zi v3)), (4, .int (zi (n : Int))), (2, .int (zi (u : Int))), (1, .int (zi 2)), (0, .ref (ad 61))]) hx hb dX5_find_175 hl (k := 3) rfl (zi_add _ _) (by decide) rfl (fun ls hl => ?_)
          refine lv_goto (tgt := 95) hx hb dX5_find_178 (by decide) ?_
          exact ih (j + 1) X2 (sum + ((v4 - v5) * (X2 64 kx))) (by omega) H locs ls ⟨hP, hD, hS, lv_sub hl [0, 1, 4, 5, 6, 7] rfl, (by omega), hT2, hxx, hnew2, (fun i h1 => by by_cases e9 : i = j; (rw [e9]; exact hch2); exact (hcl i (by omega)).ext hx2), (by omega)⟩
    · refine lv_aload_n hx hb dX5_find_46 rfl (lv_at hl 1 rfl) ?_
      refine va_get (D := G.1) (ci := 5) (v := .ref (ad 62)) (C := RX5) (T := TX5) (N := 7) hx hb hts hw5 hown hE.1 hP 61 p_61 rfl 2 (by decide) hf9 (fun _ h9 => h9) rfl dX5_find_47 ?_
      refine lv_iload_n hx hb dX5_find_50 rfl (lv_at hl 0 rfl) ?_
      refine zild hx hb hE hP 62 1024 (fun _ => rfl) (by decide) (2 * 256 + u) (by omega) (by omega) (by decide) dX5_find_51 ?_
      exact zend_i hx hb hr hlocks hP hD hS (Nat.le_of_ble_eq_true rfl) (Nat.le_of_ble_eq_true rfl) dX5_find_52 ⟨_, _, rfl, ⟨hti, zTx.rf X, fun k h1 h2 => by omega, Or.inr ⟨hnl, by omega, by omega, rfl, Or.inl ⟨by omega, rfl⟩⟩⟩, rfl⟩
  · refine lv_bipush (v := zi (-2)) hx hb dX5_find_17 (by decide +kernel) ?_
    refine lv_aload_n hx hb dX5_find_19 rfl (lv_at hl 0 rfl) ?_
    refine va_get (D := G.1) (ci := 5) (v := .ref (ad 0)) (C := RX5) (T := TX5) (N := 7) hx hb hts hw5 hown hE.1 hP 61 p_61 rfl 0 (by decide) hf21 (fun _ h9 => h9) rfl dX5_find_20 ?_
    refine lv_iload_n hx hb dX5_find_23 rfl (lv_at hl 2 rfl) ?_
    refine zcall (wr := []) (va_runV (As := [.int (zi (u : Int))]) (rest := [.int (zi (-2))]) ⟨hx, hb, hml, hown, hts⟩ (c_X6_firstOf l G ad X 0 u hV (Or.inl rfl) (by omega) H.size) (cwV 1 hts gX5_find_X6_firstOf rfl rfl rfl (by decide +kernel) ⟨Nat.le_of_ble_eq_true rfl, Nat.le_of_ble_eq_true rfl⟩) (zPreV (wr := []) (wc := zpic G ad X) (q0 := 0) (ci := 6) (q := (RX6, TX6, 3)) hP hD hE hS hA rfl (p_w (Or.inl rfl))) rfl rfl hl.1 rfl (lv_room (Nat.le_of_ble_eq_true rfl)) dX5_find_24 ⟨Nat.le_of_ble_eq_true rfl, Nat.le_of_ble_eq_true rfl⟩) hP hD hS hA (fun _ _ H locs hf hP hD hS => ?_)
    obtain ⟨v2, rfl, hv2, rfl⟩ := hf
    have hP : va_P G.1 vwCl (zpic G ad X) H := hP
    have hD : va_D A (zpic G ad X) := hD
    refine W.eq (g2 := F0 m 27 ls [.int (zi v2), .int (zi (-2))]) rfl ?_
    refine lv_isub hx hb dX5_find_27 (zti (v := zi ((-2) - v2)) (zi_sub _ _) ?_)
    exact zend_i hx hb hr hlocks hP hD hS (Nat.le_of_ble_eq_true rfl) (Nat.le_of_ble_eq_true rfl) dX5_find_28 ⟨_, _, rfl, (zFd_leaf hti (Or.inr (by rcases hv1 with h | h; exact h.2; omega)) hv2), rfl⟩

set_option maxHeartbeats 4000000 in
set_option maxRecDepth 100000 in
/-- find at the FIELD 1 -/
theorem c_find1 (l : Launch) (G : zG) (ad : Nat → Nat) (X : Nat → Nat → Int) (u : Nat) (hV : zV X) (hCs : zCs X) (hu : u < 256) (hsub : u &&& zDec X 0 = u) (hti : zTi X X 1) : zR l G yX5_find wsX5_find { frames := 4, cells := 0, slots := 0, locals := 106 } (zpic G ad X) [.ref (ad 61), .int (zi 1), .int (zi (u : Int))] (zu G ad (fun w Y => zFd 1 X u w Y)) 0 0 := by
  refine zR_of (cc := cX5_find) (maxL := 9) (rt := (some .int)) (by decide) rfl (Nat.le_of_ble_eq_true rfl) ?_
  intro p e s m below meth c A ls hx hb hml hr hts hown hlocks hin0 hA hE hP hD hS hl
  have hl : lv_has ls 9 [(0, .ref (ad 61)), (1, .int (zi 1)), (2, .int (zi (u : Int)))] := hl
  have hown : s.vm.findClass RX5 = some m.cls := hown
  have hw5 : ∀ w ∈ u_ws RX5 TX5 7, w ∈ wsX5_find := by decide +kernel
  have hf21 := hts (.fieldLink RX5 21 "Nettle$Tree" "wall" "LNettle$Wall;") (by decide +kernel)
  have hf9 := hts (.fieldLink RX5 9 "Nettle$Tree" "numbers" "[I") (by decide +kernel)
  have hf33 := hts (.fieldLink RX5 33 "Nettle$Tree" "count" "I") (by decide +kernel)
  have hf15 := hts (.fieldLink RX5 15 "Nettle$Tree" "codes" "[I") (by decide +kernel)
  have hf25 := hts (.fieldLink RX5 25 "Nettle$Tree" "cuts" "LNettle$Cuts;") (by decide +kernel)
  have hw1 : ∀ w ∈ u_ws RX1 TX1 6, w ∈ wsX5_find := by decide +kernel
  have hf58 := hts (.fieldLink RX5 58 "Nettle$Cuts" "counts" "[I") (by decide +kernel)
  have hf18 := hts (.fieldLink RX5 18 "Nettle$Tree" "sums" "[I") (by decide +kernel)
  refine lv_iload_n hx hb dX5_find_0 rfl (lv_at hl 1 rfl) ?_
  refine lv_iconst (v := zi 4) hx hb dX5_find_1 rfl ?_
  refine zc_ge (tgt := 17) hx hb dX5_find_2 (by decide) (by decide) (by decide) (fun h9 => absurd h9 (by decide)) (fun h2 => ?_)
  refine lv_aload_n hx hb dX5_find_5 rfl (lv_at hl 0 rfl) ?_
  refine va_get (D := G.1) (ci := 5) (v := .ref (ad 0)) (C := RX5) (T := TX5) (N := 7) hx hb hts hw5 hown hE.1 hP 61 p_61 rfl 0 (by decide) hf21 (fun _ h9 => h9) rfl dX5_find_6 ?_
  refine lv_iload_n hx hb dX5_find_9 rfl (lv_at hl 1 rfl) ?_
  refine lv_iload_n hx hb dX5_find_10 rfl (lv_at hl 2 rfl) ?_
  refine zcall (wr := []) (va_runV (As := [.int (zi 1), .int (zi (u : Int))]) (rest := []) ⟨hx, hb, hml, hown, hts⟩ (c_X6_isSettled l G ad X 0 1 u hV (Or.inl rfl) (by omega) (by omega) s.heap.size) (cwV 2 hts gX5_find_X6_isSettled rfl rfl rfl (by decide +kernel) ⟨Nat.le_of_ble_eq_true rfl, Nat.le_of_ble_eq_true rfl⟩) (zPreV (wr := []) (wc := zpic G ad X) (q0 := 0) (ci := 6) (q := (RX6, TX6, 3)) hP hD hE hS hA rfl (p_w (Or.inl rfl))) rfl rfl hl.1 rfl (lv_room (Nat.le_of_ble_eq_true rfl)) dX5_find_11 ⟨Nat.le_of_ble_eq_true rfl, Nat.le_of_ble_eq_true rfl⟩) hP hD hS hA (fun _ _ H locs hf hP hD hS => ?_)
  obtain ⟨v1, rfl, hv1, rfl⟩ := hf
  have hP : va_P G.1 vwCl (zpic G ad X) H := hP
  have hD : va_D A (zpic G ad X) := hD
  refine W.eq (g2 := F0 m 14 ls [.int (zi v1)]) rfl ?_
  refine z0_eq (tgt := 29) hx hb dX5_find_14 (by decide) (by omega) (fun h14 => ?_) (fun h14 => ?_)
  · have hnl : ¬ zLf X 1 u := fun q => by rcases hv1 with h | h; omega; rcases q with q | q; omega; exact h.2 q
    have hc2 := hti.2.1 (1 * 256 + u) (by omega)
    have hcnt := hti.cnt
    refine lv_iload_n hx hb dX5_find_29 rfl (lv_at hl 1 rfl) ?_
    refine lv_sipush (v := zi 256) hx hb dX5_find_30 (by decide +kernel) ?_
    refine lv_imul hx hb dX5_find_33 (zti (v := zi 256) (zi_mul _ _) ?_)
    refine lv_iload_n hx hb dX5_find_34 rfl (lv_at hl 2 rfl) ?_
    refine lv_iadd hx hb dX5_find_35 (zti (v := zi (256 + (u : Int))) (zi_add _ _) ?_)
    refine lv_istore_n (lv' := [(3, .int (zi (256 + (u : Int)))), (0, .ref (ad 61)), (1, .int (zi 1)), (2, .int (zi (u : Int)))]) hx hb dX5_find_36 rfl hl (by decide) rfl (fun ls hl => ?_)
    refine lv_aload_n hx hb dX5_find_37 rfl (lv_at hl 1 rfl) ?_
    refine va_get (D := G.1) (ci := 5) (v := .ref (ad 62)) (C := RX5) (T := TX5) (N := 7) hx hb hts hw5 hown hE.1 hP 61 p_61 rfl 2 (by decide) hf9 (fun _ h9 => h9) rfl dX5_find_38 ?_
    refine lv_iload_n hx hb dX5_find_41 rfl (lv_at hl 0 rfl) ?_
    refine zild hx hb hE hP 62 1024 (fun _ => rfl) (by decide) (1 * 256 + u) (by omega) (by omega) (by decide) dX5_find_42 ?_
    refine z0_lt (tgt := 53) hx hb dX5_find_43 (by decide) (by omega) (fun h43 => ?_) (fun h43 => ?_)
    · obtain ⟨n, hn5⟩ : ∃ n : Nat, X 61 5 = (n : Int) := ⟨(X 61 5).toNat, by omega⟩
      have hroom := hti.room (c := 1 * 256 + u) (by omega) (by omega)
      refine lv_aload_n hx hb dX5_find_53 rfl (lv_at hl 1 rfl) ?_
      refine va_get (D := G.1) (ci := 5) (v := .int (zi (X 61 5))) (C := RX5) (T := TX5) (N := 7) hx hb hts hw5 hown hE.1 hP 61 p_61 rfl 5 (by decide) hf33 (fun _ h9 => h9) rfl dX5_find_54 ?_
      refine zti (v := zi (n : Int)) (congrArg zi hn5) ?_
      refine lv_istore (lv' := [(4, .int (zi (n : Int))), (3, .int (zi (256 + (u : Int)))), (0, .ref (ad 61)), (1, .int (zi 1)), (2, .int (zi (u : Int)))]) hx hb dX5_find_57 hl (by decide) rfl (fun ls hl => ?_)
      refine lv_aload_n hx hb dX5_find_59 rfl (lv_at hl 2 rfl) ?_
      refine lv_dup hx hb dX5_find_60 rfl ?_
      refine va_get (D := G.1) (ci := 5) (v := .int (zi (X 61 5))) (C := RX5) (T := TX5) (N := 7) hx hb hts hw5 hown hE.1 hP 61 p_61 rfl 5 (by decide) hf33 (fun _ h9 => h9) rfl dX5_find_61 ?_
      refine lv_iconst (v := zi 1) hx hb dX5_find_64 rfl ?_
      refine lv_iadd hx hb dX5_find_65 (zti (v := zi ((X 61 5) + 1)) (zi_add _ _) ?_)
      refine zput (C := RX5) (T := TX5) (N := 7) (ci := 5) (v := .int (zi ((X 61 5) + 1))) (ty := tyX5 5) hx hb hts hw5 tyX5 tyX5_ok nmX5 hown hE hP hD hS 61 p_61 rfl 5 (by decide) hf33 (fun _ h9 => h9) rfl (by decide +kernel) rfl rfl (Nat.le_of_ble_eq_true rfl) (s_615 ((X 61 5) + 1)) dX5_find_66 (fun H locs hP hD hS => ?_)
      refine lv_aload_n hx hb dX5_find_69 rfl (lv_at hl 2 rfl) ?_
      refine va_get (D := G.1) (ci := 5) (v := .ref (ad 62)) (C := RX5) (T := TX5) (N := 7) hx hb hts hw5 hown hE.1 hP 61 p_61 rfl 2 (by decide) hf9 (fun _ h9 => h9) rfl dX5_find_70 ?_
      refine lv_iload_n hx hb dX5_find_73 rfl (lv_at hl 1 rfl) ?_
      refine lv_iload hx hb dX5_find_74 (lv_at hl 0 rfl) ?_
      refine zist hx hb hE hP hD hS 62 1024 (fun _ => rfl) (by decide) (1 * 256 + u) (by omega) (by omega) (by decide) dX5_find_76 (fun H locs hP hD hS => ?_)
      refine lv_aload_n hx hb dX5_find_77 rfl (lv_at hl 2 rfl) ?_
      refine va_get (D := G.1) (ci := 5) (v := .ref (ad 63)) (C := RX5) (T := TX5) (N := 7) hx hb hts hw5 hown hE.1 hP 61 p_61 rfl 3 (by decide) hf15 (fun _ h9 => h9) rfl dX5_find_78 ?_
      refine lv_iload hx hb dX5_find_81 (lv_at hl 0 rfl) ?_
      refine lv_iload_n hx hb dX5_find_83 rfl (lv_at hl 1 rfl) ?_
      refine zist hx hb hE hP hD hS 63 1024 (fun _ => rfl) (by decide) n rfl (by omega) (by decide) dX5_find_84 (fun H locs hP hD hS => ?_)
      generalize eX1 : (zw (zw (zw X 61 5 ((X 61 5) + 1)) 62 (1 * 256 + u) (n : Int)) 63 n (256 + (u : Int))) = X1 at hP hD
      have hfn := zFd_new (g := 1) (by omega) hu hti hn5 (by omega) hnl hsub (by omega) eX1
      refine va_getsN hx hb hE.2.2.1.1 hS hown (va_Nw.use rfl hE.2.2.2.1.2.2.2.2.2.2.2.1) (fun _ h9 => h9) dX5_find_85 ?_
      refine lv_iload_n hx hb dX5_find_88 rfl (lv_at hl 3 rfl) ?_
      refine zam_ld hx hb hE hS 1 rfl (by decide) dX5_find_89 ?_
      refine zti (v := zi 1048576) rfl ?_
      refine lv_istore (lv' := [(5, .int (zi 1048576)), (4, .int (zi (n : Int))), (3, .int (zi (256 + (u : Int)))), (0, .ref (ad 61)), (1, .int (zi 1)), (2, .int (zi (u : Int)))]) hx hb dX5_find_90 hl (by decide) rfl (fun ls hl => ?_)
      refine lv_iconst (v := zi 0) hx hb dX5_find_92 rfl ?_
      refine lv_istore (lv' := [(6, .int (zi 0)), (5, .int (zi 1048576)), (4, .int (zi (n : Int))), (3, .int (zi (256 + (u : Int)))), (0, .ref (ad 61)), (1, .int (zi 1)), (2, .int (zi (u : Int)))]) hx hb dX5_find_93 hl (by decide) rfl (fun ls hl => ?_)
      refine zloop3 (fun (j : Nat) (Y : Nat → Nat → Int) (sum : Int) => 33 - j) (fun (j : Nat) (Y : Nat → Nat → Int) (sum : Int) (H : Heap) (locs : List Loc) (ls : Array Slot) => va_P G.1 vwCl (zpic G ad Y) H ∧ va_D A (zpic G ad Y) ∧ va_S A s.heap H locs ∧ lv_has ls 9 [(6, .int (zi (j : Int))), (5, .int (zi sum)), (4, .int (zi (n : Int))), (2, .int (zi (u : Int))), (1, .int (zi 1)), (0, .ref (ad 61))] ∧ (j ≤ zCn X 1) ∧ (zTi X Y (1 + 1)) ∧ (zTx X1 Y) ∧ (∀ k : Nat, (n : Int) + 1 ≤ (k : Int) → (k : Int) < Y 61 5 → (((1 : Nat) : Int) + 1) * 256 ≤ Y 63 k) ∧ (∀ i : Nat, i < j → zCh X Y (1 + 1) (u &&& zMa X 1 i)) ∧ (1048576 ≤ sum ∧ sum ≤ 1048576 + zS0 X 1 j * 8192)) ?_ 0 X1 1048576 ⟨hP, hD, hS, lv_sub hl [0, 1, 2, 6, 5, 4] rfl, (by omega), hfn.1, (zTx.rf X1), (fun k h1 h2 => by have e5 := hfn.2.2.1; omega), (fun i h1 => by omega), (by rw [hCs.s0 (by omega)]; omega)⟩
      intro j Y sum ih H locs ls ⟨hP, hD, hS, hl, hj, hT, hxt, hnew, hcl, hsm⟩
      have hwY : zWc X Y := hfn.2.1.wc.trans hxt.wc
      have hVY : zV Y := hwY.1.v hV
      have hCY : zCs Y := hwY.cs hV hCs
      have hcn := hCs.n (show 1 < 4 by omega)
      have hcnY : zCn Y 1 = zCn X 1 := hwY.cn 1
      have hcY := hCY.n (show 1 < 4 by omega)
      have hau : u &&& zMa X 1 j ≤ u := Nat.and_le_left
      refine lv_iload hx hb dX5_find_95 (lv_at hl 0 rfl) ?_
      refine lv_aload_n hx hb dX5_find_97 rfl (lv_at hl 5 rfl) ?_
      refine va_get (D := G.1) (ci := 5) (v := .ref (ad 57)) (C := RX5) (T := TX5) (N := 7) hx hb hts hw5 hown hE.1 hP 61 p_61 rfl 1 (by decide) hf25 (fun _ h9 => h9) rfl dX5_find_98 ?_
      refine va_get (D := G.1) (ci := 1) (v := .ref (ad 58)) (C := RX1) (T := TX1) (N := 6) hx hb hts hw1 hown hE.1 hP 57 p_57 rfl 2 (by decide) hf58 (fun _ h9 => h9) rfl dX5_find_101 ?_
      refine lv_iload_n hx hb dX5_find_104 rfl (lv_at hl 4 rfl) ?_
      refine zild hx hb hE hP 58 4 (fun _ => rfl) (by decide) 1 rfl (by decide) (by decide) dX5_find_105 ?_
      refine zc_ge (tgt := 181) hx hb dX5_find_106 (by decide) (by omega) (by omega) (fun h106 => ?_) (fun h106 => ?_)
      · refine lv_aload_n hx hb dX5_find_181 rfl (lv_at hl 5 rfl) ?_
        refine va_get (D := G.1) (ci := 5) (v := .ref (ad 64)) (C := RX5) (T := TX5) (N := 7) hx hb hts hw5 hown hE.1 hP 61 p_61 rfl 4 (by decide) hf18 (fun _ h9 => h9) rfl dX5_find_182 ?_
        refine lv_iload hx hb dX5_find_185 (lv_at hl 2 rfl) ?_
        refine lv_iload hx hb dX5_find_187 (lv_at hl 1 rfl) ?_
        refine zist hx hb hE hP hD hS 64 1024 (fun _ => rfl) (by decide) n rfl (by omega) (by decide) dX5_find_189 (fun H locs hP hD hS => ?_)
        refine lv_iload hx hb dX5_find_190 (lv_at hl 2 rfl) ?_
        exact zend_i hx hb hr hlocks hP hD hS (Nat.le_of_ble_eq_true rfl) (Nat.le_of_ble_eq_true rfl) dX5_find_192 ⟨_, _, rfl, (by have hjn : j = zCn X 1 := (by omega); rw [hjn] at hcl hsm; rw [zCs.sn] at hsm; exact zFd_end (g := 1) (by omega) hu hti hn5 (by omega) hnl hfn.2.1 hfn.2.2.1 hfn.2.2.2.1 hfn.2.2.2.2 hT hxt hnew hcl (by have e1 : zBS 1 = 3145728 := rfl; have e2 : zS 1 = 256 := rfl; rw [e1]; rw [e2] at hsm; omega)), rfl⟩
      · refine lv_aload_n hx hb dX5_find_109 rfl (lv_at hl 5 rfl) ?_
        refine lv_iload_n hx hb dX5_find_110 rfl (lv_at hl 4 rfl) ?_
        refine lv_iconst (v := zi 1) hx hb dX5_find_111 rfl ?_
        refine lv_iadd hx hb dX5_find_112 (zti (v := zi 2) (zi_add _ _) ?_)
        refine lv_iload_n hx hb dX5_find_113 rfl (lv_at hl 3 rfl) ?_
        refine lv_aload_n hx hb dX5_find_114 rfl (lv_at hl 5 rfl) ?_
        refine va_get (D := G.1) (ci := 5) (v := .ref (ad 57)) (C := RX5) (T := TX5) (N := 7) hx hb hts hw5 hown hE.1 hP 61 p_61 rfl 1 (by decide) hf25 (fun _ h9 => h9) rfl dX5_find_115 ?_
        refine lv_iload_n hx hb dX5_find_118 rfl (lv_at hl 4 rfl) ?_
        refine lv_iload hx hb dX5_find_119 (lv_at hl 0 rfl) ?_
        refine zcall (wr := []) (va_runV (As := [.int (zi 1), .int (zi (j : Int))]) (rest := [.int (zi (u : Int)), .int (zi 2), .ref (ad 61)]) ⟨hx, hb, hml, hown, hts⟩ (c_X1_mask l G ad Y 1 j hCY (by omega) (by omega) H.size) (cwV 2 hts gX5_find_X1_mask rfl rfl rfl (by decide +kernel) ⟨Nat.le_of_ble_eq_true rfl, Nat.le_of_ble_eq_true rfl⟩) (zPreV (wr := []) (wc := zpic G ad Y) (q0 := 57) (ci := 1) (q := (RX1, TX1, 6)) hP hD hE hS hA rfl p_57) rfl rfl hl.1 rfl (lv_room (Nat.le_of_ble_eq_true rfl)) dX5_find_121 ⟨Nat.le_of_ble_eq_true rfl, Nat.le_of_ble_eq_true rfl⟩) hP hD hS hA (fun _ _ H locs hf hP hD hS => ?_)
        obtain ⟨v2, rfl, hv2, rfl⟩ := hf
        have hP : va_P G.1 vwCl (zpic G ad Y) H := hP
        have hD : va_D A (zpic G ad Y) := hD
        refine W.eq (g2 := F0 m 124 ls [.int (zi v2), .int (zi (u : Int)), .int (zi 2), .ref (ad 61)]) rfl ?_
        have hsg := hCs.seg (f := 1) (j := j) (by omega) (by omega)
        rw [hwY.ma 1 j] at hv2
        rw [hv2]
        refine lv_iand hx hb dX5_find_124 (zti (v := zi ((u &&& zMa X 1 j : Nat) : Int)) (zi_and _ _) ?_)
        refine zcall (wr := []) (va_runS (As := [.ref (ad 61), .int (zi 2), .int (zi ((u &&& zMa X 1 j : Nat) : Int))]) (rest := []) ⟨hx, hb, hml, hown, hts⟩ (c_find2 l G ad Y (u &&& zMa X 1 j : Nat) hVY hCY (by omega) (by rw [hwY.1.dec hV (Or.inl rfl : zIsW 0)]; exact zand_sub hsub) ((hwY.ti hV).mpr hT) H.size) (va_cwS 3 hts gX5_find_X5_find rfl rfl rfl (by decide +kernel) ⟨Nat.le_of_ble_eq_true rfl, Nat.le_of_ble_eq_true rfl⟩) (zPre (wr := []) (wc := zpic G ad Y) (As := [.ref (ad 61), .int (zi 2), .int (zi ((u &&& zMa X 1 j : Nat) : Int))]) hP hD hE hS hA).1 rfl rfl hl.1 rfl (lv_room (Nat.le_of_ble_eq_true rfl)) dX5_find_125 ⟨Nat.le_of_ble_eq_true rfl, Nat.le_of_ble_eq_true rfl⟩) hP hD hS hA (fun _ _ H locs hf hP hD hS => ?_)
        obtain ⟨v3, X2, rfl, hv3, rfl⟩ := hf
        have hP : va_P G.1 vwCl (zpic G ad X2) H := hP
        have hD : va_D A (zpic G ad X2) := hD
        refine W.eq (g2 := F0 m 128 ls [.int (zi v3)]) rfl ?_
        have hx2 := hv3.2.1
        have hT2 : zTi X X2 (1 + 1) := (hwY.ti hV).mp hv3.1
        have hxx : zTx X1 X2 := hxt.trans hx2
        have hwc2 : zWc X X2 := hwY.trans hx2.wc
        have hV2 : zV X2 := hwc2.1.v hV
        have hC2 : zCs X2 := hwc2.cs hV hCs
        have hcn2 : zCn X2 1 = zCn X 1 := hwc2.cn 1
        have hch2 : zCh X X2 (1 + 1) (u &&& zMa X 1 j) := (hwY.ch hV).mp hv3.ch
        have hcnt2 := hT2.cnt
        have hnew2 : ∀ k : Nat, (n : Int) + 1 ≤ (k : Int) → (k : Int) < X2 61 5 → (((1 : Nat) : Int) + 1) * 256 ≤ X2 63 k := fun k h1 h2 => by by_cases e9 : (k : Int) < Y 61 5; (rw [(hx2.2.2.1 k e9).1]; exact hnew k h1 e9); exact hv3.2.2.1 k (by omega) h2
        have hvb : -10 < v3 ∧ v3 < 1024 := by rcases hv3.2.2.2 with q | q; (have q1 := q.2.2; omega); (have q1 := q.2; omega)
        refine lv_istore (lv' := [(7, .int (zi v3)), (6, .int (zi (j : Int))), (5, .int (zi sum)), (4, .int (zi (n : Int))), (2, .int (zi (u : Int))), (1, .int (zi 1)), (0, .ref (ad 61))]) hx hb dX5_find_128 hl (by decide) rfl (fun ls hl => ?_)
        refine lv_iload hx hb dX5_find_130 (lv_at hl 0 rfl) ?_
        refine z0_lt (tgt := 175) hx hb dX5_find_132 (by decide) (by omega) (fun h132 => ?_) (fun h132 => ?_)
        · refine lv_iinc (v := zi ((j : Int) + 1)) (lv' := [(6, .int (zi ((j : Int) + 1))), (7, .int (zi v3)), (5, .int (zi sum)), (4, .int (zi (n : Int))), (2, .int (zi (u : Int))), (1, .int (zi 1)), (0, .ref (ad 61))]) hx hb dX5_find_175 hl (k := 1) rfl (zi_add _ _) (by decide) rfl (fun ls hl => ?_)
          refine lv_goto (tgt := 95) hx hb dX5_find_178 (by decide) ?_
          exact ih (j + 1) X2 sum (by omega) H locs ls ⟨hP, hD, hS, lv_sub hl [0, 2, 3, 4, 5, 6] rfl, (by omega), hT2, hxx, hnew2, (fun i h1 => by by_cases e9 : i = j; (rw [e9]; exact hch2); exact (hcl i (by omega)).ext hx2), (by omega)⟩
        · obtain ⟨kx, hkx⟩ : ∃ kx : Nat, v3 = (kx : Int) := ⟨v3.toNat, by omega⟩
          have hss := hv3.sum (by omega) (by omega) (by omega)
          rw [hkx, Int.toNat_natCast] at hss
          have hbs : zBS (1 + 1) = 8192 := rfl
          rw [hbs] at hss
          refine lv_aload_n hx hb dX5_find_135 rfl (lv_at hl 6 rfl) ?_
          refine va_get (D := G.1) (ci := 5) (v := .ref (ad 57)) (C := RX5) (T := TX5) (N := 7) hx hb hts hw5 hown hE.1 hP 61 p_61 rfl 1 (by decide) hf25 (fun _ h9 => h9) rfl dX5_find_136 ?_
          refine lv_iload_n hx hb dX5_find_139 rfl (lv_at hl 5 rfl) ?_
          refine lv_iload hx hb dX5_find_140 (lv_at hl 1 rfl) ?_
          refine lv_iconst (v := zi 1) hx hb dX5_find_142 rfl ?_
          refine lv_iadd hx hb dX5_find_143 (zti (v := zi ((j : Int) + 1)) (zi_add _ _) ?_)
          refine zcall (wr := []) (va_runV (As := [.int (zi 1), .int (zi ((j : Int) + 1))]) (rest := []) ⟨hx, hb, hml, hown, hts⟩ (c_X1_start l G ad X2 1 (j + 1) hC2 (by omega) (by omega) H.size) (cwV 2 hts gX5_find_X1_start rfl rfl rfl (by decide +kernel) ⟨Nat.le_of_ble_eq_true rfl, Nat.le_of_ble_eq_true rfl⟩) (zPreV (wr := []) (wc := zpic G ad X2) (q0 := 57) (ci := 1) (q := (RX1, TX1, 6)) hP hD hE hS hA rfl p_57) rfl rfl hl.1 rfl (lv_room (Nat.le_of_ble_eq_true rfl)) dX5_find_144 ⟨Nat.le_of_ble_eq_true rfl, Nat.le_of_ble_eq_true rfl⟩) hP hD hS hA (fun _ _ H locs hf hP hD hS => ?_)
          obtain ⟨v4, rfl, hv4, rfl⟩ := hf
          have hP : va_P G.1 vwCl (zpic G ad X2) H := hP
          have hD : va_D A (zpic G ad X2) := hD
          refine W.eq (g2 := F0 m 147 ls [.int (zi v4)]) rfl ?_
          refine lv_aload_n hx hb dX5_find_147 rfl (lv_at hl 6 rfl) ?_
          refine va_get (D := G.1) (ci := 5) (v := .ref (ad 57)) (C := RX5) (T := TX5) (N := 7) hx hb hts hw5 hown hE.1 hP 61 p_61 rfl 1 (by decide) hf25 (fun _ h9 => h9) rfl dX5_find_148 ?_
          refine lv_iload_n hx hb dX5_find_151 rfl (lv_at hl 5 rfl) ?_
          refine lv_iload hx hb dX5_find_152 (lv_at hl 1 rfl) ?_
          refine zcall (wr := []) (va_runV (As := [.int (zi 1), .int (zi (j : Int))]) (rest := [.int (zi v4)]) ⟨hx, hb, hml, hown, hts⟩ (c_X1_start l G ad X2 1 j hC2 (by omega) (by omega) H.size) (cwV 2 hts gX5_find_X1_start rfl rfl rfl (by decide +kernel) ⟨Nat.le_of_ble_eq_true rfl, Nat.le_of_ble_eq_true rfl⟩) (zPreV (wr := []) (wc := zpic G ad X2) (q0 := 57) (ci := 1) (q := (RX1, TX1, 6)) hP hD hE hS hA rfl p_57) rfl rfl hl.1 rfl (lv_room (Nat.le_of_ble_eq_true rfl)) dX5_find_154 ⟨Nat.le_of_ble_eq_true rfl, Nat.le_of_ble_eq_true rfl⟩) hP hD hS hA (fun _ _ H locs hf hP hD hS => ?_)
          obtain ⟨v5, rfl, hv5, rfl⟩ := hf
          have hP : va_P G.1 vwCl (zpic G ad X2) H := hP
          have hD : va_D A (zpic G ad X2) := hD
          refine W.eq (g2 := F0 m 157 ls [.int (zi v5), .int (zi v4)]) rfl ?_
          refine lv_isub hx hb dX5_find_157 (zti (v := zi (v4 - v5)) (zi_sub _ _) ?_)
          refine lv_istore (lv' := [(8, .int (zi (v4 - v5))), (7, .int (zi v3)), (6, .int (zi (j : Int))), (5, .int (zi sum)), (4, .int (zi (n : Int))), (2, .int (zi (u : Int))), (1, .int (zi 1)), (0, .ref (ad 61))]) hx hb dX5_find_158 hl (by decide) rfl (fun ls hl => ?_)
          refine lv_iload hx hb dX5_find_160 (lv_at hl 3 rfl) ?_
          refine lv_iload hx hb dX5_find_162 (lv_at hl 0 rfl) ?_
          refine lv_aload_n hx hb dX5_find_164 rfl (lv_at hl 7 rfl) ?_
          refine va_get (D := G.1) (ci := 5) (v := .ref (ad 64)) (C := RX5) (T := TX5) (N := 7) hx hb hts hw5 hown hE.1 hP 61 p_61 rfl 4 (by decide) hf18 (fun _ h9 => h9) rfl dX5_find_165 ?_
          refine lv_iload hx hb dX5_find_168 (lv_at hl 1 rfl) ?_
          refine zild hx hb hE hP 64 1024 (fun _ => rfl) (by decide) kx hkx (by omega) (by decide) dX5_find_170 ?_
          refine lv_imul hx hb dX5_find_171 (zti (v := zi ((v4 - v5) * (X2 64 kx))) (zi_mul _ _) ?_)
          refine lv_iadd hx hb dX5_find_172 (zti (v := zi (sum + ((v4 - v5) * (X2 64 kx)))) (zi_add _ _) ?_)
          have e3 : v4 = zS0 X 1 (j + 1) := by rw [hv4, hwc2.s0]
          have e4 : v5 = zS0 X 1 j := by rw [hv5, hwc2.s0]
          have hm0 := Int.mul_nonneg (show 0 ≤ v4 - v5 by omega) hss.1
          have hm1 := Int.mul_le_mul_of_nonneg_left hss.2 (show 0 ≤ v4 - v5 by omega)
          refine lv_istore (lv' := [(5, .int (zi (sum + ((v4 - v5) * (X2 64 kx))))), (8, .int (zi (v4 - v5))), (7, .int (zi v3)), (6, .int (zi (j : Int))), (4, .int (zi (n : Int))), (2, .int (zi (u : Int))), (1, .int (zi 1)), (0, .ref (ad 61))]) hx hb dX5_find_173 hl (by decide) rfl (fun ls hl => ?_)
          refine lv_iinc (v := zi ((j : Int) + 1)) (lv' := [(6, .int (zi ((j : Int) + 1))), (5, .int (zi (sum + ((v4 - v5) * (X2 64 kx))))), (8, .int (zi (v4 - v5))), (7, .int (zi v3)), (4, .int (zi (n : Int))), (2, .int (zi (u : Int))), (1, .int (zi 1)), (0, .ref (ad 61))]) hx hb dX5_find_175 hl (k := 3) rfl (zi_add _ _) (by decide) rfl (fun ls hl => ?_)
          refine lv_goto (tgt := 95) hx hb dX5_find_178 (by decide) ?_
          exact ih (j + 1) X2 (sum + ((v4 - v5) * (X2 64 kx))) (by omega) H locs ls ⟨hP, hD, hS, lv_sub hl [0, 1, 4, 5, 6, 7] rfl, (by omega), hT2, hxx, hnew2, (fun i h1 => by by_cases e9 : i = j; (rw [e9]; exact hch2); exact (hcl i (by omega)).ext hx2), (by omega)⟩
    · refine lv_aload_n hx hb dX5_find_46 rfl (lv_at hl 1 rfl) ?_
      refine va_get (D := G.1) (ci := 5) (v := .ref (ad 62)) (C := RX5) (T := TX5) (N := 7) hx hb hts hw5 hown hE.1 hP 61 p_61 rfl 2 (by decide) hf9 (fun _ h9 => h9) rfl dX5_find_47 ?_
      refine lv_iload_n hx hb dX5_find_50 rfl (lv_at hl 0 rfl) ?_
      refine zild hx hb hE hP 62 1024 (fun _ => rfl) (by decide) (1 * 256 + u) (by omega) (by omega) (by decide) dX5_find_51 ?_
      exact zend_i hx hb hr hlocks hP hD hS (Nat.le_of_ble_eq_true rfl) (Nat.le_of_ble_eq_true rfl) dX5_find_52 ⟨_, _, rfl, ⟨hti, zTx.rf X, fun k h1 h2 => by omega, Or.inr ⟨hnl, by omega, by omega, rfl, Or.inl ⟨by omega, rfl⟩⟩⟩, rfl⟩
  · refine lv_bipush (v := zi (-2)) hx hb dX5_find_17 (by decide +kernel) ?_
    refine lv_aload_n hx hb dX5_find_19 rfl (lv_at hl 0 rfl) ?_
    refine va_get (D := G.1) (ci := 5) (v := .ref (ad 0)) (C := RX5) (T := TX5) (N := 7) hx hb hts hw5 hown hE.1 hP 61 p_61 rfl 0 (by decide) hf21 (fun _ h9 => h9) rfl dX5_find_20 ?_
    refine lv_iload_n hx hb dX5_find_23 rfl (lv_at hl 2 rfl) ?_
    refine zcall (wr := []) (va_runV (As := [.int (zi (u : Int))]) (rest := [.int (zi (-2))]) ⟨hx, hb, hml, hown, hts⟩ (c_X6_firstOf l G ad X 0 u hV (Or.inl rfl) (by omega) H.size) (cwV 1 hts gX5_find_X6_firstOf rfl rfl rfl (by decide +kernel) ⟨Nat.le_of_ble_eq_true rfl, Nat.le_of_ble_eq_true rfl⟩) (zPreV (wr := []) (wc := zpic G ad X) (q0 := 0) (ci := 6) (q := (RX6, TX6, 3)) hP hD hE hS hA rfl (p_w (Or.inl rfl))) rfl rfl hl.1 rfl (lv_room (Nat.le_of_ble_eq_true rfl)) dX5_find_24 ⟨Nat.le_of_ble_eq_true rfl, Nat.le_of_ble_eq_true rfl⟩) hP hD hS hA (fun _ _ H locs hf hP hD hS => ?_)
    obtain ⟨v2, rfl, hv2, rfl⟩ := hf
    have hP : va_P G.1 vwCl (zpic G ad X) H := hP
    have hD : va_D A (zpic G ad X) := hD
    refine W.eq (g2 := F0 m 27 ls [.int (zi v2), .int (zi (-2))]) rfl ?_
    refine lv_isub hx hb dX5_find_27 (zti (v := zi ((-2) - v2)) (zi_sub _ _) ?_)
    exact zend_i hx hb hr hlocks hP hD hS (Nat.le_of_ble_eq_true rfl) (Nat.le_of_ble_eq_true rfl) dX5_find_28 ⟨_, _, rfl, (zFd_leaf hti (Or.inr (by rcases hv1 with h | h; exact h.2; omega)) hv2), rfl⟩

set_option maxHeartbeats 4000000 in
set_option maxRecDepth 100000 in
/-- find at the FIELD 0 -/
theorem c_find0 (l : Launch) (G : zG) (ad : Nat → Nat) (X : Nat → Nat → Int) (u : Nat) (hV : zV X) (hCs : zCs X) (hu : u < 256) (hsub : u &&& zDec X 0 = u) (hti : zTi X X 0) : zR l G yX5_find wsX5_find { frames := 5, cells := 0, slots := 0, locals := 134 } (zpic G ad X) [.ref (ad 61), .int (zi 0), .int (zi (u : Int))] (zu G ad (fun w Y => zFd 0 X u w Y)) 0 0 := by
  refine zR_of (cc := cX5_find) (maxL := 9) (rt := (some .int)) (by decide) rfl (Nat.le_of_ble_eq_true rfl) ?_
  intro p e s m below meth c A ls hx hb hml hr hts hown hlocks hin0 hA hE hP hD hS hl
  have hl : lv_has ls 9 [(0, .ref (ad 61)), (1, .int (zi 0)), (2, .int (zi (u : Int)))] := hl
  have hown : s.vm.findClass RX5 = some m.cls := hown
  have hw5 : ∀ w ∈ u_ws RX5 TX5 7, w ∈ wsX5_find := by decide +kernel
  have hf21 := hts (.fieldLink RX5 21 "Nettle$Tree" "wall" "LNettle$Wall;") (by decide +kernel)
  have hf9 := hts (.fieldLink RX5 9 "Nettle$Tree" "numbers" "[I") (by decide +kernel)
  have hf33 := hts (.fieldLink RX5 33 "Nettle$Tree" "count" "I") (by decide +kernel)
  have hf15 := hts (.fieldLink RX5 15 "Nettle$Tree" "codes" "[I") (by decide +kernel)
  have hf25 := hts (.fieldLink RX5 25 "Nettle$Tree" "cuts" "LNettle$Cuts;") (by decide +kernel)
  have hw1 : ∀ w ∈ u_ws RX1 TX1 6, w ∈ wsX5_find := by decide +kernel
  have hf58 := hts (.fieldLink RX5 58 "Nettle$Cuts" "counts" "[I") (by decide +kernel)
  have hf18 := hts (.fieldLink RX5 18 "Nettle$Tree" "sums" "[I") (by decide +kernel)
  refine lv_iload_n hx hb dX5_find_0 rfl (lv_at hl 1 rfl) ?_
  refine lv_iconst (v := zi 4) hx hb dX5_find_1 rfl ?_
  refine zc_ge (tgt := 17) hx hb dX5_find_2 (by decide) (by decide) (by decide) (fun h9 => absurd h9 (by decide)) (fun h2 => ?_)
  refine lv_aload_n hx hb dX5_find_5 rfl (lv_at hl 0 rfl) ?_
  refine va_get (D := G.1) (ci := 5) (v := .ref (ad 0)) (C := RX5) (T := TX5) (N := 7) hx hb hts hw5 hown hE.1 hP 61 p_61 rfl 0 (by decide) hf21 (fun _ h9 => h9) rfl dX5_find_6 ?_
  refine lv_iload_n hx hb dX5_find_9 rfl (lv_at hl 1 rfl) ?_
  refine lv_iload_n hx hb dX5_find_10 rfl (lv_at hl 2 rfl) ?_
  refine zcall (wr := []) (va_runV (As := [.int (zi 0), .int (zi (u : Int))]) (rest := []) ⟨hx, hb, hml, hown, hts⟩ (c_X6_isSettled l G ad X 0 0 u hV (Or.inl rfl) (by omega) (by omega) s.heap.size) (cwV 2 hts gX5_find_X6_isSettled rfl rfl rfl (by decide +kernel) ⟨Nat.le_of_ble_eq_true rfl, Nat.le_of_ble_eq_true rfl⟩) (zPreV (wr := []) (wc := zpic G ad X) (q0 := 0) (ci := 6) (q := (RX6, TX6, 3)) hP hD hE hS hA rfl (p_w (Or.inl rfl))) rfl rfl hl.1 rfl (lv_room (Nat.le_of_ble_eq_true rfl)) dX5_find_11 ⟨Nat.le_of_ble_eq_true rfl, Nat.le_of_ble_eq_true rfl⟩) hP hD hS hA (fun _ _ H locs hf hP hD hS => ?_)
  obtain ⟨v1, rfl, hv1, rfl⟩ := hf
  have hP : va_P G.1 vwCl (zpic G ad X) H := hP
  have hD : va_D A (zpic G ad X) := hD
  refine W.eq (g2 := F0 m 14 ls [.int (zi v1)]) rfl ?_
  refine z0_eq (tgt := 29) hx hb dX5_find_14 (by decide) (by omega) (fun h14 => ?_) (fun h14 => ?_)
  · have hnl : ¬ zLf X 0 u := fun q => by rcases hv1 with h | h; omega; rcases q with q | q; omega; exact h.2 q
    have hc2 := hti.2.1 (0 * 256 + u) (by omega)
    have hcnt := hti.cnt
    refine lv_iload_n hx hb dX5_find_29 rfl (lv_at hl 1 rfl) ?_
    refine lv_sipush (v := zi 256) hx hb dX5_find_30 (by decide +kernel) ?_
    refine lv_imul hx hb dX5_find_33 (zti (v := zi 0) (zi_mul _ _) ?_)
    refine lv_iload_n hx hb dX5_find_34 rfl (lv_at hl 2 rfl) ?_
    refine lv_iadd hx hb dX5_find_35 (zti (v := zi (0 + (u : Int))) (zi_add _ _) ?_)
    refine lv_istore_n (lv' := [(3, .int (zi (0 + (u : Int)))), (0, .ref (ad 61)), (1, .int (zi 0)), (2, .int (zi (u : Int)))]) hx hb dX5_find_36 rfl hl (by decide) rfl (fun ls hl => ?_)
    refine lv_aload_n hx hb dX5_find_37 rfl (lv_at hl 1 rfl) ?_
    refine va_get (D := G.1) (ci := 5) (v := .ref (ad 62)) (C := RX5) (T := TX5) (N := 7) hx hb hts hw5 hown hE.1 hP 61 p_61 rfl 2 (by decide) hf9 (fun _ h9 => h9) rfl dX5_find_38 ?_
    refine lv_iload_n hx hb dX5_find_41 rfl (lv_at hl 0 rfl) ?_
    refine zild hx hb hE hP 62 1024 (fun _ => rfl) (by decide) (0 * 256 + u) (by omega) (by omega) (by decide) dX5_find_42 ?_
    refine z0_lt (tgt := 53) hx hb dX5_find_43 (by decide) (by omega) (fun h43 => ?_) (fun h43 => ?_)
    · obtain ⟨n, hn5⟩ : ∃ n : Nat, X 61 5 = (n : Int) := ⟨(X 61 5).toNat, by omega⟩
      have hroom := hti.room (c := 0 * 256 + u) (by omega) (by omega)
      refine lv_aload_n hx hb dX5_find_53 rfl (lv_at hl 1 rfl) ?_
      refine va_get (D := G.1) (ci := 5) (v := .int (zi (X 61 5))) (C := RX5) (T := TX5) (N := 7) hx hb hts hw5 hown hE.1 hP 61 p_61 rfl 5 (by decide) hf33 (fun _ h9 => h9) rfl dX5_find_54 ?_
      refine zti (v := zi (n : Int)) (congrArg zi hn5) ?_
      refine lv_istore (lv' := [(4, .int (zi (n : Int))), (3, .int (zi (0 + (u : Int)))), (0, .ref (ad 61)), (1, .int (zi 0)), (2, .int (zi (u : Int)))]) hx hb dX5_find_57 hl (by decide) rfl (fun ls hl => ?_)
      refine lv_aload_n hx hb dX5_find_59 rfl (lv_at hl 2 rfl) ?_
      refine lv_dup hx hb dX5_find_60 rfl ?_
      refine va_get (D := G.1) (ci := 5) (v := .int (zi (X 61 5))) (C := RX5) (T := TX5) (N := 7) hx hb hts hw5 hown hE.1 hP 61 p_61 rfl 5 (by decide) hf33 (fun _ h9 => h9) rfl dX5_find_61 ?_
      refine lv_iconst (v := zi 1) hx hb dX5_find_64 rfl ?_
      refine lv_iadd hx hb dX5_find_65 (zti (v := zi ((X 61 5) + 1)) (zi_add _ _) ?_)
      refine zput (C := RX5) (T := TX5) (N := 7) (ci := 5) (v := .int (zi ((X 61 5) + 1))) (ty := tyX5 5) hx hb hts hw5 tyX5 tyX5_ok nmX5 hown hE hP hD hS 61 p_61 rfl 5 (by decide) hf33 (fun _ h9 => h9) rfl (by decide +kernel) rfl rfl (Nat.le_of_ble_eq_true rfl) (s_615 ((X 61 5) + 1)) dX5_find_66 (fun H locs hP hD hS => ?_)
      refine lv_aload_n hx hb dX5_find_69 rfl (lv_at hl 2 rfl) ?_
      refine va_get (D := G.1) (ci := 5) (v := .ref (ad 62)) (C := RX5) (T := TX5) (N := 7) hx hb hts hw5 hown hE.1 hP 61 p_61 rfl 2 (by decide) hf9 (fun _ h9 => h9) rfl dX5_find_70 ?_
      refine lv_iload_n hx hb dX5_find_73 rfl (lv_at hl 1 rfl) ?_
      refine lv_iload hx hb dX5_find_74 (lv_at hl 0 rfl) ?_
      refine zist hx hb hE hP hD hS 62 1024 (fun _ => rfl) (by decide) (0 * 256 + u) (by omega) (by omega) (by decide) dX5_find_76 (fun H locs hP hD hS => ?_)
      refine lv_aload_n hx hb dX5_find_77 rfl (lv_at hl 2 rfl) ?_
      refine va_get (D := G.1) (ci := 5) (v := .ref (ad 63)) (C := RX5) (T := TX5) (N := 7) hx hb hts hw5 hown hE.1 hP 61 p_61 rfl 3 (by decide) hf15 (fun _ h9 => h9) rfl dX5_find_78 ?_
      refine lv_iload hx hb dX5_find_81 (lv_at hl 0 rfl) ?_
      refine lv_iload_n hx hb dX5_find_83 rfl (lv_at hl 1 rfl) ?_
      refine zist hx hb hE hP hD hS 63 1024 (fun _ => rfl) (by decide) n rfl (by omega) (by decide) dX5_find_84 (fun H locs hP hD hS => ?_)
      generalize eX1 : (zw (zw (zw X 61 5 ((X 61 5) + 1)) 62 (0 * 256 + u) (n : Int)) 63 n (0 + (u : Int))) = X1 at hP hD
      have hfn := zFd_new (g := 0) (by omega) hu hti hn5 (by omega) hnl hsub (by omega) eX1
      refine va_getsN hx hb hE.2.2.1.1 hS hown (va_Nw.use rfl hE.2.2.2.1.2.2.2.2.2.2.2.1) (fun _ h9 => h9) dX5_find_85 ?_
      refine lv_iload_n hx hb dX5_find_88 rfl (lv_at hl 3 rfl) ?_
      refine zam_ld hx hb hE hS 0 rfl (by decide) dX5_find_89 ?_
      refine zti (v := zi 268435456) rfl ?_
      refine lv_istore (lv' := [(5, .int (zi 268435456)), (4, .int (zi (n : Int))), (3, .int (zi (0 + (u : Int)))), (0, .ref (ad 61)), (1, .int (zi 0)), (2, .int (zi (u : Int)))]) hx hb dX5_find_90 hl (by decide) rfl (fun ls hl => ?_)
      refine lv_iconst (v := zi 0) hx hb dX5_find_92 rfl ?_
      refine lv_istore (lv' := [(6, .int (zi 0)), (5, .int (zi 268435456)), (4, .int (zi (n : Int))), (3, .int (zi (0 + (u : Int)))), (0, .ref (ad 61)), (1, .int (zi 0)), (2, .int (zi (u : Int)))]) hx hb dX5_find_93 hl (by decide) rfl (fun ls hl => ?_)
      refine zloop3 (fun (j : Nat) (Y : Nat → Nat → Int) (sum : Int) => 33 - j) (fun (j : Nat) (Y : Nat → Nat → Int) (sum : Int) (H : Heap) (locs : List Loc) (ls : Array Slot) => va_P G.1 vwCl (zpic G ad Y) H ∧ va_D A (zpic G ad Y) ∧ va_S A s.heap H locs ∧ lv_has ls 9 [(6, .int (zi (j : Int))), (5, .int (zi sum)), (4, .int (zi (n : Int))), (2, .int (zi (u : Int))), (1, .int (zi 0)), (0, .ref (ad 61))] ∧ (j ≤ zCn X 0) ∧ (zTi X Y (0 + 1)) ∧ (zTx X1 Y) ∧ (∀ k : Nat, (n : Int) + 1 ≤ (k : Int) → (k : Int) < Y 61 5 → (((0 : Nat) : Int) + 1) * 256 ≤ Y 63 k) ∧ (∀ i : Nat, i < j → zCh X Y (0 + 1) (u &&& zMa X 0 i)) ∧ (268435456 ≤ sum ∧ sum ≤ 268435456 + zS0 X 0 j * 3145728)) ?_ 0 X1 268435456 ⟨hP, hD, hS, lv_sub hl [0, 1, 2, 6, 5, 4] rfl, (by omega), hfn.1, (zTx.rf X1), (fun k h1 h2 => by have e5 := hfn.2.2.1; omega), (fun i h1 => by omega), (by rw [hCs.s0 (by omega)]; omega)⟩
      intro j Y sum ih H locs ls ⟨hP, hD, hS, hl, hj, hT, hxt, hnew, hcl, hsm⟩
      have hwY : zWc X Y := hfn.2.1.wc.trans hxt.wc
      have hVY : zV Y := hwY.1.v hV
      have hCY : zCs Y := hwY.cs hV hCs
      have hcn := hCs.n (show 0 < 4 by omega)
      have hcnY : zCn Y 0 = zCn X 0 := hwY.cn 0
      have hcY := hCY.n (show 0 < 4 by omega)
      have hau : u &&& zMa X 0 j ≤ u := Nat.and_le_left
      refine lv_iload hx hb dX5_find_95 (lv_at hl 0 rfl) ?_
      refine lv_aload_n hx hb dX5_find_97 rfl (lv_at hl 5 rfl) ?_
      refine va_get (D := G.1) (ci := 5) (v := .ref (ad 57)) (C := RX5) (T := TX5) (N := 7) hx hb hts hw5 hown hE.1 hP 61 p_61 rfl 1 (by decide) hf25 (fun _ h9 => h9) rfl dX5_find_98 ?_
      refine va_get (D := G.1) (ci := 1) (v := .ref (ad 58)) (C := RX1) (T := TX1) (N := 6) hx hb hts hw1 hown hE.1 hP 57 p_57 rfl 2 (by decide) hf58 (fun _ h9 => h9) rfl dX5_find_101 ?_
      refine lv_iload_n hx hb dX5_find_104 rfl (lv_at hl 4 rfl) ?_
      refine zild hx hb hE hP 58 4 (fun _ => rfl) (by decide) 0 rfl (by decide) (by decide) dX5_find_105 ?_
      refine zc_ge (tgt := 181) hx hb dX5_find_106 (by decide) (by omega) (by omega) (fun h106 => ?_) (fun h106 => ?_)
      · refine lv_aload_n hx hb dX5_find_181 rfl (lv_at hl 5 rfl) ?_
        refine va_get (D := G.1) (ci := 5) (v := .ref (ad 64)) (C := RX5) (T := TX5) (N := 7) hx hb hts hw5 hown hE.1 hP 61 p_61 rfl 4 (by decide) hf18 (fun _ h9 => h9) rfl dX5_find_182 ?_
        refine lv_iload hx hb dX5_find_185 (lv_at hl 2 rfl) ?_
        refine lv_iload hx hb dX5_find_187 (lv_at hl 1 rfl) ?_
        refine zist hx hb hE hP hD hS 64 1024 (fun _ => rfl) (by decide) n rfl (by omega) (by decide) dX5_find_189 (fun H locs hP hD hS => ?_)
        refine lv_iload hx hb dX5_find_190 (lv_at hl 2 rfl) ?_
        exact zend_i hx hb hr hlocks hP hD hS (Nat.le_of_ble_eq_true rfl) (Nat.le_of_ble_eq_true rfl) dX5_find_192 ⟨_, _, rfl, (by have hjn : j = zCn X 0 := (by omega); rw [hjn] at hcl hsm; rw [zCs.sn] at hsm; exact zFd_end (g := 0) (by omega) hu hti hn5 (by omega) hnl hfn.2.1 hfn.2.2.1 hfn.2.2.2.1 hfn.2.2.2.2 hT hxt hnew hcl (by have e1 : zBS 0 = 1073741824 := rfl; have e2 : zS 0 = 256 := rfl; rw [e1]; rw [e2] at hsm; omega)), rfl⟩
      · refine lv_aload_n hx hb dX5_find_109 rfl (lv_at hl 5 rfl) ?_
        refine lv_iload_n hx hb dX5_find_110 rfl (lv_at hl 4 rfl) ?_
        refine lv_iconst (v := zi 1) hx hb dX5_find_111 rfl ?_
        refine lv_iadd hx hb dX5_find_112 (zti (v := zi 1) (zi_add _ _) ?_)
        refine lv_iload_n hx hb dX5_find_113 rfl (lv_at hl 3 rfl) ?_
        refine lv_aload_n hx hb dX5_find_114 rfl (lv_at hl 5 rfl) ?_
        refine va_get (D := G.1) (ci := 5) (v := .ref (ad 57)) (C := RX5) (T := TX5) (N := 7) hx hb hts hw5 hown hE.1 hP 61 p_61 rfl 1 (by decide) hf25 (fun _ h9 => h9) rfl dX5_find_115 ?_
        refine lv_iload_n hx hb dX5_find_118 rfl (lv_at hl 4 rfl) ?_
        refine lv_iload hx hb dX5_find_119 (lv_at hl 0 rfl) ?_
        refine zcall (wr := []) (va_runV (As := [.int (zi 0), .int (zi (j : Int))]) (rest := [.int (zi (u : Int)), .int (zi 1), .ref (ad 61)]) ⟨hx, hb, hml, hown, hts⟩ (c_X1_mask l G ad Y 0 j hCY (by omega) (by omega) H.size) (cwV 2 hts gX5_find_X1_mask rfl rfl rfl (by decide +kernel) ⟨Nat.le_of_ble_eq_true rfl, Nat.le_of_ble_eq_true rfl⟩) (zPreV (wr := []) (wc := zpic G ad Y) (q0 := 57) (ci := 1) (q := (RX1, TX1, 6)) hP hD hE hS hA rfl p_57) rfl rfl hl.1 rfl (lv_room (Nat.le_of_ble_eq_true rfl)) dX5_find_121 ⟨Nat.le_of_ble_eq_true rfl, Nat.le_of_ble_eq_true rfl⟩) hP hD hS hA (fun _ _ H locs hf hP hD hS => ?_)
        obtain ⟨v2, rfl, hv2, rfl⟩ := hf
        have hP : va_P G.1 vwCl (zpic G ad Y) H := hP
        have hD : va_D A (zpic G ad Y) := hD
        refine W.eq (g2 := F0 m 124 ls [.int (zi v2), .int (zi (u : Int)), .int (zi 1), .ref (ad 61)]) rfl ?_
        have hsg := hCs.seg (f := 0) (j := j) (by omega) (by omega)
        rw [hwY.ma 0 j] at hv2
        rw [hv2]
        refine lv_iand hx hb dX5_find_124 (zti (v := zi ((u &&& zMa X 0 j : Nat) : Int)) (zi_and _ _) ?_)
        refine zcall (wr := []) (va_runS (As := [.ref (ad 61), .int (zi 1), .int (zi ((u &&& zMa X 0 j : Nat) : Int))]) (rest := []) ⟨hx, hb, hml, hown, hts⟩ (c_find1 l G ad Y (u &&& zMa X 0 j : Nat) hVY hCY (by omega) (by rw [hwY.1.dec hV (Or.inl rfl : zIsW 0)]; exact zand_sub hsub) ((hwY.ti hV).mpr hT) H.size) (va_cwS 3 hts gX5_find_X5_find rfl rfl rfl (by decide +kernel) ⟨Nat.le_of_ble_eq_true rfl, Nat.le_of_ble_eq_true rfl⟩) (zPre (wr := []) (wc := zpic G ad Y) (As := [.ref (ad 61), .int (zi 1), .int (zi ((u &&& zMa X 0 j : Nat) : Int))]) hP hD hE hS hA).1 rfl rfl hl.1 rfl (lv_room (Nat.le_of_ble_eq_true rfl)) dX5_find_125 ⟨Nat.le_of_ble_eq_true rfl, Nat.le_of_ble_eq_true rfl⟩) hP hD hS hA (fun _ _ H locs hf hP hD hS => ?_)
        obtain ⟨v3, X2, rfl, hv3, rfl⟩ := hf
        have hP : va_P G.1 vwCl (zpic G ad X2) H := hP
        have hD : va_D A (zpic G ad X2) := hD
        refine W.eq (g2 := F0 m 128 ls [.int (zi v3)]) rfl ?_
        have hx2 := hv3.2.1
        have hT2 : zTi X X2 (0 + 1) := (hwY.ti hV).mp hv3.1
        have hxx : zTx X1 X2 := hxt.trans hx2
        have hwc2 : zWc X X2 := hwY.trans hx2.wc
        have hV2 : zV X2 := hwc2.1.v hV
        have hC2 : zCs X2 := hwc2.cs hV hCs
        have hcn2 : zCn X2 0 = zCn X 0 := hwc2.cn 0
        have hch2 : zCh X X2 (0 + 1) (u &&& zMa X 0 j) := (hwY.ch hV).mp hv3.ch
        have hcnt2 := hT2.cnt
        have hnew2 : ∀ k : Nat, (n : Int) + 1 ≤ (k : Int) → (k : Int) < X2 61 5 → (((0 : Nat) : Int) + 1) * 256 ≤ X2 63 k := fun k h1 h2 => by by_cases e9 : (k : Int) < Y 61 5; (rw [(hx2.2.2.1 k e9).1]; exact hnew k h1 e9); exact hv3.2.2.1 k (by omega) h2
        have hvb : -10 < v3 ∧ v3 < 1024 := by rcases hv3.2.2.2 with q | q; (have q1 := q.2.2; omega); (have q1 := q.2; omega)
        refine lv_istore (lv' := [(7, .int (zi v3)), (6, .int (zi (j : Int))), (5, .int (zi sum)), (4, .int (zi (n : Int))), (2, .int (zi (u : Int))), (1, .int (zi 0)), (0, .ref (ad 61))]) hx hb dX5_find_128 hl (by decide) rfl (fun ls hl => ?_)
        refine lv_iload hx hb dX5_find_130 (lv_at hl 0 rfl) ?_
        refine z0_lt (tgt := 175) hx hb dX5_find_132 (by decide) (by omega) (fun h132 => ?_) (fun h132 => ?_)
        · refine lv_iinc (v := zi ((j : Int) + 1)) (lv' := [(6, .int (zi ((j : Int) + 1))), (7, .int (zi v3)), (5, .int (zi sum)), (4, .int (zi (n : Int))), (2, .int (zi (u : Int))), (1, .int (zi 0)), (0, .ref (ad 61))]) hx hb dX5_find_175 hl (k := 1) rfl (zi_add _ _) (by decide) rfl (fun ls hl => ?_)
          refine lv_goto (tgt := 95) hx hb dX5_find_178 (by decide) ?_
          exact ih (j + 1) X2 sum (by omega) H locs ls ⟨hP, hD, hS, lv_sub hl [0, 2, 3, 4, 5, 6] rfl, (by omega), hT2, hxx, hnew2, (fun i h1 => by by_cases e9 : i = j; (rw [e9]; exact hch2); exact (hcl i (by omega)).ext hx2), (by omega)⟩
        · obtain ⟨kx, hkx⟩ : ∃ kx : Nat, v3 = (kx : Int) := ⟨v3.toNat, by omega⟩
          have hss := hv3.sum (by omega) (by omega) (by omega)
          rw [hkx, Int.toNat_natCast] at hss
          have hbs : zBS (0 + 1) = 3145728 := rfl
          rw [hbs] at hss
          refine lv_aload_n hx hb dX5_find_135 rfl (lv_at hl 6 rfl) ?_
          refine va_get (D := G.1) (ci := 5) (v := .ref (ad 57)) (C := RX5) (T := TX5) (N := 7) hx hb hts hw5 hown hE.1 hP 61 p_61 rfl 1 (by decide) hf25 (fun _ h9 => h9) rfl dX5_find_136 ?_
          refine lv_iload_n hx hb dX5_find_139 rfl (lv_at hl 5 rfl) ?_
          refine lv_iload hx hb dX5_find_140 (lv_at hl 1 rfl) ?_
          refine lv_iconst (v := zi 1) hx hb dX5_find_142 rfl ?_
          refine lv_iadd hx hb dX5_find_143 (zti (v := zi ((j : Int) + 1)) (zi_add _ _) ?_)
          refine zcall (wr := []) (va_runV (As := [.int (zi 0), .int (zi ((j : Int) + 1))]) (rest := []) ⟨hx, hb, hml, hown, hts⟩ (c_X1_start l G ad X2 0 (j + 1) hC2 (by omega) (by omega) H.size) (cwV 2 hts gX5_find_X1_start rfl rfl rfl (by decide +kernel) ⟨Nat.le_of_ble_eq_true rfl, Nat.le_of_ble_eq_true rfl⟩) (zPreV (wr := []) (wc := zpic G ad X2) (q0 := 57) (ci := 1) (q := (RX1, TX1, 6)) hP hD hE hS hA rfl p_57) rfl rfl hl.1 rfl (lv_room (Nat.le_of_ble_eq_true rfl)) dX5_find_144 ⟨Nat.le_of_ble_eq_true rfl, Nat.le_of_ble_eq_true rfl⟩) hP hD hS hA (fun _ _ H locs hf hP hD hS => ?_)
          obtain ⟨v4, rfl, hv4, rfl⟩ := hf
          have hP : va_P G.1 vwCl (zpic G ad X2) H := hP
          have hD : va_D A (zpic G ad X2) := hD
          refine W.eq (g2 := F0 m 147 ls [.int (zi v4)]) rfl ?_
          refine lv_aload_n hx hb dX5_find_147 rfl (lv_at hl 6 rfl) ?_
          refine va_get (D := G.1) (ci := 5) (v := .ref (ad 57)) (C := RX5) (T := TX5) (N := 7) hx hb hts hw5 hown hE.1 hP 61 p_61 rfl 1 (by decide) hf25 (fun _ h9 => h9) rfl dX5_find_148 ?_
          refine lv_iload_n hx hb dX5_find_151 rfl (lv_at hl 5 rfl) ?_
          refine lv_iload hx hb dX5_find_152 (lv_at hl 1 rfl) ?_
          refine zcall (wr := []) (va_runV (As := [.int (zi 0), .int (zi (j : Int))]) (rest := [.int (zi v4)]) ⟨hx, hb, hml, hown, hts⟩ (c_X1_start l G ad X2 0 j hC2 (by omega) (by omega) H.size) (cwV 2 hts gX5_find_X1_start rfl rfl rfl (by decide +kernel) ⟨Nat.le_of_ble_eq_true rfl, Nat.le_of_ble_eq_true rfl⟩) (zPreV (wr := []) (wc := zpic G ad X2) (q0 := 57) (ci := 1) (q := (RX1, TX1, 6)) hP hD hE hS hA rfl p_57) rfl rfl hl.1 rfl (lv_room (Nat.le_of_ble_eq_true rfl)) dX5_find_154 ⟨Nat.le_of_ble_eq_true rfl, Nat.le_of_ble_eq_true rfl⟩) hP hD hS hA (fun _ _ H locs hf hP hD hS => ?_)
          obtain ⟨v5, rfl, hv5, rfl⟩ := hf
          have hP : va_P G.1 vwCl (zpic G ad X2) H := hP
          have hD : va_D A (zpic G ad X2) := hD
          refine W.eq (g2 := F0 m 157 ls [.int (zi v5), .int (zi v4)]) rfl ?_
          refine lv_isub hx hb dX5_find_157 (zti (v := zi (v4 - v5)) (zi_sub _ _) ?_)
          refine lv_istore (lv' := [(8, .int (zi (v4 - v5))), (7, .int (zi v3)), (6, .int (zi (j : Int))), (5, .int (zi sum)), (4, .int (zi (n : Int))), (2, .int (zi (u : Int))), (1, .int (zi 0)), (0, .ref (ad 61))]) hx hb dX5_find_158 hl (by decide) rfl (fun ls hl => ?_)
          refine lv_iload hx hb dX5_find_160 (lv_at hl 3 rfl) ?_
          refine lv_iload hx hb dX5_find_162 (lv_at hl 0 rfl) ?_
          refine lv_aload_n hx hb dX5_find_164 rfl (lv_at hl 7 rfl) ?_
          refine va_get (D := G.1) (ci := 5) (v := .ref (ad 64)) (C := RX5) (T := TX5) (N := 7) hx hb hts hw5 hown hE.1 hP 61 p_61 rfl 4 (by decide) hf18 (fun _ h9 => h9) rfl dX5_find_165 ?_
          refine lv_iload hx hb dX5_find_168 (lv_at hl 1 rfl) ?_
          refine zild hx hb hE hP 64 1024 (fun _ => rfl) (by decide) kx hkx (by omega) (by decide) dX5_find_170 ?_
          refine lv_imul hx hb dX5_find_171 (zti (v := zi ((v4 - v5) * (X2 64 kx))) (zi_mul _ _) ?_)
          refine lv_iadd hx hb dX5_find_172 (zti (v := zi (sum + ((v4 - v5) * (X2 64 kx)))) (zi_add _ _) ?_)
          have e3 : v4 = zS0 X 0 (j + 1) := by rw [hv4, hwc2.s0]
          have e4 : v5 = zS0 X 0 j := by rw [hv5, hwc2.s0]
          have hm0 := Int.mul_nonneg (show 0 ≤ v4 - v5 by omega) hss.1
          have hm1 := Int.mul_le_mul_of_nonneg_left hss.2 (show 0 ≤ v4 - v5 by omega)
          refine lv_istore (lv' := [(5, .int (zi (sum + ((v4 - v5) * (X2 64 kx))))), (8, .int (zi (v4 - v5))), (7, .int (zi v3)), (6, .int (zi (j : Int))), (4, .int (zi (n : Int))), (2, .int (zi (u : Int))), (1, .int (zi 0)), (0, .ref (ad 61))]) hx hb dX5_find_173 hl (by decide) rfl (fun ls hl => ?_)
          refine lv_iinc (v := zi ((j : Int) + 1)) (lv' := [(6, .int (zi ((j : Int) + 1))), (5, .int (zi (sum + ((v4 - v5) * (X2 64 kx))))), (8, .int (zi (v4 - v5))), (7, .int (zi v3)), (4, .int (zi (n : Int))), (2, .int (zi (u : Int))), (1, .int (zi 0)), (0, .ref (ad 61))]) hx hb dX5_find_175 hl (k := 3) rfl (zi_add _ _) (by decide) rfl (fun ls hl => ?_)
          refine lv_goto (tgt := 95) hx hb dX5_find_178 (by decide) ?_
          exact ih (j + 1) X2 (sum + ((v4 - v5) * (X2 64 kx))) (by omega) H locs ls ⟨hP, hD, hS, lv_sub hl [0, 1, 4, 5, 6, 7] rfl, (by omega), hT2, hxx, hnew2, (fun i h1 => by by_cases e9 : i = j; (rw [e9]; exact hch2); exact (hcl i (by omega)).ext hx2), (by omega)⟩
    · refine lv_aload_n hx hb dX5_find_46 rfl (lv_at hl 1 rfl) ?_
      refine va_get (D := G.1) (ci := 5) (v := .ref (ad 62)) (C := RX5) (T := TX5) (N := 7) hx hb hts hw5 hown hE.1 hP 61 p_61 rfl 2 (by decide) hf9 (fun _ h9 => h9) rfl dX5_find_47 ?_
      refine lv_iload_n hx hb dX5_find_50 rfl (lv_at hl 0 rfl) ?_
      refine zild hx hb hE hP 62 1024 (fun _ => rfl) (by decide) (0 * 256 + u) (by omega) (by omega) (by decide) dX5_find_51 ?_
      exact zend_i hx hb hr hlocks hP hD hS (Nat.le_of_ble_eq_true rfl) (Nat.le_of_ble_eq_true rfl) dX5_find_52 ⟨_, _, rfl, ⟨hti, zTx.rf X, fun k h1 h2 => by omega, Or.inr ⟨hnl, by omega, by omega, rfl, Or.inl ⟨by omega, rfl⟩⟩⟩, rfl⟩
  · refine lv_bipush (v := zi (-2)) hx hb dX5_find_17 (by decide +kernel) ?_
    refine lv_aload_n hx hb dX5_find_19 rfl (lv_at hl 0 rfl) ?_
    refine va_get (D := G.1) (ci := 5) (v := .ref (ad 0)) (C := RX5) (T := TX5) (N := 7) hx hb hts hw5 hown hE.1 hP 61 p_61 rfl 0 (by decide) hf21 (fun _ h9 => h9) rfl dX5_find_20 ?_
    refine lv_iload_n hx hb dX5_find_23 rfl (lv_at hl 2 rfl) ?_
    refine zcall (wr := []) (va_runV (As := [.int (zi (u : Int))]) (rest := [.int (zi (-2))]) ⟨hx, hb, hml, hown, hts⟩ (c_X6_firstOf l G ad X 0 u hV (Or.inl rfl) (by omega) H.size) (cwV 1 hts gX5_find_X6_firstOf rfl rfl rfl (by decide +kernel) ⟨Nat.le_of_ble_eq_true rfl, Nat.le_of_ble_eq_true rfl⟩) (zPreV (wr := []) (wc := zpic G ad X) (q0 := 0) (ci := 6) (q := (RX6, TX6, 3)) hP hD hE hS hA rfl (p_w (Or.inl rfl))) rfl rfl hl.1 rfl (lv_room (Nat.le_of_ble_eq_true rfl)) dX5_find_24 ⟨Nat.le_of_ble_eq_true rfl, Nat.le_of_ble_eq_true rfl⟩) hP hD hS hA (fun _ _ H locs hf hP hD hS => ?_)
    obtain ⟨v2, rfl, hv2, rfl⟩ := hf
    have hP : va_P G.1 vwCl (zpic G ad X) H := hP
    have hD : va_D A (zpic G ad X) := hD
    refine W.eq (g2 := F0 m 27 ls [.int (zi v2), .int (zi (-2))]) rfl ?_
    refine lv_isub hx hb dX5_find_27 (zti (v := zi ((-2) - v2)) (zi_sub _ _) ?_)
    exact zend_i hx hb hr hlocks hP hD hS (Nat.le_of_ble_eq_true rfl) (Nat.le_of_ble_eq_true rfl) dX5_find_28 ⟨_, _, rfl, (zFd_leaf hti (Or.inr (by rcases hv1 with h | h; exact h.2; omega)) hv2), rfl⟩
