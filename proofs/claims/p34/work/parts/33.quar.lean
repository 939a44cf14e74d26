/-! Nettle: quarrels, steps -/
theorem dX7_needNode_0 : decode cX7_needNode 0 = .ok (.iload_n 1, 1) := by decide +kernel
theorem dX7_needNode_1 : decode cX7_needNode 1 = .ok (.ifCond .lt 11, 3) := by decide +kernel
theorem dX7_needNode_4 : decode cX7_needNode 4 = .ok (.iload_n 1, 1) := by decide +kernel
theorem dX7_needNode_5 : decode cX7_needNode 5 = .ok (.aload_n 0, 1) := by decide +kernel
theorem dX7_needNode_6 : decode cX7_needNode 6 = .ok (.getfield 193, 3) := by decide +kernel
theorem dX7_needNode_9 : decode cX7_needNode 9 = .ok (.if_icmp .lt 14, 3) := by decide +kernel
theorem dX7_needNode_23 : decode cX7_needNode 23 = .ok (.return_, 1) := by decide +kernel
theorem dX7_quarrels_0 : decode cX7_quarrels 0 = .ok (.iconst 0, 1) := by decide +kernel
theorem dX7_quarrels_1 : decode cX7_quarrels 1 = .ok (.istore_n 1, 1) := by decide +kernel
theorem dX7_quarrels_2 : decode cX7_quarrels 2 = .ok (.iconst 0, 1) := by decide +kernel
theorem dX7_quarrels_3 : decode cX7_quarrels 3 = .ok (.istore_n 2, 1) := by decide +kernel
theorem dX7_quarrels_4 : decode cX7_quarrels 4 = .ok (.iload_n 2, 1) := by decide +kernel
theorem dX7_quarrels_5 : decode cX7_quarrels 5 = .ok (.aload_n 0, 1) := by decide +kernel
theorem dX7_quarrels_6 : decode cX7_quarrels 6 = .ok (.getfield 10, 3) := by decide +kernel
theorem dX7_quarrels_9 : decode cX7_quarrels 9 = .ok (.getfield 70, 3) := by decide +kernel
theorem dX7_quarrels_12 : decode cX7_quarrels 12 = .ok (.if_icmp .ge 57, 3) := by decide +kernel
theorem dX7_quarrels_69 : decode cX7_quarrels 69 = .ok (.iload_n 1, 1) := by decide +kernel
theorem dX7_quarrels_70 : decode cX7_quarrels 70 = .ok (.ireturn, 1) := by decide +kernel
theorem dX7_quarrels_15 : decode cX7_quarrels 15 = .ok (.iload_n 2, 1) := by decide +kernel
theorem dX7_quarrels_16 : decode cX7_quarrels 16 = .ok (.iconst 1, 1) := by decide +kernel
theorem dX7_quarrels_17 : decode cX7_quarrels 17 = .ok (.iadd, 1) := by decide +kernel
theorem dX7_quarrels_18 : decode cX7_quarrels 18 = .ok (.istore_n 3, 1) := by decide +kernel
theorem dX7_quarrels_19 : decode cX7_quarrels 19 = .ok (.iload_n 3, 1) := by decide +kernel
theorem dX7_quarrels_20 : decode cX7_quarrels 20 = .ok (.aload_n 0, 1) := by decide +kernel
theorem dX7_quarrels_21 : decode cX7_quarrels 21 = .ok (.getfield 10, 3) := by decide +kernel
theorem dX7_quarrels_24 : decode cX7_quarrels 24 = .ok (.getfield 70, 3) := by decide +kernel
theorem dX7_quarrels_27 : decode cX7_quarrels 27 = .ok (.if_icmp .ge 36, 3) := by decide +kernel
theorem dX7_quarrels_63 : decode cX7_quarrels 63 = .ok (.iinc 2 1, 3) := by decide +kernel
theorem dX7_quarrels_66 : decode cX7_quarrels 66 = .ok (.goto (-62), 3) := by decide +kernel
theorem dX7_quarrels_30 : decode cX7_quarrels 30 = .ok (.aload_n 0, 1) := by decide +kernel
theorem dX7_quarrels_31 : decode cX7_quarrels 31 = .ok (.getfield 10, 3) := by decide +kernel
theorem dX7_quarrels_34 : decode cX7_quarrels 34 = .ok (.getfield 104, 3) := by decide +kernel
theorem dX7_quarrels_37 : decode cX7_quarrels 37 = .ok (.iload_n 2, 1) := by decide +kernel
theorem dX7_quarrels_38 : decode cX7_quarrels 38 = .ok (.aaload, 1) := by decide +kernel
theorem dX7_quarrels_39 : decode cX7_quarrels 39 = .ok (.aload_n 0, 1) := by decide +kernel
theorem dX7_quarrels_40 : decode cX7_quarrels 40 = .ok (.getfield 10, 3) := by decide +kernel
theorem dX7_quarrels_43 : decode cX7_quarrels 43 = .ok (.getfield 104, 3) := by decide +kernel
theorem dX7_quarrels_46 : decode cX7_quarrels 46 = .ok (.iload_n 3, 1) := by decide +kernel
theorem dX7_quarrels_47 : decode cX7_quarrels 47 = .ok (.aaload, 1) := by decide +kernel
set_option maxRecDepth 20000 in
theorem ggX7_quarrels_X3_isAgainst : GoodIn wsX7_quarrels wsX3_isAgainst := goodIn_r _ [8, 9, 10, 11, 12, 7, 13, 14, 15, 16, 17, 18, 19, 20, 21, 22, 23, 24, 25, 26, 38, 39, 40, 41] (by decide +kernel) (by decide +kernel)
set_option maxRecDepth 20000 in
theorem gX7_quarrels_X3_isAgainst : GoodIn wsX7_quarrels (wsV RX7 173 RX3 yX3_isAgainst wsX3_isAgainst) := goodIn_app (goodIn_of _ (by decide +kernel)) ggX7_quarrels_X3_isAgainst
theorem dX7_quarrels_48 : decode cX7_quarrels 48 = .ok (.invokevirtual 173, 3) := by decide +kernel
theorem dX7_quarrels_51 : decode cX7_quarrels 51 = .ok (.ifCond .eq 6, 3) := by decide +kernel
theorem dX7_quarrels_57 : decode cX7_quarrels 57 = .ok (.iinc 3 1, 3) := by decide +kernel
theorem dX7_quarrels_60 : decode cX7_quarrels 60 = .ok (.goto (-41), 3) := by decide +kernel
theorem dX7_quarrels_54 : decode cX7_quarrels 54 = .ok (.iinc 1 1, 3) := by decide +kernel
theorem dX7_steps_0 : decode cX7_steps 0 = .ok (.aload_n 0, 1) := by decide +kernel
theorem dX7_steps_1 : decode cX7_steps 1 = .ok (.iload_n 1, 1) := by decide +kernel
theorem dX7_steps_2 : decode cX7_steps 2 = .ok (.iload_n 2, 1) := by decide +kernel
theorem dX7_steps_3 : decode cX7_steps 3 = .ok (.iload_n 3, 1) := by decide +kernel
theorem dX7_steps_4 : decode cX7_steps 4 = .ok (.iload 4, 2) := by decide +kernel
set_option maxRecDepth 20000 in
theorem ggX7_steps_X7_takePacket : GoodIn wsX7_steps wsX7_takePacket := goodIn_ca (goodIn_r _ [7, 8, 9, 2, 10, 11, 6, 12, 13, 49, 50, 51, 52, 53, 54, 55, 56] (by decide +kernel) (by decide +kernel)) (goodIn_sub (fun _ h => List.mem_cons_of_mem _ (List.mem_append_right _ h)) (by decide +kernel))
set_option maxRecDepth 20000 in
theorem gX7_steps_X7_takePacket : GoodIn wsX7_steps (wsV RX7 177 RX7 yX7_takePacket wsX7_takePacket) := goodIn_app (goodIn_of _ (by decide +kernel)) ggX7_steps_X7_takePacket
theorem dX7_steps_6 : decode cX7_steps 6 = .ok (.invokevirtual 177, 3) := by decide +kernel
theorem dX7_steps_9 : decode cX7_steps 9 = .ok (.aload_n 0, 1) := by decide +kernel
theorem dX7_steps_10 : decode cX7_steps 10 = .ok (.getfield 10, 3) := by decide +kernel
set_option maxRecDepth 20000 in
theorem ggX7_steps_X6_deciders : GoodIn wsX7_steps wsX6_deciders := goodIn_r _ [18, 19, 20, 21, 22, 23, 24, 25, 26, 57, 58, 59, 60, 61, 62, 63] (by decide +kernel) (by decide +kernel)
set_option maxRecDepth 20000 in
theorem gX7_steps_X6_deciders : GoodIn wsX7_steps (wsV RX7 223 RX6 yX6_deciders wsX6_deciders) := goodIn_app (goodIn_of _ (by decide +kernel)) ggX7_steps_X6_deciders
theorem dX7_steps_13 : decode cX7_steps 13 = .ok (.invokevirtual 223, 3) := by decide +kernel
theorem dX7_steps_16 : decode cX7_steps 16 = .ok (.istore 5, 2) := by decide +kernel
theorem dX7_steps_18 : decode cX7_steps 18 = .ok (.iconst 0, 1) := by decide +kernel
theorem dX7_steps_19 : decode cX7_steps 19 = .ok (.istore 6, 2) := by decide +kernel
theorem dX7_steps_21 : decode cX7_steps 21 = .ok (.iconst 0, 1) := by decide +kernel
theorem dX7_steps_22 : decode cX7_steps 22 = .ok (.istore 7, 2) := by decide +kernel
theorem dX7_steps_24 : decode cX7_steps 24 = .ok (.iload 7, 2) := by decide +kernel
theorem dX7_steps_26 : decode cX7_steps 26 = .ok (.iconst 4, 1) := by decide +kernel
theorem dX7_steps_27 : decode cX7_steps 27 = .ok (.if_icmp .ge 50, 3) := by decide +kernel
theorem dX7_steps_77 : decode cX7_steps 77 = .ok (.iload 6, 2) := by decide +kernel
theorem dX7_steps_79 : decode cX7_steps 79 = .ok (.ireturn, 1) := by decide +kernel
theorem dX7_steps_30 : decode cX7_steps 30 = .ok (.aload_n 0, 1) := by decide +kernel
theorem dX7_steps_31 : decode cX7_steps 31 = .ok (.getfield 10, 3) := by decide +kernel
theorem dX7_steps_34 : decode cX7_steps 34 = .ok (.iload 7, 2) := by decide +kernel
theorem dX7_steps_36 : decode cX7_steps 36 = .ok (.iload 5, 2) := by decide +kernel
set_option maxRecDepth 20000 in
theorem ggX7_steps_X6_isSettled : GoodIn wsX7_steps wsX6_isSettled := goodIn_r _ [30, 20, 31, 32, 33, 17, 34, 19, 35, 36, 37, 24, 38, 39, 40, 57, 58, 59, 60, 61, 62, 63] (by decide +kernel) (by decide +kernel)
set_option maxRecDepth 20000 in
theorem gX7_steps_X6_isSettled : GoodIn wsX7_steps (wsV RX7 226 RX6 yX6_isSettled wsX6_isSettled) := goodIn_app (goodIn_of _ (by decide +kernel)) ggX7_steps_X6_isSettled
theorem dX7_steps_38 : decode cX7_steps 38 = .ok (.invokevirtual 226, 3) := by decide +kernel
theorem dX7_steps_41 : decode cX7_steps 41 = .ok (.ifCond .eq 6, 3) := by decide +kernel
theorem dX7_steps_47 : decode cX7_steps 47 = .ok (.iinc 6 1, 3) := by decide +kernel
theorem dX7_steps_50 : decode cX7_steps 50 = .ok (.iload 5, 2) := by decide +kernel
theorem dX7_steps_52 : decode cX7_steps 52 = .ok (.aload_n 0, 1) := by decide +kernel
theorem dX7_steps_53 : decode cX7_steps 53 = .ok (.getfield 10, 3) := by decide +kernel
theorem dX7_steps_56 : decode cX7_steps 56 = .ok (.iload 7, 2) := by decide +kernel
theorem dX7_steps_58 : decode cX7_steps 58 = .ok (.aload_n 0, 1) := by decide +kernel
theorem dX7_steps_59 : decode cX7_steps 59 = .ok (.getfield 62, 3) := by decide +kernel
theorem dX7_steps_62 : decode cX7_steps 62 = .ok (.iload 7, 2) := by decide +kernel
theorem dX7_steps_64 : decode cX7_steps 64 = .ok (.iaload, 1) := by decide +kernel
set_option maxRecDepth 20000 in
theorem ggX7_steps_X6_having : GoodIn wsX7_steps wsX6_having := goodIn_r _ [44, 19, 20, 45, 46, 47, 24, 48, 39, 40, 57, 58, 59, 60, 61, 62, 63] (by decide +kernel) (by decide +kernel)
set_option maxRecDepth 20000 in
theorem gX7_steps_X6_having : GoodIn wsX7_steps (wsV RX7 229 RX6 yX6_having wsX6_having) := goodIn_app (goodIn_of _ (by decide +kernel)) ggX7_steps_X6_having
theorem dX7_steps_65 : decode cX7_steps 65 = .ok (.invokevirtual 229, 3) := by decide +kernel
theorem dX7_steps_68 : decode cX7_steps 68 = .ok (.iand, 1) := by decide +kernel
theorem dX7_steps_69 : decode cX7_steps 69 = .ok (.istore 5, 2) := by decide +kernel
theorem dX7_steps_71 : decode cX7_steps 71 = .ok (.iinc 7 1, 3) := by decide +kernel
theorem dX7_steps_74 : decode cX7_steps 74 = .ok (.goto (-50), 3) := by decide +kernel
theorem dX7_steps_44 : decode cX7_steps 44 = .ok (.goto 33, 3) := by decide +kernel
/-- sums of whole numbers; 1 where P holds -/
def zsm : Nat → (Nat → Int) → Int
  | 0, _ => 0
  | n + 1, f => zsm n f + f n
theorem zsm_congr {n : Nat} {f g : Nat → Int} (h : ∀ i : Nat, i < n → f i = g i) : zsm n f = zsm n g := by
  induction n with
  | zero => rfl
  | succ n ih =>
    show zsm n f + f n = zsm n g + g n
    rw [ih (fun i hi => h i (by omega)), h n (by omega)]
theorem zsm_add (n : Nat) (f g : Nat → Int) : zsm n (fun i => f i + g i) = zsm n f + zsm n g := by
  induction n with
  | zero => rfl
  | succ n ih =>
    show zsm n (fun i => f i + g i) + (f n + g n) = (zsm n f + f n) + (zsm n g + g n)
    rw [ih]
    omega
theorem zsm_zero {n : Nat} {f : Nat → Int} (h : ∀ i : Nat, i < n → f i = 0) : zsm n f = 0 := by
  induction n with
  | zero => rfl
  | succ n ih =>
    show zsm n f + f n = 0
    rw [ih (fun i hi => h i (by omega)), h n (by omega)]
    rfl
theorem zsm_swap (n k : Nat) (f : Nat → Nat → Int) : zsm n (fun a => zsm k (fun b => f a b)) = zsm k (fun b => zsm n (fun a => f a b)) := by
  induction n with
  | zero => exact (zsm_zero (fun b _ => rfl)).symm
  | succ n ih =>
    show zsm n (fun a => zsm k (fun b => f a b)) + zsm k (fun b => f n b) = zsm k (fun b => zsm n (fun a => f a b) + f n b)
    rw [ih, zsm_add]
theorem zsm_bd {n : Nat} {f : Nat → Int} {c : Int} (h : ∀ i : Nat, i < n → 0 ≤ f i ∧ f i ≤ c) : 0 ≤ zsm n f ∧ zsm n f ≤ (n : Int) * c := by
  induction n with
  | zero => exact ⟨Int.le_refl 0, by rw [Int.natCast_zero, Int.zero_mul]; exact Int.le_refl 0⟩
  | succ n ih =>
    have h1 := ih (fun i hi => h i (by omega))
    have h2 := h n (by omega)
    have e : zsm (n + 1) f = zsm n f + f n := rfl
    rw [e, Int.natCast_succ, Int.add_mul, Int.one_mul]
    omega
noncomputable def z1 (P : Prop) : Int := if zB P = true then 1 else 0
theorem z1_yes {P : Prop} (h : P) : z1 P = 1 := by unfold z1; rw [if_pos (zB_iff.mpr h)]
theorem z1_no {P : Prop} (h : ¬ P) : z1 P = 0 := by unfold z1; rw [if_neg (fun q => h (zB_iff.mp q))]
theorem z1_bd (P : Prop) : 0 ≤ z1 P ∧ z1 P ≤ 1 := by unfold z1; split <;> omega
theorem z1_congr {P Q : Prop} (h : P ↔ Q) : z1 P = z1 Q := by rw [propext h]
/-- the pairs of RULES against each other -/
noncomputable def zQa (X : Nat → Nat → Int) (n a b : Nat) : Int := zsm b (fun j => z1 (a < j ∧ zAg X (zr X 0 a) (zr X 0 j)))
noncomputable def zQu (X : Nat → Nat → Int) (n : Nat) : Int := zsm n (fun a => zQa X n a (zN X 0))
theorem zQa_start (X : Nat → Nat → Int) (n a : Nat) : zQa X n a (a + 1) = 0 := zsm_zero fun i hi => z1_no (fun q => by omega)
theorem zQa_yes {X : Nat → Nat → Int} {n a b : Nat} (h : a < b) (h2 : zAg X (zr X 0 a) (zr X 0 b)) : zQa X n a (b + 1) = zQa X n a b + 1 := by
  show zQa X n a b + z1 (a < b ∧ zAg X (zr X 0 a) (zr X 0 b)) = _
  rw [z1_yes ⟨h, h2⟩]
theorem zQa_no {X : Nat → Nat → Int} {n a b : Nat} (h2 : ¬ zAg X (zr X 0 a) (zr X 0 b)) : zQa X n a (b + 1) = zQa X n a b := by
  show zQa X n a b + z1 (a < b ∧ zAg X (zr X 0 a) (zr X 0 b)) = _
  rw [z1_no (fun q => h2 q.2), Int.add_zero]
theorem zQu_step (X : Nat → Nat → Int) (a : Nat) : zQu X (a + 1) = zQu X a + zQa X 0 a (zN X 0) := rfl
/-- the RULES that are left of a PACKET (the row 70) ahead of a FIELD; where it stops -/
def zPth (X : Nat → Nat → Int) : Nat → Nat
  | 0 => zDec X 0
  | g + 1 => zPth X g &&& zHav X 0 g (X 70 g)
theorem zPth_lt (X : Nat → Nat → Int) (hV : zV X) (g : Nat) : zPth X g < 256 := by
  induction g with
  | zero => exact zSet_256 (hV.n (Or.inl rfl)).2 _
  | succ g ih => exact Nat.lt_of_le_of_lt Nat.and_le_left ih
def zStp (X : Nat → Nat → Int) (f : Nat) : Prop := f ≤ 4 ∧ (f = 4 ∨ zSe X 0 f (zPth X f)) ∧ ∀ g : Nat, g < f → ¬ zSe X 0 g (zPth X g)

set_option maxHeartbeats 4000000 in
set_option maxRecDepth 100000 in
/-- needNode -/
theorem c_X7_needNode (l : Launch) (G : zG) (ad : Nat → Nat) (X : Nat → Nat → Int) (k : Nat) (hk : (k : Int) < X 61 5 ∧ X 61 5 ≤ 1024) : zR l G yX7_needNode wsX7_needNode { frames := 0, cells := 0, slots := 0, locals := 0 } (zpic G ad X) [.ref (ad 61), .int (zi (k : Int))] (zn G ad X) 0 0 := by
  refine zR_of (cc := cX7_needNode) (maxL := 2) (rt := none) (by decide) rfl (Nat.le_of_ble_eq_true rfl) ?_
  intro p e s m below meth c A ls hx hb hml hr hts hown hlocks hin0 hA hE hP hD hS hl
  have hl : lv_has ls 2 [(0, .ref (ad 61)), (1, .int (zi (k : Int)))] := hl
  have hown : s.vm.findClass RX7 = some m.cls := hown
  have hw5 : ∀ w ∈ u_ws RX5 TX5 7, w ∈ wsX7_needNode := by decide +kernel
  have hf193 := hts (.fieldLink RX7 193 "Nettle$Tree" "count" "I") (by decide +kernel)
  refine lv_iload_n hx hb dX7_needNode_0 rfl (lv_at hl 1 rfl) ?_
  refine z0_lt (tgt := 12) hx hb dX7_needNode_1 (by decide) (by omega) (fun h9 => by exfalso; omega) (fun h1 => ?_)
  refine lv_iload_n hx hb dX7_needNode_4 rfl (lv_at hl 1 rfl) ?_
  refine lv_aload_n hx hb dX7_needNode_5 rfl (lv_at hl 0 rfl) ?_
  refine va_get (D := G.1) (ci := 5) (v := .int (zi (X 61 5))) (C := RX5) (T := TX5) (N := 7) hx hb hts hw5 hown hE.1 hP 61 p_61 rfl 5 (by decide) hf193 (fun _ h9 => h9) rfl dX7_needNode_6 ?_
  refine zc_lt (tgt := 23) hx hb dX7_needNode_9 (by decide) (by omega) (by omega) (fun h9 => ?_) (fun h9 => by exfalso; omega)
  exact zend_v hx hb hr hlocks hP hD hS (Nat.le_of_ble_eq_true rfl) (Nat.le_of_ble_eq_true rfl) dX7_needNode_23 ⟨rfl, rfl⟩

set_option maxHeartbeats 4000000 in
set_option maxRecDepth 100000 in
/-- quarrels -/
theorem c_X7_quarrels (l : Launch) (G : zG) (ad : Nat → Nat) (X : Nat → Nat → Int) (hV : zV X) : zR l G yX7_quarrels wsX7_quarrels { frames := 3, cells := 0, slots := 0, locals := 61 } (zpic G ad X) [.ref (ad 52)] (zq G ad X (fun w => w = zQu X (zN X 0))) 0 0 := by
  refine zR_of (cc := cX7_quarrels) (maxL := 4) (rt := (some .int)) (by decide) rfl (Nat.le_of_ble_eq_true rfl) ?_
  intro p e s m below meth c A ls hx hb hml hr hts hown hlocks hin0 hA hE hP hD hS hl
  have hl : lv_has ls 4 [(0, .ref (ad 52))] := hl
  have hown : s.vm.findClass RX7 = some m.cls := hown
  have hn := hV.n (Or.inl rfl : zIsW 0)
  have hw7 : ∀ w ∈ u_ws RX7 TX7 8, w ∈ wsX7_quarrels := by decide +kernel
  have hf10 := hts (.fieldLink RX7 10 "Nettle" "wall" "LNettle$Wall;") (by decide +kernel)
  have hw6 : ∀ w ∈ u_ws RX6 TX6 3, w ∈ wsX7_quarrels := by decide +kernel
  have hf70 := hts (.fieldLink RX7 70 "Nettle$Wall" "count" "I") (by decide +kernel)
  have hf104 := hts (.fieldLink RX7 104 "Nettle$Wall" "rows" "[LNettle$Rule;") (by decide +kernel)
  refine lv_iconst (v := zi 0) hx hb dX7_quarrels_0 rfl ?_
  refine lv_istore_n (lv' := [(1, .int (zi 0)), (0, .ref (ad 52))]) hx hb dX7_quarrels_1 rfl hl (by decide) rfl (fun ls hl => ?_)
  refine lv_iconst (v := zi 0) hx hb dX7_quarrels_2 rfl ?_
  refine lv_istore_n (lv' := [(2, .int (zi 0)), (1, .int (zi 0)), (0, .ref (ad 52))]) hx hb dX7_quarrels_3 rfl hl (by decide) rfl (fun ls hl => ?_)
  refine zloop2 (fun (k : Nat) (p : Int) => 8 - k) (fun (k : Nat) (p : Int) (H : Heap) (locs : List Loc) (ls : Array Slot) => va_P G.1 vwCl (zpic G ad X) H ∧ va_D A (zpic G ad X) ∧ va_S A s.heap H locs ∧ lv_has ls 4 [(2, .int (zi (k : Int))), (1, .int (zi p)), (0, .ref (ad 52))] ∧ (k ≤ zN X 0) ∧ (p = zQu X k)) ?_ 0 0 ⟨hP, hD, hS, lv_sub hl [0, 1, 2] rfl, (by omega), rfl⟩
  intro k p ih H locs ls ⟨hP, hD, hS, hl, hk, hp⟩
  refine lv_iload_n hx hb dX7_quarrels_4 rfl (lv_at hl 0 rfl) ?_
  refine lv_aload_n hx hb dX7_quarrels_5 rfl (lv_at hl 2 rfl) ?_
  refine va_get (D := G.1) (ci := 7) (v := .ref (ad 0)) (C := RX7) (T := TX7) (N := 8) hx hb hts hw7 hown hE.1 hP 52 p_52 rfl 0 (by decide) hf10 (fun _ h9 => h9) rfl dX7_quarrels_6 ?_
  refine va_get (D := G.1) (ci := 6) (v := .int (zi (X 0 1))) (C := RX6) (T := TX6) (N := 3) hx hb hts hw6 hown hE.1 hP 0 (p_w (Or.inl rfl)) rfl 1 (by decide) hf70 (fun _ h9 => h9) rfl dX7_quarrels_9 ?_
  refine zc_ge (tgt := 69) hx hb dX7_quarrels_12 (by decide) (by omega) (by omega) (fun h12 => ?_) (fun h12 => ?_)
  · refine lv_iload_n hx hb dX7_quarrels_69 rfl (lv_at hl 1 rfl) ?_
    exact zend_i hx hb hr hlocks hP hD hS (Nat.le_of_ble_eq_true rfl) (Nat.le_of_ble_eq_true rfl) dX7_quarrels_70 ⟨_, rfl, (by have hkn : k = zN X 0 := (by omega); rw [hp, hkn]), rfl⟩
  · refine lv_iload_n hx hb dX7_quarrels_15 rfl (lv_at hl 0 rfl) ?_
    refine lv_iconst (v := zi 1) hx hb dX7_quarrels_16 rfl ?_
    refine lv_iadd hx hb dX7_quarrels_17 (zti (v := zi ((k : Int) + 1)) (zi_add _ _) ?_)
    refine lv_istore_n (lv' := [(3, .int (zi ((k : Int) + 1))), (2, .int (zi (k : Int))), (1, .int (zi p)), (0, .ref (ad 52))]) hx hb dX7_quarrels_18 rfl hl (by decide) rfl (fun ls hl => ?_)
    refine zloop2 (fun (j : Nat) (q : Int) => 9 - j) (fun (j : Nat) (q : Int) (H : Heap) (locs : List Loc) (ls : Array Slot) => va_P G.1 vwCl (zpic G ad X) H ∧ va_D A (zpic G ad X) ∧ va_S A s.heap H locs ∧ lv_has ls 4 [(3, .int (zi (j : Int))), (2, .int (zi (k : Int))), (1, .int (zi q)), (0, .ref (ad 52))] ∧ (k < j ∧ j ≤ zN X 0) ∧ (q = zQu X k + zQa X 0 k j)) ?_ (k + 1) p ⟨hP, hD, hS, lv_sub hl [0, 1, 2, 3] rfl, (by omega), (by rw [zQa_start, hp, Int.add_zero])⟩
    intro j q ih19 H locs ls ⟨hP, hD, hS, hl, hj, hq⟩
    refine lv_iload_n hx hb dX7_quarrels_19 rfl (lv_at hl 0 rfl) ?_
    refine lv_aload_n hx hb dX7_quarrels_20 rfl (lv_at hl 3 rfl) ?_
    refine va_get (D := G.1) (ci := 7) (v := .ref (ad 0)) (C := RX7) (T := TX7) (N := 8) hx hb hts hw7 hown hE.1 hP 52 p_52 rfl 0 (by decide) hf10 (fun _ h9 => h9) rfl dX7_quarrels_21 ?_
    refine va_get (D := G.1) (ci := 6) (v := .int (zi (X 0 1))) (C := RX6) (T := TX6) (N := 3) hx hb hts hw6 hown hE.1 hP 0 (p_w (Or.inl rfl)) rfl 1 (by decide) hf70 (fun _ h9 => h9) rfl dX7_quarrels_24 ?_
    refine zc_ge (tgt := 63) hx hb dX7_quarrels_27 (by decide) (by omega) (by omega) (fun h27 => ?_) (fun h27 => ?_)
    · refine lv_iinc (v := zi ((k : Int) + 1)) (lv' := [(2, .int (zi ((k : Int) + 1))), (3, .int (zi (j : Int))), (1, .int (zi q)), (0, .ref (ad 52))]) hx hb dX7_quarrels_63 hl (k := 1) rfl (zi_add _ _) (by decide) rfl (fun ls hl => ?_)
      refine lv_goto (tgt := 4) hx hb dX7_quarrels_66 (by decide) ?_
      exact ih (k + 1) q (by omega) H locs ls ⟨hP, hD, hS, lv_sub hl [0, 2, 3] rfl, (by omega), (by have hjn : j = zN X 0 := (by omega); rw [hq, hjn, zQu_step])⟩
    · refine lv_aload_n hx hb dX7_quarrels_30 rfl (lv_at hl 3 rfl) ?_
      refine va_get (D := G.1) (ci := 7) (v := .ref (ad 0)) (C := RX7) (T := TX7) (N := 8) hx hb hts hw7 hown hE.1 hP 52 p_52 rfl 0 (by decide) hf10 (fun _ h9 => h9) rfl dX7_quarrels_31 ?_
      refine va_get (D := G.1) (ci := 6) (v := .ref (ad 1)) (C := RX6) (T := TX6) (N := 3) hx hb hts hw6 hown hE.1 hP 0 (p_w (Or.inl rfl)) rfl 0 (by decide) hf104 (fun _ h9 => h9) rfl dX7_quarrels_34 ?_
      refine lv_iload_n hx hb dX7_quarrels_37 rfl (lv_at hl 1 rfl) ?_
      refine zqld hx hb hE hP (Or.inl rfl) k rfl (by omega) dX7_quarrels_38 ?_
      have hR1 : zIsR (zr X 0 k) := hV.isR (Or.inl rfl) (by omega)
      refine lv_aload_n hx hb dX7_quarrels_39 rfl (lv_at hl 3 rfl) ?_
      refine va_get (D := G.1) (ci := 7) (v := .ref (ad 0)) (C := RX7) (T := TX7) (N := 8) hx hb hts hw7 hown hE.1 hP 52 p_52 rfl 0 (by decide) hf10 (fun _ h9 => h9) rfl dX7_quarrels_40 ?_
      refine va_get (D := G.1) (ci := 6) (v := .ref (ad 1)) (C := RX6) (T := TX6) (N := 3) hx hb hts hw6 hown hE.1 hP 0 (p_w (Or.inl rfl)) rfl 0 (by decide) hf104 (fun _ h9 => h9) rfl dX7_quarrels_43 ?_
      refine lv_iload_n hx hb dX7_quarrels_46 rfl (lv_at hl 0 rfl) ?_
      refine zqld hx hb hE hP (Or.inl rfl) j rfl (by omega) dX7_quarrels_47 ?_
      have hR2 : zIsR (zr X 0 j) := hV.isR (Or.inl rfl) (by omega)
      refine zcall (wr := []) (va_runV (As := [.ref (ad (zr X 0 j))]) (rest := []) ⟨hx, hb, hml, hown, hts⟩ (c_X3_isAgainst l G ad X (zr X 0 k) (zr X 0 j) hV hR1 hR2 H.size) (cwV 1 hts gX7_quarrels_X3_isAgainst rfl rfl rfl (by decide +kernel) ⟨Nat.le_of_ble_eq_true rfl, Nat.le_of_ble_eq_true rfl⟩) (zPreV (wr := []) (wc := zpic G ad X) (q0 := (zr X 0 k)) (ci := 3) (q := (RX3, TX3, 4)) hP hD hE hS hA rfl (p_r hR1)) rfl rfl hl.1 rfl (lv_room (Nat.le_of_ble_eq_true rfl)) dX7_quarrels_48 ⟨Nat.le_of_ble_eq_true rfl, Nat.le_of_ble_eq_true rfl⟩) hP hD hS hA (fun _ _ H locs hf hP hD hS => ?_)
      obtain ⟨v1, rfl, hv1, rfl⟩ := hf
      have hP : va_P G.1 vwCl (zpic G ad X) H := hP
      have hD : va_D A (zpic G ad X) := hD
      refine W.eq (g2 := F0 m 51 ls [.int (zi v1)]) rfl ?_
      refine z0_eq (tgt := 57) hx hb dX7_quarrels_51 (by decide) (by omega) (fun h51 => ?_) (fun h51 => ?_)
      · refine lv_iinc (v := zi ((j : Int) + 1)) (lv' := [(3, .int (zi ((j : Int) + 1))), (2, .int (zi (k : Int))), (1, .int (zi q)), (0, .ref (ad 52))]) hx hb dX7_quarrels_57 hl (k := 0) rfl (zi_add _ _) (by decide) rfl (fun ls hl => ?_)
        refine lv_goto (tgt := 19) hx hb dX7_quarrels_60 (by decide) ?_
        exact ih19 (j + 1) q (by omega) H locs ls ⟨hP, hD, hS, lv_sub hl [0, 1, 2, 3] rfl, (by omega), (by rw [zQa_no (by rcases hv1 with h | h; omega; exact h.2)]; exact hq)⟩
      · refine lv_iinc (v := zi (q + 1)) (lv' := [(1, .int (zi (q + 1))), (3, .int (zi (j : Int))), (2, .int (zi (k : Int))), (0, .ref (ad 52))]) hx hb dX7_quarrels_54 hl (k := 2) rfl (zi_add _ _) (by decide) rfl (fun ls hl => ?_)
        refine lv_iinc (v := zi ((j : Int) + 1)) (lv' := [(3, .int (zi ((j : Int) + 1))), (1, .int (zi (q + 1))), (2, .int (zi (k : Int))), (0, .ref (ad 52))]) hx hb dX7_quarrels_57 hl (k := 1) rfl (zi_add _ _) (by decide) rfl (fun ls hl => ?_)
        refine lv_goto (tgt := 19) hx hb dX7_quarrels_60 (by decide) ?_
        exact ih19 (j + 1) (q + 1) (by omega) H locs ls ⟨hP, hD, hS, lv_sub hl [0, 2, 1, 3] rfl, (by omega), (by rw [zQa_yes hj.1 (by rcases hv1 with h | h; exact h.2; omega), hq]; omega)⟩

set_option maxHeartbeats 4000000 in
set_option maxRecDepth 100000 in
/-- steps -/
theorem c_X7_steps (l : Launch) (G : zG) (ad : Nat → Nat) (X : Nat → Nat → Int) (p0 : Int) (p1 : Int) (p2 : Int) (p3 : Int) (hV : zV X) (hp0 : 0 ≤ p0 ∧ p0 < 256) (hp1 : 0 ≤ p1 ∧ p1 < 256) (hp2 : 0 ≤ p2 ∧ p2 < 1024) (hp3 : 0 ≤ p3 ∧ p3 < 4) : zR l G yX7_steps wsX7_steps { frames := 2, cells := 0, slots := 0, locals := 46 } (zpic G ad X) [.ref (ad 52), .int (zi p0), .int (zi p1), .int (zi p2), .int (zi p3)] (zu G ad (fun w Y => Y = zw (zw (zw (zw X 70 0 p0) 70 1 p1) 70 2 p2) 70 3 p3 ∧ ∃ f : Nat, w = (f : Int) ∧ zStp Y f)) 0 0 := by
  refine zR_of (cc := cX7_steps) (maxL := 8) (rt := (some .int)) (by decide) rfl (Nat.le_of_ble_eq_true rfl) ?_
  intro p e s m below meth c A ls hx hb hml hr hts hown hlocks hin0 hA hE hP hD hS hl
  have hl : lv_has ls 8 [(0, .ref (ad 52)), (1, .int (zi p0)), (2, .int (zi p1)), (3, .int (zi p2)), (4, .int (zi p3))] := hl
  have hown : s.vm.findClass RX7 = some m.cls := hown
  have hw7 : ∀ w ∈ u_ws RX7 TX7 8, w ∈ wsX7_steps := by decide +kernel
  have hf10 := hts (.fieldLink RX7 10 "Nettle" "wall" "LNettle$Wall;") (by decide +kernel)
  have hf62 := hts (.fieldLink RX7 62 "Nettle" "packet" "[I") (by decide +kernel)
  refine lv_aload_n hx hb dX7_steps_0 rfl (lv_at hl 0 rfl) ?_
  refine lv_iload_n hx hb dX7_steps_1 rfl (lv_at hl 1 rfl) ?_
  refine lv_iload_n hx hb dX7_steps_2 rfl (lv_at hl 2 rfl) ?_
  refine lv_iload_n hx hb dX7_steps_3 rfl (lv_at hl 3 rfl) ?_
  refine lv_iload hx hb dX7_steps_4 (lv_at hl 4 rfl) ?_
  refine zcall (wr := []) (va_runV (As := [.int (zi p0), .int (zi p1), .int (zi p2), .int (zi p3)]) (rest := []) ⟨hx, hb, hml, hown, hts⟩ (c_X7_takePacket l G ad X p0 p1 p2 p3 (by omega) (by omega) (by omega) (by omega) s.heap.size) (cwV 4 hts gX7_steps_X7_takePacket rfl rfl rfl (by decide +kernel) ⟨Nat.le_of_ble_eq_true rfl, Nat.le_of_ble_eq_true rfl⟩) (zPreV (wr := []) (wc := zpic G ad X) (q0 := 52) (ci := 7) (q := (RX7, TX7, 8)) hP hD hE hS hA rfl p_52) rfl rfl hl.1 rfl (lv_room (Nat.le_of_ble_eq_true rfl)) dX7_steps_6 ⟨Nat.le_of_ble_eq_true rfl, Nat.le_of_ble_eq_true rfl⟩) hP hD hS hA (fun _ _ H locs hf hP hD hS => ?_)
  obtain ⟨X1, rfl, hX1, rfl⟩ := hf
  have hP : va_P G.1 vwCl (zpic G ad X1) H := hP
  have hD : va_D A (zpic G ad X1) := hD
  refine W.eq (g2 := F0 m 9 ls []) rfl ?_
  have hV1 : zV X1 := hV.eq (fun k h9 => by rw [hX1, zw_cell (by omega), zw_cell (by omega), zw_cell (by omega), zw_cell (by omega)])
  have hp : zPk X1 := by rw [hX1]; exact zPkt hp0 hp1 hp2 hp3
  have hn := hV1.n (Or.inl rfl : zIsW 0)
  refine lv_aload_n hx hb dX7_steps_9 rfl (lv_at hl 0 rfl) ?_
  refine va_get (D := G.1) (ci := 7) (v := .ref (ad 0)) (C := RX7) (T := TX7) (N := 8) hx hb hts hw7 hown hE.1 hP 52 p_52 rfl 0 (by decide) hf10 (fun _ h9 => h9) rfl dX7_steps_10 ?_
  refine zcall (wr := []) (va_runV (As := []) (rest := []) ⟨hx, hb, hml, hown, hts⟩ (c_X6_deciders l G ad X1 0 hV1 (Or.inl rfl) H.size) (cwV 0 hts gX7_steps_X6_deciders rfl rfl rfl (by decide +kernel) ⟨Nat.le_of_ble_eq_true rfl, Nat.le_of_ble_eq_true rfl⟩) (zPreV (wr := []) (wc := zpic G ad X1) (q0 := 0) (ci := 6) (q := (RX6, TX6, 3)) hP hD hE hS hA rfl (p_w (Or.inl rfl))) rfl rfl hl.1 rfl (lv_room (Nat.le_of_ble_eq_true rfl)) dX7_steps_13 ⟨Nat.le_of_ble_eq_true rfl, Nat.le_of_ble_eq_true rfl⟩) hP hD hS hA (fun _ _ H locs hf hP hD hS => ?_)
  obtain ⟨v1, rfl, hv1, rfl⟩ := hf
  have hP : va_P G.1 vwCl (zpic G ad X1) H := hP
  have hD : va_D A (zpic G ad X1) := hD
  refine W.eq (g2 := F0 m 16 ls [.int (zi v1)]) rfl ?_
  rw [hv1]
  refine lv_istore (lv' := [(5, .int (zi (zDec X1 0 : Int))), (0, .ref (ad 52)), (1, .int (zi p0)), (2, .int (zi p1)), (3, .int (zi p2)), (4, .int (zi p3))]) hx hb dX7_steps_16 hl (by decide) rfl (fun ls hl => ?_)
  refine lv_iconst (v := zi 0) hx hb dX7_steps_18 rfl ?_
  refine lv_istore (lv' := [(6, .int (zi 0)), (5, .int (zi (zDec X1 0 : Int))), (0, .ref (ad 52)), (1, .int (zi p0)), (2, .int (zi p1)), (3, .int (zi p2)), (4, .int (zi p3))]) hx hb dX7_steps_19 hl (by decide) rfl (fun ls hl => ?_)
  refine lv_iconst (v := zi 0) hx hb dX7_steps_21 rfl ?_
  refine lv_istore (lv' := [(7, .int (zi 0)), (6, .int (zi 0)), (5, .int (zi (zDec X1 0 : Int))), (0, .ref (ad 52)), (1, .int (zi p0)), (2, .int (zi p1)), (3, .int (zi p2)), (4, .int (zi p3))]) hx hb dX7_steps_22 hl (by decide) rfl (fun ls hl => ?_)
  refine zloop1 (fun (f : Nat) => 4 - f) (fun (f : Nat) (H : Heap) (locs : List Loc) (ls : Array Slot) => va_P G.1 vwCl (zpic G ad X1) H ∧ va_D A (zpic G ad X1) ∧ va_S A s.heap H locs ∧ lv_has ls 8 [(7, .int (zi (f : Int))), (6, .int (zi (f : Int))), (5, .int (zi (zPth X1 f : Int))), (0, .ref (ad 52))] ∧ (f ≤ 4) ∧ (∀ g : Nat, g < f → ¬ zSe X1 0 g (zPth X1 g))) ?_ 0 ⟨hP, hD, hS, lv_sub hl [0, 1, 2, 3] rfl, (by omega), (fun j h1 => by omega)⟩
  intro f ih H locs ls ⟨hP, hD, hS, hl, hf, hw⟩
  refine lv_iload hx hb dX7_steps_24 (lv_at hl 0 rfl) ?_
  refine lv_iconst (v := zi 4) hx hb dX7_steps_26 rfl ?_
  refine zc_ge (tgt := 77) hx hb dX7_steps_27 (by decide) (by omega) (by decide) (fun h27 => ?_) (fun h27 => ?_)
  · refine lv_iload hx hb dX7_steps_77 (lv_at hl 1 rfl) ?_
    exact zend_i hx hb hr hlocks hP hD hS (Nat.le_of_ble_eq_true rfl) (Nat.le_of_ble_eq_true rfl) dX7_steps_79 ⟨_, _, rfl, ⟨hX1, f, rfl, by omega, Or.inl (by omega), hw⟩, rfl⟩
  · refine lv_aload_n hx hb dX7_steps_30 rfl (lv_at hl 3 rfl) ?_
    refine va_get (D := G.1) (ci := 7) (v := .ref (ad 0)) (C := RX7) (T := TX7) (N := 8) hx hb hts hw7 hown hE.1 hP 52 p_52 rfl 0 (by decide) hf10 (fun _ h9 => h9) rfl dX7_steps_31 ?_
    refine lv_iload hx hb dX7_steps_34 (lv_at hl 0 rfl) ?_
    refine lv_iload hx hb dX7_steps_36 (lv_at hl 2 rfl) ?_
    refine zcall (wr := []) (va_runV (As := [.int (zi (f : Int)), .int (zi (zPth X1 f : Int))]) (rest := []) ⟨hx, hb, hml, hown, hts⟩ (c_X6_isSettled l G ad X1 0 f (zPth X1 f) hV1 (Or.inl rfl) (by omega) (zPth_lt X1 hV1 f) H.size) (cwV 2 hts gX7_steps_X6_isSettled rfl rfl rfl (by decide +kernel) ⟨Nat.le_of_ble_eq_true rfl, Nat.le_of_ble_eq_true rfl⟩) (zPreV (wr := []) (wc := zpic G ad X1) (q0 := 0) (ci := 6) (q := (RX6, TX6, 3)) hP hD hE hS hA rfl (p_w (Or.inl rfl))) rfl rfl hl.1 rfl (lv_room (Nat.le_of_ble_eq_true rfl)) dX7_steps_38 ⟨Nat.le_of_ble_eq_true rfl, Nat.le_of_ble_eq_true rfl⟩) hP hD hS hA (fun _ _ H locs hf hP hD hS => ?_)
    obtain ⟨v2, rfl, hv2, rfl⟩ := hf
    have hP : va_P G.1 vwCl (zpic G ad X1) H := hP
    have hD : va_D A (zpic G ad X1) := hD
    refine W.eq (g2 := F0 m 41 ls [.int (zi v2)]) rfl ?_
    refine z0_eq (tgt := 47) hx hb dX7_steps_41 (by decide) (by omega) (fun h41 => ?_) (fun h41 => ?_)
    · have hpf := hp f (by omega)
      have hsf := zS_le f
      refine lv_iinc (v := zi ((f : Int) + 1)) (lv' := [(6, .int (zi ((f : Int) + 1))), (7, .int (zi (f : Int))), (5, .int (zi (zPth X1 f : Int))), (0, .ref (ad 52))]) hx hb dX7_steps_47 hl (k := 1) rfl (zi_add _ _) (by decide) rfl (fun ls hl => ?_)
      refine lv_iload hx hb dX7_steps_50 (lv_at hl 2 rfl) ?_
      refine lv_aload_n hx hb dX7_steps_52 rfl (lv_at hl 3 rfl) ?_
      refine va_get (D := G.1) (ci := 7) (v := .ref (ad 0)) (C := RX7) (T := TX7) (N := 8) hx hb hts hw7 hown hE.1 hP 52 p_52 rfl 0 (by decide) hf10 (fun _ h9 => h9) rfl dX7_steps_53 ?_
      refine lv_iload hx hb dX7_steps_56 (lv_at hl 1 rfl) ?_
      refine lv_aload_n hx hb dX7_steps_58 rfl (lv_at hl 3 rfl) ?_
      refine va_get (D := G.1) (ci := 7) (v := .ref (ad 70)) (C := RX7) (T := TX7) (N := 8) hx hb hts hw7 hown hE.1 hP 52 p_52 rfl 7 (by decide) hf62 (fun _ h9 => h9) rfl dX7_steps_59 ?_
      refine lv_iload hx hb dX7_steps_62 (lv_at hl 1 rfl) ?_
      refine zild hx hb hE hP 70 4 (fun _ => rfl) (by decide) f rfl (by omega) (by decide) dX7_steps_64 ?_
      refine zcall (wr := []) (va_runV (As := [.int (zi (f : Int)), .int (zi (X1 70 f))]) (rest := [.int (zi (zPth X1 f : Int))]) ⟨hx, hb, hml, hown, hts⟩ (c_X6_having l G ad X1 0 f (X1 70 f) hV1 (Or.inl rfl) (by omega) (by omega) H.size) (cwV 2 hts gX7_steps_X6_having rfl rfl rfl (by decide +kernel) ⟨Nat.le_of_ble_eq_true rfl, Nat.le_of_ble_eq_true rfl⟩) (zPreV (wr := []) (wc := zpic G ad X1) (q0 := 0) (ci := 6) (q := (RX6, TX6, 3)) hP hD hE hS hA rfl (p_w (Or.inl rfl))) rfl rfl hl.1 rfl (lv_room (Nat.le_of_ble_eq_true rfl)) dX7_steps_65 ⟨Nat.le_of_ble_eq_true rfl, Nat.le_of_ble_eq_true rfl⟩) hP hD hS hA (fun _ _ H locs hf hP hD hS => ?_)
      obtain ⟨v3, rfl, hv3, rfl⟩ := hf
      have hP : va_P G.1 vwCl (zpic G ad X1) H := hP
      have hD : va_D A (zpic G ad X1) := hD
      refine W.eq (g2 := F0 m 68 ls [.int (zi v3), .int (zi (zPth X1 f : Int))]) rfl ?_
      refine lv_iand hx hb dX7_steps_68 (zti (v := zi ((zPth X1 f &&& zHav X1 0 f (X1 70 f) : Nat) : Int)) (by rw [hv3]; exact zi_and _ _) ?_)
      refine lv_istore (lv' := [(5, .int (zi ((zPth X1 f &&& zHav X1 0 f (X1 70 f) : Nat) : Int))), (6, .int (zi ((f : Int) + 1))), (7, .int (zi (f : Int))), (0, .ref (ad 52))]) hx hb dX7_steps_69 hl (by decide) rfl (fun ls hl => ?_)
      refine lv_iinc (v := zi ((f : Int) + 1)) (lv' := [(7, .int (zi ((f : Int) + 1))), (5, .int (zi ((zPth X1 f &&& zHav X1 0 f (X1 70 f) : Nat) : Int))), (6, .int (zi ((f : Int) + 1))), (0, .ref (ad 52))]) hx hb dX7_steps_71 hl (k := 2) rfl (zi_add _ _) (by decide) rfl (fun ls hl => ?_)
      refine lv_goto (tgt := 24) hx hb dX7_steps_74 (by decide) ?_
      exact ih (f + 1) (by omega) H locs ls ⟨hP, hD, hS, lv_sub hl [0, 2, 1, 3] rfl, (by omega), (fun j h1 => by by_cases hk : j < f; exact hw j hk; have hjk : j = f := (by omega); rw [hjk]; rcases hv2 with h | h; omega; exact h.2)⟩
    · refine lv_goto (tgt := 77) hx hb dX7_steps_44 (by decide) ?_
      refine lv_iload hx hb dX7_steps_77 (lv_at hl 1 rfl) ?_
      exact zend_i hx hb hr hlocks hP hD hS (Nat.le_of_ble_eq_true rfl) (Nat.le_of_ble_eq_true rfl) dX7_steps_79 ⟨_, _, rfl, ⟨hX1, f, rfl, by omega, Or.inr (by rcases hv2 with h | h; exact h.2; omega), hw⟩, rfl⟩
