/-! the Hedge is made -/
theorem dX8_init_0 : decode cX8_init 0 = .ok (.aload_n 0, 1) := by decide +kernel
theorem dX8_init_1 : decode cX8_init 1 = .ok (.invokespecial 1, 3) := by decide +kernel
theorem dX8_init_4 : decode cX8_init 4 = .ok (.aload_n 0, 1) := by decide +kernel
theorem dX8_init_5 : decode cX8_init 5 = .ok (.new 7, 3) := by decide +kernel
theorem dX8_init_8 : decode cX8_init 8 = .ok (.dup, 1) := by decide +kernel
set_option maxRecDepth 20000 in
theorem ggX8_init_X7_init : GoodIn wsX8_init wsX7_init := goodIn_r _ [18, 19, 2, 3, 20, 21, 22, 23, 24, 25, 26, 27, 28, 29, 30, 31, 32, 33, 34, 35, 36, 37, 38, 39, 40, 41, 42, 43, 44, 15, 45, 46, 47, 48, 49, 50, 51, 52, 53, 54, 55, 56, 57, 58, 59, 60, 61, 62, 63, 64, 65, 66, 67, 68, 69, 70, 71, 72, 73, 74, 75, 76, 77, 78, 79, 80, 81, 82, 83, 84, 85, 86, 87, 88, 89, 90, 91, 92, 93, 94, 95, 96, 97, 128, 129, 130, 110, 111, 112, 113, 114, 115, 116, 117, 131, 132, 133, 134, 135, 136, 137, 138, 139, 140, 141, 142, 143, 144, 145, 146, 147, 148, 149, 150, 151, 152, 153, 154, 155, 156, 157, 158, 159, 160, 161, 162, 163, 164, 165] (by decide +kernel) (by decide +kernel)
set_option maxRecDepth 20000 in
theorem gX8_init_X7_init : GoodIn wsX8_init (wsX7_init) := ggX8_init_X7_init
theorem dX8_init_9 : decode cX8_init 9 = .ok (.invokespecial 9, 3) := by decide +kernel
theorem dX8_init_12 : decode cX8_init 12 = .ok (.putfield 10, 3) := by decide +kernel
theorem dX8_init_15 : decode cX8_init 15 = .ok (.aload_n 0, 1) := by decide +kernel
theorem dX8_init_16 : decode cX8_init 16 = .ok (.iconst 4, 1) := by decide +kernel
theorem dX8_init_17 : decode cX8_init 17 = .ok (.anewarray 16, 3) := by decide +kernel
theorem dX8_init_20 : decode cX8_init 20 = .ok (.putfield 18, 3) := by decide +kernel
theorem dX8_init_23 : decode cX8_init 23 = .ok (.aload_n 0, 1) := by decide +kernel
theorem dX8_init_24 : decode cX8_init 24 = .ok (.iconst 0, 1) := by decide +kernel
theorem dX8_init_25 : decode cX8_init 25 = .ok (.anewarray 16, 3) := by decide +kernel
theorem dX8_init_28 : decode cX8_init 28 = .ok (.putfield 22, 3) := by decide +kernel
theorem dX8_init_31 : decode cX8_init 31 = .ok (.aload_n 0, 1) := by decide +kernel
theorem dX8_init_32 : decode cX8_init 32 = .ok (.iconst 0, 1) := by decide +kernel
theorem dX8_init_33 : decode cX8_init 33 = .ok (.anewarray 16, 3) := by decide +kernel
theorem dX8_init_36 : decode cX8_init 36 = .ok (.putfield 25, 3) := by decide +kernel
theorem dX8_init_39 : decode cX8_init 39 = .ok (.aload_n 0, 1) := by decide +kernel
theorem dX8_init_40 : decode cX8_init 40 = .ok (.sipush 300, 3) := by decide +kernel
theorem dX8_init_43 : decode cX8_init 43 = .ok (.anewarray 16, 3) := by decide +kernel
theorem dX8_init_46 : decode cX8_init 46 = .ok (.putfield 28, 3) := by decide +kernel
theorem dX8_init_49 : decode cX8_init 49 = .ok (.aload_n 0, 1) := by decide +kernel
theorem dX8_init_50 : decode cX8_init 50 = .ok (.aload_n 1, 1) := by decide +kernel
theorem dX8_init_51 : decode cX8_init 51 = .ok (.putfield 31, 3) := by decide +kernel
theorem dX8_init_54 : decode cX8_init 54 = .ok (.aload_n 0, 1) := by decide +kernel
theorem dX8_init_55 : decode cX8_init 55 = .ok (.iload_n 2, 1) := by decide +kernel
theorem dX8_init_56 : decode cX8_init 56 = .ok (.putfield 34, 3) := by decide +kernel
theorem dX8_init_59 : decode cX8_init 59 = .ok (.iconst 0, 1) := by decide +kernel
theorem dX8_init_60 : decode cX8_init 60 = .ok (.istore_n 3, 1) := by decide +kernel
theorem dX8_init_61 : decode cX8_init 61 = .ok (.iload_n 3, 1) := by decide +kernel
theorem dX8_init_62 : decode cX8_init 62 = .ok (.iconst 4, 1) := by decide +kernel
theorem dX8_init_63 : decode cX8_init 63 = .ok (.if_icmp .ge 139, 3) := by decide +kernel
theorem dX8_init_66 : decode cX8_init 66 = .ok (.iload_n 3, 1) := by decide +kernel
theorem dX8_init_67 : decode cX8_init 67 = .ok (.iconst 2, 1) := by decide +kernel
theorem dX8_init_68 : decode cX8_init 68 = .ok (.if_icmp .ge 9, 3) := by decide +kernel
theorem dX8_init_71 : decode cX8_init 71 = .ok (.sipush 256, 3) := by decide +kernel
theorem dX8_init_74 : decode cX8_init 74 = .ok (.goto 15, 3) := by decide +kernel
theorem dX8_init_89 : decode cX8_init 89 = .ok (.istore 4, 2) := by decide +kernel
theorem dX8_init_91 : decode cX8_init 91 = .ok (.iload_n 3, 1) := by decide +kernel
theorem dX8_init_92 : decode cX8_init 92 = .ok (.iconst 3, 1) := by decide +kernel
theorem dX8_init_93 : decode cX8_init 93 = .ok (.if_icmp .ge 7, 3) := by decide +kernel
theorem dX8_init_96 : decode cX8_init 96 = .ok (.iconst 4, 1) := by decide +kernel
theorem dX8_init_97 : decode cX8_init 97 = .ok (.goto 4, 3) := by decide +kernel
theorem dX8_init_101 : decode cX8_init 101 = .ok (.istore 5, 2) := by decide +kernel
theorem dX8_init_103 : decode cX8_init 103 = .ok (.iload 5, 2) := by decide +kernel
theorem dX8_init_105 : decode cX8_init 105 = .ok (.iconst 2, 1) := by decide +kernel
theorem dX8_init_106 : decode cX8_init 106 = .ok (.iadd, 1) := by decide +kernel
theorem dX8_init_107 : decode cX8_init 107 = .ok (.newarray .int, 2) := by decide +kernel
theorem dX8_init_109 : decode cX8_init 109 = .ok (.astore 6, 2) := by decide +kernel
theorem dX8_init_111 : decode cX8_init 111 = .ok (.iconst 1, 1) := by decide +kernel
theorem dX8_init_112 : decode cX8_init 112 = .ok (.istore 7, 2) := by decide +kernel
theorem dX8_init_114 : decode cX8_init 114 = .ok (.iload 7, 2) := by decide +kernel
theorem dX8_init_116 : decode cX8_init 116 = .ok (.iload 5, 2) := by decide +kernel
theorem dX8_init_118 : decode cX8_init 118 = .ok (.if_icmp .gt 61, 3) := by decide +kernel
theorem dX8_init_121 : decode cX8_init 121 = .ok (.aload 6, 2) := by decide +kernel
theorem dX8_init_123 : decode cX8_init 123 = .ok (.iload 7, 2) := by decide +kernel
theorem dX8_init_125 : decode cX8_init 125 = .ok (.aload 6, 2) := by decide +kernel
theorem dX8_init_127 : decode cX8_init 127 = .ok (.iload 7, 2) := by decide +kernel
theorem dX8_init_129 : decode cX8_init 129 = .ok (.iconst 1, 1) := by decide +kernel
theorem dX8_init_130 : decode cX8_init 130 = .ok (.isub, 1) := by decide +kernel
theorem dX8_init_131 : decode cX8_init 131 = .ok (.iaload, 1) := by decide +kernel
theorem dX8_init_132 : decode cX8_init 132 = .ok (.iconst 1, 1) := by decide +kernel
theorem dX8_init_133 : decode cX8_init 133 = .ok (.iadd, 1) := by decide +kernel
theorem dX8_init_134 : decode cX8_init 134 = .ok (.aload_n 0, 1) := by decide +kernel
theorem dX8_init_135 : decode cX8_init 135 = .ok (.iload 4, 2) := by decide +kernel
theorem dX8_init_137 : decode cX8_init 137 = .ok (.aload 6, 2) := by decide +kernel
theorem dX8_init_139 : decode cX8_init 139 = .ok (.iload 7, 2) := by decide +kernel
theorem dX8_init_141 : decode cX8_init 141 = .ok (.iconst 1, 1) := by decide +kernel
theorem dX8_init_142 : decode cX8_init 142 = .ok (.isub, 1) := by decide +kernel
theorem dX8_init_143 : decode cX8_init 143 = .ok (.iaload, 1) := by decide +kernel
theorem dX8_init_144 : decode cX8_init 144 = .ok (.isub, 1) := by decide +kernel
theorem dX8_init_145 : decode cX8_init 145 = .ok (.iconst 1, 1) := by decide +kernel
theorem dX8_init_146 : decode cX8_init 146 = .ok (.isub, 1) := by decide +kernel
theorem dX8_init_147 : decode cX8_init 147 = .ok (.iload 5, 2) := by decide +kernel
theorem dX8_init_149 : decode cX8_init 149 = .ok (.iload 7, 2) := by decide +kernel
theorem dX8_init_151 : decode cX8_init 151 = .ok (.isub, 1) := by decide +kernel
theorem dX8_init_152 : decode cX8_init 152 = .ok (.isub, 1) := by decide +kernel
theorem dX8_init_153 : decode cX8_init 153 = .ok (.iconst 1, 1) := by decide +kernel
theorem dX8_init_154 : decode cX8_init 154 = .ok (.isub, 1) := by decide +kernel
theorem dX8_init_155 : decode cX8_init 155 = .ok (.iload_n 3, 1) := by decide +kernel
theorem dX8_init_156 : decode cX8_init 156 = .ok (.iconst 3, 1) := by decide +kernel
theorem dX8_init_157 : decode cX8_init 157 = .ok (.if_icmp .ge 7, 3) := by decide +kernel
theorem dX8_init_160 : decode cX8_init 160 = .ok (.iconst 2, 1) := by decide +kernel
theorem dX8_init_161 : decode cX8_init 161 = .ok (.goto 4, 3) := by decide +kernel
theorem dX8_init_165 : decode cX8_init 165 = .ok (.idiv, 1) := by decide +kernel
theorem dX8_init_166 : decode cX8_init 166 = .ok (.iconst 1, 1) := by decide +kernel
theorem dX8_init_167 : decode cX8_init 167 = .ok (.iadd, 1) := by decide +kernel
set_option maxRecDepth 20000 in
theorem ggX8_init_X8_draw : GoodIn wsX8_init wsX8_draw := goodIn_r _ [102, 13, 14, 103, 104, 105, 106, 107, 108, 109, 118, 119, 120, 121, 122, 123, 124, 125, 126, 127] (by decide +kernel) (by decide +kernel)
set_option maxRecDepth 20000 in
theorem gX8_init_X8_draw : GoodIn wsX8_init (wsV RX8 38 RX8 yX8_draw wsX8_draw) := goodIn_app (goodIn_of _ (by decide +kernel)) ggX8_init_X8_draw
theorem dX8_init_168 : decode cX8_init 168 = .ok (.invokevirtual 38, 3) := by decide +kernel
theorem dX8_init_171 : decode cX8_init 171 = .ok (.iadd, 1) := by decide +kernel
theorem dX8_init_172 : decode cX8_init 172 = .ok (.iastore, 1) := by decide +kernel
theorem dX8_init_173 : decode cX8_init 173 = .ok (.iinc 7 1, 3) := by decide +kernel
theorem dX8_init_176 : decode cX8_init 176 = .ok (.goto (-62), 3) := by decide +kernel
theorem dX8_init_179 : decode cX8_init 179 = .ok (.aload 6, 2) := by decide +kernel
theorem dX8_init_181 : decode cX8_init 181 = .ok (.iload 5, 2) := by decide +kernel
theorem dX8_init_183 : decode cX8_init 183 = .ok (.iconst 1, 1) := by decide +kernel
theorem dX8_init_184 : decode cX8_init 184 = .ok (.iadd, 1) := by decide +kernel
theorem dX8_init_185 : decode cX8_init 185 = .ok (.iload 4, 2) := by decide +kernel
theorem dX8_init_187 : decode cX8_init 187 = .ok (.iastore, 1) := by decide +kernel
theorem dX8_init_188 : decode cX8_init 188 = .ok (.aload_n 0, 1) := by decide +kernel
theorem dX8_init_189 : decode cX8_init 189 = .ok (.getfield 18, 3) := by decide +kernel
theorem dX8_init_192 : decode cX8_init 192 = .ok (.iload_n 3, 1) := by decide +kernel
theorem dX8_init_193 : decode cX8_init 193 = .ok (.aload 6, 2) := by decide +kernel
theorem dX8_init_195 : decode cX8_init 195 = .ok (.aastore, 1) := by decide +kernel
theorem dX8_init_196 : decode cX8_init 196 = .ok (.iinc 3 1, 3) := by decide +kernel
theorem dX8_init_199 : decode cX8_init 199 = .ok (.goto (-138), 3) := by decide +kernel
theorem dX8_init_77 : decode cX8_init 77 = .ok (.iload_n 3, 1) := by decide +kernel
theorem dX8_init_78 : decode cX8_init 78 = .ok (.iconst 2, 1) := by decide +kernel
theorem dX8_init_79 : decode cX8_init 79 = .ok (.if_icmp .ne 9, 3) := by decide +kernel
theorem dX8_init_82 : decode cX8_init 82 = .ok (.sipush 1024, 3) := by decide +kernel
theorem dX8_init_85 : decode cX8_init 85 = .ok (.goto 4, 3) := by decide +kernel
theorem dX8_init_88 : decode cX8_init 88 = .ok (.iconst 4, 1) := by decide +kernel
theorem dX8_init_100 : decode cX8_init 100 = .ok (.iconst 2, 1) := by decide +kernel
theorem dX8_init_164 : decode cX8_init 164 = .ok (.iconst 1, 1) := by decide +kernel
theorem dX8_init_202 : decode cX8_init 202 = .ok (.return_, 1) := by decide +kernel
def zup (x : Nat → Int) (j : Nat) (v : Int) : Nat → Int := fun q => if q = j then v else x q
section ZLI
variable {p : Program} {l : Launch} {e : Env} {R : Room} {s : State} {m : MethodId} {args : Array Value} {below : List Frame} {meth : Method} {c : Code} {H : Heap} {locs : List Loc} {cells slots : Nat} {Q : State → Prop}
variable {cc : ByteArray} {pc : Nat} {ls : Array Slot} {rest st0 : List Value} {G : zG} {A : Nat → Prop} {ws : va_W}
theorem zildL (hx : p.tables.exec = Jvm.exec) (hb : c.code = cc) (hE : zZ G A s s.heap) (hP : va_P G.1 vwCl ws H) (k0 : Nat) {a n : Nat} {x : Nat → Int} (ha : ws[k0]? = some (a, .inl (zci G, n, .inl (fun j => zi (x j))))) {z : Int} (j : Nat) (hz : z = (j : Int)) (hj : j < n) (hn : n ≤ 1024) (hdg : decode cc pc = .ok (.iaload, 1))
    (kk : W p l e R s m args below meth c H locs cells slots Q (F0 m (pc + 1) ls (.int (zi (x j)) :: rest))) : W p l e R s m args below meth c H locs cells slots Q (F0 m pc ls (.int (zi z) :: .ref a :: rest)) := by
  subst hz
  refine va_iald hx hb hE.1 hP k0 0 ha rfl (zi_in (by omega) (by omega) (by omega)) hdg ?_
  have h : (zi (j : Int)).toNatClampNeg = j := by rw [zi_nat (by omega) (by omega)]; rfl
  rw [h]
  exact kk
theorem zistL (hx : p.tables.exec = Jvm.exec) (hb : c.code = cc) (hE : zZ G A s s.heap) (hP : va_P G.1 vwCl ws H) (hD : va_D A ws) (hS : va_S A s.heap H locs) (k0 : Nat) {a n : Nat} {x : Nat → Int} (ha : ws[k0]? = some (a, .inl (zci G, n, .inl (fun j => zi (x j))))) {z v : Int} (j : Nat) (hz : z = (j : Int)) (hj : j < n) (hn : n ≤ 1024) (hdg : decode cc pc = .ok (.iastore, 1))
    (kk : ∀ (H1 : Heap) (locs1 : List Loc), va_P G.1 vwCl (ws.set k0 (a, .inl (zci G, n, .inl (fun q => zi (zup x j v q))))) H1 → va_D A (ws.set k0 (a, .inl (zci G, n, .inl (fun q => zi (zup x j v q))))) → va_S A s.heap H1 locs1 → W p l e R s m args below meth c H1 locs1 cells slots Q (F0 m (pc + 1) ls rest)) : W p l e R s m args below meth c H locs cells slots Q (F0 m pc ls (.int (zi v) :: .int (zi z) :: .ref a :: rest)) := by
  subst hz
  refine va_iast hx hb hE.1 hP hD hS k0 0 ha rfl (zi_in (by omega) (by omega) (by omega)) hdg (fun H1 l1 hP1 hD1 hS1 => ?_)
  have h : (zi (j : Int)).toNatClampNeg = j := by rw [zi_nat (by omega) (by omega)]; rfl
  have e : upd (fun j => zi (x j)) j (zi v) = fun q => zi (zup x j v q) := by
    funext q
    unfold zup
    by_cases hq : q = j
    · subst hq; simp [upd]
    · simp [upd, hq]
  rw [h, e] at hP1 hD1
  exact kk H1 l1 hP1 hD1 hS1
end ZLI
/-- the pieces of a FIELD; where they begin, and the end -/
def zPn (f : Nat) : Nat := if f = 3 then 3 else 5
def zCv (C : Nat → Nat → Int) : Prop := ∀ f : Nat, f < 4 → C f 0 = 0 ∧ C f (zPn f) = zS f ∧ ∀ j : Nat, j < zPn f → C f j < C f (j + 1)
/-- the Hedge's cells: itself, its cuts, its rows -/
def zrw (G : zG) (hr : Nat → Nat) (R : Nat → Nat → Int) (n : Nat) : va_W := (List.range n).map (fun q => (hr q, .inl (zci G, 10, .inl (fun j => zi (R q j)))))
abbrev zhP (G : zG) (ad hd hr : Nat → Nat) (n dr : Nat) (la cl : Int) (C : Nat → Nat → Int) : va_W := [(hd 0, zho G (.ref (ad 52)) dr (.ref (hd 1)) (.ref (hd 6)) (.int (zi la)) (.ref (hd 7)) (.int (zi cl)) (.int (zi 0)) (.ref (hd 8))), (hd 1, .inl (zca G, 4, .inr (.inr (.inr (.inr (fun q => some (hd (2 + q)))))))), (hd 2, .inl (zci G, 6, .inl (fun j => zi (C 0 j)))), (hd 3, .inl (zci G, 6, .inl (fun j => zi (C 1 j)))), (hd 4, .inl (zci G, 6, .inl (fun j => zi (C 2 j)))), (hd 5, .inl (zci G, 4, .inl (fun j => zi (C 3 j)))), (hd 6, .inl (zca G, n, .inr (.inr (.inr (.inr (fun q => some (hr q)))))))]
abbrev zhW (G : zG) (ad : Nat → Nat) (X : Nat → Nat → Int) (hd hr : Nat → Nat) (n dr : Nat) (la cl : Int) (C R : Nat → Nat → Int) : va_W := zhP G ad hd hr n dr la cl C ++ (zrw G hr R n ++ zpic G ad X)
theorem zi_dvi {z : Int} {b : Nat} (h0 : 0 ≤ z) (h1 : z ≤ 2147483647) (hb : 0 < b) (hb2 : b ≤ 2147483647) : zi z / zi (b : Int) = zi (z / (b : Int)) := by
  have e : z = ((z.toNat : Nat) : Int) := by omega
  have h := zi_div (a := z.toNat) (b := b) (by omega) hb hb2
  rw [← e] at h
  rw [h, Int.natCast_ediv, ← e]
theorem zappP {D : va_G} {cl : List vw_C} {L t : va_W} {H : Heap} (h : va_P D cl (L ++ t) H) : va_P D cl L H ∧ va_P D cl t H := by
  refine ⟨fun k q hk => h k q ?_, fun k q hk => h (L.length + k) q ?_⟩
  · rw [List.getElem?_append_left (List.getElem?_eq_some_iff.mp hk).1]; exact hk
  · rw [List.getElem?_append_right (Nat.le_add_right _ _), Nat.add_sub_cancel_left]; exact hk
theorem zappD {A : Nat → Prop} {L t : va_W} (h : va_D A (L ++ t)) : va_D A L ∧ va_D A t ∧ ∀ (i j : Nat) (x y : Nat × va_E), L[i]? = some x → t[j]? = some y → x.1 ≠ y.1 := by
  have hl : ∀ (k : Nat) (q : Nat × va_E), L[k]? = some q → (L ++ t)[k]? = some q := fun k q hk => by rw [List.getElem?_append_left (List.getElem?_eq_some_iff.mp hk).1]; exact hk
  have hr : ∀ (k : Nat) (q : Nat × va_E), t[k]? = some q → (L ++ t)[L.length + k]? = some q := fun k q hk => by rw [List.getElem?_append_right (Nat.le_add_right _ _), Nat.add_sub_cancel_left]; exact hk
  refine ⟨⟨fun i j p q h1 h2 h3 => h.1 i j p q (hl i p h1) (hl j q h2) h3, fun k q hk => h.2 k q (hl k q hk)⟩, ⟨fun i j p q h1 h2 h3 => by have e := h.1 _ _ p q (hr i p h1) (hr j q h2) h3; omega, fun k q hk => h.2 _ q (hr k q hk)⟩, fun i j x y h1 h2 h3 => ?_⟩
  have e := h.1 _ _ x y (hl i x h1) (hr j y h2) h3
  have e2 := (List.getElem?_eq_some_iff.mp h1).1
  omega
theorem zsubP {D : va_G} {cl : List vw_C} {L L' t : va_W} {H : Heap} (h : va_P D cl (L ++ t) H) (is : List Nat) (hs : is.filterMap (fun i => L[i]?) = L') : va_P D cl (L' ++ t) H := ((zappP h).1.sub is hs).app (zappP h).2
theorem zsubD {A : Nat → Prop} {L L' t : va_W} (h : va_D A (L ++ t)) (is : List Nat) (hn : va_nd is = true) (hs : is.map (fun i => L[i]?) = L'.map some) : va_D A (L' ++ t) := by
  obtain ⟨h1, h2, h3⟩ := zappD h
  refine (h1.sub is hn hs).app h2 (fun i j x y hx hy => ?_)
  have e : (L'.map some)[i]? = some (some x) := by rw [List.getElem?_map, hx]; rfl
  rw [← hs, List.getElem?_map] at e
  cases hi : is[i]? with
  | none => rw [hi] at e; cases e
  | some q =>
    rw [hi] at e
    exact h3 q j x y (Option.some.inj e) hy
theorem zreqL {D : va_G} {cl : List vw_C} {L t : va_W} {H : Heap} {k a n : Nat} {c : ClassId} {f g : Nat → Option Nat} (hk : L[k]? = some (a, .inl (c, n, .inr (.inr (.inr (.inr f)))))) (h : ∀ i : Nat, i < n → f i = g i) (hP : va_P D cl (L ++ t) H) : va_P D cl (L.set k (a, .inl (c, n, .inr (.inr (.inr (.inr g))))) ++ t) H := (zreq hk h (zappP hP).1).app (zappP hP).2
theorem zkeyD {A : Nat → Prop} {L L' t : va_W} (h : va_D A (L ++ t)) (hk : L.map Prod.fst = L'.map Prod.fst) : va_D A (L' ++ t) := zD_keys h (by rw [List.map_append, List.map_append, hk])
/-- the Hedge's constructor -/
def zH0 (G : zG) (b dr : Nat) : Option Value → va_W → Prop := fun r w => r = none ∧ ∃ (ad hd hr : Nat → Nat) (cl : Int) (C R : Nat → Nat → Int), hd 0 = b ∧ zCv C ∧ w = zhW G ad zX0 hd hr 0 dr 0 0 C R

set_option maxHeartbeats 8000000 in
set_option maxRecDepth 100000 in
/-- Hedge(..) -/
theorem k_X8_init (l : Launch) (G : zG) (h0 dr : Nat) (hsl : zsl G ≤ 100000) (hdr : dr ≤ 90000) : zR l G yX8_init wsX8_init { frames := 4, cells := 79, slots := 6259, locals := 81 } ([(h0, .inr (8, [.null, .null, .int (zi 0), .null, .null, .int (zi 0), .null, .int (zi 0), .int (zi 0), .null]))]) [.ref h0, .ref (zsb G), .int (zi (dr : Int))] (zH0 G h0 (dr + 14)) 79 6259 := by
  refine zR_of (cc := cX8_init) (maxL := 8) (rt := none) (by decide) rfl (Nat.le_of_ble_eq_true rfl) ?_
  intro p e s m below meth c A ls hx hb hml hr hts hown hlocks hin0 hA hE hP hD hS hl
  have hl : lv_has ls 8 [(0, .ref h0), (1, .ref (zsb G)), (2, .int (zi (dr : Int)))] := hl
  have hown : s.vm.findClass RX8 = some m.cls := hown
  have hol1 := hts (.methodLink RX8 1 Lib.objectInit) (by decide +kernel)
  have hoi := hts (.instanceMethod Lib.objectInit) (by decide +kernel)
  have hoc := hts (.code Lib.objectInit ⟨#[0xb1]⟩ 1 none) (by decide +kernel)
  have hw7 : ∀ w ∈ u_ws RX7 TX7 8, w ∈ wsX8_init := by decide +kernel
  have hcl7 := hts (.classLink RX8 7 RX7) (by decide +kernel)
  have hisX7 := hts (.instantiable RX7 8) (by decide +kernel)
  have hiniX7 := hts (.initialized RX7) (by decide +kernel)
  have hinsX7_init := hts (.instanceMethod yX7_init) (by decide +kernel)
  have hml9 := hts (.methodLink RX8 9 yX7_init) (by decide +kernel)
  have hw8 : ∀ w ∈ u_ws RX8 TX8 10, w ∈ wsX8_init := by decide +kernel
  have hf10 := hts (.fieldLink RX8 10 "NettleLaw$Hedge" "m" "LNettle;") (by decide +kernel)
  have hcl16 := hts (.classLink RX8 16 "[I") (by decide +kernel)
  have hf18 := hts (.fieldLink RX8 18 "NettleLaw$Hedge" "cut" "[[I") (by decide +kernel)
  have hf22 := hts (.fieldLink RX8 22 "NettleLaw$Hedge" "rules" "[[I") (by decide +kernel)
  have hf25 := hts (.fieldLink RX8 25 "NettleLaw$Hedge" "copy" "[[I") (by decide +kernel)
  have hf28 := hts (.fieldLink RX8 28 "NettleLaw$Hedge" "node" "[[I") (by decide +kernel)
  have hf31 := hts (.fieldLink RX8 31 "NettleLaw$Hedge" "s" "[I") (by decide +kernel)
  have hf34 := hts (.fieldLink RX8 34 "NettleLaw$Hedge" "draws" "I") (by decide +kernel)
  have harrI := hts (.arrayClass .int) (by decide +kernel)
  refine lv_aload_n hx hb dX8_init_0 rfl (lv_at hl 0 rfl) ?_
  refine W.objInit hx hb hown hol1 hoi hoc rfl (hl.1.trans hml.symm) rfl dX8_init_1 (Nat.le_of_ble_eq_true rfl) (Nat.le_of_ble_eq_true rfl) ?_
  refine W.eq (g2 := F0 m 4 ls []) rfl ?_
  refine lv_aload_n hx hb dX8_init_4 rfl (lv_at hl 0 rfl) ?_
  refine va_new (ci := 7) (fs := [.null, .null, .null, .null, .null, .null, .null, .null]) (C := RX7) (T := TX7) (N := 8) hx hb hts hw7 tyX7 tyX7_ok hown hcl7 hisX7 hiniX7 hE.1 hP hD hS hA rfl (fun j hj => by rcases (show j = 0 ∨ j = 1 ∨ j = 2 ∨ j = 3 ∨ j = 4 ∨ j = 5 ∨ j = 6 ∨ j = 7 by omega) with rfl | rfl | rfl | rfl | rfl | rfl | rfl | rfl <;> rfl) (Nat.le_of_ble_eq_true rfl) (Nat.le_of_ble_eq_true rfl) dX8_init_5 (fun q1 H hP hD hS => ?_)
  have hP : va_P G.1 vwCl ([(h0, .inr (8, [.null, .null, .int (zi 0), .null, .null, .int (zi 0), .null, .int (zi 0), .int (zi 0), .null])), (q1, .inr (7, [.null, .null, .null, .null, .null, .null, .null, .null]))]) H := hP
  have hD : va_D A ([(h0, .inr (8, [.null, .null, .int (zi 0), .null, .null, .int (zi 0), .null, .int (zi 0), .int (zi 0), .null])), (q1, .inr (7, [.null, .null, .null, .null, .null, .null, .null, .null]))]) := hD
  refine lv_dup hx hb dX8_init_8 rfl ?_
  refine zcall (wr := [(h0, .inr (8, [.null, .null, .int (zi 0), .null, .null, .int (zi 0), .null, .int (zi 0), .int (zi 0), .null]))]) (wc := [(q1, .inr (7, [.null, .null, .null, .null, .null, .null, .null, .null]))]) (va_runI (As := []) (rest := [.ref q1, .ref h0]) ⟨hx, hb, hml, hown, hts⟩ (k_X7_init l G q1 H.size) (cwI 0 hts gX8_init_X7_init rfl rfl rfl hiniX7 hml9 hinsX7_init rfl (by decide +kernel) ⟨Nat.le_of_ble_eq_true rfl, Nat.le_of_ble_eq_true rfl⟩) (zPre (wr := [(h0, .inr (8, [.null, .null, .int (zi 0), .null, .null, .int (zi 0), .null, .int (zi 0), .int (zi 0), .null]))]) (wc := [(q1, .inr (7, [.null, .null, .null, .null, .null, .null, .null, .null]))]) (As := [.ref q1]) hP hD hE hS hA).1 rfl rfl hl.1 rfl (lv_room (Nat.le_of_ble_eq_true rfl)) dX8_init_9 ⟨Nat.le_of_ble_eq_true rfl, Nat.le_of_ble_eq_true rfl⟩) hP hD hS hA (fun _ _ H locs hf hP hD hS => ?_)
  obtain ⟨rfl, ad, had, rfl⟩ := hf
  have hP : va_P G.1 vwCl ([(h0, .inr (8, [.null, .null, .int (zi 0), .null, .null, .int (zi 0), .null, .int (zi 0), .int (zi 0), .null]))] ++ zpic G ad zX0) H := hP
  have hD : va_D A ([(h0, .inr (8, [.null, .null, .int (zi 0), .null, .null, .int (zi 0), .null, .int (zi 0), .int (zi 0), .null]))] ++ zpic G ad zX0) := hD
  refine W.eq (g2 := F0 m 12 ls [.ref q1, .ref h0]) rfl ?_
  refine va_putF (D := G.1) (ci := 8) (v := .ref q1) (ty := tyX8 0) (C := RX8) (T := TX8) (N := 10) hx hb hts hw8 tyX8 tyX8_ok nmX8 hown hE.1 hP hD hS 0 rfl rfl 0 (by decide) hf10 (fun _ h9 => h9) rfl hin0 rfl (by decide +kernel) rfl rfl (Nat.le_of_ble_eq_true rfl) dX8_init_12 (fun H locs hP hD hS => ?_)
  have hP : va_P G.1 vwCl ([(h0, .inr (8, [.ref q1, .null, .int (zi 0), .null, .null, .int (zi 0), .null, .int (zi 0), .int (zi 0), .null]))] ++ zpic G ad zX0) H := hP
  have hD : va_D A ([(h0, .inr (8, [.ref q1, .null, .int (zi 0), .null, .null, .int (zi 0), .null, .int (zi 0), .int (zi 0), .null]))] ++ zpic G ad zX0) := hD
  refine lv_aload_n hx hb dX8_init_15 rfl (lv_at hl 0 rfl) ?_
  refine lv_iconst (v := zi 4) hx hb dX8_init_16 rfl ?_
  refine znewA hx hb hown hcl16 hE hP hD hS hA 4 rfl (by decide) (Nat.le_of_ble_eq_true rfl) (Nat.le_of_ble_eq_true rfl) dX8_init_17 (fun q2 H hP hD hS => ?_)
  have hP := zlay hP
  have hD := zlayD hD
  have hP : va_P G.1 vwCl ([(h0, .inr (8, [.ref q1, .null, .int (zi 0), .null, .null, .int (zi 0), .null, .int (zi 0), .int (zi 0), .null])), (q2, .inl (zca G, 4, .inr (.inr (.inr (.inr (fun _ => none))))))] ++ zpic G ad zX0) H := hP
  have hD : va_D A ([(h0, .inr (8, [.ref q1, .null, .int (zi 0), .null, .null, .int (zi 0), .null, .int (zi 0), .int (zi 0), .null])), (q2, .inl (zca G, 4, .inr (.inr (.inr (.inr (fun _ => none))))))] ++ zpic G ad zX0) := hD
  refine va_putF (D := G.1) (ci := 8) (v := .ref q2) (ty := tyX8 3) (C := RX8) (T := TX8) (N := 10) hx hb hts hw8 tyX8 tyX8_ok nmX8 hown hE.1 hP hD hS 0 rfl rfl 3 (by decide) hf18 (fun _ h9 => h9) rfl hin0 rfl (by decide +kernel) rfl rfl (Nat.le_of_ble_eq_true rfl) dX8_init_20 (fun H locs hP hD hS => ?_)
  have hP : va_P G.1 vwCl ([(h0, .inr (8, [.ref q1, .null, .int (zi 0), .ref q2, .null, .int (zi 0), .null, .int (zi 0), .int (zi 0), .null])), (q2, .inl (zca G, 4, .inr (.inr (.inr (.inr (fun _ => none))))))] ++ zpic G ad zX0) H := hP
  have hD : va_D A ([(h0, .inr (8, [.ref q1, .null, .int (zi 0), .ref q2, .null, .int (zi 0), .null, .int (zi 0), .int (zi 0), .null])), (q2, .inl (zca G, 4, .inr (.inr (.inr (.inr (fun _ => none))))))] ++ zpic G ad zX0) := hD
  refine lv_aload_n hx hb dX8_init_23 rfl (lv_at hl 0 rfl) ?_
  refine lv_iconst (v := zi 0) hx hb dX8_init_24 rfl ?_
  refine znewA hx hb hown hcl16 hE hP hD hS hA 0 rfl (by decide) (Nat.le_of_ble_eq_true rfl) (Nat.le_of_ble_eq_true rfl) dX8_init_25 (fun q3 H hP hD hS => ?_)
  have hP := zlay hP
  have hD := zlayD hD
  have hP : va_P G.1 vwCl ([(h0, .inr (8, [.ref q1, .null, .int (zi 0), .ref q2, .null, .int (zi 0), .null, .int (zi 0), .int (zi 0), .null])), (q2, .inl (zca G, 4, .inr (.inr (.inr (.inr (fun _ => none)))))), (q3, .inl (zca G, 0, .inr (.inr (.inr (.inr (fun _ => none))))))] ++ zpic G ad zX0) H := hP
  have hD : va_D A ([(h0, .inr (8, [.ref q1, .null, .int (zi 0), .ref q2, .null, .int (zi 0), .null, .int (zi 0), .int (zi 0), .null])), (q2, .inl (zca G, 4, .inr (.inr (.inr (.inr (fun _ => none)))))), (q3, .inl (zca G, 0, .inr (.inr (.inr (.inr (fun _ => none))))))] ++ zpic G ad zX0) := hD
  refine va_put (D := G.1) (ci := 8) (v := .ref q3) (ty := tyX8 4) (C := RX8) (T := TX8) (N := 10) hx hb hts hw8 tyX8 tyX8_ok nmX8 hown hE.1 hP hD hS 0 rfl rfl 4 (by decide) hf22 (fun _ h9 => h9) rfl (by decide +kernel) rfl rfl (Nat.le_of_ble_eq_true rfl) dX8_init_28 (fun H locs hP hD hS => ?_)
  have hP : va_P G.1 vwCl ([(h0, .inr (8, [.ref q1, .null, .int (zi 0), .ref q2, .ref q3, .int (zi 0), .null, .int (zi 0), .int (zi 0), .null])), (q2, .inl (zca G, 4, .inr (.inr (.inr (.inr (fun _ => none)))))), (q3, .inl (zca G, 0, .inr (.inr (.inr (.inr (fun _ => none))))))] ++ zpic G ad zX0) H := hP
  have hD : va_D A ([(h0, .inr (8, [.ref q1, .null, .int (zi 0), .ref q2, .ref q3, .int (zi 0), .null, .int (zi 0), .int (zi 0), .null])), (q2, .inl (zca G, 4, .inr (.inr (.inr (.inr (fun _ => none)))))), (q3, .inl (zca G, 0, .inr (.inr (.inr (.inr (fun _ => none))))))] ++ zpic G ad zX0) := hD
  refine lv_aload_n hx hb dX8_init_31 rfl (lv_at hl 0 rfl) ?_
  refine lv_iconst (v := zi 0) hx hb dX8_init_32 rfl ?_
  refine znewA hx hb hown hcl16 hE hP hD hS hA 0 rfl (by decide) (Nat.le_of_ble_eq_true rfl) (Nat.le_of_ble_eq_true rfl) dX8_init_33 (fun q4 H hP hD hS => ?_)
  have hP := zlay hP
  have hD := zlayD hD
  have hP : va_P G.1 vwCl ([(h0, .inr (8, [.ref q1, .null, .int (zi 0), .ref q2, .ref q3, .int (zi 0), .null, .int (zi 0), .int (zi 0), .null])), (q2, .inl (zca G, 4, .inr (.inr (.inr (.inr (fun _ => none)))))), (q3, .inl (zca G, 0, .inr (.inr (.inr (.inr (fun _ => none)))))), (q4, .inl (zca G, 0, .inr (.inr (.inr (.inr (fun _ => none))))))] ++ zpic G ad zX0) H := hP
  have hD : va_D A ([(h0, .inr (8, [.ref q1, .null, .int (zi 0), .ref q2, .ref q3, .int (zi 0), .null, .int (zi 0), .int (zi 0), .null])), (q2, .inl (zca G, 4, .inr (.inr (.inr (.inr (fun _ => none)))))), (q3, .inl (zca G, 0, .inr (.inr (.inr (.inr (fun _ => none)))))), (q4, .inl (zca G, 0, .inr (.inr (.inr (.inr (fun _ => none))))))] ++ zpic G ad zX0) := hD
  refine va_put (D := G.1) (ci := 8) (v := .ref q4) (ty := tyX8 6) (C := RX8) (T := TX8) (N := 10) hx hb hts hw8 tyX8 tyX8_ok nmX8 hown hE.1 hP hD hS 0 rfl rfl 6 (by decide) hf25 (fun _ h9 => h9) rfl (by decide +kernel) rfl rfl (Nat.le_of_ble_eq_true rfl) dX8_init_36 (fun H locs hP hD hS => ?_)
  have hP : va_P G.1 vwCl ([(h0, .inr (8, [.ref q1, .null, .int (zi 0), .ref q2, .ref q3, .int (zi 0), .ref q4, .int (zi 0), .int (zi 0), .null])), (q2, .inl (zca G, 4, .inr (.inr (.inr (.inr (fun _ => none)))))), (q3, .inl (zca G, 0, .inr (.inr (.inr (.inr (fun _ => none)))))), (q4, .inl (zca G, 0, .inr (.inr (.inr (.inr (fun _ => none))))))] ++ zpic G ad zX0) H := hP
  have hD : va_D A ([(h0, .inr (8, [.ref q1, .null, .int (zi 0), .ref q2, .ref q3, .int (zi 0), .ref q4, .int (zi 0), .int (zi 0), .null])), (q2, .inl (zca G, 4, .inr (.inr (.inr (.inr (fun _ => none)))))), (q3, .inl (zca G, 0, .inr (.inr (.inr (.inr (fun _ => none)))))), (q4, .inl (zca G, 0, .inr (.inr (.inr (.inr (fun _ => none))))))] ++ zpic G ad zX0) := hD
  refine lv_aload_n hx hb dX8_init_39 rfl (lv_at hl 0 rfl) ?_
  refine lv_sipush (v := zi 300) hx hb dX8_init_40 (by decide +kernel) ?_
  refine znewA hx hb hown hcl16 hE hP hD hS hA 300 rfl (by decide) (Nat.le_of_ble_eq_true rfl) (Nat.le_of_ble_eq_true rfl) dX8_init_43 (fun q5 H hP hD hS => ?_)
  have hP := zlay hP
  have hD := zlayD hD
  have hP : va_P G.1 vwCl ([(h0, .inr (8, [.ref q1, .null, .int (zi 0), .ref q2, .ref q3, .int (zi 0), .ref q4, .int (zi 0), .int (zi 0), .null])), (q2, .inl (zca G, 4, .inr (.inr (.inr (.inr (fun _ => none)))))), (q3, .inl (zca G, 0, .inr (.inr (.inr (.inr (fun _ => none)))))), (q4, .inl (zca G, 0, .inr (.inr (.inr (.inr (fun _ => none)))))), (q5, .inl (zca G, 300, .inr (.inr (.inr (.inr (fun _ => none))))))] ++ zpic G ad zX0) H := hP
  have hD : va_D A ([(h0, .inr (8, [.ref q1, .null, .int (zi 0), .ref q2, .ref q3, .int (zi 0), .ref q4, .int (zi 0), .int (zi 0), .null])), (q2, .inl (zca G, 4, .inr (.inr (.inr (.inr (fun _ => none)))))), (q3, .inl (zca G, 0, .inr (.inr (.inr (.inr (fun _ => none)))))), (q4, .inl (zca G, 0, .inr (.inr (.inr (.inr (fun _ => none)))))), (q5, .inl (zca G, 300, .inr (.inr (.inr (.inr (fun _ => none))))))] ++ zpic G ad zX0) := hD
  refine va_putF (D := G.1) (ci := 8) (v := .ref q5) (ty := tyX8 9) (C := RX8) (T := TX8) (N := 10) hx hb hts hw8 tyX8 tyX8_ok nmX8 hown hE.1 hP hD hS 0 rfl rfl 9 (by decide) hf28 (fun _ h9 => h9) rfl hin0 rfl (by decide +kernel) rfl rfl (Nat.le_of_ble_eq_true rfl) dX8_init_46 (fun H locs hP hD hS => ?_)
  have hP : va_P G.1 vwCl ([(h0, .inr (8, [.ref q1, .null, .int (zi 0), .ref q2, .ref q3, .int (zi 0), .ref q4, .int (zi 0), .int (zi 0), .ref q5])), (q2, .inl (zca G, 4, .inr (.inr (.inr (.inr (fun _ => none)))))), (q3, .inl (zca G, 0, .inr (.inr (.inr (.inr (fun _ => none)))))), (q4, .inl (zca G, 0, .inr (.inr (.inr (.inr (fun _ => none)))))), (q5, .inl (zca G, 300, .inr (.inr (.inr (.inr (fun _ => none))))))] ++ zpic G ad zX0) H := hP
  have hD : va_D A ([(h0, .inr (8, [.ref q1, .null, .int (zi 0), .ref q2, .ref q3, .int (zi 0), .ref q4, .int (zi 0), .int (zi 0), .ref q5])), (q2, .inl (zca G, 4, .inr (.inr (.inr (.inr (fun _ => none)))))), (q3, .inl (zca G, 0, .inr (.inr (.inr (.inr (fun _ => none)))))), (q4, .inl (zca G, 0, .inr (.inr (.inr (.inr (fun _ => none)))))), (q5, .inl (zca G, 300, .inr (.inr (.inr (.inr (fun _ => none))))))] ++ zpic G ad zX0) := hD
  refine lv_aload_n hx hb dX8_init_49 rfl (lv_at hl 0 rfl) ?_
  refine lv_aload_n hx hb dX8_init_50 rfl (lv_at hl 1 rfl) ?_
  refine va_putF (D := G.1) (ci := 8) (v := .ref (zsb G)) (ty := tyX8 1) (C := RX8) (T := TX8) (N := 10) hx hb hts hw8 tyX8 tyX8_ok nmX8 hown hE.1 hP hD hS 0 rfl rfl 1 (by decide) hf31 (fun _ h9 => h9) rfl hin0 rfl (by decide +kernel) rfl rfl (Nat.le_of_ble_eq_true rfl) dX8_init_51 (fun H locs hP hD hS => ?_)
  have hP : va_P G.1 vwCl ([(h0, .inr (8, [.ref q1, .ref (zsb G), .int (zi 0), .ref q2, .ref q3, .int (zi 0), .ref q4, .int (zi 0), .int (zi 0), .ref q5])), (q2, .inl (zca G, 4, .inr (.inr (.inr (.inr (fun _ => none)))))), (q3, .inl (zca G, 0, .inr (.inr (.inr (.inr (fun _ => none)))))), (q4, .inl (zca G, 0, .inr (.inr (.inr (.inr (fun _ => none)))))), (q5, .inl (zca G, 300, .inr (.inr (.inr (.inr (fun _ => none))))))] ++ zpic G ad zX0) H := hP
  have hD : va_D A ([(h0, .inr (8, [.ref q1, .ref (zsb G), .int (zi 0), .ref q2, .ref q3, .int (zi 0), .ref q4, .int (zi 0), .int (zi 0), .ref q5])), (q2, .inl (zca G, 4, .inr (.inr (.inr (.inr (fun _ => none)))))), (q3, .inl (zca G, 0, .inr (.inr (.inr (.inr (fun _ => none)))))), (q4, .inl (zca G, 0, .inr (.inr (.inr (.inr (fun _ => none)))))), (q5, .inl (zca G, 300, .inr (.inr (.inr (.inr (fun _ => none))))))] ++ zpic G ad zX0) := hD
  refine lv_aload_n hx hb dX8_init_54 rfl (lv_at hl 0 rfl) ?_
  refine lv_iload_n hx hb dX8_init_55 rfl (lv_at hl 2 rfl) ?_
  refine va_put (D := G.1) (ci := 8) (v := .int (zi (dr : Int))) (ty := tyX8 2) (C := RX8) (T := TX8) (N := 10) hx hb hts hw8 tyX8 tyX8_ok nmX8 hown hE.1 hP hD hS 0 rfl rfl 2 (by decide) hf34 (fun _ h9 => h9) rfl (by decide +kernel) rfl rfl (Nat.le_of_ble_eq_true rfl) dX8_init_56 (fun H locs hP hD hS => ?_)
  have hP : va_P G.1 vwCl ([(h0, .inr (8, [.ref q1, .ref (zsb G), .int (zi (dr : Int)), .ref q2, .ref q3, .int (zi 0), .ref q4, .int (zi 0), .int (zi 0), .ref q5])), (q2, .inl (zca G, 4, .inr (.inr (.inr (.inr (fun _ => none)))))), (q3, .inl (zca G, 0, .inr (.inr (.inr (.inr (fun _ => none)))))), (q4, .inl (zca G, 0, .inr (.inr (.inr (.inr (fun _ => none)))))), (q5, .inl (zca G, 300, .inr (.inr (.inr (.inr (fun _ => none))))))] ++ zpic G ad zX0) H := hP
  have hD : va_D A ([(h0, .inr (8, [.ref q1, .ref (zsb G), .int (zi (dr : Int)), .ref q2, .ref q3, .int (zi 0), .ref q4, .int (zi 0), .int (zi 0), .ref q5])), (q2, .inl (zca G, 4, .inr (.inr (.inr (.inr (fun _ => none)))))), (q3, .inl (zca G, 0, .inr (.inr (.inr (.inr (fun _ => none)))))), (q4, .inl (zca G, 0, .inr (.inr (.inr (.inr (fun _ => none)))))), (q5, .inl (zca G, 300, .inr (.inr (.inr (.inr (fun _ => none))))))] ++ zpic G ad zX0) := hD
  refine lv_iconst (v := zi 0) hx hb dX8_init_59 rfl ?_
  refine lv_istore_n (lv' := [(3, .int (zi 0)), (0, .ref h0), (1, .ref (zsb G)), (2, .int (zi (dr : Int)))]) hx hb dX8_init_60 rfl hl (by decide) rfl (fun ls hl => ?_)
  refine lv_iload_n hx hb dX8_init_61 rfl (lv_at hl 0 rfl) ?_
  refine lv_iconst (v := zi 4) hx hb dX8_init_62 rfl ?_
  refine zc_ge (tgt := 202) hx hb dX8_init_63 (by decide) (by decide) (by decide) (fun h9 => absurd h9 (by decide)) (fun h63 => ?_)
  refine lv_iload_n hx hb dX8_init_66 rfl (lv_at hl 0 rfl) ?_
  refine lv_iconst (v := zi 2) hx hb dX8_init_67 rfl ?_
  refine zc_ge (tgt := 77) hx hb dX8_init_68 (by decide) (by decide) (by decide) (fun h9 => absurd h9 (by decide)) (fun h68 => ?_)
  refine lv_sipush (v := zi 256) hx hb dX8_init_71 (by decide +kernel) ?_
  refine lv_goto (tgt := 89) hx hb dX8_init_74 (by decide) ?_
  refine lv_istore (lv' := [(4, .int (zi 256)), (3, .int (zi 0)), (0, .ref h0), (1, .ref (zsb G)), (2, .int (zi (dr : Int)))]) hx hb dX8_init_89 hl (by decide) rfl (fun ls hl => ?_)
  refine lv_iload_n hx hb dX8_init_91 rfl (lv_at hl 1 rfl) ?_
  refine lv_iconst (v := zi 3) hx hb dX8_init_92 rfl ?_
  refine zc_ge (tgt := 100) hx hb dX8_init_93 (by decide) (by decide) (by decide) (fun h9 => absurd h9 (by decide)) (fun h93 => ?_)
  refine lv_iconst (v := zi 4) hx hb dX8_init_96 rfl ?_
  refine lv_goto (tgt := 101) hx hb dX8_init_97 (by decide) ?_
  refine lv_istore (lv' := [(5, .int (zi 4)), (4, .int (zi 256)), (3, .int (zi 0)), (0, .ref h0), (1, .ref (zsb G)), (2, .int (zi (dr : Int)))]) hx hb dX8_init_101 hl (by decide) rfl (fun ls hl => ?_)
  refine lv_iload hx hb dX8_init_103 (lv_at hl 0 rfl) ?_
  refine lv_iconst (v := zi 2) hx hb dX8_init_105 rfl ?_
  refine lv_iadd hx hb dX8_init_106 (zti (v := zi 6) (zi_add _ _) ?_)
  refine znewI hx hb harrI hE hP hD hS hA 6 rfl (by decide) (Nat.le_of_ble_eq_true rfl) (Nat.le_of_ble_eq_true rfl) dX8_init_107 (fun q6 H hP hD hS => ?_)
  have hP := zlay hP
  have hD := zlayD hD
  have hP : va_P G.1 vwCl ([(h0, .inr (8, [.ref q1, .ref (zsb G), .int (zi (dr : Int)), .ref q2, .ref q3, .int (zi 0), .ref q4, .int (zi 0), .int (zi 0), .ref q5])), (q2, .inl (zca G, 4, .inr (.inr (.inr (.inr (fun _ => none)))))), (q3, .inl (zca G, 0, .inr (.inr (.inr (.inr (fun _ => none)))))), (q4, .inl (zca G, 0, .inr (.inr (.inr (.inr (fun _ => none)))))), (q5, .inl (zca G, 300, .inr (.inr (.inr (.inr (fun _ => none)))))), (q6, .inl (zci G, 6, .inl (fun j => zi ((fun _ => 0) j))))] ++ zpic G ad zX0) H := hP
  have hD : va_D A ([(h0, .inr (8, [.ref q1, .ref (zsb G), .int (zi (dr : Int)), .ref q2, .ref q3, .int (zi 0), .ref q4, .int (zi 0), .int (zi 0), .ref q5])), (q2, .inl (zca G, 4, .inr (.inr (.inr (.inr (fun _ => none)))))), (q3, .inl (zca G, 0, .inr (.inr (.inr (.inr (fun _ => none)))))), (q4, .inl (zca G, 0, .inr (.inr (.inr (.inr (fun _ => none)))))), (q5, .inl (zca G, 300, .inr (.inr (.inr (.inr (fun _ => none)))))), (q6, .inl (zci G, 6, .inl (fun j => zi ((fun _ => 0) j))))] ++ zpic G ad zX0) := hD
  refine lv_astore (lv' := [(6, .ref q6), (5, .int (zi 4)), (4, .int (zi 256)), (3, .int (zi 0)), (0, .ref h0), (1, .ref (zsb G)), (2, .int (zi (dr : Int)))]) hx hb dX8_init_109 hl (by decide) rfl (fun ls hl => ?_)
  refine lv_iconst (v := zi 1) hx hb dX8_init_111 rfl ?_
  refine lv_istore (lv' := [(7, .int (zi 1)), (6, .ref q6), (5, .int (zi 4)), (4, .int (zi 256)), (3, .int (zi 0)), (0, .ref h0), (1, .ref (zsb G)), (2, .int (zi (dr : Int)))]) hx hb dX8_init_112 hl (by decide) rfl (fun ls hl => ?_)
  refine lv_iload hx hb dX8_init_114 (lv_at hl 0 rfl) ?_
  refine lv_iload hx hb dX8_init_116 (lv_at hl 2 rfl) ?_
  refine zc_gt (tgt := 179) hx hb dX8_init_118 (by decide) (by decide) (by decide) (fun h9 => absurd h9 (by decide)) (fun h118 => ?_)
  refine lv_aload hx hb dX8_init_121 (lv_at hl 1 rfl) ?_
  refine lv_iload hx hb dX8_init_123 (lv_at hl 0 rfl) ?_
  refine lv_aload hx hb dX8_init_125 (lv_at hl 1 rfl) ?_
  refine lv_iload hx hb dX8_init_127 (lv_at hl 0 rfl) ?_
  refine lv_iconst (v := zi 1) hx hb dX8_init_129 rfl ?_
  refine lv_isub hx hb dX8_init_130 (zti (v := zi 0) (zi_sub _ _) ?_)
  refine zildL hx hb hE hP 5 rfl 0 rfl (by decide) (by decide) dX8_init_131 ?_
  refine zti (v := zi 0) rfl ?_
  refine lv_iconst (v := zi 1) hx hb dX8_init_132 rfl ?_
  refine lv_iadd hx hb dX8_init_133 (zti (v := zi 1) (zi_add _ _) ?_)
  refine lv_aload_n hx hb dX8_init_134 rfl (lv_at hl 5 rfl) ?_
  refine lv_iload hx hb dX8_init_135 (lv_at hl 3 rfl) ?_
  refine lv_aload hx hb dX8_init_137 (lv_at hl 1 rfl) ?_
  refine lv_iload hx hb dX8_init_139 (lv_at hl 0 rfl) ?_
  refine lv_iconst (v := zi 1) hx hb dX8_init_141 rfl ?_
  refine lv_isub hx hb dX8_init_142 (zti (v := zi 0) (zi_sub _ _) ?_)
  refine zildL hx hb hE hP 5 rfl 0 rfl (by decide) (by decide) dX8_init_143 ?_
  refine zti (v := zi 0) rfl ?_
  refine lv_isub hx hb dX8_init_144 (zti (v := zi 256) (zi_sub _ _) ?_)
  refine lv_iconst (v := zi 1) hx hb dX8_init_145 rfl ?_
  refine lv_isub hx hb dX8_init_146 (zti (v := zi 255) (zi_sub _ _) ?_)
  refine lv_iload hx hb dX8_init_147 (lv_at hl 2 rfl) ?_
  refine lv_iload hx hb dX8_init_149 (lv_at hl 0 rfl) ?_
  refine lv_isub hx hb dX8_init_151 (zti (v := zi 3) (zi_sub _ _) ?_)
  refine lv_isub hx hb dX8_init_152 (zti (v := zi 252) (zi_sub _ _) ?_)
  refine lv_iconst (v := zi 1) hx hb dX8_init_153 rfl ?_
  refine lv_isub hx hb dX8_init_154 (zti (v := zi 251) (zi_sub _ _) ?_)
  refine lv_iload_n hx hb dX8_init_155 rfl (lv_at hl 4 rfl) ?_
  refine lv_iconst (v := zi 3) hx hb dX8_init_156 rfl ?_
  refine zc_ge (tgt := 164) hx hb dX8_init_157 (by decide) (by decide) (by decide) (fun h9 => absurd h9 (by decide)) (fun h157 => ?_)
  refine lv_iconst (v := zi 2) hx hb dX8_init_160 rfl ?_
  refine lv_goto (tgt := 165) hx hb dX8_init_161 (by decide) ?_
  refine lv_idiv hx hb dX8_init_165 (by decide +kernel) (zti (v := zi (251 / 2)) (zi_dvi (b := 2) (by omega) (by omega) (by decide) (by decide)) ?_)
  refine lv_iconst (v := zi 1) hx hb dX8_init_166 rfl ?_
  refine lv_iadd hx hb dX8_init_167 (zti (v := zi ((251 / 2) + 1)) (zi_add _ _) ?_)
  obtain ⟨nd1, hnd1⟩ : ∃ z : Nat, ((251 / 2) + 1 : Int) = (z : Int) := ⟨((251 / 2) + 1 : Int).toNat, by omega⟩
  refine zti (v := zi (nd1 : Int)) (congrArg zi hnd1) ?_
  refine zcall (wr := []) (wc := [(h0, .inr (8, [.ref q1, .ref (zsb G), .int (zi (dr : Int)), .ref q2, .ref q3, .int (zi 0), .ref q4, .int (zi 0), .int (zi 0), .ref q5])), (q2, .inl (zca G, 4, .inr (.inr (.inr (.inr (fun _ => none)))))), (q3, .inl (zca G, 0, .inr (.inr (.inr (.inr (fun _ => none)))))), (q4, .inl (zca G, 0, .inr (.inr (.inr (.inr (fun _ => none)))))), (q5, .inl (zca G, 300, .inr (.inr (.inr (.inr (fun _ => none)))))), (q6, .inl (zci G, 6, .inl (fun j => zi ((fun _ => 0) j))))] ++ zpic G ad zX0) (va_runV (As := [.int (zi (nd1 : Int))]) (rest := [.int (zi 1), .int (zi 1), .ref q6]) ⟨hx, hb, hml, hown, hts⟩ (k_X8_draw l G ([(h0, .inr (8, [.ref q1, .ref (zsb G), .int (zi (dr : Int)), .ref q2, .ref q3, .int (zi 0), .ref q4, .int (zi 0), .int (zi 0), .ref q5])), (q2, .inl (zca G, 4, .inr (.inr (.inr (.inr (fun _ => none)))))), (q3, .inl (zca G, 0, .inr (.inr (.inr (.inr (fun _ => none)))))), (q4, .inl (zca G, 0, .inr (.inr (.inr (.inr (fun _ => none)))))), (q5, .inl (zca G, 300, .inr (.inr (.inr (.inr (fun _ => none)))))), (q6, .inl (zci G, 6, .inl (fun j => zi ((fun _ => 0) j))))] ++ zpic G ad zX0) 0 h0 (.ref q1) (dr) (.ref q2) (.ref q3) (.int (zi 0)) (.ref q4) (.int (zi 0)) (.int (zi 0)) (.ref q5) nd1 rfl hsl (by omega) (by omega) H.size) (cwV 1 hts gX8_init_X8_draw rfl rfl rfl (by decide +kernel) ⟨Nat.le_of_ble_eq_true rfl, Nat.le_of_ble_eq_true rfl⟩) (zPreV (As := [.int (zi (nd1 : Int))]) (wr := []) (wc := [(h0, .inr (8, [.ref q1, .ref (zsb G), .int (zi (dr : Int)), .ref q2, .ref q3, .int (zi 0), .ref q4, .int (zi 0), .int (zi 0), .ref q5])), (q2, .inl (zca G, 4, .inr (.inr (.inr (.inr (fun _ => none)))))), (q3, .inl (zca G, 0, .inr (.inr (.inr (.inr (fun _ => none)))))), (q4, .inl (zca G, 0, .inr (.inr (.inr (.inr (fun _ => none)))))), (q5, .inl (zca G, 300, .inr (.inr (.inr (.inr (fun _ => none)))))), (q6, .inl (zci G, 6, .inl (fun j => zi ((fun _ => 0) j))))] ++ zpic G ad zX0) (q0 := 0) (ci := 8) (q := (RX8, TX8, 10)) hP hD hE hS hA rfl rfl) rfl rfl hl.1 rfl (lv_room (Nat.le_of_ble_eq_true rfl)) dX8_init_168 ⟨Nat.le_of_ble_eq_true rfl, Nat.le_of_ble_eq_true rfl⟩) hP hD hS hA (fun _ _ H locs hf hP hD hS => ?_)
  obtain ⟨v1, rfl, hv1, hw9⟩ := hf
  rw [hw9] at hP hD
  have hP : va_P G.1 vwCl ([(h0, .inr (8, [.ref q1, .ref (zsb G), .int (zi ((dr + 1 : Nat) : Int)), .ref q2, .ref q3, .int (zi 0), .ref q4, .int (zi 0), .int (zi 0), .ref q5])), (q2, .inl (zca G, 4, .inr (.inr (.inr (.inr (fun _ => none)))))), (q3, .inl (zca G, 0, .inr (.inr (.inr (.inr (fun _ => none)))))), (q4, .inl (zca G, 0, .inr (.inr (.inr (.inr (fun _ => none)))))), (q5, .inl (zca G, 300, .inr (.inr (.inr (.inr (fun _ => none)))))), (q6, .inl (zci G, 6, .inl (fun j => zi ((fun _ => 0) j))))] ++ zpic G ad zX0) H := hP
  have hD : va_D A ([(h0, .inr (8, [.ref q1, .ref (zsb G), .int (zi ((dr + 1 : Nat) : Int)), .ref q2, .ref q3, .int (zi 0), .ref q4, .int (zi 0), .int (zi 0), .ref q5])), (q2, .inl (zca G, 4, .inr (.inr (.inr (.inr (fun _ => none)))))), (q3, .inl (zca G, 0, .inr (.inr (.inr (.inr (fun _ => none)))))), (q4, .inl (zca G, 0, .inr (.inr (.inr (.inr (fun _ => none)))))), (q5, .inl (zca G, 300, .inr (.inr (.inr (.inr (fun _ => none)))))), (q6, .inl (zci G, 6, .inl (fun j => zi ((fun _ => 0) j))))] ++ zpic G ad zX0) := hD
  refine W.eq (g2 := F0 m 171 ls [.int (zi v1), .int (zi 1), .int (zi 1), .ref q6]) rfl ?_
  refine lv_iadd hx hb dX8_init_171 (zti (v := zi (1 + v1)) (zi_add _ _) ?_)
  obtain ⟨c1, hc1⟩ : ∃ z : Int, z = 1 + v1 := ⟨_, rfl⟩
  refine zti (v := zi c1) (congrArg zi hc1.symm) ?_
  have hc1b : 0 + 1 ≤ c1 ∧ c1 ≤ 252 := by omega
  refine zistL hx hb hE hP hD hS 5 rfl 1 rfl (by decide) (by decide) dX8_init_172 (fun H locs hP hD hS => ?_)
  have hP : va_P G.1 vwCl ([(h0, .inr (8, [.ref q1, .ref (zsb G), .int (zi ((dr + 1 : Nat) : Int)), .ref q2, .ref q3, .int (zi 0), .ref q4, .int (zi 0), .int (zi 0), .ref q5])), (q2, .inl (zca G, 4, .inr (.inr (.inr (.inr (fun _ => none)))))), (q3, .inl (zca G, 0, .inr (.inr (.inr (.inr (fun _ => none)))))), (q4, .inl (zca G, 0, .inr (.inr (.inr (.inr (fun _ => none)))))), (q5, .inl (zca G, 300, .inr (.inr (.inr (.inr (fun _ => none)))))), (q6, .inl (zci G, 6, .inl (fun j => zi ((zup (fun _ => 0) 1 c1) j))))] ++ zpic G ad zX0) H := hP
  have hD : va_D A ([(h0, .inr (8, [.ref q1, .ref (zsb G), .int (zi ((dr + 1 : Nat) : Int)), .ref q2, .ref q3, .int (zi 0), .ref q4, .int (zi 0), .int (zi 0), .ref q5])), (q2, .inl (zca G, 4, .inr (.inr (.inr (.inr (fun _ => none)))))), (q3, .inl (zca G, 0, .inr (.inr (.inr (.inr (fun _ => none)))))), (q4, .inl (zca G, 0, .inr (.inr (.inr (.inr (fun _ => none)))))), (q5, .inl (zca G, 300, .inr (.inr (.inr (.inr (fun _ => none)))))), (q6, .inl (zci G, 6, .inl (fun j => zi ((zup (fun _ => 0) 1 c1) j))))] ++ zpic G ad zX0) := hD
  refine lv_iinc (v := zi 2) (lv' := [(7, .int (zi 2)), (6, .ref q6), (5, .int (zi 4)), (4, .int (zi 256)), (3, .int (zi 0)), (0, .ref h0), (1, .ref (zsb G)), (2, .int (zi (dr : Int)))]) hx hb dX8_init_173 hl (k := 0) rfl (zi_add _ _) (by decide) rfl (fun ls hl => ?_)
  refine lv_goto (tgt := 114) hx hb dX8_init_176 (by decide) ?_
  refine lv_iload hx hb dX8_init_114 (lv_at hl 0 rfl) ?_
  refine lv_iload hx hb dX8_init_116 (lv_at hl 2 rfl) ?_
  refine zc_gt (tgt := 179) hx hb dX8_init_118 (by decide) (by decide) (by decide) (fun h9 => absurd h9 (by decide)) (fun h118 => ?_)
  refine lv_aload hx hb dX8_init_121 (lv_at hl 1 rfl) ?_
  refine lv_iload hx hb dX8_init_123 (lv_at hl 0 rfl) ?_
  refine lv_aload hx hb dX8_init_125 (lv_at hl 1 rfl) ?_
  refine lv_iload hx hb dX8_init_127 (lv_at hl 0 rfl) ?_
  refine lv_iconst (v := zi 1) hx hb dX8_init_129 rfl ?_
  refine lv_isub hx hb dX8_init_130 (zti (v := zi 1) (zi_sub _ _) ?_)
  refine zildL hx hb hE hP 5 rfl 1 rfl (by decide) (by decide) dX8_init_131 ?_
  refine zti (v := zi c1) rfl ?_
  refine lv_iconst (v := zi 1) hx hb dX8_init_132 rfl ?_
  refine lv_iadd hx hb dX8_init_133 (zti (v := zi (c1 + 1)) (zi_add _ _) ?_)
  refine lv_aload_n hx hb dX8_init_134 rfl (lv_at hl 5 rfl) ?_
  refine lv_iload hx hb dX8_init_135 (lv_at hl 3 rfl) ?_
  refine lv_aload hx hb dX8_init_137 (lv_at hl 1 rfl) ?_
  refine lv_iload hx hb dX8_init_139 (lv_at hl 0 rfl) ?_
  refine lv_iconst (v := zi 1) hx hb dX8_init_141 rfl ?_
  refine lv_isub hx hb dX8_init_142 (zti (v := zi 1) (zi_sub _ _) ?_)
  refine zildL hx hb hE hP 5 rfl 1 rfl (by decide) (by decide) dX8_init_143 ?_
  refine zti (v := zi c1) rfl ?_
  refine lv_isub hx hb dX8_init_144 (zti (v := zi (256 - c1)) (zi_sub _ _) ?_)
  refine lv_iconst (v := zi 1) hx hb dX8_init_145 rfl ?_
  refine lv_isub hx hb dX8_init_146 (zti (v := zi ((256 - c1) - 1)) (zi_sub _ _) ?_)
  refine lv_iload hx hb dX8_init_147 (lv_at hl 2 rfl) ?_
  refine lv_iload hx hb dX8_init_149 (lv_at hl 0 rfl) ?_
  refine lv_isub hx hb dX8_init_151 (zti (v := zi 2) (zi_sub _ _) ?_)
  refine lv_isub hx hb dX8_init_152 (zti (v := zi (((256 - c1) - 1) - 2)) (zi_sub _ _) ?_)
  refine lv_iconst (v := zi 1) hx hb dX8_init_153 rfl ?_
  refine lv_isub hx hb dX8_init_154 (zti (v := zi ((((256 - c1) - 1) - 2) - 1)) (zi_sub _ _) ?_)
  refine lv_iload_n hx hb dX8_init_155 rfl (lv_at hl 4 rfl) ?_
  refine lv_iconst (v := zi 3) hx hb dX8_init_156 rfl ?_
  refine zc_ge (tgt := 164) hx hb dX8_init_157 (by decide) (by decide) (by decide) (fun h9 => absurd h9 (by decide)) (fun h157 => ?_)
  refine lv_iconst (v := zi 2) hx hb dX8_init_160 rfl ?_
  refine lv_goto (tgt := 165) hx hb dX8_init_161 (by decide) ?_
  refine lv_idiv hx hb dX8_init_165 (by decide +kernel) (zti (v := zi (((((256 - c1) - 1) - 2) - 1) / 2)) (zi_dvi (b := 2) (by omega) (by omega) (by decide) (by decide)) ?_)
  refine lv_iconst (v := zi 1) hx hb dX8_init_166 rfl ?_
  refine lv_iadd hx hb dX8_init_167 (zti (v := zi ((((((256 - c1) - 1) - 2) - 1) / 2) + 1)) (zi_add _ _) ?_)
  obtain ⟨nd2, hnd2⟩ : ∃ z : Nat, ((((((256 - c1) - 1) - 2) - 1) / 2) + 1 : Int) = (z : Int) := ⟨((((((256 - c1) - 1) - 2) - 1) / 2) + 1 : Int).toNat, by omega⟩
  refine zti (v := zi (nd2 : Int)) (congrArg zi hnd2) ?_
  refine zcall (wr := []) (wc := [(h0, .inr (8, [.ref q1, .ref (zsb G), .int (zi ((dr + 1 : Nat) : Int)), .ref q2, .ref q3, .int (zi 0), .ref q4, .int (zi 0), .int (zi 0), .ref q5])), (q2, .inl (zca G, 4, .inr (.inr (.inr (.inr (fun _ => none)))))), (q3, .inl (zca G, 0, .inr (.inr (.inr (.inr (fun _ => none)))))), (q4, .inl (zca G, 0, .inr (.inr (.inr (.inr (fun _ => none)))))), (q5, .inl (zca G, 300, .inr (.inr (.inr (.inr (fun _ => none)))))), (q6, .inl (zci G, 6, .inl (fun j => zi ((zup (fun _ => 0) 1 c1) j))))] ++ zpic G ad zX0) (va_runV (As := [.int (zi (nd2 : Int))]) (rest := [.int (zi (c1 + 1)), .int (zi 2), .ref q6]) ⟨hx, hb, hml, hown, hts⟩ (k_X8_draw l G ([(h0, .inr (8, [.ref q1, .ref (zsb G), .int (zi ((dr + 1 : Nat) : Int)), .ref q2, .ref q3, .int (zi 0), .ref q4, .int (zi 0), .int (zi 0), .ref q5])), (q2, .inl (zca G, 4, .inr (.inr (.inr (.inr (fun _ => none)))))), (q3, .inl (zca G, 0, .inr (.inr (.inr (.inr (fun _ => none)))))), (q4, .inl (zca G, 0, .inr (.inr (.inr (.inr (fun _ => none)))))), (q5, .inl (zca G, 300, .inr (.inr (.inr (.inr (fun _ => none)))))), (q6, .inl (zci G, 6, .inl (fun j => zi ((zup (fun _ => 0) 1 c1) j))))] ++ zpic G ad zX0) 0 h0 (.ref q1) ((dr + 1 : Nat)) (.ref q2) (.ref q3) (.int (zi 0)) (.ref q4) (.int (zi 0)) (.int (zi 0)) (.ref q5) nd2 rfl hsl (by omega) (by omega) H.size) (cwV 1 hts gX8_init_X8_draw rfl rfl rfl (by decide +kernel) ⟨Nat.le_of_ble_eq_true rfl, Nat.le_of_ble_eq_true rfl⟩) (zPreV (As := [.int (zi (nd2 : Int))]) (wr := []) (wc := [(h0, .inr (8, [.ref q1, .ref (zsb G), .int (zi ((dr + 1 : Nat) : Int)), .ref q2, .ref q3, .int (zi 0), .ref q4, .int (zi 0), .int (zi 0), .ref q5])), (q2, .inl (zca G, 4, .inr (.inr (.inr (.inr (fun _ => none)))))), (q3, .inl (zca G, 0, .inr (.inr (.inr (.inr (fun _ => none)))))), (q4, .inl (zca G, 0, .inr (.inr (.inr (.inr (fun _ => none)))))), (q5, .inl (zca G, 300, .inr (.inr (.inr (.inr (fun _ => none)))))), (q6, .inl (zci G, 6, .inl (fun j => zi ((zup (fun _ => 0) 1 c1) j))))] ++ zpic G ad zX0) (q0 := 0) (ci := 8) (q := (RX8, TX8, 10)) hP hD hE hS hA rfl rfl) rfl rfl hl.1 rfl (lv_room (Nat.le_of_ble_eq_true rfl)) dX8_init_168 ⟨Nat.le_of_ble_eq_true rfl, Nat.le_of_ble_eq_true rfl⟩) hP hD hS hA (fun _ _ H locs hf hP hD hS => ?_)
  obtain ⟨v2, rfl, hv2, hw9⟩ := hf
  rw [hw9] at hP hD
  have hP : va_P G.1 vwCl ([(h0, .inr (8, [.ref q1, .ref (zsb G), .int (zi ((dr + 2 : Nat) : Int)), .ref q2, .ref q3, .int (zi 0), .ref q4, .int (zi 0), .int (zi 0), .ref q5])), (q2, .inl (zca G, 4, .inr (.inr (.inr (.inr (fun _ => none)))))), (q3, .inl (zca G, 0, .inr (.inr (.inr (.inr (fun _ => none)))))), (q4, .inl (zca G, 0, .inr (.inr (.inr (.inr (fun _ => none)))))), (q5, .inl (zca G, 300, .inr (.inr (.inr (.inr (fun _ => none)))))), (q6, .inl (zci G, 6, .inl (fun j => zi ((zup (fun _ => 0) 1 c1) j))))] ++ zpic G ad zX0) H := hP
  have hD : va_D A ([(h0, .inr (8, [.ref q1, .ref (zsb G), .int (zi ((dr + 2 : Nat) : Int)), .ref q2, .ref q3, .int (zi 0), .ref q4, .int (zi 0), .int (zi 0), .ref q5])), (q2, .inl (zca G, 4, .inr (.inr (.inr (.inr (fun _ => none)))))), (q3, .inl (zca G, 0, .inr (.inr (.inr (.inr (fun _ => none)))))), (q4, .inl (zca G, 0, .inr (.inr (.inr (.inr (fun _ => none)))))), (q5, .inl (zca G, 300, .inr (.inr (.inr (.inr (fun _ => none)))))), (q6, .inl (zci G, 6, .inl (fun j => zi ((zup (fun _ => 0) 1 c1) j))))] ++ zpic G ad zX0) := hD
  refine W.eq (g2 := F0 m 171 ls [.int (zi v2), .int (zi (c1 + 1)), .int (zi 2), .ref q6]) rfl ?_
  refine lv_iadd hx hb dX8_init_171 (zti (v := zi ((c1 + 1) + v2)) (zi_add _ _) ?_)
  obtain ⟨c2, hc2⟩ : ∃ z : Int, z = (c1 + 1) + v2 := ⟨_, rfl⟩
  refine zti (v := zi c2) (congrArg zi hc2.symm) ?_
  have hc2b : c1 + 1 ≤ c2 ∧ c2 ≤ 253 := by omega
  refine zistL hx hb hE hP hD hS 5 rfl 2 rfl (by decide) (by decide) dX8_init_172 (fun H locs hP hD hS => ?_)
  have hP : va_P G.1 vwCl ([(h0, .inr (8, [.ref q1, .ref (zsb G), .int (zi ((dr + 2 : Nat) : Int)), .ref q2, .ref q3, .int (zi 0), .ref q4, .int (zi 0), .int (zi 0), .ref q5])), (q2, .inl (zca G, 4, .inr (.inr (.inr (.inr (fun _ => none)))))), (q3, .inl (zca G, 0, .inr (.inr (.inr (.inr (fun _ => none)))))), (q4, .inl (zca G, 0, .inr (.inr (.inr (.inr (fun _ => none)))))), (q5, .inl (zca G, 300, .inr (.inr (.inr (.inr (fun _ => none)))))), (q6, .inl (zci G, 6, .inl (fun j => zi ((zup (zup (fun _ => 0) 1 c1) 2 c2) j))))] ++ zpic G ad zX0) H := hP
  have hD : va_D A ([(h0, .inr (8, [.ref q1, .ref (zsb G), .int (zi ((dr + 2 : Nat) : Int)), .ref q2, .ref q3, .int (zi 0), .ref q4, .int (zi 0), .int (zi 0), .ref q5])), (q2, .inl (zca G, 4, .inr (.inr (.inr (.inr (fun _ => none)))))), (q3, .inl (zca G, 0, .inr (.inr (.inr (.inr (fun _ => none)))))), (q4, .inl (zca G, 0, .inr (.inr (.inr (.inr (fun _ => none)))))), (q5, .inl (zca G, 300, .inr (.inr (.inr (.inr (fun _ => none)))))), (q6, .inl (zci G, 6, .inl (fun j => zi ((zup (zup (fun _ => 0) 1 c1) 2 c2) j))))] ++ zpic G ad zX0) := hD
  refine lv_iinc (v := zi 3) (lv' := [(7, .int (zi 3)), (6, .ref q6), (5, .int (zi 4)), (4, .int (zi 256)), (3, .int (zi 0)), (0, .ref h0), (1, .ref (zsb G)), (2, .int (zi (dr : Int)))]) hx hb dX8_init_173 hl (k := 0) rfl (zi_add _ _) (by decide) rfl (fun ls hl => ?_)
  refine lv_goto (tgt := 114) hx hb dX8_init_176 (by decide) ?_
  refine lv_iload hx hb dX8_init_114 (lv_at hl 0 rfl) ?_
  refine lv_iload hx hb dX8_init_116 (lv_at hl 2 rfl) ?_
  refine zc_gt (tgt := 179) hx hb dX8_init_118 (by decide) (by decide) (by decide) (fun h9 => absurd h9 (by decide)) (fun h118 => ?_)
  refine lv_aload hx hb dX8_init_121 (lv_at hl 1 rfl) ?_
  refine lv_iload hx hb dX8_init_123 (lv_at hl 0 rfl) ?_
  refine lv_aload hx hb dX8_init_125 (lv_at hl 1 rfl) ?_
  refine lv_iload hx hb dX8_init_127 (lv_at hl 0 rfl) ?_
  refine lv_iconst (v := zi 1) hx hb dX8_init_129 rfl ?_
  refine lv_isub hx hb dX8_init_130 (zti (v := zi 2) (zi_sub _ _) ?_)
  refine zildL hx hb hE hP 5 rfl 2 rfl (by decide) (by decide) dX8_init_131 ?_
  refine zti (v := zi c2) rfl ?_
  refine lv_iconst (v := zi 1) hx hb dX8_init_132 rfl ?_
  refine lv_iadd hx hb dX8_init_133 (zti (v := zi (c2 + 1)) (zi_add _ _) ?_)
  refine lv_aload_n hx hb dX8_init_134 rfl (lv_at hl 5 rfl) ?_
  refine lv_iload hx hb dX8_init_135 (lv_at hl 3 rfl) ?_
  refine lv_aload hx hb dX8_init_137 (lv_at hl 1 rfl) ?_
  refine lv_iload hx hb dX8_init_139 (lv_at hl 0 rfl) ?_
  refine lv_iconst (v := zi 1) hx hb dX8_init_141 rfl ?_
  refine lv_isub hx hb dX8_init_142 (zti (v := zi 2) (zi_sub _ _) ?_)
  refine zildL hx hb hE hP 5 rfl 2 rfl (by decide) (by decide) dX8_init_143 ?_
  refine zti (v := zi c2) rfl ?_
  refine lv_isub hx hb dX8_init_144 (zti (v := zi (256 - c2)) (zi_sub _ _) ?_)
  refine lv_iconst (v := zi 1) hx hb dX8_init_145 rfl ?_
  refine lv_isub hx hb dX8_init_146 (zti (v := zi ((256 - c2) - 1)) (zi_sub _ _) ?_)
  refine lv_iload hx hb dX8_init_147 (lv_at hl 2 rfl) ?_
  refine lv_iload hx hb dX8_init_149 (lv_at hl 0 rfl) ?_
  refine lv_isub hx hb dX8_init_151 (zti (v := zi 1) (zi_sub _ _) ?_)
  refine lv_isub hx hb dX8_init_152 (zti (v := zi (((256 - c2) - 1) - 1)) (zi_sub _ _) ?_)
  refine lv_iconst (v := zi 1) hx hb dX8_init_153 rfl ?_
  refine lv_isub hx hb dX8_init_154 (zti (v := zi ((((256 - c2) - 1) - 1) - 1)) (zi_sub _ _) ?_)
  refine lv_iload_n hx hb dX8_init_155 rfl (lv_at hl 4 rfl) ?_
  refine lv_iconst (v := zi 3) hx hb dX8_init_156 rfl ?_
  refine zc_ge (tgt := 164) hx hb dX8_init_157 (by decide) (by decide) (by decide) (fun h9 => absurd h9 (by decide)) (fun h157 => ?_)
  refine lv_iconst (v := zi 2) hx hb dX8_init_160 rfl ?_
  refine lv_goto (tgt := 165) hx hb dX8_init_161 (by decide) ?_
  refine lv_idiv hx hb dX8_init_165 (by decide +kernel) (zti (v := zi (((((256 - c2) - 1) - 1) - 1) / 2)) (zi_dvi (b := 2) (by omega) (by omega) (by decide) (by decide)) ?_)
  refine lv_iconst (v := zi 1) hx hb dX8_init_166 rfl ?_
  refine lv_iadd hx hb dX8_init_167 (zti (v := zi ((((((256 - c2) - 1) - 1) - 1) / 2) + 1)) (zi_add _ _) ?_)
  obtain ⟨nd3, hnd3⟩ : ∃ z : Nat, ((((((256 - c2) - 1) - 1) - 1) / 2) + 1 : Int) = (z : Int) := ⟨((((((256 - c2) - 1) - 1) - 1) / 2) + 1 : Int).toNat, by omega⟩
  refine zti (v := zi (nd3 : Int)) (congrArg zi hnd3) ?_
  refine zcall (wr := []) (wc := [(h0, .inr (8, [.ref q1, .ref (zsb G), .int (zi ((dr + 2 : Nat) : Int)), .ref q2, .ref q3, .int (zi 0), .ref q4, .int (zi 0), .int (zi 0), .ref q5])), (q2, .inl (zca G, 4, .inr (.inr (.inr (.inr (fun _ => none)))))), (q3, .inl (zca G, 0, .inr (.inr (.inr (.inr (fun _ => none)))))), (q4, .inl (zca G, 0, .inr (.inr (.inr (.inr (fun _ => none)))))), (q5, .inl (zca G, 300, .inr (.inr (.inr (.inr (fun _ => none)))))), (q6, .inl (zci G, 6, .inl (fun j => zi ((zup (zup (fun _ => 0) 1 c1) 2 c2) j))))] ++ zpic G ad zX0) (va_runV (As := [.int (zi (nd3 : Int))]) (rest := [.int (zi (c2 + 1)), .int (zi 3), .ref q6]) ⟨hx, hb, hml, hown, hts⟩ (k_X8_draw l G ([(h0, .inr (8, [.ref q1, .ref (zsb G), .int (zi ((dr + 2 : Nat) : Int)), .ref q2, .ref q3, .int (zi 0), .ref q4, .int (zi 0), .int (zi 0), .ref q5])), (q2, .inl (zca G, 4, .inr (.inr (.inr (.inr (fun _ => none)))))), (q3, .inl (zca G, 0, .inr (.inr (.inr (.inr (fun _ => none)))))), (q4, .inl (zca G, 0, .inr (.inr (.inr (.inr (fun _ => none)))))), (q5, .inl (zca G, 300, .inr (.inr (.inr (.inr (fun _ => none)))))), (q6, .inl (zci G, 6, .inl (fun j => zi ((zup (zup (fun _ => 0) 1 c1) 2 c2) j))))] ++ zpic G ad zX0) 0 h0 (.ref q1) ((dr + 2 : Nat)) (.ref q2) (.ref q3) (.int (zi 0)) (.ref q4) (.int (zi 0)) (.int (zi 0)) (.ref q5) nd3 rfl hsl (by omega) (by omega) H.size) (cwV 1 hts gX8_init_X8_draw rfl rfl rfl (by decide +kernel) ⟨Nat.le_of_ble_eq_true rfl, Nat.le_of_ble_eq_true rfl⟩) (zPreV (As := [.int (zi (nd3 : Int))]) (wr := []) (wc := [(h0, .inr (8, [.ref q1, .ref (zsb G), .int (zi ((dr + 2 : Nat) : Int)), .ref q2, .ref q3, .int (zi 0), .ref q4, .int (zi 0), .int (zi 0), .ref q5])), (q2, .inl (zca G, 4, .inr (.inr (.inr (.inr (fun _ => none)))))), (q3, .inl (zca G, 0, .inr (.inr (.inr (.inr (fun _ => none)))))), (q4, .inl (zca G, 0, .inr (.inr (.inr (.inr (fun _ => none)))))), (q5, .inl (zca G, 300, .inr (.inr (.inr (.inr (fun _ => none)))))), (q6, .inl (zci G, 6, .inl (fun j => zi ((zup (zup (fun _ => 0) 1 c1) 2 c2) j))))] ++ zpic G ad zX0) (q0 := 0) (ci := 8) (q := (RX8, TX8, 10)) hP hD hE hS hA rfl rfl) rfl rfl hl.1 rfl (lv_room (Nat.le_of_ble_eq_true rfl)) dX8_init_168 ⟨Nat.le_of_ble_eq_true rfl, Nat.le_of_ble_eq_true rfl⟩) hP hD hS hA (fun _ _ H locs hf hP hD hS => ?_)
  obtain ⟨v3, rfl, hv3, hw9⟩ := hf
  rw [hw9] at hP hD
  have hP : va_P G.1 vwCl ([(h0, .inr (8, [.ref q1, .ref (zsb G), .int (zi ((dr + 3 : Nat) : Int)), .ref q2, .ref q3, .int (zi 0), .ref q4, .int (zi 0), .int (zi 0), .ref q5])), (q2, .inl (zca G, 4, .inr (.inr (.inr (.inr (fun _ => none)))))), (q3, .inl (zca G, 0, .inr (.inr (.inr (.inr (fun _ => none)))))), (q4, .inl (zca G, 0, .inr (.inr (.inr (.inr (fun _ => none)))))), (q5, .inl (zca G, 300, .inr (.inr (.inr (.inr (fun _ => none)))))), (q6, .inl (zci G, 6, .inl (fun j => zi ((zup (zup (fun _ => 0) 1 c1) 2 c2) j))))] ++ zpic G ad zX0) H := hP
  have hD : va_D A ([(h0, .inr (8, [.ref q1, .ref (zsb G), .int (zi ((dr + 3 : Nat) : Int)), .ref q2, .ref q3, .int (zi 0), .ref q4, .int (zi 0), .int (zi 0), .ref q5])), (q2, .inl (zca G, 4, .inr (.inr (.inr (.inr (fun _ => none)))))), (q3, .inl (zca G, 0, .inr (.inr (.inr (.inr (fun _ => none)))))), (q4, .inl (zca G, 0, .inr (.inr (.inr (.inr (fun _ => none)))))), (q5, .inl (zca G, 300, .inr (.inr (.inr (.inr (fun _ => none)))))), (q6, .inl (zci G, 6, .inl (fun j => zi ((zup (zup (fun _ => 0) 1 c1) 2 c2) j))))] ++ zpic G ad zX0) := hD
  refine W.eq (g2 := F0 m 171 ls [.int (zi v3), .int (zi (c2 + 1)), .int (zi 3), .ref q6]) rfl ?_
  refine lv_iadd hx hb dX8_init_171 (zti (v := zi ((c2 + 1) + v3)) (zi_add _ _) ?_)
  obtain ⟨c3, hc3⟩ : ∃ z : Int, z = (c2 + 1) + v3 := ⟨_, rfl⟩
  refine zti (v := zi c3) (congrArg zi hc3.symm) ?_
  have hc3b : c2 + 1 ≤ c3 ∧ c3 ≤ 254 := by omega
  refine zistL hx hb hE hP hD hS 5 rfl 3 rfl (by decide) (by decide) dX8_init_172 (fun H locs hP hD hS => ?_)
  have hP : va_P G.1 vwCl ([(h0, .inr (8, [.ref q1, .ref (zsb G), .int (zi ((dr + 3 : Nat) : Int)), .ref q2, .ref q3, .int (zi 0), .ref q4, .int (zi 0), .int (zi 0), .ref q5])), (q2, .inl (zca G, 4, .inr (.inr (.inr (.inr (fun _ => none)))))), (q3, .inl (zca G, 0, .inr (.inr (.inr (.inr (fun _ => none)))))), (q4, .inl (zca G, 0, .inr (.inr (.inr (.inr (fun _ => none)))))), (q5, .inl (zca G, 300, .inr (.inr (.inr (.inr (fun _ => none)))))), (q6, .inl (zci G, 6, .inl (fun j => zi ((zup (zup (zup (fun _ => 0) 1 c1) 2 c2) 3 c3) j))))] ++ zpic G ad zX0) H := hP
  have hD : va_D A ([(h0, .inr (8, [.ref q1, .ref (zsb G), .int (zi ((dr + 3 : Nat) : Int)), .ref q2, .ref q3, .int (zi 0), .ref q4, .int (zi 0), .int (zi 0), .ref q5])), (q2, .inl (zca G, 4, .inr (.inr (.inr (.inr (fun _ => none)))))), (q3, .inl (zca G, 0, .inr (.inr (.inr (.inr (fun _ => none)))))), (q4, .inl (zca G, 0, .inr (.inr (.inr (.inr (fun _ => none)))))), (q5, .inl (zca G, 300, .inr (.inr (.inr (.inr (fun _ => none)))))), (q6, .inl (zci G, 6, .inl (fun j => zi ((zup (zup (zup (fun _ => 0) 1 c1) 2 c2) 3 c3) j))))] ++ zpic G ad zX0) := hD
  refine lv_iinc (v := zi 4) (lv' := [(7, .int (zi 4)), (6, .ref q6), (5, .int (zi 4)), (4, .int (zi 256)), (3, .int (zi 0)), (0, .ref h0), (1, .ref (zsb G)), (2, .int (zi (dr : Int)))]) hx hb dX8_init_173 hl (k := 0) rfl (zi_add _ _) (by decide) rfl (fun ls hl => ?_)
  refine lv_goto (tgt := 114) hx hb dX8_init_176 (by decide) ?_
  refine lv_iload hx hb dX8_init_114 (lv_at hl 0 rfl) ?_
  refine lv_iload hx hb dX8_init_116 (lv_at hl 2 rfl) ?_
  refine zc_gt (tgt := 179) hx hb dX8_init_118 (by decide) (by decide) (by decide) (fun h9 => absurd h9 (by decide)) (fun h118 => ?_)
  refine lv_aload hx hb dX8_init_121 (lv_at hl 1 rfl) ?_
  refine lv_iload hx hb dX8_init_123 (lv_at hl 0 rfl) ?_
  refine lv_aload hx hb dX8_init_125 (lv_at hl 1 rfl) ?_
  refine lv_iload hx hb dX8_init_127 (lv_at hl 0 rfl) ?_
  refine lv_iconst (v := zi 1) hx hb dX8_init_129 rfl ?_
  refine lv_isub hx hb dX8_init_130 (zti (v := zi 3) (zi_sub _ _) ?_)
  refine zildL hx hb hE hP 5 rfl 3 rfl (by decide) (by decide) dX8_init_131 ?_
  refine zti (v := zi c3) rfl ?_
  refine lv_iconst (v := zi 1) hx hb dX8_init_132 rfl ?_
  refine lv_iadd hx hb dX8_init_133 (zti (v := zi (c3 + 1)) (zi_add _ _) ?_)
  refine lv_aload_n hx hb dX8_init_134 rfl (lv_at hl 5 rfl) ?_
  refine lv_iload hx hb dX8_init_135 (lv_at hl 3 rfl) ?_
  refine lv_aload hx hb dX8_init_137 (lv_at hl 1 rfl) ?_
  refine lv_iload hx hb dX8_init_139 (lv_at hl 0 rfl) ?_
  refine lv_iconst (v := zi 1) hx hb dX8_init_141 rfl ?_
  refine lv_isub hx hb dX8_init_142 (zti (v := zi 3) (zi_sub _ _) ?_)
  refine zildL hx hb hE hP 5 rfl 3 rfl (by decide) (by decide) dX8_init_143 ?_
  refine zti (v := zi c3) rfl ?_
  refine lv_isub hx hb dX8_init_144 (zti (v := zi (256 - c3)) (zi_sub _ _) ?_)
  refine lv_iconst (v := zi 1) hx hb dX8_init_145 rfl ?_
  refine lv_isub hx hb dX8_init_146 (zti (v := zi ((256 - c3) - 1)) (zi_sub _ _) ?_)
  refine lv_iload hx hb dX8_init_147 (lv_at hl 2 rfl) ?_
  refine lv_iload hx hb dX8_init_149 (lv_at hl 0 rfl) ?_
  refine lv_isub hx hb dX8_init_151 (zti (v := zi 0) (zi_sub _ _) ?_)
  refine lv_isub hx hb dX8_init_152 (zti (v := zi (((256 - c3) - 1) - 0)) (zi_sub _ _) ?_)
  refine lv_iconst (v := zi 1) hx hb dX8_init_153 rfl ?_
  refine lv_isub hx hb dX8_init_154 (zti (v := zi ((((256 - c3) - 1) - 0) - 1)) (zi_sub _ _) ?_)
  refine lv_iload_n hx hb dX8_init_155 rfl (lv_at hl 4 rfl) ?_
  refine lv_iconst (v := zi 3) hx hb dX8_init_156 rfl ?_
  refine zc_ge (tgt := 164) hx hb dX8_init_157 (by decide) (by decide) (by decide) (fun h9 => absurd h9 (by decide)) (fun h157 => ?_)
  refine lv_iconst (v := zi 2) hx hb dX8_init_160 rfl ?_
  refine lv_goto (tgt := 165) hx hb dX8_init_161 (by decide) ?_
  refine lv_idiv hx hb dX8_init_165 (by decide +kernel) (zti (v := zi (((((256 - c3) - 1) - 0) - 1) / 2)) (zi_dvi (b := 2) (by omega) (by omega) (by decide) (by decide)) ?_)
  refine lv_iconst (v := zi 1) hx hb dX8_init_166 rfl ?_
  refine lv_iadd hx hb dX8_init_167 (zti (v := zi ((((((256 - c3) - 1) - 0) - 1) / 2) + 1)) (zi_add _ _) ?_)
  obtain ⟨nd4, hnd4⟩ : ∃ z : Nat, ((((((256 - c3) - 1) - 0) - 1) / 2) + 1 : Int) = (z : Int) := ⟨((((((256 - c3) - 1) - 0) - 1) / 2) + 1 : Int).toNat, by omega⟩
  refine zti (v := zi (nd4 : Int)) (congrArg zi hnd4) ?_
  refine zcall (wr := []) (wc := [(h0, .inr (8, [.ref q1, .ref (zsb G), .int (zi ((dr + 3 : Nat) : Int)), .ref q2, .ref q3, .int (zi 0), .ref q4, .int (zi 0), .int (zi 0), .ref q5])), (q2, .inl (zca G, 4, .inr (.inr (.inr (.inr (fun _ => none)))))), (q3, .inl (zca G, 0, .inr (.inr (.inr (.inr (fun _ => none)))))), (q4, .inl (zca G, 0, .inr (.inr (.inr (.inr (fun _ => none)))))), (q5, .inl (zca G, 300, .inr (.inr (.inr (.inr (fun _ => none)))))), (q6, .inl (zci G, 6, .inl (fun j => zi ((zup (zup (zup (fun _ => 0) 1 c1) 2 c2) 3 c3) j))))] ++ zpic G ad zX0) (va_runV (As := [.int (zi (nd4 : Int))]) (rest := [.int (zi (c3 + 1)), .int (zi 4), .ref q6]) ⟨hx, hb, hml, hown, hts⟩ (k_X8_draw l G ([(h0, .inr (8, [.ref q1, .ref (zsb G), .int (zi ((dr + 3 : Nat) : Int)), .ref q2, .ref q3, .int (zi 0), .ref q4, .int (zi 0), .int (zi 0), .ref q5])), (q2, .inl (zca G, 4, .inr (.inr (.inr (.inr (fun _ => none)))))), (q3, .inl (zca G, 0, .inr (.inr (.inr (.inr (fun _ => none)))))), (q4, .inl (zca G, 0, .inr (.inr (.inr (.inr (fun _ => none)))))), (q5, .inl (zca G, 300, .inr (.inr (.inr (.inr (fun _ => none)))))), (q6, .inl (zci G, 6, .inl (fun j => zi ((zup (zup (zup (fun _ => 0) 1 c1) 2 c2) 3 c3) j))))] ++ zpic G ad zX0) 0 h0 (.ref q1) ((dr + 3 : Nat)) (.ref q2) (.ref q3) (.int (zi 0)) (.ref q4) (.int (zi 0)) (.int (zi 0)) (.ref q5) nd4 rfl hsl (by omega) (by omega) H.size) (cwV 1 hts gX8_init_X8_draw rfl rfl rfl (by decide +kernel) ⟨Nat.le_of_ble_eq_true rfl, Nat.le_of_ble_eq_true rfl⟩) (zPreV (As := [.int (zi (nd4 : Int))]) (wr := []) (wc := [(h0, .inr (8, [.ref q1, .ref (zsb G), .int (zi ((dr + 3 : Nat) : Int)), .ref q2, .ref q3, .int (zi 0), .ref q4, .int (zi 0), .int (zi 0), .ref q5])), (q2, .inl (zca G, 4, .inr (.inr (.inr (.inr (fun _ => none)))))), (q3, .inl (zca G, 0, .inr (.inr (.inr (.inr (fun _ => none)))))), (q4, .inl (zca G, 0, .inr (.inr (.inr (.inr (fun _ => none)))))), (q5, .inl (zca G, 300, .inr (.inr (.inr (.inr (fun _ => none)))))), (q6, .inl (zci G, 6, .inl (fun j => zi ((zup (zup (zup (fun _ => 0) 1 c1) 2 c2) 3 c3) j))))] ++ zpic G ad zX0) (q0 := 0) (ci := 8) (q := (RX8, TX8, 10)) hP hD hE hS hA rfl rfl) rfl rfl hl.1 rfl (lv_room (Nat.le_of_ble_eq_true rfl)) dX8_init_168 ⟨Nat.le_of_ble_eq_true rfl, Nat.le_of_ble_eq_true rfl⟩) hP hD hS hA (fun _ _ H locs hf hP hD hS => ?_)
  obtain ⟨v4, rfl, hv4, hw9⟩ := hf
  rw [hw9] at hP hD
  have hP : va_P G.1 vwCl ([(h0, .inr (8, [.ref q1, .ref (zsb G), .int (zi ((dr + 4 : Nat) : Int)), .ref q2, .ref q3, .int (zi 0), .ref q4, .int (zi 0), .int (zi 0), .ref q5])), (q2, .inl (zca G, 4, .inr (.inr (.inr (.inr (fun _ => none)))))), (q3, .inl (zca G, 0, .inr (.inr (.inr (.inr (fun _ => none)))))), (q4, .inl (zca G, 0, .inr (.inr (.inr (.inr (fun _ => none)))))), (q5, .inl (zca G, 300, .inr (.inr (.inr (.inr (fun _ => none)))))), (q6, .inl (zci G, 6, .inl (fun j => zi ((zup (zup (zup (fun _ => 0) 1 c1) 2 c2) 3 c3) j))))] ++ zpic G ad zX0) H := hP
  have hD : va_D A ([(h0, .inr (8, [.ref q1, .ref (zsb G), .int (zi ((dr + 4 : Nat) : Int)), .ref q2, .ref q3, .int (zi 0), .ref q4, .int (zi 0), .int (zi 0), .ref q5])), (q2, .inl (zca G, 4, .inr (.inr (.inr (.inr (fun _ => none)))))), (q3, .inl (zca G, 0, .inr (.inr (.inr (.inr (fun _ => none)))))), (q4, .inl (zca G, 0, .inr (.inr (.inr (.inr (fun _ => none)))))), (q5, .inl (zca G, 300, .inr (.inr (.inr (.inr (fun _ => none)))))), (q6, .inl (zci G, 6, .inl (fun j => zi ((zup (zup (zup (fun _ => 0) 1 c1) 2 c2) 3 c3) j))))] ++ zpic G ad zX0) := hD
  refine W.eq (g2 := F0 m 171 ls [.int (zi v4), .int (zi (c3 + 1)), .int (zi 4), .ref q6]) rfl ?_
  refine lv_iadd hx hb dX8_init_171 (zti (v := zi ((c3 + 1) + v4)) (zi_add _ _) ?_)
  obtain ⟨c4, hc4⟩ : ∃ z : Int, z = (c3 + 1) + v4 := ⟨_, rfl⟩
  refine zti (v := zi c4) (congrArg zi hc4.symm) ?_
  have hc4b : c3 + 1 ≤ c4 ∧ c4 ≤ 255 := by omega
  refine zistL hx hb hE hP hD hS 5 rfl 4 rfl (by decide) (by decide) dX8_init_172 (fun H locs hP hD hS => ?_)
  have hP : va_P G.1 vwCl ([(h0, .inr (8, [.ref q1, .ref (zsb G), .int (zi ((dr + 4 : Nat) : Int)), .ref q2, .ref q3, .int (zi 0), .ref q4, .int (zi 0), .int (zi 0), .ref q5])), (q2, .inl (zca G, 4, .inr (.inr (.inr (.inr (fun _ => none)))))), (q3, .inl (zca G, 0, .inr (.inr (.inr (.inr (fun _ => none)))))), (q4, .inl (zca G, 0, .inr (.inr (.inr (.inr (fun _ => none)))))), (q5, .inl (zca G, 300, .inr (.inr (.inr (.inr (fun _ => none)))))), (q6, .inl (zci G, 6, .inl (fun j => zi ((zup (zup (zup (zup (fun _ => 0) 1 c1) 2 c2) 3 c3) 4 c4) j))))] ++ zpic G ad zX0) H := hP
  have hD : va_D A ([(h0, .inr (8, [.ref q1, .ref (zsb G), .int (zi ((dr + 4 : Nat) : Int)), .ref q2, .ref q3, .int (zi 0), .ref q4, .int (zi 0), .int (zi 0), .ref q5])), (q2, .inl (zca G, 4, .inr (.inr (.inr (.inr (fun _ => none)))))), (q3, .inl (zca G, 0, .inr (.inr (.inr (.inr (fun _ => none)))))), (q4, .inl (zca G, 0, .inr (.inr (.inr (.inr (fun _ => none)))))), (q5, .inl (zca G, 300, .inr (.inr (.inr (.inr (fun _ => none)))))), (q6, .inl (zci G, 6, .inl (fun j => zi ((zup (zup (zup (zup (fun _ => 0) 1 c1) 2 c2) 3 c3) 4 c4) j))))] ++ zpic G ad zX0) := hD
  refine lv_iinc (v := zi 5) (lv' := [(7, .int (zi 5)), (6, .ref q6), (5, .int (zi 4)), (4, .int (zi 256)), (3, .int (zi 0)), (0, .ref h0), (1, .ref (zsb G)), (2, .int (zi (dr : Int)))]) hx hb dX8_init_173 hl (k := 0) rfl (zi_add _ _) (by decide) rfl (fun ls hl => ?_)
  refine lv_goto (tgt := 114) hx hb dX8_init_176 (by decide) ?_
  refine lv_iload hx hb dX8_init_114 (lv_at hl 0 rfl) ?_
  refine lv_iload hx hb dX8_init_116 (lv_at hl 2 rfl) ?_
  refine zc_gt (tgt := 179) hx hb dX8_init_118 (by decide) (by decide) (by decide) (fun h118 => ?_) (fun h9 => absurd h9 (by decide))
  refine lv_aload hx hb dX8_init_179 (lv_at hl 1 rfl) ?_
  refine lv_iload hx hb dX8_init_181 (lv_at hl 2 rfl) ?_
  refine lv_iconst (v := zi 1) hx hb dX8_init_183 rfl ?_
  refine lv_iadd hx hb dX8_init_184 (zti (v := zi 5) (zi_add _ _) ?_)
  refine lv_iload hx hb dX8_init_185 (lv_at hl 3 rfl) ?_
  refine zistL hx hb hE hP hD hS 5 rfl 5 rfl (by decide) (by decide) dX8_init_187 (fun H locs hP hD hS => ?_)
  have hP : va_P G.1 vwCl ([(h0, .inr (8, [.ref q1, .ref (zsb G), .int (zi ((dr + 4 : Nat) : Int)), .ref q2, .ref q3, .int (zi 0), .ref q4, .int (zi 0), .int (zi 0), .ref q5])), (q2, .inl (zca G, 4, .inr (.inr (.inr (.inr (fun _ => none)))))), (q3, .inl (zca G, 0, .inr (.inr (.inr (.inr (fun _ => none)))))), (q4, .inl (zca G, 0, .inr (.inr (.inr (.inr (fun _ => none)))))), (q5, .inl (zca G, 300, .inr (.inr (.inr (.inr (fun _ => none)))))), (q6, .inl (zci G, 6, .inl (fun j => zi ((zup (zup (zup (zup (zup (fun _ => 0) 1 c1) 2 c2) 3 c3) 4 c4) 5 256) j))))] ++ zpic G ad zX0) H := hP
  have hD : va_D A ([(h0, .inr (8, [.ref q1, .ref (zsb G), .int (zi ((dr + 4 : Nat) : Int)), .ref q2, .ref q3, .int (zi 0), .ref q4, .int (zi 0), .int (zi 0), .ref q5])), (q2, .inl (zca G, 4, .inr (.inr (.inr (.inr (fun _ => none)))))), (q3, .inl (zca G, 0, .inr (.inr (.inr (.inr (fun _ => none)))))), (q4, .inl (zca G, 0, .inr (.inr (.inr (.inr (fun _ => none)))))), (q5, .inl (zca G, 300, .inr (.inr (.inr (.inr (fun _ => none)))))), (q6, .inl (zci G, 6, .inl (fun j => zi ((zup (zup (zup (zup (zup (fun _ => 0) 1 c1) 2 c2) 3 c3) 4 c4) 5 256) j))))] ++ zpic G ad zX0) := hD
  refine lv_aload_n hx hb dX8_init_188 rfl (lv_at hl 5 rfl) ?_
  refine va_get (D := G.1) (ci := 8) (v := .ref q2) (C := RX8) (T := TX8) (N := 10) hx hb hts hw8 hown hE.1 hP 0 rfl rfl 3 (by decide) hf18 (fun _ h9 => h9) rfl dX8_init_189 ?_
  refine lv_iload_n hx hb dX8_init_192 rfl (lv_at hl 4 rfl) ?_
  refine lv_aload hx hb dX8_init_193 (lv_at hl 1 rfl) ?_
  refine zastA hx hb hE hP hD hS 1 5 rfl rfl 0 rfl (by decide) (by decide) dX8_init_195 (fun H locs hP hD hS => ?_)
  have hP : va_P G.1 vwCl ([(h0, .inr (8, [.ref q1, .ref (zsb G), .int (zi ((dr + 4 : Nat) : Int)), .ref q2, .ref q3, .int (zi 0), .ref q4, .int (zi 0), .int (zi 0), .ref q5])), (q2, .inl (zca G, 4, .inr (.inr (.inr (.inr (va_up (fun _ => none) 0 (some q6))))))), (q3, .inl (zca G, 0, .inr (.inr (.inr (.inr (fun _ => none)))))), (q4, .inl (zca G, 0, .inr (.inr (.inr (.inr (fun _ => none)))))), (q5, .inl (zca G, 300, .inr (.inr (.inr (.inr (fun _ => none)))))), (q6, .inl (zci G, 6, .inl (fun j => zi ((zup (zup (zup (zup (zup (fun _ => 0) 1 c1) 2 c2) 3 c3) 4 c4) 5 256) j))))] ++ zpic G ad zX0) H := hP
  have hD : va_D A ([(h0, .inr (8, [.ref q1, .ref (zsb G), .int (zi ((dr + 4 : Nat) : Int)), .ref q2, .ref q3, .int (zi 0), .ref q4, .int (zi 0), .int (zi 0), .ref q5])), (q2, .inl (zca G, 4, .inr (.inr (.inr (.inr (va_up (fun _ => none) 0 (some q6))))))), (q3, .inl (zca G, 0, .inr (.inr (.inr (.inr (fun _ => none)))))), (q4, .inl (zca G, 0, .inr (.inr (.inr (.inr (fun _ => none)))))), (q5, .inl (zca G, 300, .inr (.inr (.inr (.inr (fun _ => none)))))), (q6, .inl (zci G, 6, .inl (fun j => zi ((zup (zup (zup (zup (zup (fun _ => 0) 1 c1) 2 c2) 3 c3) 4 c4) 5 256) j))))] ++ zpic G ad zX0) := hD
  refine lv_iinc (v := zi 1) (lv' := [(3, .int (zi 1)), (7, .int (zi 5)), (6, .ref q6), (5, .int (zi 4)), (4, .int (zi 256)), (0, .ref h0), (1, .ref (zsb G)), (2, .int (zi (dr : Int)))]) hx hb dX8_init_196 hl (k := 4) rfl (zi_add _ _) (by decide) rfl (fun ls hl => ?_)
  refine lv_goto (tgt := 61) hx hb dX8_init_199 (by decide) ?_
  refine lv_iload_n hx hb dX8_init_61 rfl (lv_at hl 0 rfl) ?_
  refine lv_iconst (v := zi 4) hx hb dX8_init_62 rfl ?_
  refine zc_ge (tgt := 202) hx hb dX8_init_63 (by decide) (by decide) (by decide) (fun h9 => absurd h9 (by decide)) (fun h63 => ?_)
  refine lv_iload_n hx hb dX8_init_66 rfl (lv_at hl 0 rfl) ?_
  refine lv_iconst (v := zi 2) hx hb dX8_init_67 rfl ?_
  refine zc_ge (tgt := 77) hx hb dX8_init_68 (by decide) (by decide) (by decide) (fun h9 => absurd h9 (by decide)) (fun h68 => ?_)
  refine lv_sipush (v := zi 256) hx hb dX8_init_71 (by decide +kernel) ?_
  refine lv_goto (tgt := 89) hx hb dX8_init_74 (by decide) ?_
  refine lv_istore (lv' := [(4, .int (zi 256)), (3, .int (zi 1)), (7, .int (zi 5)), (6, .ref q6), (5, .int (zi 4)), (0, .ref h0), (1, .ref (zsb G)), (2, .int (zi (dr : Int)))]) hx hb dX8_init_89 hl (by decide) rfl (fun ls hl => ?_)
  refine lv_iload_n hx hb dX8_init_91 rfl (lv_at hl 1 rfl) ?_
  refine lv_iconst (v := zi 3) hx hb dX8_init_92 rfl ?_
  refine zc_ge (tgt := 100) hx hb dX8_init_93 (by decide) (by decide) (by decide) (fun h9 => absurd h9 (by decide)) (fun h93 => ?_)
  refine lv_iconst (v := zi 4) hx hb dX8_init_96 rfl ?_
  refine lv_goto (tgt := 101) hx hb dX8_init_97 (by decide) ?_
  refine lv_istore (lv' := [(5, .int (zi 4)), (4, .int (zi 256)), (3, .int (zi 1)), (7, .int (zi 5)), (6, .ref q6), (0, .ref h0), (1, .ref (zsb G)), (2, .int (zi (dr : Int)))]) hx hb dX8_init_101 hl (by decide) rfl (fun ls hl => ?_)
  refine lv_iload hx hb dX8_init_103 (lv_at hl 0 rfl) ?_
  refine lv_iconst (v := zi 2) hx hb dX8_init_105 rfl ?_
  refine lv_iadd hx hb dX8_init_106 (zti (v := zi 6) (zi_add _ _) ?_)
  refine znewI hx hb harrI hE hP hD hS hA 6 rfl (by decide) (Nat.le_of_ble_eq_true rfl) (Nat.le_of_ble_eq_true rfl) dX8_init_107 (fun q7 H hP hD hS => ?_)
  have hP := zlay hP
  have hD := zlayD hD
  have hP : va_P G.1 vwCl ([(h0, .inr (8, [.ref q1, .ref (zsb G), .int (zi ((dr + 4 : Nat) : Int)), .ref q2, .ref q3, .int (zi 0), .ref q4, .int (zi 0), .int (zi 0), .ref q5])), (q2, .inl (zca G, 4, .inr (.inr (.inr (.inr (va_up (fun _ => none) 0 (some q6))))))), (q3, .inl (zca G, 0, .inr (.inr (.inr (.inr (fun _ => none)))))), (q4, .inl (zca G, 0, .inr (.inr (.inr (.inr (fun _ => none)))))), (q5, .inl (zca G, 300, .inr (.inr (.inr (.inr (fun _ => none)))))), (q6, .inl (zci G, 6, .inl (fun j => zi ((zup (zup (zup (zup (zup (fun _ => 0) 1 c1) 2 c2) 3 c3) 4 c4) 5 256) j)))), (q7, .inl (zci G, 6, .inl (fun j => zi ((fun _ => 0) j))))] ++ zpic G ad zX0) H := hP
  have hD : va_D A ([(h0, .inr (8, [.ref q1, .ref (zsb G), .int (zi ((dr + 4 : Nat) : Int)), .ref q2, .ref q3, .int (zi 0), .ref q4, .int (zi 0), .int (zi 0), .ref q5])), (q2, .inl (zca G, 4, .inr (.inr (.inr (.inr (va_up (fun _ => none) 0 (some q6))))))), (q3, .inl (zca G, 0, .inr (.inr (.inr (.inr (fun _ => none)))))), (q4, .inl (zca G, 0, .inr (.inr (.inr (.inr (fun _ => none)))))), (q5, .inl (zca G, 300, .inr (.inr (.inr (.inr (fun _ => none)))))), (q6, .inl (zci G, 6, .inl (fun j => zi ((zup (zup (zup (zup (zup (fun _ => 0) 1 c1) 2 c2) 3 c3) 4 c4) 5 256) j)))), (q7, .inl (zci G, 6, .inl (fun j => zi ((fun _ => 0) j))))] ++ zpic G ad zX0) := hD
  refine lv_astore (lv' := [(6, .ref q7), (5, .int (zi 4)), (4, .int (zi 256)), (3, .int (zi 1)), (7, .int (zi 5)), (0, .ref h0), (1, .ref (zsb G)), (2, .int (zi (dr : Int)))]) hx hb dX8_init_109 hl (by decide) rfl (fun ls hl => ?_)
  refine lv_iconst (v := zi 1) hx hb dX8_init_111 rfl ?_
  refine lv_istore (lv' := [(7, .int (zi 1)), (6, .ref q7), (5, .int (zi 4)), (4, .int (zi 256)), (3, .int (zi 1)), (0, .ref h0), (1, .ref (zsb G)), (2, .int (zi (dr : Int)))]) hx hb dX8_init_112 hl (by decide) rfl (fun ls hl => ?_)
  refine lv_iload hx hb dX8_init_114 (lv_at hl 0 rfl) ?_
  refine lv_iload hx hb dX8_init_116 (lv_at hl 2 rfl) ?_
  refine zc_gt (tgt := 179) hx hb dX8_init_118 (by decide) (by decide) (by decide) (fun h9 => absurd h9 (by decide)) (fun h118 => ?_)
  refine lv_aload hx hb dX8_init_121 (lv_at hl 1 rfl) ?_
  refine lv_iload hx hb dX8_init_123 (lv_at hl 0 rfl) ?_
  refine lv_aload hx hb dX8_init_125 (lv_at hl 1 rfl) ?_
  refine lv_iload hx hb dX8_init_127 (lv_at hl 0 rfl) ?_
  refine lv_iconst (v := zi 1) hx hb dX8_init_129 rfl ?_
  refine lv_isub hx hb dX8_init_130 (zti (v := zi 0) (zi_sub _ _) ?_)
  refine zildL hx hb hE hP 6 rfl 0 rfl (by decide) (by decide) dX8_init_131 ?_
  refine zti (v := zi 0) rfl ?_
  refine lv_iconst (v := zi 1) hx hb dX8_init_132 rfl ?_
  refine lv_iadd hx hb dX8_init_133 (zti (v := zi 1) (zi_add _ _) ?_)
  refine lv_aload_n hx hb dX8_init_134 rfl (lv_at hl 5 rfl) ?_
  refine lv_iload hx hb dX8_init_135 (lv_at hl 3 rfl) ?_
  refine lv_aload hx hb dX8_init_137 (lv_at hl 1 rfl) ?_
  refine lv_iload hx hb dX8_init_139 (lv_at hl 0 rfl) ?_
  refine lv_iconst (v := zi 1) hx hb dX8_init_141 rfl ?_
  refine lv_isub hx hb dX8_init_142 (zti (v := zi 0) (zi_sub _ _) ?_)
  refine zildL hx hb hE hP 6 rfl 0 rfl (by decide) (by decide) dX8_init_143 ?_
  refine zti (v := zi 0) rfl ?_
  refine lv_isub hx hb dX8_init_144 (zti (v := zi 256) (zi_sub _ _) ?_)
  refine lv_iconst (v := zi 1) hx hb dX8_init_145 rfl ?_
  refine lv_isub hx hb dX8_init_146 (zti (v := zi 255) (zi_sub _ _) ?_)
  refine lv_iload hx hb dX8_init_147 (lv_at hl 2 rfl) ?_
  refine lv_iload hx hb dX8_init_149 (lv_at hl 0 rfl) ?_
  refine lv_isub hx hb dX8_init_151 (zti (v := zi 3) (zi_sub _ _) ?_)
  refine lv_isub hx hb dX8_init_152 (zti (v := zi 252) (zi_sub _ _) ?_)
  refine lv_iconst (v := zi 1) hx hb dX8_init_153 rfl ?_
  refine lv_isub hx hb dX8_init_154 (zti (v := zi 251) (zi_sub _ _) ?_)
  refine lv_iload_n hx hb dX8_init_155 rfl (lv_at hl 4 rfl) ?_
  refine lv_iconst (v := zi 3) hx hb dX8_init_156 rfl ?_
  refine zc_ge (tgt := 164) hx hb dX8_init_157 (by decide) (by decide) (by decide) (fun h9 => absurd h9 (by decide)) (fun h157 => ?_)
  refine lv_iconst (v := zi 2) hx hb dX8_init_160 rfl ?_
  refine lv_goto (tgt := 165) hx hb dX8_init_161 (by decide) ?_
  refine lv_idiv hx hb dX8_init_165 (by decide +kernel) (zti (v := zi (251 / 2)) (zi_dvi (b := 2) (by omega) (by omega) (by decide) (by decide)) ?_)
  refine lv_iconst (v := zi 1) hx hb dX8_init_166 rfl ?_
  refine lv_iadd hx hb dX8_init_167 (zti (v := zi ((251 / 2) + 1)) (zi_add _ _) ?_)
  obtain ⟨nd5, hnd5⟩ : ∃ z : Nat, ((251 / 2) + 1 : Int) = (z : Int) := ⟨((251 / 2) + 1 : Int).toNat, by omega⟩
  refine zti (v := zi (nd5 : Int)) (congrArg zi hnd5) ?_
  refine zcall (wr := []) (wc := [(h0, .inr (8, [.ref q1, .ref (zsb G), .int (zi ((dr + 4 : Nat) : Int)), .ref q2, .ref q3, .int (zi 0), .ref q4, .int (zi 0), .int (zi 0), .ref q5])), (q2, .inl (zca G, 4, .inr (.inr (.inr (.inr (va_up (fun _ => none) 0 (some q6))))))), (q3, .inl (zca G, 0, .inr (.inr (.inr (.inr (fun _ => none)))))), (q4, .inl (zca G, 0, .inr (.inr (.inr (.inr (fun _ => none)))))), (q5, .inl (zca G, 300, .inr (.inr (.inr (.inr (fun _ => none)))))), (q6, .inl (zci G, 6, .inl (fun j => zi ((zup (zup (zup (zup (zup (fun _ => 0) 1 c1) 2 c2) 3 c3) 4 c4) 5 256) j)))), (q7, .inl (zci G, 6, .inl (fun j => zi ((fun _ => 0) j))))] ++ zpic G ad zX0) (va_runV (As := [.int (zi (nd5 : Int))]) (rest := [.int (zi 1), .int (zi 1), .ref q7]) ⟨hx, hb, hml, hown, hts⟩ (k_X8_draw l G ([(h0, .inr (8, [.ref q1, .ref (zsb G), .int (zi ((dr + 4 : Nat) : Int)), .ref q2, .ref q3, .int (zi 0), .ref q4, .int (zi 0), .int (zi 0), .ref q5])), (q2, .inl (zca G, 4, .inr (.inr (.inr (.inr (va_up (fun _ => none) 0 (some q6))))))), (q3, .inl (zca G, 0, .inr (.inr (.inr (.inr (fun _ => none)))))), (q4, .inl (zca G, 0, .inr (.inr (.inr (.inr (fun _ => none)))))), (q5, .inl (zca G, 300, .inr (.inr (.inr (.inr (fun _ => none)))))), (q6, .inl (zci G, 6, .inl (fun j => zi ((zup (zup (zup (zup (zup (fun _ => 0) 1 c1) 2 c2) 3 c3) 4 c4) 5 256) j)))), (q7, .inl (zci G, 6, .inl (fun j => zi ((fun _ => 0) j))))] ++ zpic G ad zX0) 0 h0 (.ref q1) ((dr + 4 : Nat)) (.ref q2) (.ref q3) (.int (zi 0)) (.ref q4) (.int (zi 0)) (.int (zi 0)) (.ref q5) nd5 rfl hsl (by omega) (by omega) H.size) (cwV 1 hts gX8_init_X8_draw rfl rfl rfl (by decide +kernel) ⟨Nat.le_of_ble_eq_true rfl, Nat.le_of_ble_eq_true rfl⟩) (zPreV (As := [.int (zi (nd5 : Int))]) (wr := []) (wc := [(h0, .inr (8, [.ref q1, .ref (zsb G), .int (zi ((dr + 4 : Nat) : Int)), .ref q2, .ref q3, .int (zi 0), .ref q4, .int (zi 0), .int (zi 0), .ref q5])), (q2, .inl (zca G, 4, .inr (.inr (.inr (.inr (va_up (fun _ => none) 0 (some q6))))))), (q3, .inl (zca G, 0, .inr (.inr (.inr (.inr (fun _ => none)))))), (q4, .inl (zca G, 0, .inr (.inr (.inr (.inr (fun _ => none)))))), (q5, .inl (zca G, 300, .inr (.inr (.inr (.inr (fun _ => none)))))), (q6, .inl (zci G, 6, .inl (fun j => zi ((zup (zup (zup (zup (zup (fun _ => 0) 1 c1) 2 c2) 3 c3) 4 c4) 5 256) j)))), (q7, .inl (zci G, 6, .inl (fun j => zi ((fun _ => 0) j))))] ++ zpic G ad zX0) (q0 := 0) (ci := 8) (q := (RX8, TX8, 10)) hP hD hE hS hA rfl rfl) rfl rfl hl.1 rfl (lv_room (Nat.le_of_ble_eq_true rfl)) dX8_init_168 ⟨Nat.le_of_ble_eq_true rfl, Nat.le_of_ble_eq_true rfl⟩) hP hD hS hA (fun _ _ H locs hf hP hD hS => ?_)
  obtain ⟨v5, rfl, hv5, hw9⟩ := hf
  rw [hw9] at hP hD
  have hP : va_P G.1 vwCl ([(h0, .inr (8, [.ref q1, .ref (zsb G), .int (zi ((dr + 5 : Nat) : Int)), .ref q2, .ref q3, .int (zi 0), .ref q4, .int (zi 0), .int (zi 0), .ref q5])), (q2, .inl (zca G, 4, .inr (.inr (.inr (.inr (va_up (fun _ => none) 0 (some q6))))))), (q3, .inl (zca G, 0, .inr (.inr (.inr (.inr (fun _ => none)))))), (q4, .inl (zca G, 0, .inr (.inr (.inr (.inr (fun _ => none)))))), (q5, .inl (zca G, 300, .inr (.inr (.inr (.inr (fun _ => none)))))), (q6, .inl (zci G, 6, .inl (fun j => zi ((zup (zup (zup (zup (zup (fun _ => 0) 1 c1) 2 c2) 3 c3) 4 c4) 5 256) j)))), (q7, .inl (zci G, 6, .inl (fun j => zi ((fun _ => 0) j))))] ++ zpic G ad zX0) H := hP
  have hD : va_D A ([(h0, .inr (8, [.ref q1, .ref (zsb G), .int (zi ((dr + 5 : Nat) : Int)), .ref q2, .ref q3, .int (zi 0), .ref q4, .int (zi 0), .int (zi 0), .ref q5])), (q2, .inl (zca G, 4, .inr (.inr (.inr (.inr (va_up (fun _ => none) 0 (some q6))))))), (q3, .inl (zca G, 0, .inr (.inr (.inr (.inr (fun _ => none)))))), (q4, .inl (zca G, 0, .inr (.inr (.inr (.inr (fun _ => none)))))), (q5, .inl (zca G, 300, .inr (.inr (.inr (.inr (fun _ => none)))))), (q6, .inl (zci G, 6, .inl (fun j => zi ((zup (zup (zup (zup (zup (fun _ => 0) 1 c1) 2 c2) 3 c3) 4 c4) 5 256) j)))), (q7, .inl (zci G, 6, .inl (fun j => zi ((fun _ => 0) j))))] ++ zpic G ad zX0) := hD
  refine W.eq (g2 := F0 m 171 ls [.int (zi v5), .int (zi 1), .int (zi 1), .ref q7]) rfl ?_
  refine lv_iadd hx hb dX8_init_171 (zti (v := zi (1 + v5)) (zi_add _ _) ?_)
  obtain ⟨c5, hc5⟩ : ∃ z : Int, z = 1 + v5 := ⟨_, rfl⟩
  refine zti (v := zi c5) (congrArg zi hc5.symm) ?_
  have hc5b : 0 + 1 ≤ c5 ∧ c5 ≤ 252 := by omega
  refine zistL hx hb hE hP hD hS 6 rfl 1 rfl (by decide) (by decide) dX8_init_172 (fun H locs hP hD hS => ?_)
  have hP : va_P G.1 vwCl ([(h0, .inr (8, [.ref q1, .ref (zsb G), .int (zi ((dr + 5 : Nat) : Int)), .ref q2, .ref q3, .int (zi 0), .ref q4, .int (zi 0), .int (zi 0), .ref q5])), (q2, .inl (zca G, 4, .inr (.inr (.inr (.inr (va_up (fun _ => none) 0 (some q6))))))), (q3, .inl (zca G, 0, .inr (.inr (.inr (.inr (fun _ => none)))))), (q4, .inl (zca G, 0, .inr (.inr (.inr (.inr (fun _ => none)))))), (q5, .inl (zca G, 300, .inr (.inr (.inr (.inr (fun _ => none)))))), (q6, .inl (zci G, 6, .inl (fun j => zi ((zup (zup (zup (zup (zup (fun _ => 0) 1 c1) 2 c2) 3 c3) 4 c4) 5 256) j)))), (q7, .inl (zci G, 6, .inl (fun j => zi ((zup (fun _ => 0) 1 c5) j))))] ++ zpic G ad zX0) H := hP
  have hD : va_D A ([(h0, .inr (8, [.ref q1, .ref (zsb G), .int (zi ((dr + 5 : Nat) : Int)), .ref q2, .ref q3, .int (zi 0), .ref q4, .int (zi 0), .int (zi 0), .ref q5])), (q2, .inl (zca G, 4, .inr (.inr (.inr (.inr (va_up (fun _ => none) 0 (some q6))))))), (q3, .inl (zca G, 0, .inr (.inr (.inr (.inr (fun _ => none)))))), (q4, .inl (zca G, 0, .inr (.inr (.inr (.inr (fun _ => none)))))), (q5, .inl (zca G, 300, .inr (.inr (.inr (.inr (fun _ => none)))))), (q6, .inl (zci G, 6, .inl (fun j => zi ((zup (zup (zup (zup (zup (fun _ => 0) 1 c1) 2 c2) 3 c3) 4 c4) 5 256) j)))), (q7, .inl (zci G, 6, .inl (fun j => zi ((zup (fun _ => 0) 1 c5) j))))] ++ zpic G ad zX0) := hD
  refine lv_iinc (v := zi 2) (lv' := [(7, .int (zi 2)), (6, .ref q7), (5, .int (zi 4)), (4, .int (zi 256)), (3, .int (zi 1)), (0, .ref h0), (1, .ref (zsb G)), (2, .int (zi (dr : Int)))]) hx hb dX8_init_173 hl (k := 0) rfl (zi_add _ _) (by decide) rfl (fun ls hl => ?_)
  refine lv_goto (tgt := 114) hx hb dX8_init_176 (by decide) ?_
  refine lv_iload hx hb dX8_init_114 (lv_at hl 0 rfl) ?_
  refine lv_iload hx hb dX8_init_116 (lv_at hl 2 rfl) ?_
  refine zc_gt (tgt := 179) hx hb dX8_init_118 (by decide) (by decide) (by decide) (fun h9 => absurd h9 (by decide)) (fun h118 => ?_)
  refine lv_aload hx hb dX8_init_121 (lv_at hl 1 rfl) ?_
  refine lv_iload hx hb dX8_init_123 (lv_at hl 0 rfl) ?_
  refine lv_aload hx hb dX8_init_125 (lv_at hl 1 rfl) ?_
  refine lv_iload hx hb dX8_init_127 (lv_at hl 0 rfl) ?_
  refine lv_iconst (v := zi 1) hx hb dX8_init_129 rfl ?_
  refine lv_isub hx hb dX8_init_130 (zti (v := zi 1) (zi_sub _ _) ?_)
  refine zildL hx hb hE hP 6 rfl 1 rfl (by decide) (by decide) dX8_init_131 ?_
  refine zti (v := zi c5) rfl ?_
  refine lv_iconst (v := zi 1) hx hb dX8_init_132 rfl ?_
  refine lv_iadd hx hb dX8_init_133 (zti (v := zi (c5 + 1)) (zi_add _ _) ?_)
  refine lv_aload_n hx hb dX8_init_134 rfl (lv_at hl 5 rfl) ?_
  refine lv_iload hx hb dX8_init_135 (lv_at hl 3 rfl) ?_
  refine lv_aload hx hb dX8_init_137 (lv_at hl 1 rfl) ?_
  refine lv_iload hx hb dX8_init_139 (lv_at hl 0 rfl) ?_
  refine lv_iconst (v := zi 1) hx hb dX8_init_141 rfl ?_
  refine lv_isub hx hb dX8_init_142 (zti (v := zi 1) (zi_sub _ _) ?_)
  refine zildL hx hb hE hP 6 rfl 1 rfl (by decide) (by decide) dX8_init_143 ?_
  refine zti (v := zi c5) rfl ?_
  refine lv_isub hx hb dX8_init_144 (zti (v := zi (256 - c5)) (zi_sub _ _) ?_)
  refine lv_iconst (v := zi 1) hx hb dX8_init_145 rfl ?_
  refine lv_isub hx hb dX8_init_146 (zti (v := zi ((256 - c5) - 1)) (zi_sub _ _) ?_)
  refine lv_iload hx hb dX8_init_147 (lv_at hl 2 rfl) ?_
  refine lv_iload hx hb dX8_init_149 (lv_at hl 0 rfl) ?_
  refine lv_isub hx hb dX8_init_151 (zti (v := zi 2) (zi_sub _ _) ?_)
  refine lv_isub hx hb dX8_init_152 (zti (v := zi (((256 - c5) - 1) - 2)) (zi_sub _ _) ?_)
  refine lv_iconst (v := zi 1) hx hb dX8_init_153 rfl ?_
  refine lv_isub hx hb dX8_init_154 (zti (v := zi ((((256 - c5) - 1) - 2) - 1)) (zi_sub _ _) ?_)
  refine lv_iload_n hx hb dX8_init_155 rfl (lv_at hl 4 rfl) ?_
  refine lv_iconst (v := zi 3) hx hb dX8_init_156 rfl ?_
  refine zc_ge (tgt := 164) hx hb dX8_init_157 (by decide) (by decide) (by decide) (fun h9 => absurd h9 (by decide)) (fun h157 => ?_)
  refine lv_iconst (v := zi 2) hx hb dX8_init_160 rfl ?_
  refine lv_goto (tgt := 165) hx hb dX8_init_161 (by decide) ?_
  refine lv_idiv hx hb dX8_init_165 (by decide +kernel) (zti (v := zi (((((256 - c5) - 1) - 2) - 1) / 2)) (zi_dvi (b := 2) (by omega) (by omega) (by decide) (by decide)) ?_)
  refine lv_iconst (v := zi 1) hx hb dX8_init_166 rfl ?_
  refine lv_iadd hx hb dX8_init_167 (zti (v := zi ((((((256 - c5) - 1) - 2) - 1) / 2) + 1)) (zi_add _ _) ?_)
  obtain ⟨nd6, hnd6⟩ : ∃ z : Nat, ((((((256 - c5) - 1) - 2) - 1) / 2) + 1 : Int) = (z : Int) := ⟨((((((256 - c5) - 1) - 2) - 1) / 2) + 1 : Int).toNat, by omega⟩
  refine zti (v := zi (nd6 : Int)) (congrArg zi hnd6) ?_
  refine zcall (wr := []) (wc := [(h0, .inr (8, [.ref q1, .ref (zsb G), .int (zi ((dr + 5 : Nat) : Int)), .ref q2, .ref q3, .int (zi 0), .ref q4, .int (zi 0), .int (zi 0), .ref q5])), (q2, .inl (zca G, 4, .inr (.inr (.inr (.inr (va_up (fun _ => none) 0 (some q6))))))), (q3, .inl (zca G, 0, .inr (.inr (.inr (.inr (fun _ => none)))))), (q4, .inl (zca G, 0, .inr (.inr (.inr (.inr (fun _ => none)))))), (q5, .inl (zca G, 300, .inr (.inr (.inr (.inr (fun _ => none)))))), (q6, .inl (zci G, 6, .inl (fun j => zi ((zup (zup (zup (zup (zup (fun _ => 0) 1 c1) 2 c2) 3 c3) 4 c4) 5 256) j)))), (q7, .inl (zci G, 6, .inl (fun j => zi ((zup (fun _ => 0) 1 c5) j))))] ++ zpic G ad zX0) (va_runV (As := [.int (zi (nd6 : Int))]) (rest := [.int (zi (c5 + 1)), .int (zi 2), .ref q7]) ⟨hx, hb, hml, hown, hts⟩ (k_X8_draw l G ([(h0, .inr (8, [.ref q1, .ref (zsb G), .int (zi ((dr + 5 : Nat) : Int)), .ref q2, .ref q3, .int (zi 0), .ref q4, .int (zi 0), .int (zi 0), .ref q5])), (q2, .inl (zca G, 4, .inr (.inr (.inr (.inr (va_up (fun _ => none) 0 (some q6))))))), (q3, .inl (zca G, 0, .inr (.inr (.inr (.inr (fun _ => none)))))), (q4, .inl (zca G, 0, .inr (.inr (.inr (.inr (fun _ => none)))))), (q5, .inl (zca G, 300, .inr (.inr (.inr (.inr (fun _ => none)))))), (q6, .inl (zci G, 6, .inl (fun j => zi ((zup (zup (zup (zup (zup (fun _ => 0) 1 c1) 2 c2) 3 c3) 4 c4) 5 256) j)))), (q7, .inl (zci G, 6, .inl (fun j => zi ((zup (fun _ => 0) 1 c5) j))))] ++ zpic G ad zX0) 0 h0 (.ref q1) ((dr + 5 : Nat)) (.ref q2) (.ref q3) (.int (zi 0)) (.ref q4) (.int (zi 0)) (.int (zi 0)) (.ref q5) nd6 rfl hsl (by omega) (by omega) H.size) (cwV 1 hts gX8_init_X8_draw rfl rfl rfl (by decide +kernel) ⟨Nat.le_of_ble_eq_true rfl, Nat.le_of_ble_eq_true rfl⟩) (zPreV (As := [.int (zi (nd6 : Int))]) (wr := []) (wc := [(h0, .inr (8, [.ref q1, .ref (zsb G), .int (zi ((dr + 5 : Nat) : Int)), .ref q2, .ref q3, .int (zi 0), .ref q4, .int (zi 0), .int (zi 0), .ref q5])), (q2, .inl (zca G, 4, .inr (.inr (.inr (.inr (va_up (fun _ => none) 0 (some q6))))))), (q3, .inl (zca G, 0, .inr (.inr (.inr (.inr (fun _ => none)))))), (q4, .inl (zca G, 0, .inr (.inr (.inr (.inr (fun _ => none)))))), (q5, .inl (zca G, 300, .inr (.inr (.inr (.inr (fun _ => none)))))), (q6, .inl (zci G, 6, .inl (fun j => zi ((zup (zup (zup (zup (zup (fun _ => 0) 1 c1) 2 c2) 3 c3) 4 c4) 5 256) j)))), (q7, .inl (zci G, 6, .inl (fun j => zi ((zup (fun _ => 0) 1 c5) j))))] ++ zpic G ad zX0) (q0 := 0) (ci := 8) (q := (RX8, TX8, 10)) hP hD hE hS hA rfl rfl) rfl rfl hl.1 rfl (lv_room (Nat.le_of_ble_eq_true rfl)) dX8_init_168 ⟨Nat.le_of_ble_eq_true rfl, Nat.le_of_ble_eq_true rfl⟩) hP hD hS hA (fun _ _ H locs hf hP hD hS => ?_)
  obtain ⟨v6, rfl, hv6, hw9⟩ := hf
  rw [hw9] at hP hD
  have hP : va_P G.1 vwCl ([(h0, .inr (8, [.ref q1, .ref (zsb G), .int (zi ((dr + 6 : Nat) : Int)), .ref q2, .ref q3, .int (zi 0), .ref q4, .int (zi 0), .int (zi 0), .ref q5])), (q2, .inl (zca G, 4, .inr (.inr (.inr (.inr (va_up (fun _ => none) 0 (some q6))))))), (q3, .inl (zca G, 0, .inr (.inr (.inr (.inr (fun _ => none)))))), (q4, .inl (zca G, 0, .inr (.inr (.inr (.inr (fun _ => none)))))), (q5, .inl (zca G, 300, .inr (.inr (.inr (.inr (fun _ => none)))))), (q6, .inl (zci G, 6, .inl (fun j => zi ((zup (zup (zup (zup (zup (fun _ => 0) 1 c1) 2 c2) 3 c3) 4 c4) 5 256) j)))), (q7, .inl (zci G, 6, .inl (fun j => zi ((zup (fun _ => 0) 1 c5) j))))] ++ zpic G ad zX0) H := hP
  have hD : va_D A ([(h0, .inr (8, [.ref q1, .ref (zsb G), .int (zi ((dr + 6 : Nat) : Int)), .ref q2, .ref q3, .int (zi 0), .ref q4, .int (zi 0), .int (zi 0), .ref q5])), (q2, .inl (zca G, 4, .inr (.inr (.inr (.inr (va_up (fun _ => none) 0 (some q6))))))), (q3, .inl (zca G, 0, .inr (.inr (.inr (.inr (fun _ => none)))))), (q4, .inl (zca G, 0, .inr (.inr (.inr (.inr (fun _ => none)))))), (q5, .inl (zca G, 300, .inr (.inr (.inr (.inr (fun _ => none)))))), (q6, .inl (zci G, 6, .inl (fun j => zi ((zup (zup (zup (zup (zup (fun _ => 0) 1 c1) 2 c2) 3 c3) 4 c4) 5 256) j)))), (q7, .inl (zci G, 6, .inl (fun j => zi ((zup (fun _ => 0) 1 c5) j))))] ++ zpic G ad zX0) := hD
  refine W.eq (g2 := F0 m 171 ls [.int (zi v6), .int (zi (c5 + 1)), .int (zi 2), .ref q7]) rfl ?_
  refine lv_iadd hx hb dX8_init_171 (zti (v := zi ((c5 + 1) + v6)) (zi_add _ _) ?_)
  obtain ⟨c6, hc6⟩ : ∃ z : Int, z = (c5 + 1) + v6 := ⟨_, rfl⟩
  refine zti (v := zi c6) (congrArg zi hc6.symm) ?_
  have hc6b : c5 + 1 ≤ c6 ∧ c6 ≤ 253 := by omega
  refine zistL hx hb hE hP hD hS 6 rfl 2 rfl (by decide) (by decide) dX8_init_172 (fun H locs hP hD hS => ?_)
  have hP : va_P G.1 vwCl ([(h0, .inr (8, [.ref q1, .ref (zsb G), .int (zi ((dr + 6 : Nat) : Int)), .ref q2, .ref q3, .int (zi 0), .ref q4, .int (zi 0), .int (zi 0), .ref q5])), (q2, .inl (zca G, 4, .inr (.inr (.inr (.inr (va_up (fun _ => none) 0 (some q6))))))), (q3, .inl (zca G, 0, .inr (.inr (.inr (.inr (fun _ => none)))))), (q4, .inl (zca G, 0, .inr (.inr (.inr (.inr (fun _ => none)))))), (q5, .inl (zca G, 300, .inr (.inr (.inr (.inr (fun _ => none)))))), (q6, .inl (zci G, 6, .inl (fun j => zi ((zup (zup (zup (zup (zup (fun _ => 0) 1 c1) 2 c2) 3 c3) 4 c4) 5 256) j)))), (q7, .inl (zci G, 6, .inl (fun j => zi ((zup (zup (fun _ => 0) 1 c5) 2 c6) j))))] ++ zpic G ad zX0) H := hP
  have hD : va_D A ([(h0, .inr (8, [.ref q1, .ref (zsb G), .int (zi ((dr + 6 : Nat) : Int)), .ref q2, .ref q3, .int (zi 0), .ref q4, .int (zi 0), .int (zi 0), .ref q5])), (q2, .inl (zca G, 4, .inr (.inr (.inr (.inr (va_up (fun _ => none) 0 (some q6))))))), (q3, .inl (zca G, 0, .inr (.inr (.inr (.inr (fun _ => none)))))), (q4, .inl (zca G, 0, .inr (.inr (.inr (.inr (fun _ => none)))))), (q5, .inl (zca G, 300, .inr (.inr (.inr (.inr (fun _ => none)))))), (q6, .inl (zci G, 6, .inl (fun j => zi ((zup (zup (zup (zup (zup (fun _ => 0) 1 c1) 2 c2) 3 c3) 4 c4) 5 256) j)))), (q7, .inl (zci G, 6, .inl (fun j => zi ((zup (zup (fun _ => 0) 1 c5) 2 c6) j))))] ++ zpic G ad zX0) := hD
  refine lv_iinc (v := zi 3) (lv' := [(7, .int (zi 3)), (6, .ref q7), (5, .int (zi 4)), (4, .int (zi 256)), (3, .int (zi 1)), (0, .ref h0), (1, .ref (zsb G)), (2, .int (zi (dr : Int)))]) hx hb dX8_init_173 hl (k := 0) rfl (zi_add _ _) (by decide) rfl (fun ls hl => ?_)
  refine lv_goto (tgt := 114) hx hb dX8_init_176 (by decide) ?_
  refine lv_iload hx hb dX8_init_114 (lv_at hl 0 rfl) ?_
  refine lv_iload hx hb dX8_init_116 (lv_at hl 2 rfl) ?_
  refine zc_gt (tgt := 179) hx hb dX8_init_118 (by decide) (by decide) (by decide) (fun h9 => absurd h9 (by decide)) (fun h118 => ?_)
  refine lv_aload hx hb dX8_init_121 (lv_at hl 1 rfl) ?_
  refine lv_iload hx hb dX8_init_123 (lv_at hl 0 rfl) ?_
  refine lv_aload hx hb dX8_init_125 (lv_at hl 1 rfl) ?_
  refine lv_iload hx hb dX8_init_127 (lv_at hl 0 rfl) ?_
  refine lv_iconst (v := zi 1) hx hb dX8_init_129 rfl ?_
  refine lv_isub hx hb dX8_init_130 (zti (v := zi 2) (zi_sub _ _) ?_)
  refine zildL hx hb hE hP 6 rfl 2 rfl (by decide) (by decide) dX8_init_131 ?_
  refine zti (v := zi c6) rfl ?_
  refine lv_iconst (v := zi 1) hx hb dX8_init_132 rfl ?_
  refine lv_iadd hx hb dX8_init_133 (zti (v := zi (c6 + 1)) (zi_add _ _) ?_)
  refine lv_aload_n hx hb dX8_init_134 rfl (lv_at hl 5 rfl) ?_
  refine lv_iload hx hb dX8_init_135 (lv_at hl 3 rfl) ?_
  refine lv_aload hx hb dX8_init_137 (lv_at hl 1 rfl) ?_
  refine lv_iload hx hb dX8_init_139 (lv_at hl 0 rfl) ?_
  refine lv_iconst (v := zi 1) hx hb dX8_init_141 rfl ?_
  refine lv_isub hx hb dX8_init_142 (zti (v := zi 2) (zi_sub _ _) ?_)
  refine zildL hx hb hE hP 6 rfl 2 rfl (by decide) (by decide) dX8_init_143 ?_
  refine zti (v := zi c6) rfl ?_
  refine lv_isub hx hb dX8_init_144 (zti (v := zi (256 - c6)) (zi_sub _ _) ?_)
  refine lv_iconst (v := zi 1) hx hb dX8_init_145 rfl ?_
  refine lv_isub hx hb dX8_init_146 (zti (v := zi ((256 - c6) - 1)) (zi_sub _ _) ?_)
  refine lv_iload hx hb dX8_init_147 (lv_at hl 2 rfl) ?_
  refine lv_iload hx hb dX8_init_149 (lv_at hl 0 rfl) ?_
  refine lv_isub hx hb dX8_init_151 (zti (v := zi 1) (zi_sub _ _) ?_)
  refine lv_isub hx hb dX8_init_152 (zti (v := zi (((256 - c6) - 1) - 1)) (zi_sub _ _) ?_)
  refine lv_iconst (v := zi 1) hx hb dX8_init_153 rfl ?_
  refine lv_isub hx hb dX8_init_154 (zti (v := zi ((((256 - c6) - 1) - 1) - 1)) (zi_sub _ _) ?_)
  refine lv_iload_n hx hb dX8_init_155 rfl (lv_at hl 4 rfl) ?_
  refine lv_iconst (v := zi 3) hx hb dX8_init_156 rfl ?_
  refine zc_ge (tgt := 164) hx hb dX8_init_157 (by decide) (by decide) (by decide) (fun h9 => absurd h9 (by decide)) (fun h157 => ?_)
  refine lv_iconst (v := zi 2) hx hb dX8_init_160 rfl ?_
  refine lv_goto (tgt := 165) hx hb dX8_init_161 (by decide) ?_
  refine lv_idiv hx hb dX8_init_165 (by decide +kernel) (zti (v := zi (((((256 - c6) - 1) - 1) - 1) / 2)) (zi_dvi (b := 2) (by omega) (by omega) (by decide) (by decide)) ?_)
  refine lv_iconst (v := zi 1) hx hb dX8_init_166 rfl ?_
  refine lv_iadd hx hb dX8_init_167 (zti (v := zi ((((((256 - c6) - 1) - 1) - 1) / 2) + 1)) (zi_add _ _) ?_)
  obtain ⟨nd7, hnd7⟩ : ∃ z : Nat, ((((((256 - c6) - 1) - 1) - 1) / 2) + 1 : Int) = (z : Int) := ⟨((((((256 - c6) - 1) - 1) - 1) / 2) + 1 : Int).toNat, by omega⟩
  refine zti (v := zi (nd7 : Int)) (congrArg zi hnd7) ?_
  refine zcall (wr := []) (wc := [(h0, .inr (8, [.ref q1, .ref (zsb G), .int (zi ((dr + 6 : Nat) : Int)), .ref q2, .ref q3, .int (zi 0), .ref q4, .int (zi 0), .int (zi 0), .ref q5])), (q2, .inl (zca G, 4, .inr (.inr (.inr (.inr (va_up (fun _ => none) 0 (some q6))))))), (q3, .inl (zca G, 0, .inr (.inr (.inr (.inr (fun _ => none)))))), (q4, .inl (zca G, 0, .inr (.inr (.inr (.inr (fun _ => none)))))), (q5, .inl (zca G, 300, .inr (.inr (.inr (.inr (fun _ => none)))))), (q6, .inl (zci G, 6, .inl (fun j => zi ((zup (zup (zup (zup (zup (fun _ => 0) 1 c1) 2 c2) 3 c3) 4 c4) 5 256) j)))), (q7, .inl (zci G, 6, .inl (fun j => zi ((zup (zup (fun _ => 0) 1 c5) 2 c6) j))))] ++ zpic G ad zX0) (va_runV (As := [.int (zi (nd7 : Int))]) (rest := [.int (zi (c6 + 1)), .int (zi 3), .ref q7]) ⟨hx, hb, hml, hown, hts⟩ (k_X8_draw l G ([(h0, .inr (8, [.ref q1, .ref (zsb G), .int (zi ((dr + 6 : Nat) : Int)), .ref q2, .ref q3, .int (zi 0), .ref q4, .int (zi 0), .int (zi 0), .ref q5])), (q2, .inl (zca G, 4, .inr (.inr (.inr (.inr (va_up (fun _ => none) 0 (some q6))))))), (q3, .inl (zca G, 0, .inr (.inr (.inr (.inr (fun _ => none)))))), (q4, .inl (zca G, 0, .inr (.inr (.inr (.inr (fun _ => none)))))), (q5, .inl (zca G, 300, .inr (.inr (.inr (.inr (fun _ => none)))))), (q6, .inl (zci G, 6, .inl (fun j => zi ((zup (zup (zup (zup (zup (fun _ => 0) 1 c1) 2 c2) 3 c3) 4 c4) 5 256) j)))), (q7, .inl (zci G, 6, .inl (fun j => zi ((zup (zup (fun _ => 0) 1 c5) 2 c6) j))))] ++ zpic G ad zX0) 0 h0 (.ref q1) ((dr + 6 : Nat)) (.ref q2) (.ref q3) (.int (zi 0)) (.ref q4) (.int (zi 0)) (.int (zi 0)) (.ref q5) nd7 rfl hsl (by omega) (by omega) H.size) (cwV 1 hts gX8_init_X8_draw rfl rfl rfl (by decide +kernel) ⟨Nat.le_of_ble_eq_true rfl, Nat.le_of_ble_eq_true rfl⟩) (zPreV (As := [.int (zi (nd7 : Int))]) (wr := []) (wc := [(h0, .inr (8, [.ref q1, .ref (zsb G), .int (zi ((dr + 6 : Nat) : Int)), .ref q2, .ref q3, .int (zi 0), .ref q4, .int (zi 0), .int (zi 0), .ref q5])), (q2, .inl (zca G, 4, .inr (.inr (.inr (.inr (va_up (fun _ => none) 0 (some q6))))))), (q3, .inl (zca G, 0, .inr (.inr (.inr (.inr (fun _ => none)))))), (q4, .inl (zca G, 0, .inr (.inr (.inr (.inr (fun _ => none)))))), (q5, .inl (zca G, 300, .inr (.inr (.inr (.inr (fun _ => none)))))), (q6, .inl (zci G, 6, .inl (fun j => zi ((zup (zup (zup (zup (zup (fun _ => 0) 1 c1) 2 c2) 3 c3) 4 c4) 5 256) j)))), (q7, .inl (zci G, 6, .inl (fun j => zi ((zup (zup (fun _ => 0) 1 c5) 2 c6) j))))] ++ zpic G ad zX0) (q0 := 0) (ci := 8) (q := (RX8, TX8, 10)) hP hD hE hS hA rfl rfl) rfl rfl hl.1 rfl (lv_room (Nat.le_of_ble_eq_true rfl)) dX8_init_168 ⟨Nat.le_of_ble_eq_true rfl, Nat.le_of_ble_eq_true rfl⟩) hP hD hS hA (fun _ _ H locs hf hP hD hS => ?_)
  obtain ⟨v7, rfl, hv7, hw9⟩ := hf
  rw [hw9] at hP hD
  have hP : va_P G.1 vwCl ([(h0, .inr (8, [.ref q1, .ref (zsb G), .int (zi ((dr + 7 : Nat) : Int)), .ref q2, .ref q3, .int (zi 0), .ref q4, .int (zi 0), .int (zi 0), .ref q5])), (q2, .inl (zca G, 4, .inr (.inr (.inr (.inr (va_up (fun _ => none) 0 (some q6))))))), (q3, .inl (zca G, 0, .inr (.inr (.inr (.inr (fun _ => none)))))), (q4, .inl (zca G, 0, .inr (.inr (.inr (.inr (fun _ => none)))))), (q5, .inl (zca G, 300, .inr (.inr (.inr (.inr (fun _ => none)))))), (q6, .inl (zci G, 6, .inl (fun j => zi ((zup (zup (zup (zup (zup (fun _ => 0) 1 c1) 2 c2) 3 c3) 4 c4) 5 256) j)))), (q7, .inl (zci G, 6, .inl (fun j => zi ((zup (zup (fun _ => 0) 1 c5) 2 c6) j))))] ++ zpic G ad zX0) H := hP
  have hD : va_D A ([(h0, .inr (8, [.ref q1, .ref (zsb G), .int (zi ((dr + 7 : Nat) : Int)), .ref q2, .ref q3, .int (zi 0), .ref q4, .int (zi 0), .int (zi 0), .ref q5])), (q2, .inl (zca G, 4, .inr (.inr (.inr (.inr (va_up (fun _ => none) 0 (some q6))))))), (q3, .inl (zca G, 0, .inr (.inr (.inr (.inr (fun _ => none)))))), (q4, .inl (zca G, 0, .inr (.inr (.inr (.inr (fun _ => none)))))), (q5, .inl (zca G, 300, .inr (.inr (.inr (.inr (fun _ => none)))))), (q6, .inl (zci G, 6, .inl (fun j => zi ((zup (zup (zup (zup (zup (fun _ => 0) 1 c1) 2 c2) 3 c3) 4 c4) 5 256) j)))), (q7, .inl (zci G, 6, .inl (fun j => zi ((zup (zup (fun _ => 0) 1 c5) 2 c6) j))))] ++ zpic G ad zX0) := hD
  refine W.eq (g2 := F0 m 171 ls [.int (zi v7), .int (zi (c6 + 1)), .int (zi 3), .ref q7]) rfl ?_
  refine lv_iadd hx hb dX8_init_171 (zti (v := zi ((c6 + 1) + v7)) (zi_add _ _) ?_)
  obtain ⟨c7, hc7⟩ : ∃ z : Int, z = (c6 + 1) + v7 := ⟨_, rfl⟩
  refine zti (v := zi c7) (congrArg zi hc7.symm) ?_
  have hc7b : c6 + 1 ≤ c7 ∧ c7 ≤ 254 := by omega
  refine zistL hx hb hE hP hD hS 6 rfl 3 rfl (by decide) (by decide) dX8_init_172 (fun H locs hP hD hS => ?_)
  have hP : va_P G.1 vwCl ([(h0, .inr (8, [.ref q1, .ref (zsb G), .int (zi ((dr + 7 : Nat) : Int)), .ref q2, .ref q3, .int (zi 0), .ref q4, .int (zi 0), .int (zi 0), .ref q5])), (q2, .inl (zca G, 4, .inr (.inr (.inr (.inr (va_up (fun _ => none) 0 (some q6))))))), (q3, .inl (zca G, 0, .inr (.inr (.inr (.inr (fun _ => none)))))), (q4, .inl (zca G, 0, .inr (.inr (.inr (.inr (fun _ => none)))))), (q5, .inl (zca G, 300, .inr (.inr (.inr (.inr (fun _ => none)))))), (q6, .inl (zci G, 6, .inl (fun j => zi ((zup (zup (zup (zup (zup (fun _ => 0) 1 c1) 2 c2) 3 c3) 4 c4) 5 256) j)))), (q7, .inl (zci G, 6, .inl (fun j => zi ((zup (zup (zup (fun _ => 0) 1 c5) 2 c6) 3 c7) j))))] ++ zpic G ad zX0) H := hP
  have hD : va_D A ([(h0, .inr (8, [.ref q1, .ref (zsb G), .int (zi ((dr + 7 : Nat) : Int)), .ref q2, .ref q3, .int (zi 0), .ref q4, .int (zi 0), .int (zi 0), .ref q5])), (q2, .inl (zca G, 4, .inr (.inr (.inr (.inr (va_up (fun _ => none) 0 (some q6))))))), (q3, .inl (zca G, 0, .inr (.inr (.inr (.inr (fun _ => none)))))), (q4, .inl (zca G, 0, .inr (.inr (.inr (.inr (fun _ => none)))))), (q5, .inl (zca G, 300, .inr (.inr (.inr (.inr (fun _ => none)))))), (q6, .inl (zci G, 6, .inl (fun j => zi ((zup (zup (zup (zup (zup (fun _ => 0) 1 c1) 2 c2) 3 c3) 4 c4) 5 256) j)))), (q7, .inl (zci G, 6, .inl (fun j => zi ((zup (zup (zup (fun _ => 0) 1 c5) 2 c6) 3 c7) j))))] ++ zpic G ad zX0) := hD
  refine lv_iinc (v := zi 4) (lv' := [(7, .int (zi 4)), (6, .ref q7), (5, .int (zi 4)), (4, .int (zi 256)), (3, .int (zi 1)), (0, .ref h0), (1, .ref (zsb G)), (2, .int (zi (dr : Int)))]) hx hb dX8_init_173 hl (k := 0) rfl (zi_add _ _) (by decide) rfl (fun ls hl => ?_)
  refine lv_goto (tgt := 114) hx hb dX8_init_176 (by decide) ?_
  refine lv_iload hx hb dX8_init_114 (lv_at hl 0 rfl) ?_
  refine lv_iload hx hb dX8_init_116 (lv_at hl 2 rfl) ?_
  refine zc_gt (tgt := 179) hx hb dX8_init_118 (by decide) (by decide) (by decide) (fun h9 => absurd h9 (by decide)) (fun h118 => ?_)
  refine lv_aload hx hb dX8_init_121 (lv_at hl 1 rfl) ?_
  refine lv_iload hx hb dX8_init_123 (lv_at hl 0 rfl) ?_
  refine lv_aload hx hb dX8_init_125 (lv_at hl 1 rfl) ?_
  refine lv_iload hx hb dX8_init_127 (lv_at hl 0 rfl) ?_
  refine lv_iconst (v := zi 1) hx hb dX8_init_129 rfl ?_
  refine lv_isub hx hb dX8_init_130 (zti (v := zi 3) (zi_sub _ _) ?_)
  refine zildL hx hb hE hP 6 rfl 3 rfl (by decide) (by decide) dX8_init_131 ?_
  refine zti (v := zi c7) rfl ?_
  refine lv_iconst (v := zi 1) hx hb dX8_init_132 rfl ?_
  refine lv_iadd hx hb dX8_init_133 (zti (v := zi (c7 + 1)) (zi_add _ _) ?_)
  refine lv_aload_n hx hb dX8_init_134 rfl (lv_at hl 5 rfl) ?_
  refine lv_iload hx hb dX8_init_135 (lv_at hl 3 rfl) ?_
  refine lv_aload hx hb dX8_init_137 (lv_at hl 1 rfl) ?_
  refine lv_iload hx hb dX8_init_139 (lv_at hl 0 rfl) ?_
  refine lv_iconst (v := zi 1) hx hb dX8_init_141 rfl ?_
  refine lv_isub hx hb dX8_init_142 (zti (v := zi 3) (zi_sub _ _) ?_)
  refine zildL hx hb hE hP 6 rfl 3 rfl (by decide) (by decide) dX8_init_143 ?_
  refine zti (v := zi c7) rfl ?_
  refine lv_isub hx hb dX8_init_144 (zti (v := zi (256 - c7)) (zi_sub _ _) ?_)
  refine lv_iconst (v := zi 1) hx hb dX8_init_145 rfl ?_
  refine lv_isub hx hb dX8_init_146 (zti (v := zi ((256 - c7) - 1)) (zi_sub _ _) ?_)
  refine lv_iload hx hb dX8_init_147 (lv_at hl 2 rfl) ?_
  refine lv_iload hx hb dX8_init_149 (lv_at hl 0 rfl) ?_
  refine lv_isub hx hb dX8_init_151 (zti (v := zi 0) (zi_sub _ _) ?_)
  refine lv_isub hx hb dX8_init_152 (zti (v := zi (((256 - c7) - 1) - 0)) (zi_sub _ _) ?_)
  refine lv_iconst (v := zi 1) hx hb dX8_init_153 rfl ?_
  refine lv_isub hx hb dX8_init_154 (zti (v := zi ((((256 - c7) - 1) - 0) - 1)) (zi_sub _ _) ?_)
  refine lv_iload_n hx hb dX8_init_155 rfl (lv_at hl 4 rfl) ?_
  refine lv_iconst (v := zi 3) hx hb dX8_init_156 rfl ?_
  refine zc_ge (tgt := 164) hx hb dX8_init_157 (by decide) (by decide) (by decide) (fun h9 => absurd h9 (by decide)) (fun h157 => ?_)
  refine lv_iconst (v := zi 2) hx hb dX8_init_160 rfl ?_
  refine lv_goto (tgt := 165) hx hb dX8_init_161 (by decide) ?_
  refine lv_idiv hx hb dX8_init_165 (by decide +kernel) (zti (v := zi (((((256 - c7) - 1) - 0) - 1) / 2)) (zi_dvi (b := 2) (by omega) (by omega) (by decide) (by decide)) ?_)
  refine lv_iconst (v := zi 1) hx hb dX8_init_166 rfl ?_
  refine lv_iadd hx hb dX8_init_167 (zti (v := zi ((((((256 - c7) - 1) - 0) - 1) / 2) + 1)) (zi_add _ _) ?_)
  obtain ⟨nd8, hnd8⟩ : ∃ z : Nat, ((((((256 - c7) - 1) - 0) - 1) / 2) + 1 : Int) = (z : Int) := ⟨((((((256 - c7) - 1) - 0) - 1) / 2) + 1 : Int).toNat, by omega⟩
  refine zti (v := zi (nd8 : Int)) (congrArg zi hnd8) ?_
  refine zcall (wr := []) (wc := [(h0, .inr (8, [.ref q1, .ref (zsb G), .int (zi ((dr + 7 : Nat) : Int)), .ref q2, .ref q3, .int (zi 0), .ref q4, .int (zi 0), .int (zi 0), .ref q5])), (q2, .inl (zca G, 4, .inr (.inr (.inr (.inr (va_up (fun _ => none) 0 (some q6))))))), (q3, .inl (zca G, 0, .inr (.inr (.inr (.inr (fun _ => none)))))), (q4, .inl (zca G, 0, .inr (.inr (.inr (.inr (fun _ => none)))))), (q5, .inl (zca G, 300, .inr (.inr (.inr (.inr (fun _ => none)))))), (q6, .inl (zci G, 6, .inl (fun j => zi ((zup (zup (zup (zup (zup (fun _ => 0) 1 c1) 2 c2) 3 c3) 4 c4) 5 256) j)))), (q7, .inl (zci G, 6, .inl (fun j => zi ((zup (zup (zup (fun _ => 0) 1 c5) 2 c6) 3 c7) j))))] ++ zpic G ad zX0) (va_runV (As := [.int (zi (nd8 : Int))]) (rest := [.int (zi (c7 + 1)), .int (zi 4), .ref q7]) ⟨hx, hb, hml, hown, hts⟩ (k_X8_draw l G ([(h0, .inr (8, [.ref q1, .ref (zsb G), .int (zi ((dr + 7 : Nat) : Int)), .ref q2, .ref q3, .int (zi 0), .ref q4, .int (zi 0), .int (zi 0), .ref q5])), (q2, .inl (zca G, 4, .inr (.inr (.inr (.inr (va_up (fun _ => none) 0 (some q6))))))), (q3, .inl (zca G, 0, .inr (.inr (.inr (.inr (fun _ => none)))))), (q4, .inl (zca G, 0, .inr (.inr (.inr (.inr (fun _ => none)))))), (q5, .inl (zca G, 300, .inr (.inr (.inr (.inr (fun _ => none)))))), (q6, .inl (zci G, 6, .inl (fun j => zi ((zup (zup (zup (zup (zup (fun _ => 0) 1 c1) 2 c2) 3 c3) 4 c4) 5 256) j)))), (q7, .inl (zci G, 6, .inl (fun j => zi ((zup (zup (zup (fun _ => 0) 1 c5) 2 c6) 3 c7) j))))] ++ zpic G ad zX0) 0 h0 (.ref q1) ((dr + 7 : Nat)) (.ref q2) (.ref q3) (.int (zi 0)) (.ref q4) (.int (zi 0)) (.int (zi 0)) (.ref q5) nd8 rfl hsl (by omega) (by omega) H.size) (cwV 1 hts gX8_init_X8_draw rfl rfl rfl (by decide +kernel) ⟨Nat.le_of_ble_eq_true rfl, Nat.le_of_ble_eq_true rfl⟩) (zPreV (As := [.int (zi (nd8 : Int))]) (wr := []) (wc := [(h0, .inr (8, [.ref q1, .ref (zsb G), .int (zi ((dr + 7 : Nat) : Int)), .ref q2, .ref q3, .int (zi 0), .ref q4, .int (zi 0), .int (zi 0), .ref q5])), (q2, .inl (zca G, 4, .inr (.inr (.inr (.inr (va_up (fun _ => none) 0 (some q6))))))), (q3, .inl (zca G, 0, .inr (.inr (.inr (.inr (fun _ => none)))))), (q4, .inl (zca G, 0, .inr (.inr (.inr (.inr (fun _ => none)))))), (q5, .inl (zca G, 300, .inr (.inr (.inr (.inr (fun _ => none)))))), (q6, .inl (zci G, 6, .inl (fun j => zi ((zup (zup (zup (zup (zup (fun _ => 0) 1 c1) 2 c2) 3 c3) 4 c4) 5 256) j)))), (q7, .inl (zci G, 6, .inl (fun j => zi ((zup (zup (zup (fun _ => 0) 1 c5) 2 c6) 3 c7) j))))] ++ zpic G ad zX0) (q0 := 0) (ci := 8) (q := (RX8, TX8, 10)) hP hD hE hS hA rfl rfl) rfl rfl hl.1 rfl (lv_room (Nat.le_of_ble_eq_true rfl)) dX8_init_168 ⟨Nat.le_of_ble_eq_true rfl, Nat.le_of_ble_eq_true rfl⟩) hP hD hS hA (fun _ _ H locs hf hP hD hS => ?_)
  obtain ⟨v8, rfl, hv8, hw9⟩ := hf
  rw [hw9] at hP hD
  have hP : va_P G.1 vwCl ([(h0, .inr (8, [.ref q1, .ref (zsb G), .int (zi ((dr + 8 : Nat) : Int)), .ref q2, .ref q3, .int (zi 0), .ref q4, .int (zi 0), .int (zi 0), .ref q5])), (q2, .inl (zca G, 4, .inr (.inr (.inr (.inr (va_up (fun _ => none) 0 (some q6))))))), (q3, .inl (zca G, 0, .inr (.inr (.inr (.inr (fun _ => none)))))), (q4, .inl (zca G, 0, .inr (.inr (.inr (.inr (fun _ => none)))))), (q5, .inl (zca G, 300, .inr (.inr (.inr (.inr (fun _ => none)))))), (q6, .inl (zci G, 6, .inl (fun j => zi ((zup (zup (zup (zup (zup (fun _ => 0) 1 c1) 2 c2) 3 c3) 4 c4) 5 256) j)))), (q7, .inl (zci G, 6, .inl (fun j => zi ((zup (zup (zup (fun _ => 0) 1 c5) 2 c6) 3 c7) j))))] ++ zpic G ad zX0) H := hP
  have hD : va_D A ([(h0, .inr (8, [.ref q1, .ref (zsb G), .int (zi ((dr + 8 : Nat) : Int)), .ref q2, .ref q3, .int (zi 0), .ref q4, .int (zi 0), .int (zi 0), .ref q5])), (q2, .inl (zca G, 4, .inr (.inr (.inr (.inr (va_up (fun _ => none) 0 (some q6))))))), (q3, .inl (zca G, 0, .inr (.inr (.inr (.inr (fun _ => none)))))), (q4, .inl (zca G, 0, .inr (.inr (.inr (.inr (fun _ => none)))))), (q5, .inl (zca G, 300, .inr (.inr (.inr (.inr (fun _ => none)))))), (q6, .inl (zci G, 6, .inl (fun j => zi ((zup (zup (zup (zup (zup (fun _ => 0) 1 c1) 2 c2) 3 c3) 4 c4) 5 256) j)))), (q7, .inl (zci G, 6, .inl (fun j => zi ((zup (zup (zup (fun _ => 0) 1 c5) 2 c6) 3 c7) j))))] ++ zpic G ad zX0) := hD
  refine W.eq (g2 := F0 m 171 ls [.int (zi v8), .int (zi (c7 + 1)), .int (zi 4), .ref q7]) rfl ?_
  refine lv_iadd hx hb dX8_init_171 (zti (v := zi ((c7 + 1) + v8)) (zi_add _ _) ?_)
  obtain ⟨c8, hc8⟩ : ∃ z : Int, z = (c7 + 1) + v8 := ⟨_, rfl⟩
  refine zti (v := zi c8) (congrArg zi hc8.symm) ?_
  have hc8b : c7 + 1 ≤ c8 ∧ c8 ≤ 255 := by omega
  refine zistL hx hb hE hP hD hS 6 rfl 4 rfl (by decide) (by decide) dX8_init_172 (fun H locs hP hD hS => ?_)
  have hP : va_P G.1 vwCl ([(h0, .inr (8, [.ref q1, .ref (zsb G), .int (zi ((dr + 8 : Nat) : Int)), .ref q2, .ref q3, .int (zi 0), .ref q4, .int (zi 0), .int (zi 0), .ref q5])), (q2, .inl (zca G, 4, .inr (.inr (.inr (.inr (va_up (fun _ => none) 0 (some q6))))))), (q3, .inl (zca G, 0, .inr (.inr (.inr (.inr (fun _ => none)))))), (q4, .inl (zca G, 0, .inr (.inr (.inr (.inr (fun _ => none)))))), (q5, .inl (zca G, 300, .inr (.inr (.inr (.inr (fun _ => none)))))), (q6, .inl (zci G, 6, .inl (fun j => zi ((zup (zup (zup (zup (zup (fun _ => 0) 1 c1) 2 c2) 3 c3) 4 c4) 5 256) j)))), (q7, .inl (zci G, 6, .inl (fun j => zi ((zup (zup (zup (zup (fun _ => 0) 1 c5) 2 c6) 3 c7) 4 c8) j))))] ++ zpic G ad zX0) H := hP
  have hD : va_D A ([(h0, .inr (8, [.ref q1, .ref (zsb G), .int (zi ((dr + 8 : Nat) : Int)), .ref q2, .ref q3, .int (zi 0), .ref q4, .int (zi 0), .int (zi 0), .ref q5])), (q2, .inl (zca G, 4, .inr (.inr (.inr (.inr (va_up (fun _ => none) 0 (some q6))))))), (q3, .inl (zca G, 0, .inr (.inr (.inr (.inr (fun _ => none)))))), (q4, .inl (zca G, 0, .inr (.inr (.inr (.inr (fun _ => none)))))), (q5, .inl (zca G, 300, .inr (.inr (.inr (.inr (fun _ => none)))))), (q6, .inl (zci G, 6, .inl (fun j => zi ((zup (zup (zup (zup (zup (fun _ => 0) 1 c1) 2 c2) 3 c3) 4 c4) 5 256) j)))), (q7, .inl (zci G, 6, .inl (fun j => zi ((zup (zup (zup (zup (fun _ => 0) 1 c5) 2 c6) 3 c7) 4 c8) j))))] ++ zpic G ad zX0) := hD
  refine lv_iinc (v := zi 5) (lv' := [(7, .int (zi 5)), (6, .ref q7), (5, .int (zi 4)), (4, .int (zi 256)), (3, .int (zi 1)), (0, .ref h0), (1, .ref (zsb G)), (2, .int (zi (dr : Int)))]) hx hb dX8_init_173 hl (k := 0) rfl (zi_add _ _) (by decide) rfl (fun ls hl => ?_)
  refine lv_goto (tgt := 114) hx hb dX8_init_176 (by decide) ?_
  refine lv_iload hx hb dX8_init_114 (lv_at hl 0 rfl) ?_
  refine lv_iload hx hb dX8_init_116 (lv_at hl 2 rfl) ?_
  refine zc_gt (tgt := 179) hx hb dX8_init_118 (by decide) (by decide) (by decide) (fun h118 => ?_) (fun h9 => absurd h9 (by decide))
  refine lv_aload hx hb dX8_init_179 (lv_at hl 1 rfl) ?_
  refine lv_iload hx hb dX8_init_181 (lv_at hl 2 rfl) ?_
  refine lv_iconst (v := zi 1) hx hb dX8_init_183 rfl ?_
  refine lv_iadd hx hb dX8_init_184 (zti (v := zi 5) (zi_add _ _) ?_)
  refine lv_iload hx hb dX8_init_185 (lv_at hl 3 rfl) ?_
  refine zistL hx hb hE hP hD hS 6 rfl 5 rfl (by decide) (by decide) dX8_init_187 (fun H locs hP hD hS => ?_)
  have hP : va_P G.1 vwCl ([(h0, .inr (8, [.ref q1, .ref (zsb G), .int (zi ((dr + 8 : Nat) : Int)), .ref q2, .ref q3, .int (zi 0), .ref q4, .int (zi 0), .int (zi 0), .ref q5])), (q2, .inl (zca G, 4, .inr (.inr (.inr (.inr (va_up (fun _ => none) 0 (some q6))))))), (q3, .inl (zca G, 0, .inr (.inr (.inr (.inr (fun _ => none)))))), (q4, .inl (zca G, 0, .inr (.inr (.inr (.inr (fun _ => none)))))), (q5, .inl (zca G, 300, .inr (.inr (.inr (.inr (fun _ => none)))))), (q6, .inl (zci G, 6, .inl (fun j => zi ((zup (zup (zup (zup (zup (fun _ => 0) 1 c1) 2 c2) 3 c3) 4 c4) 5 256) j)))), (q7, .inl (zci G, 6, .inl (fun j => zi ((zup (zup (zup (zup (zup (fun _ => 0) 1 c5) 2 c6) 3 c7) 4 c8) 5 256) j))))] ++ zpic G ad zX0) H := hP
  have hD : va_D A ([(h0, .inr (8, [.ref q1, .ref (zsb G), .int (zi ((dr + 8 : Nat) : Int)), .ref q2, .ref q3, .int (zi 0), .ref q4, .int (zi 0), .int (zi 0), .ref q5])), (q2, .inl (zca G, 4, .inr (.inr (.inr (.inr (va_up (fun _ => none) 0 (some q6))))))), (q3, .inl (zca G, 0, .inr (.inr (.inr (.inr (fun _ => none)))))), (q4, .inl (zca G, 0, .inr (.inr (.inr (.inr (fun _ => none)))))), (q5, .inl (zca G, 300, .inr (.inr (.inr (.inr (fun _ => none)))))), (q6, .inl (zci G, 6, .inl (fun j => zi ((zup (zup (zup (zup (zup (fun _ => 0) 1 c1) 2 c2) 3 c3) 4 c4) 5 256) j)))), (q7, .inl (zci G, 6, .inl (fun j => zi ((zup (zup (zup (zup (zup (fun _ => 0) 1 c5) 2 c6) 3 c7) 4 c8) 5 256) j))))] ++ zpic G ad zX0) := hD
  refine lv_aload_n hx hb dX8_init_188 rfl (lv_at hl 5 rfl) ?_
  refine va_get (D := G.1) (ci := 8) (v := .ref q2) (C := RX8) (T := TX8) (N := 10) hx hb hts hw8 hown hE.1 hP 0 rfl rfl 3 (by decide) hf18 (fun _ h9 => h9) rfl dX8_init_189 ?_
  refine lv_iload_n hx hb dX8_init_192 rfl (lv_at hl 4 rfl) ?_
  refine lv_aload hx hb dX8_init_193 (lv_at hl 1 rfl) ?_
  refine zastA hx hb hE hP hD hS 1 6 rfl rfl 1 rfl (by decide) (by decide) dX8_init_195 (fun H locs hP hD hS => ?_)
  have hP : va_P G.1 vwCl ([(h0, .inr (8, [.ref q1, .ref (zsb G), .int (zi ((dr + 8 : Nat) : Int)), .ref q2, .ref q3, .int (zi 0), .ref q4, .int (zi 0), .int (zi 0), .ref q5])), (q2, .inl (zca G, 4, .inr (.inr (.inr (.inr (va_up (va_up (fun _ => none) 0 (some q6)) 1 (some q7))))))), (q3, .inl (zca G, 0, .inr (.inr (.inr (.inr (fun _ => none)))))), (q4, .inl (zca G, 0, .inr (.inr (.inr (.inr (fun _ => none)))))), (q5, .inl (zca G, 300, .inr (.inr (.inr (.inr (fun _ => none)))))), (q6, .inl (zci G, 6, .inl (fun j => zi ((zup (zup (zup (zup (zup (fun _ => 0) 1 c1) 2 c2) 3 c3) 4 c4) 5 256) j)))), (q7, .inl (zci G, 6, .inl (fun j => zi ((zup (zup (zup (zup (zup (fun _ => 0) 1 c5) 2 c6) 3 c7) 4 c8) 5 256) j))))] ++ zpic G ad zX0) H := hP
  have hD : va_D A ([(h0, .inr (8, [.ref q1, .ref (zsb G), .int (zi ((dr + 8 : Nat) : Int)), .ref q2, .ref q3, .int (zi 0), .ref q4, .int (zi 0), .int (zi 0), .ref q5])), (q2, .inl (zca G, 4, .inr (.inr (.inr (.inr (va_up (va_up (fun _ => none) 0 (some q6)) 1 (some q7))))))), (q3, .inl (zca G, 0, .inr (.inr (.inr (.inr (fun _ => none)))))), (q4, .inl (zca G, 0, .inr (.inr (.inr (.inr (fun _ => none)))))), (q5, .inl (zca G, 300, .inr (.inr (.inr (.inr (fun _ => none)))))), (q6, .inl (zci G, 6, .inl (fun j => zi ((zup (zup (zup (zup (zup (fun _ => 0) 1 c1) 2 c2) 3 c3) 4 c4) 5 256) j)))), (q7, .inl (zci G, 6, .inl (fun j => zi ((zup (zup (zup (zup (zup (fun _ => 0) 1 c5) 2 c6) 3 c7) 4 c8) 5 256) j))))] ++ zpic G ad zX0) := hD
  refine lv_iinc (v := zi 2) (lv' := [(3, .int (zi 2)), (7, .int (zi 5)), (6, .ref q7), (5, .int (zi 4)), (4, .int (zi 256)), (0, .ref h0), (1, .ref (zsb G)), (2, .int (zi (dr : Int)))]) hx hb dX8_init_196 hl (k := 4) rfl (zi_add _ _) (by decide) rfl (fun ls hl => ?_)
  refine lv_goto (tgt := 61) hx hb dX8_init_199 (by decide) ?_
  refine lv_iload_n hx hb dX8_init_61 rfl (lv_at hl 0 rfl) ?_
  refine lv_iconst (v := zi 4) hx hb dX8_init_62 rfl ?_
  refine zc_ge (tgt := 202) hx hb dX8_init_63 (by decide) (by decide) (by decide) (fun h9 => absurd h9 (by decide)) (fun h63 => ?_)
  refine lv_iload_n hx hb dX8_init_66 rfl (lv_at hl 0 rfl) ?_
  refine lv_iconst (v := zi 2) hx hb dX8_init_67 rfl ?_
  refine zc_ge (tgt := 77) hx hb dX8_init_68 (by decide) (by decide) (by decide) (fun h68 => ?_) (fun h9 => absurd h9 (by decide))
  refine lv_iload_n hx hb dX8_init_77 rfl (lv_at hl 0 rfl) ?_
  refine lv_iconst (v := zi 2) hx hb dX8_init_78 rfl ?_
  refine zc_ne (tgt := 88) hx hb dX8_init_79 (by decide) (by decide) (by decide) (fun h9 => absurd h9 (by decide)) (fun h79 => ?_)
  refine lv_sipush (v := zi 1024) hx hb dX8_init_82 (by decide +kernel) ?_
  refine lv_goto (tgt := 89) hx hb dX8_init_85 (by decide) ?_
  refine lv_istore (lv' := [(4, .int (zi 1024)), (3, .int (zi 2)), (7, .int (zi 5)), (6, .ref q7), (5, .int (zi 4)), (0, .ref h0), (1, .ref (zsb G)), (2, .int (zi (dr : Int)))]) hx hb dX8_init_89 hl (by decide) rfl (fun ls hl => ?_)
  refine lv_iload_n hx hb dX8_init_91 rfl (lv_at hl 1 rfl) ?_
  refine lv_iconst (v := zi 3) hx hb dX8_init_92 rfl ?_
  refine zc_ge (tgt := 100) hx hb dX8_init_93 (by decide) (by decide) (by decide) (fun h9 => absurd h9 (by decide)) (fun h93 => ?_)
  refine lv_iconst (v := zi 4) hx hb dX8_init_96 rfl ?_
  refine lv_goto (tgt := 101) hx hb dX8_init_97 (by decide) ?_
  refine lv_istore (lv' := [(5, .int (zi 4)), (4, .int (zi 1024)), (3, .int (zi 2)), (7, .int (zi 5)), (6, .ref q7), (0, .ref h0), (1, .ref (zsb G)), (2, .int (zi (dr : Int)))]) hx hb dX8_init_101 hl (by decide) rfl (fun ls hl => ?_)
  refine lv_iload hx hb dX8_init_103 (lv_at hl 0 rfl) ?_
  refine lv_iconst (v := zi 2) hx hb dX8_init_105 rfl ?_
  refine lv_iadd hx hb dX8_init_106 (zti (v := zi 6) (zi_add _ _) ?_)
  refine znewI hx hb harrI hE hP hD hS hA 6 rfl (by decide) (Nat.le_of_ble_eq_true rfl) (Nat.le_of_ble_eq_true rfl) dX8_init_107 (fun q8 H hP hD hS => ?_)
  have hP := zlay hP
  have hD := zlayD hD
  have hP : va_P G.1 vwCl ([(h0, .inr (8, [.ref q1, .ref (zsb G), .int (zi ((dr + 8 : Nat) : Int)), .ref q2, .ref q3, .int (zi 0), .ref q4, .int (zi 0), .int (zi 0), .ref q5])), (q2, .inl (zca G, 4, .inr (.inr (.inr (.inr (va_up (va_up (fun _ => none) 0 (some q6)) 1 (some q7))))))), (q3, .inl (zca G, 0, .inr (.inr (.inr (.inr (fun _ => none)))))), (q4, .inl (zca G, 0, .inr (.inr (.inr (.inr (fun _ => none)))))), (q5, .inl (zca G, 300, .inr (.inr (.inr (.inr (fun _ => none)))))), (q6, .inl (zci G, 6, .inl (fun j => zi ((zup (zup (zup (zup (zup (fun _ => 0) 1 c1) 2 c2) 3 c3) 4 c4) 5 256) j)))), (q7, .inl (zci G, 6, .inl (fun j => zi ((zup (zup (zup (zup (zup (fun _ => 0) 1 c5) 2 c6) 3 c7) 4 c8) 5 256) j)))), (q8, .inl (zci G, 6, .inl (fun j => zi ((fun _ => 0) j))))] ++ zpic G ad zX0) H := hP
  have hD : va_D A ([(h0, .inr (8, [.ref q1, .ref (zsb G), .int (zi ((dr + 8 : Nat) : Int)), .ref q2, .ref q3, .int (zi 0), .ref q4, .int (zi 0), .int (zi 0), .ref q5])), (q2, .inl (zca G, 4, .inr (.inr (.inr (.inr (va_up (va_up (fun _ => none) 0 (some q6)) 1 (some q7))))))), (q3, .inl (zca G, 0, .inr (.inr (.inr (.inr (fun _ => none)))))), (q4, .inl (zca G, 0, .inr (.inr (.inr (.inr (fun _ => none)))))), (q5, .inl (zca G, 300, .inr (.inr (.inr (.inr (fun _ => none)))))), (q6, .inl (zci G, 6, .inl (fun j => zi ((zup (zup (zup (zup (zup (fun _ => 0) 1 c1) 2 c2) 3 c3) 4 c4) 5 256) j)))), (q7, .inl (zci G, 6, .inl (fun j => zi ((zup (zup (zup (zup (zup (fun _ => 0) 1 c5) 2 c6) 3 c7) 4 c8) 5 256) j)))), (q8, .inl (zci G, 6, .inl (fun j => zi ((fun _ => 0) j))))] ++ zpic G ad zX0) := hD
  refine lv_astore (lv' := [(6, .ref q8), (5, .int (zi 4)), (4, .int (zi 1024)), (3, .int (zi 2)), (7, .int (zi 5)), (0, .ref h0), (1, .ref (zsb G)), (2, .int (zi (dr : Int)))]) hx hb dX8_init_109 hl (by decide) rfl (fun ls hl => ?_)
  refine lv_iconst (v := zi 1) hx hb dX8_init_111 rfl ?_
  refine lv_istore (lv' := [(7, .int (zi 1)), (6, .ref q8), (5, .int (zi 4)), (4, .int (zi 1024)), (3, .int (zi 2)), (0, .ref h0), (1, .ref (zsb G)), (2, .int (zi (dr : Int)))]) hx hb dX8_init_112 hl (by decide) rfl (fun ls hl => ?_)
  refine lv_iload hx hb dX8_init_114 (lv_at hl 0 rfl) ?_
  refine lv_iload hx hb dX8_init_116 (lv_at hl 2 rfl) ?_
  refine zc_gt (tgt := 179) hx hb dX8_init_118 (by decide) (by decide) (by decide) (fun h9 => absurd h9 (by decide)) (fun h118 => ?_)
  refine lv_aload hx hb dX8_init_121 (lv_at hl 1 rfl) ?_
  refine lv_iload hx hb dX8_init_123 (lv_at hl 0 rfl) ?_
  refine lv_aload hx hb dX8_init_125 (lv_at hl 1 rfl) ?_
  refine lv_iload hx hb dX8_init_127 (lv_at hl 0 rfl) ?_
  refine lv_iconst (v := zi 1) hx hb dX8_init_129 rfl ?_
  refine lv_isub hx hb dX8_init_130 (zti (v := zi 0) (zi_sub _ _) ?_)
  refine zildL hx hb hE hP 7 rfl 0 rfl (by decide) (by decide) dX8_init_131 ?_
  refine zti (v := zi 0) rfl ?_
  refine lv_iconst (v := zi 1) hx hb dX8_init_132 rfl ?_
  refine lv_iadd hx hb dX8_init_133 (zti (v := zi 1) (zi_add _ _) ?_)
  refine lv_aload_n hx hb dX8_init_134 rfl (lv_at hl 5 rfl) ?_
  refine lv_iload hx hb dX8_init_135 (lv_at hl 3 rfl) ?_
  refine lv_aload hx hb dX8_init_137 (lv_at hl 1 rfl) ?_
  refine lv_iload hx hb dX8_init_139 (lv_at hl 0 rfl) ?_
  refine lv_iconst (v := zi 1) hx hb dX8_init_141 rfl ?_
  refine lv_isub hx hb dX8_init_142 (zti (v := zi 0) (zi_sub _ _) ?_)
  refine zildL hx hb hE hP 7 rfl 0 rfl (by decide) (by decide) dX8_init_143 ?_
  refine zti (v := zi 0) rfl ?_
  refine lv_isub hx hb dX8_init_144 (zti (v := zi 1024) (zi_sub _ _) ?_)
  refine lv_iconst (v := zi 1) hx hb dX8_init_145 rfl ?_
  refine lv_isub hx hb dX8_init_146 (zti (v := zi 1023) (zi_sub _ _) ?_)
  refine lv_iload hx hb dX8_init_147 (lv_at hl 2 rfl) ?_
  refine lv_iload hx hb dX8_init_149 (lv_at hl 0 rfl) ?_
  refine lv_isub hx hb dX8_init_151 (zti (v := zi 3) (zi_sub _ _) ?_)
  refine lv_isub hx hb dX8_init_152 (zti (v := zi 1020) (zi_sub _ _) ?_)
  refine lv_iconst (v := zi 1) hx hb dX8_init_153 rfl ?_
  refine lv_isub hx hb dX8_init_154 (zti (v := zi 1019) (zi_sub _ _) ?_)
  refine lv_iload_n hx hb dX8_init_155 rfl (lv_at hl 4 rfl) ?_
  refine lv_iconst (v := zi 3) hx hb dX8_init_156 rfl ?_
  refine zc_ge (tgt := 164) hx hb dX8_init_157 (by decide) (by decide) (by decide) (fun h9 => absurd h9 (by decide)) (fun h157 => ?_)
  refine lv_iconst (v := zi 2) hx hb dX8_init_160 rfl ?_
  refine lv_goto (tgt := 165) hx hb dX8_init_161 (by decide) ?_
  refine lv_idiv hx hb dX8_init_165 (by decide +kernel) (zti (v := zi (1019 / 2)) (zi_dvi (b := 2) (by omega) (by omega) (by decide) (by decide)) ?_)
  refine lv_iconst (v := zi 1) hx hb dX8_init_166 rfl ?_
  refine lv_iadd hx hb dX8_init_167 (zti (v := zi ((1019 / 2) + 1)) (zi_add _ _) ?_)
  obtain ⟨nd9, hnd9⟩ : ∃ z : Nat, ((1019 / 2) + 1 : Int) = (z : Int) := ⟨((1019 / 2) + 1 : Int).toNat, by omega⟩
  refine zti (v := zi (nd9 : Int)) (congrArg zi hnd9) ?_
  refine zcall (wr := []) (wc := [(h0, .inr (8, [.ref q1, .ref (zsb G), .int (zi ((dr + 8 : Nat) : Int)), .ref q2, .ref q3, .int (zi 0), .ref q4, .int (zi 0), .int (zi 0), .ref q5])), (q2, .inl (zca G, 4, .inr (.inr (.inr (.inr (va_up (va_up (fun _ => none) 0 (some q6)) 1 (some q7))))))), (q3, .inl (zca G, 0, .inr (.inr (.inr (.inr (fun _ => none)))))), (q4, .inl (zca G, 0, .inr (.inr (.inr (.inr (fun _ => none)))))), (q5, .inl (zca G, 300, .inr (.inr (.inr (.inr (fun _ => none)))))), (q6, .inl (zci G, 6, .inl (fun j => zi ((zup (zup (zup (zup (zup (fun _ => 0) 1 c1) 2 c2) 3 c3) 4 c4) 5 256) j)))), (q7, .inl (zci G, 6, .inl (fun j => zi ((zup (zup (zup (zup (zup (fun _ => 0) 1 c5) 2 c6) 3 c7) 4 c8) 5 256) j)))), (q8, .inl (zci G, 6, .inl (fun j => zi ((fun _ => 0) j))))] ++ zpic G ad zX0) (va_runV (As := [.int (zi (nd9 : Int))]) (rest := [.int (zi 1), .int (zi 1), .ref q8]) ⟨hx, hb, hml, hown, hts⟩ (k_X8_draw l G ([(h0, .inr (8, [.ref q1, .ref (zsb G), .int (zi ((dr + 8 : Nat) : Int)), .ref q2, .ref q3, .int (zi 0), .ref q4, .int (zi 0), .int (zi 0), .ref q5])), (q2, .inl (zca G, 4, .inr (.inr (.inr (.inr (va_up (va_up (fun _ => none) 0 (some q6)) 1 (some q7))))))), (q3, .inl (zca G, 0, .inr (.inr (.inr (.inr (fun _ => none)))))), (q4, .inl (zca G, 0, .inr (.inr (.inr (.inr (fun _ => none)))))), (q5, .inl (zca G, 300, .inr (.inr (.inr (.inr (fun _ => none)))))), (q6, .inl (zci G, 6, .inl (fun j => zi ((zup (zup (zup (zup (zup (fun _ => 0) 1 c1) 2 c2) 3 c3) 4 c4) 5 256) j)))), (q7, .inl (zci G, 6, .inl (fun j => zi ((zup (zup (zup (zup (zup (fun _ => 0) 1 c5) 2 c6) 3 c7) 4 c8) 5 256) j)))), (q8, .inl (zci G, 6, .inl (fun j => zi ((fun _ => 0) j))))] ++ zpic G ad zX0) 0 h0 (.ref q1) ((dr + 8 : Nat)) (.ref q2) (.ref q3) (.int (zi 0)) (.ref q4) (.int (zi 0)) (.int (zi 0)) (.ref q5) nd9 rfl hsl (by omega) (by omega) H.size) (cwV 1 hts gX8_init_X8_draw rfl rfl rfl (by decide +kernel) ⟨Nat.le_of_ble_eq_true rfl, Nat.le_of_ble_eq_true rfl⟩) (zPreV (As := [.int (zi (nd9 : Int))]) (wr := []) (wc := [(h0, .inr (8, [.ref q1, .ref (zsb G), .int (zi ((dr + 8 : Nat) : Int)), .ref q2, .ref q3, .int (zi 0), .ref q4, .int (zi 0), .int (zi 0), .ref q5])), (q2, .inl (zca G, 4, .inr (.inr (.inr (.inr (va_up (va_up (fun _ => none) 0 (some q6)) 1 (some q7))))))), (q3, .inl (zca G, 0, .inr (.inr (.inr (.inr (fun _ => none)))))), (q4, .inl (zca G, 0, .inr (.inr (.inr (.inr (fun _ => none)))))), (q5, .inl (zca G, 300, .inr (.inr (.inr (.inr (fun _ => none)))))), (q6, .inl (zci G, 6, .inl (fun j => zi ((zup (zup (zup (zup (zup (fun _ => 0) 1 c1) 2 c2) 3 c3) 4 c4) 5 256) j)))), (q7, .inl (zci G, 6, .inl (fun j => zi ((zup (zup (zup (zup (zup (fun _ => 0) 1 c5) 2 c6) 3 c7) 4 c8) 5 256) j)))), (q8, .inl (zci G, 6, .inl (fun j => zi ((fun _ => 0) j))))] ++ zpic G ad zX0) (q0 := 0) (ci := 8) (q := (RX8, TX8, 10)) hP hD hE hS hA rfl rfl) rfl rfl hl.1 rfl (lv_room (Nat.le_of_ble_eq_true rfl)) dX8_init_168 ⟨Nat.le_of_ble_eq_true rfl, Nat.le_of_ble_eq_true rfl⟩) hP hD hS hA (fun _ _ H locs hf hP hD hS => ?_)
  obtain ⟨v9, rfl, hv9, hw9⟩ := hf
  rw [hw9] at hP hD
  have hP : va_P G.1 vwCl ([(h0, .inr (8, [.ref q1, .ref (zsb G), .int (zi ((dr + 9 : Nat) : Int)), .ref q2, .ref q3, .int (zi 0), .ref q4, .int (zi 0), .int (zi 0), .ref q5])), (q2, .inl (zca G, 4, .inr (.inr (.inr (.inr (va_up (va_up (fun _ => none) 0 (some q6)) 1 (some q7))))))), (q3, .inl (zca G, 0, .inr (.inr (.inr (.inr (fun _ => none)))))), (q4, .inl (zca G, 0, .inr (.inr (.inr (.inr (fun _ => none)))))), (q5, .inl (zca G, 300, .inr (.inr (.inr (.inr (fun _ => none)))))), (q6, .inl (zci G, 6, .inl (fun j => zi ((zup (zup (zup (zup (zup (fun _ => 0) 1 c1) 2 c2) 3 c3) 4 c4) 5 256) j)))), (q7, .inl (zci G, 6, .inl (fun j => zi ((zup (zup (zup (zup (zup (fun _ => 0) 1 c5) 2 c6) 3 c7) 4 c8) 5 256) j)))), (q8, .inl (zci G, 6, .inl (fun j => zi ((fun _ => 0) j))))] ++ zpic G ad zX0) H := hP
  have hD : va_D A ([(h0, .inr (8, [.ref q1, .ref (zsb G), .int (zi ((dr + 9 : Nat) : Int)), .ref q2, .ref q3, .int (zi 0), .ref q4, .int (zi 0), .int (zi 0), .ref q5])), (q2, .inl (zca G, 4, .inr (.inr (.inr (.inr (va_up (va_up (fun _ => none) 0 (some q6)) 1 (some q7))))))), (q3, .inl (zca G, 0, .inr (.inr (.inr (.inr (fun _ => none)))))), (q4, .inl (zca G, 0, .inr (.inr (.inr (.inr (fun _ => none)))))), (q5, .inl (zca G, 300, .inr (.inr (.inr (.inr (fun _ => none)))))), (q6, .inl (zci G, 6, .inl (fun j => zi ((zup (zup (zup (zup (zup (fun _ => 0) 1 c1) 2 c2) 3 c3) 4 c4) 5 256) j)))), (q7, .inl (zci G, 6, .inl (fun j => zi ((zup (zup (zup (zup (zup (fun _ => 0) 1 c5) 2 c6) 3 c7) 4 c8) 5 256) j)))), (q8, .inl (zci G, 6, .inl (fun j => zi ((fun _ => 0) j))))] ++ zpic G ad zX0) := hD
  refine W.eq (g2 := F0 m 171 ls [.int (zi v9), .int (zi 1), .int (zi 1), .ref q8]) rfl ?_
  refine lv_iadd hx hb dX8_init_171 (zti (v := zi (1 + v9)) (zi_add _ _) ?_)
  obtain ⟨c9, hc9⟩ : ∃ z : Int, z = 1 + v9 := ⟨_, rfl⟩
  refine zti (v := zi c9) (congrArg zi hc9.symm) ?_
  have hc9b : 0 + 1 ≤ c9 ∧ c9 ≤ 1020 := by omega
  refine zistL hx hb hE hP hD hS 7 rfl 1 rfl (by decide) (by decide) dX8_init_172 (fun H locs hP hD hS => ?_)
  have hP : va_P G.1 vwCl ([(h0, .inr (8, [.ref q1, .ref (zsb G), .int (zi ((dr + 9 : Nat) : Int)), .ref q2, .ref q3, .int (zi 0), .ref q4, .int (zi 0), .int (zi 0), .ref q5])), (q2, .inl (zca G, 4, .inr (.inr (.inr (.inr (va_up (va_up (fun _ => none) 0 (some q6)) 1 (some q7))))))), (q3, .inl (zca G, 0, .inr (.inr (.inr (.inr (fun _ => none)))))), (q4, .inl (zca G, 0, .inr (.inr (.inr (.inr (fun _ => none)))))), (q5, .inl (zca G, 300, .inr (.inr (.inr (.inr (fun _ => none)))))), (q6, .inl (zci G, 6, .inl (fun j => zi ((zup (zup (zup (zup (zup (fun _ => 0) 1 c1) 2 c2) 3 c3) 4 c4) 5 256) j)))), (q7, .inl (zci G, 6, .inl (fun j => zi ((zup (zup (zup (zup (zup (fun _ => 0) 1 c5) 2 c6) 3 c7) 4 c8) 5 256) j)))), (q8, .inl (zci G, 6, .inl (fun j => zi ((zup (fun _ => 0) 1 c9) j))))] ++ zpic G ad zX0) H := hP
  have hD : va_D A ([(h0, .inr (8, [.ref q1, .ref (zsb G), .int (zi ((dr + 9 : Nat) : Int)), .ref q2, .ref q3, .int (zi 0), .ref q4, .int (zi 0), .int (zi 0), .ref q5])), (q2, .inl (zca G, 4, .inr (.inr (.inr (.inr (va_up (va_up (fun _ => none) 0 (some q6)) 1 (some q7))))))), (q3, .inl (zca G, 0, .inr (.inr (.inr (.inr (fun _ => none)))))), (q4, .inl (zca G, 0, .inr (.inr (.inr (.inr (fun _ => none)))))), (q5, .inl (zca G, 300, .inr (.inr (.inr (.inr (fun _ => none)))))), (q6, .inl (zci G, 6, .inl (fun j => zi ((zup (zup (zup (zup (zup (fun _ => 0) 1 c1) 2 c2) 3 c3) 4 c4) 5 256) j)))), (q7, .inl (zci G, 6, .inl (fun j => zi ((zup (zup (zup (zup (zup (fun _ => 0) 1 c5) 2 c6) 3 c7) 4 c8) 5 256) j)))), (q8, .inl (zci G, 6, .inl (fun j => zi ((zup (fun _ => 0) 1 c9) j))))] ++ zpic G ad zX0) := hD
  refine lv_iinc (v := zi 2) (lv' := [(7, .int (zi 2)), (6, .ref q8), (5, .int (zi 4)), (4, .int (zi 1024)), (3, .int (zi 2)), (0, .ref h0), (1, .ref (zsb G)), (2, .int (zi (dr : Int)))]) hx hb dX8_init_173 hl (k := 0) rfl (zi_add _ _) (by decide) rfl (fun ls hl => ?_)
  refine lv_goto (tgt := 114) hx hb dX8_init_176 (by decide) ?_
  refine lv_iload hx hb dX8_init_114 (lv_at hl 0 rfl) ?_
  refine lv_iload hx hb dX8_init_116 (lv_at hl 2 rfl) ?_
  refine zc_gt (tgt := 179) hx hb dX8_init_118 (by decide) (by decide) (by decide) (fun h9 => absurd h9 (by decide)) (fun h118 => ?_)
  refine lv_aload hx hb dX8_init_121 (lv_at hl 1 rfl) ?_
  refine lv_iload hx hb dX8_init_123 (lv_at hl 0 rfl) ?_
  refine lv_aload hx hb dX8_init_125 (lv_at hl 1 rfl) ?_
  refine lv_iload hx hb dX8_init_127 (lv_at hl 0 rfl) ?_
  refine lv_iconst (v := zi 1) hx hb dX8_init_129 rfl ?_
  refine lv_isub hx hb dX8_init_130 (zti (v := zi 1) (zi_sub _ _) ?_)
  refine zildL hx hb hE hP 7 rfl 1 rfl (by decide) (by decide) dX8_init_131 ?_
  refine zti (v := zi c9) rfl ?_
  refine lv_iconst (v := zi 1) hx hb dX8_init_132 rfl ?_
  refine lv_iadd hx hb dX8_init_133 (zti (v := zi (c9 + 1)) (zi_add _ _) ?_)
  refine lv_aload_n hx hb dX8_init_134 rfl (lv_at hl 5 rfl) ?_
  refine lv_iload hx hb dX8_init_135 (lv_at hl 3 rfl) ?_
  refine lv_aload hx hb dX8_init_137 (lv_at hl 1 rfl) ?_
  refine lv_iload hx hb dX8_init_139 (lv_at hl 0 rfl) ?_
  refine lv_iconst (v := zi 1) hx hb dX8_init_141 rfl ?_
  refine lv_isub hx hb dX8_init_142 (zti (v := zi 1) (zi_sub _ _) ?_)
  refine zildL hx hb hE hP 7 rfl 1 rfl (by decide) (by decide) dX8_init_143 ?_
  refine zti (v := zi c9) rfl ?_
  refine lv_isub hx hb dX8_init_144 (zti (v := zi (1024 - c9)) (zi_sub _ _) ?_)
  refine lv_iconst (v := zi 1) hx hb dX8_init_145 rfl ?_
  refine lv_isub hx hb dX8_init_146 (zti (v := zi ((1024 - c9) - 1)) (zi_sub _ _) ?_)
  refine lv_iload hx hb dX8_init_147 (lv_at hl 2 rfl) ?_
  refine lv_iload hx hb dX8_init_149 (lv_at hl 0 rfl) ?_
  refine lv_isub hx hb dX8_init_151 (zti (v := zi 2) (zi_sub _ _) ?_)
  refine lv_isub hx hb dX8_init_152 (zti (v := zi (((1024 - c9) - 1) - 2)) (zi_sub _ _) ?_)
  refine lv_iconst (v := zi 1) hx hb dX8_init_153 rfl ?_
  refine lv_isub hx hb dX8_init_154 (zti (v := zi ((((1024 - c9) - 1) - 2) - 1)) (zi_sub _ _) ?_)
  refine lv_iload_n hx hb dX8_init_155 rfl (lv_at hl 4 rfl) ?_
  refine lv_iconst (v := zi 3) hx hb dX8_init_156 rfl ?_
  refine zc_ge (tgt := 164) hx hb dX8_init_157 (by decide) (by decide) (by decide) (fun h9 => absurd h9 (by decide)) (fun h157 => ?_)
  refine lv_iconst (v := zi 2) hx hb dX8_init_160 rfl ?_
  refine lv_goto (tgt := 165) hx hb dX8_init_161 (by decide) ?_
  refine lv_idiv hx hb dX8_init_165 (by decide +kernel) (zti (v := zi (((((1024 - c9) - 1) - 2) - 1) / 2)) (zi_dvi (b := 2) (by omega) (by omega) (by decide) (by decide)) ?_)
  refine lv_iconst (v := zi 1) hx hb dX8_init_166 rfl ?_
  refine lv_iadd hx hb dX8_init_167 (zti (v := zi ((((((1024 - c9) - 1) - 2) - 1) / 2) + 1)) (zi_add _ _) ?_)
  obtain ⟨nd10, hnd10⟩ : ∃ z : Nat, ((((((1024 - c9) - 1) - 2) - 1) / 2) + 1 : Int) = (z : Int) := ⟨((((((1024 - c9) - 1) - 2) - 1) / 2) + 1 : Int).toNat, by omega⟩
  refine zti (v := zi (nd10 : Int)) (congrArg zi hnd10) ?_
  refine zcall (wr := []) (wc := [(h0, .inr (8, [.ref q1, .ref (zsb G), .int (zi ((dr + 9 : Nat) : Int)), .ref q2, .ref q3, .int (zi 0), .ref q4, .int (zi 0), .int (zi 0), .ref q5])), (q2, .inl (zca G, 4, .inr (.inr (.inr (.inr (va_up (va_up (fun _ => none) 0 (some q6)) 1 (some q7))))))), (q3, .inl (zca G, 0, .inr (.inr (.inr (.inr (fun _ => none)))))), (q4, .inl (zca G, 0, .inr (.inr (.inr (.inr (fun _ => none)))))), (q5, .inl (zca G, 300, .inr (.inr (.inr (.inr (fun _ => none)))))), (q6, .inl (zci G, 6, .inl (fun j => zi ((zup (zup (zup (zup (zup (fun _ => 0) 1 c1) 2 c2) 3 c3) 4 c4) 5 256) j)))), (q7, .inl (zci G, 6, .inl (fun j => zi ((zup (zup (zup (zup (zup (fun _ => 0) 1 c5) 2 c6) 3 c7) 4 c8) 5 256) j)))), (q8, .inl (zci G, 6, .inl (fun j => zi ((zup (fun _ => 0) 1 c9) j))))] ++ zpic G ad zX0) (va_runV (As := [.int (zi (nd10 : Int))]) (rest := [.int (zi (c9 + 1)), .int (zi 2), .ref q8]) ⟨hx, hb, hml, hown, hts⟩ (k_X8_draw l G ([(h0, .inr (8, [.ref q1, .ref (zsb G), .int (zi ((dr + 9 : Nat) : Int)), .ref q2, .ref q3, .int (zi 0), .ref q4, .int (zi 0), .int (zi 0), .ref q5])), (q2, .inl (zca G, 4, .inr (.inr (.inr (.inr (va_up (va_up (fun _ => none) 0 (some q6)) 1 (some q7))))))), (q3, .inl (zca G, 0, .inr (.inr (.inr (.inr (fun _ => none)))))), (q4, .inl (zca G, 0, .inr (.inr (.inr (.inr (fun _ => none)))))), (q5, .inl (zca G, 300, .inr (.inr (.inr (.inr (fun _ => none)))))), (q6, .inl (zci G, 6, .inl (fun j => zi ((zup (zup (zup (zup (zup (fun _ => 0) 1 c1) 2 c2) 3 c3) 4 c4) 5 256) j)))), (q7, .inl (zci G, 6, .inl (fun j => zi ((zup (zup (zup (zup (zup (fun _ => 0) 1 c5) 2 c6) 3 c7) 4 c8) 5 256) j)))), (q8, .inl (zci G, 6, .inl (fun j => zi ((zup (fun _ => 0) 1 c9) j))))] ++ zpic G ad zX0) 0 h0 (.ref q1) ((dr + 9 : Nat)) (.ref q2) (.ref q3) (.int (zi 0)) (.ref q4) (.int (zi 0)) (.int (zi 0)) (.ref q5) nd10 rfl hsl (by omega) (by omega) H.size) (cwV 1 hts gX8_init_X8_draw rfl rfl rfl (by decide +kernel) ⟨Nat.le_of_ble_eq_true rfl, Nat.le_of_ble_eq_true rfl⟩) (zPreV (As := [.int (zi (nd10 : Int))]) (wr := []) (wc := [(h0, .inr (8, [.ref q1, .ref (zsb G), .int (zi ((dr + 9 : Nat) : Int)), .ref q2, .ref q3, .int (zi 0), .ref q4, .int (zi 0), .int (zi 0), .ref q5])), (q2, .inl (zca G, 4, .inr (.inr (.inr (.inr (va_up (va_up (fun _ => none) 0 (some q6)) 1 (some q7))))))), (q3, .inl (zca G, 0, .inr (.inr (.inr (.inr (fun _ => none)))))), (q4, .inl (zca G, 0, .inr (.inr (.inr (.inr (fun _ => none)))))), (q5, .inl (zca G, 300, .inr (.inr (.inr (.inr (fun _ => none)))))), (q6, .inl (zci G, 6, .inl (fun j => zi ((zup (zup (zup (zup (zup (fun _ => 0) 1 c1) 2 c2) 3 c3) 4 c4) 5 256) j)))), (q7, .inl (zci G, 6, .inl (fun j => zi ((zup (zup (zup (zup (zup (fun _ => 0) 1 c5) 2 c6) 3 c7) 4 c8) 5 256) j)))), (q8, .inl (zci G, 6, .inl (fun j => zi ((zup (fun _ => 0) 1 c9) j))))] ++ zpic G ad zX0) (q0 := 0) (ci := 8) (q := (RX8, TX8, 10)) hP hD hE hS hA rfl rfl) rfl rfl hl.1 rfl (lv_room (Nat.le_of_ble_eq_true rfl)) dX8_init_168 ⟨Nat.le_of_ble_eq_true rfl, Nat.le_of_ble_eq_true rfl⟩) hP hD hS hA (fun _ _ H locs hf hP hD hS => ?_)
  obtain ⟨v10, rfl, hv10, hw9⟩ := hf
  rw [hw9] at hP hD
  have hP : va_P G.1 vwCl ([(h0, .inr (8, [.ref q1, .ref (zsb G), .int (zi ((dr + 10 : Nat) : Int)), .ref q2, .ref q3, .int (zi 0), .ref q4, .int (zi 0), .int (zi 0), .ref q5])), (q2, .inl (zca G, 4, .inr (.inr (.inr (.inr (va_up (va_up (fun _ => none) 0 (some q6)) 1 (some q7))))))), (q3, .inl (zca G, 0, .inr (.inr (.inr (.inr (fun _ => none)))))), (q4, .inl (zca G, 0, .inr (.inr (.inr (.inr (fun _ => none)))))), (q5, .inl (zca G, 300, .inr (.inr (.inr (.inr (fun _ => none)))))), (q6, .inl (zci G, 6, .inl (fun j => zi ((zup (zup (zup (zup (zup (fun _ => 0) 1 c1) 2 c2) 3 c3) 4 c4) 5 256) j)))), (q7, .inl (zci G, 6, .inl (fun j => zi ((zup (zup (zup (zup (zup (fun _ => 0) 1 c5) 2 c6) 3 c7) 4 c8) 5 256) j)))), (q8, .inl (zci G, 6, .inl (fun j => zi ((zup (fun _ => 0) 1 c9) j))))] ++ zpic G ad zX0) H := hP
  have hD : va_D A ([(h0, .inr (8, [.ref q1, .ref (zsb G), .int (zi ((dr + 10 : Nat) : Int)), .ref q2, .ref q3, .int (zi 0), .ref q4, .int (zi 0), .int (zi 0), .ref q5])), (q2, .inl (zca G, 4, .inr (.inr (.inr (.inr (va_up (va_up (fun _ => none) 0 (some q6)) 1 (some q7))))))), (q3, .inl (zca G, 0, .inr (.inr (.inr (.inr (fun _ => none)))))), (q4, .inl (zca G, 0, .inr (.inr (.inr (.inr (fun _ => none)))))), (q5, .inl (zca G, 300, .inr (.inr (.inr (.inr (fun _ => none)))))), (q6, .inl (zci G, 6, .inl (fun j => zi ((zup (zup (zup (zup (zup (fun _ => 0) 1 c1) 2 c2) 3 c3) 4 c4) 5 256) j)))), (q7, .inl (zci G, 6, .inl (fun j => zi ((zup (zup (zup (zup (zup (fun _ => 0) 1 c5) 2 c6) 3 c7) 4 c8) 5 256) j)))), (q8, .inl (zci G, 6, .inl (fun j => zi ((zup (fun _ => 0) 1 c9) j))))] ++ zpic G ad zX0) := hD
  refine W.eq (g2 := F0 m 171 ls [.int (zi v10), .int (zi (c9 + 1)), .int (zi 2), .ref q8]) rfl ?_
  refine lv_iadd hx hb dX8_init_171 (zti (v := zi ((c9 + 1) + v10)) (zi_add _ _) ?_)
  obtain ⟨c10, hc10⟩ : ∃ z : Int, z = (c9 + 1) + v10 := ⟨_, rfl⟩
  refine zti (v := zi c10) (congrArg zi hc10.symm) ?_
  have hc10b : c9 + 1 ≤ c10 ∧ c10 ≤ 1021 := by omega
  refine zistL hx hb hE hP hD hS 7 rfl 2 rfl (by decide) (by decide) dX8_init_172 (fun H locs hP hD hS => ?_)
  have hP : va_P G.1 vwCl ([(h0, .inr (8, [.ref q1, .ref (zsb G), .int (zi ((dr + 10 : Nat) : Int)), .ref q2, .ref q3, .int (zi 0), .ref q4, .int (zi 0), .int (zi 0), .ref q5])), (q2, .inl (zca G, 4, .inr (.inr (.inr (.inr (va_up (va_up (fun _ => none) 0 (some q6)) 1 (some q7))))))), (q3, .inl (zca G, 0, .inr (.inr (.inr (.inr (fun _ => none)))))), (q4, .inl (zca G, 0, .inr (.inr (.inr (.inr (fun _ => none)))))), (q5, .inl (zca G, 300, .inr (.inr (.inr (.inr (fun _ => none)))))), (q6, .inl (zci G, 6, .inl (fun j => zi ((zup (zup (zup (zup (zup (fun _ => 0) 1 c1) 2 c2) 3 c3) 4 c4) 5 256) j)))), (q7, .inl (zci G, 6, .inl (fun j => zi ((zup (zup (zup (zup (zup (fun _ => 0) 1 c5) 2 c6) 3 c7) 4 c8) 5 256) j)))), (q8, .inl (zci G, 6, .inl (fun j => zi ((zup (zup (fun _ => 0) 1 c9) 2 c10) j))))] ++ zpic G ad zX0) H := hP
  have hD : va_D A ([(h0, .inr (8, [.ref q1, .ref (zsb G), .int (zi ((dr + 10 : Nat) : Int)), .ref q2, .ref q3, .int (zi 0), .ref q4, .int (zi 0), .int (zi 0), .ref q5])), (q2, .inl (zca G, 4, .inr (.inr (.inr (.inr (va_up (va_up (fun _ => none) 0 (some q6)) 1 (some q7))))))), (q3, .inl (zca G, 0, .inr (.inr (.inr (.inr (fun _ => none)))))), (q4, .inl (zca G, 0, .inr (.inr (.inr (.inr (fun _ => none)))))), (q5, .inl (zca G, 300, .inr (.inr (.inr (.inr (fun _ => none)))))), (q6, .inl (zci G, 6, .inl (fun j => zi ((zup (zup (zup (zup (zup (fun _ => 0) 1 c1) 2 c2) 3 c3) 4 c4) 5 256) j)))), (q7, .inl (zci G, 6, .inl (fun j => zi ((zup (zup (zup (zup (zup (fun _ => 0) 1 c5) 2 c6) 3 c7) 4 c8) 5 256) j)))), (q8, .inl (zci G, 6, .inl (fun j => zi ((zup (zup (fun _ => 0) 1 c9) 2 c10) j))))] ++ zpic G ad zX0) := hD
  refine lv_iinc (v := zi 3) (lv' := [(7, .int (zi 3)), (6, .ref q8), (5, .int (zi 4)), (4, .int (zi 1024)), (3, .int (zi 2)), (0, .ref h0), (1, .ref (zsb G)), (2, .int (zi (dr : Int)))]) hx hb dX8_init_173 hl (k := 0) rfl (zi_add _ _) (by decide) rfl (fun ls hl => ?_)
  refine lv_goto (tgt := 114) hx hb dX8_init_176 (by decide) ?_
  refine lv_iload hx hb dX8_init_114 (lv_at hl 0 rfl) ?_
  refine lv_iload hx hb dX8_init_116 (lv_at hl 2 rfl) ?_
  refine zc_gt (tgt := 179) hx hb dX8_init_118 (by decide) (by decide) (by decide) (fun h9 => absurd h9 (by decide)) (fun h118 => ?_)
  refine lv_aload hx hb dX8_init_121 (lv_at hl 1 rfl) ?_
  refine lv_iload hx hb dX8_init_123 (lv_at hl 0 rfl) ?_
  refine lv_aload hx hb dX8_init_125 (lv_at hl 1 rfl) ?_
  refine lv_iload hx hb dX8_init_127 (lv_at hl 0 rfl) ?_
  refine lv_iconst (v := zi 1) hx hb dX8_init_129 rfl ?_
  refine lv_isub hx hb dX8_init_130 (zti (v := zi 2) (zi_sub _ _) ?_)
  refine zildL hx hb hE hP 7 rfl 2 rfl (by decide) (by decide) dX8_init_131 ?_
  refine zti (v := zi c10) rfl ?_
  refine lv_iconst (v := zi 1) hx hb dX8_init_132 rfl ?_
  refine lv_iadd hx hb dX8_init_133 (zti (v := zi (c10 + 1)) (zi_add _ _) ?_)
  refine lv_aload_n hx hb dX8_init_134 rfl (lv_at hl 5 rfl) ?_
  refine lv_iload hx hb dX8_init_135 (lv_at hl 3 rfl) ?_
  refine lv_aload hx hb dX8_init_137 (lv_at hl 1 rfl) ?_
  refine lv_iload hx hb dX8_init_139 (lv_at hl 0 rfl) ?_
  refine lv_iconst (v := zi 1) hx hb dX8_init_141 rfl ?_
  refine lv_isub hx hb dX8_init_142 (zti (v := zi 2) (zi_sub _ _) ?_)
  refine zildL hx hb hE hP 7 rfl 2 rfl (by decide) (by decide) dX8_init_143 ?_
  refine zti (v := zi c10) rfl ?_
  refine lv_isub hx hb dX8_init_144 (zti (v := zi (1024 - c10)) (zi_sub _ _) ?_)
  refine lv_iconst (v := zi 1) hx hb dX8_init_145 rfl ?_
  refine lv_isub hx hb dX8_init_146 (zti (v := zi ((1024 - c10) - 1)) (zi_sub _ _) ?_)
  refine lv_iload hx hb dX8_init_147 (lv_at hl 2 rfl) ?_
  refine lv_iload hx hb dX8_init_149 (lv_at hl 0 rfl) ?_
  refine lv_isub hx hb dX8_init_151 (zti (v := zi 1) (zi_sub _ _) ?_)
  refine lv_isub hx hb dX8_init_152 (zti (v := zi (((1024 - c10) - 1) - 1)) (zi_sub _ _) ?_)
  refine lv_iconst (v := zi 1) hx hb dX8_init_153 rfl ?_
  refine lv_isub hx hb dX8_init_154 (zti (v := zi ((((1024 - c10) - 1) - 1) - 1)) (zi_sub _ _) ?_)
  refine lv_iload_n hx hb dX8_init_155 rfl (lv_at hl 4 rfl) ?_
  refine lv_iconst (v := zi 3) hx hb dX8_init_156 rfl ?_
  refine zc_ge (tgt := 164) hx hb dX8_init_157 (by decide) (by decide) (by decide) (fun h9 => absurd h9 (by decide)) (fun h157 => ?_)
  refine lv_iconst (v := zi 2) hx hb dX8_init_160 rfl ?_
  refine lv_goto (tgt := 165) hx hb dX8_init_161 (by decide) ?_
  refine lv_idiv hx hb dX8_init_165 (by decide +kernel) (zti (v := zi (((((1024 - c10) - 1) - 1) - 1) / 2)) (zi_dvi (b := 2) (by omega) (by omega) (by decide) (by decide)) ?_)
  refine lv_iconst (v := zi 1) hx hb dX8_init_166 rfl ?_
  refine lv_iadd hx hb dX8_init_167 (zti (v := zi ((((((1024 - c10) - 1) - 1) - 1) / 2) + 1)) (zi_add _ _) ?_)
  obtain ⟨nd11, hnd11⟩ : ∃ z : Nat, ((((((1024 - c10) - 1) - 1) - 1) / 2) + 1 : Int) = (z : Int) := ⟨((((((1024 - c10) - 1) - 1) - 1) / 2) + 1 : Int).toNat, by omega⟩
  refine zti (v := zi (nd11 : Int)) (congrArg zi hnd11) ?_
  refine zcall (wr := []) (wc := [(h0, .inr (8, [.ref q1, .ref (zsb G), .int (zi ((dr + 10 : Nat) : Int)), .ref q2, .ref q3, .int (zi 0), .ref q4, .int (zi 0), .int (zi 0), .ref q5])), (q2, .inl (zca G, 4, .inr (.inr (.inr (.inr (va_up (va_up (fun _ => none) 0 (some q6)) 1 (some q7))))))), (q3, .inl (zca G, 0, .inr (.inr (.inr (.inr (fun _ => none)))))), (q4, .inl (zca G, 0, .inr (.inr (.inr (.inr (fun _ => none)))))), (q5, .inl (zca G, 300, .inr (.inr (.inr (.inr (fun _ => none)))))), (q6, .inl (zci G, 6, .inl (fun j => zi ((zup (zup (zup (zup (zup (fun _ => 0) 1 c1) 2 c2) 3 c3) 4 c4) 5 256) j)))), (q7, .inl (zci G, 6, .inl (fun j => zi ((zup (zup (zup (zup (zup (fun _ => 0) 1 c5) 2 c6) 3 c7) 4 c8) 5 256) j)))), (q8, .inl (zci G, 6, .inl (fun j => zi ((zup (zup (fun _ => 0) 1 c9) 2 c10) j))))] ++ zpic G ad zX0) (va_runV (As := [.int (zi (nd11 : Int))]) (rest := [.int (zi (c10 + 1)), .int (zi 3), .ref q8]) ⟨hx, hb, hml, hown, hts⟩ (k_X8_draw l G ([(h0, .inr (8, [.ref q1, .ref (zsb G), .int (zi ((dr + 10 : Nat) : Int)), .ref q2, .ref q3, .int (zi 0), .ref q4, .int (zi 0), .int (zi 0), .ref q5])), (q2, .inl (zca G, 4, .inr (.inr (.inr (.inr (va_up (va_up (fun _ => none) 0 (some q6)) 1 (some q7))))))), (q3, .inl (zca G, 0, .inr (.inr (.inr (.inr (fun _ => none)))))), (q4, .inl (zca G, 0, .inr (.inr (.inr (.inr (fun _ => none)))))), (q5, .inl (zca G, 300, .inr (.inr (.inr (.inr (fun _ => none)))))), (q6, .inl (zci G, 6, .inl (fun j => zi ((zup (zup (zup (zup (zup (fun _ => 0) 1 c1) 2 c2) 3 c3) 4 c4) 5 256) j)))), (q7, .inl (zci G, 6, .inl (fun j => zi ((zup (zup (zup (zup (zup (fun _ => 0) 1 c5) 2 c6) 3 c7) 4 c8) 5 256) j)))), (q8, .inl (zci G, 6, .inl (fun j => zi ((zup (zup (fun _ => 0) 1 c9) 2 c10) j))))] ++ zpic G ad zX0) 0 h0 (.ref q1) ((dr + 10 : Nat)) (.ref q2) (.ref q3) (.int (zi 0)) (.ref q4) (.int (zi 0)) (.int (zi 0)) (.ref q5) nd11 rfl hsl (by omega) (by omega) H.size) (cwV 1 hts gX8_init_X8_draw rfl rfl rfl (by decide +kernel) ⟨Nat.le_of_ble_eq_true rfl, Nat.le_of_ble_eq_true rfl⟩) (zPreV (As := [.int (zi (nd11 : Int))]) (wr := []) (wc := [(h0, .inr (8, [.ref q1, .ref (zsb G), .int (zi ((dr + 10 : Nat) : Int)), .ref q2, .ref q3, .int (zi 0), .ref q4, .int (zi 0), .int (zi 0), .ref q5])), (q2, .inl (zca G, 4, .inr (.inr (.inr (.inr (va_up (va_up (fun _ => none) 0 (some q6)) 1 (some q7))))))), (q3, .inl (zca G, 0, .inr (.inr (.inr (.inr (fun _ => none)))))), (q4, .inl (zca G, 0, .inr (.inr (.inr (.inr (fun _ => none)))))), (q5, .inl (zca G, 300, .inr (.inr (.inr (.inr (fun _ => none)))))), (q6, .inl (zci G, 6, .inl (fun j => zi ((zup (zup (zup (zup (zup (fun _ => 0) 1 c1) 2 c2) 3 c3) 4 c4) 5 256) j)))), (q7, .inl (zci G, 6, .inl (fun j => zi ((zup (zup (zup (zup (zup (fun _ => 0) 1 c5) 2 c6) 3 c7) 4 c8) 5 256) j)))), (q8, .inl (zci G, 6, .inl (fun j => zi ((zup (zup (fun _ => 0) 1 c9) 2 c10) j))))] ++ zpic G ad zX0) (q0 := 0) (ci := 8) (q := (RX8, TX8, 10)) hP hD hE hS hA rfl rfl) rfl rfl hl.1 rfl (lv_room (Nat.le_of_ble_eq_true rfl)) dX8_init_168 ⟨Nat.le_of_ble_eq_true rfl, Nat.le_of_ble_eq_true rfl⟩) hP hD hS hA (fun _ _ H locs hf hP hD hS => ?_)
  obtain ⟨v11, rfl, hv11, hw9⟩ := hf
  rw [hw9] at hP hD
  have hP : va_P G.1 vwCl ([(h0, .inr (8, [.ref q1, .ref (zsb G), .int (zi ((dr + 11 : Nat) : Int)), .ref q2, .ref q3, .int (zi 0), .ref q4, .int (zi 0), .int (zi 0), .ref q5])), (q2, .inl (zca G, 4, .inr (.inr (.inr (.inr (va_up (va_up (fun _ => none) 0 (some q6)) 1 (some q7))))))), (q3, .inl (zca G, 0, .inr (.inr (.inr (.inr (fun _ => none)))))), (q4, .inl (zca G, 0, .inr (.inr (.inr (.inr (fun _ => none)))))), (q5, .inl (zca G, 300, .inr (.inr (.inr (.inr (fun _ => none)))))), (q6, .inl (zci G, 6, .inl (fun j => zi ((zup (zup (zup (zup (zup (fun _ => 0) 1 c1) 2 c2) 3 c3) 4 c4) 5 256) j)))), (q7, .inl (zci G, 6, .inl (fun j => zi ((zup (zup (zup (zup (zup (fun _ => 0) 1 c5) 2 c6) 3 c7) 4 c8) 5 256) j)))), (q8, .inl (zci G, 6, .inl (fun j => zi ((zup (zup (fun _ => 0) 1 c9) 2 c10) j))))] ++ zpic G ad zX0) H := hP
  have hD : va_D A ([(h0, .inr (8, [.ref q1, .ref (zsb G), .int (zi ((dr + 11 : Nat) : Int)), .ref q2, .ref q3, .int (zi 0), .ref q4, .int (zi 0), .int (zi 0), .ref q5])), (q2, .inl (zca G, 4, .inr (.inr (.inr (.inr (va_up (va_up (fun _ => none) 0 (some q6)) 1 (some q7))))))), (q3, .inl (zca G, 0, .inr (.inr (.inr (.inr (fun _ => none)))))), (q4, .inl (zca G, 0, .inr (.inr (.inr (.inr (fun _ => none)))))), (q5, .inl (zca G, 300, .inr (.inr (.inr (.inr (fun _ => none)))))), (q6, .inl (zci G, 6, .inl (fun j => zi ((zup (zup (zup (zup (zup (fun _ => 0) 1 c1) 2 c2) 3 c3) 4 c4) 5 256) j)))), (q7, .inl (zci G, 6, .inl (fun j => zi ((zup (zup (zup (zup (zup (fun _ => 0) 1 c5) 2 c6) 3 c7) 4 c8) 5 256) j)))), (q8, .inl (zci G, 6, .inl (fun j => zi ((zup (zup (fun _ => 0) 1 c9) 2 c10) j))))] ++ zpic G ad zX0) := hD
  refine W.eq (g2 := F0 m 171 ls [.int (zi v11), .int (zi (c10 + 1)), .int (zi 3), .ref q8]) rfl ?_
  refine lv_iadd hx hb dX8_init_171 (zti (v := zi ((c10 + 1) + v11)) (zi_add _ _) ?_)
  obtain ⟨c11, hc11⟩ : ∃ z : Int, z = (c10 + 1) + v11 := ⟨_, rfl⟩
  refine zti (v := zi c11) (congrArg zi hc11.symm) ?_
  have hc11b : c10 + 1 ≤ c11 ∧ c11 ≤ 1022 := by omega
  refine zistL hx hb hE hP hD hS 7 rfl 3 rfl (by decide) (by decide) dX8_init_172 (fun H locs hP hD hS => ?_)
  have hP : va_P G.1 vwCl ([(h0, .inr (8, [.ref q1, .ref (zsb G), .int (zi ((dr + 11 : Nat) : Int)), .ref q2, .ref q3, .int (zi 0), .ref q4, .int (zi 0), .int (zi 0), .ref q5])), (q2, .inl (zca G, 4, .inr (.inr (.inr (.inr (va_up (va_up (fun _ => none) 0 (some q6)) 1 (some q7))))))), (q3, .inl (zca G, 0, .inr (.inr (.inr (.inr (fun _ => none)))))), (q4, .inl (zca G, 0, .inr (.inr (.inr (.inr (fun _ => none)))))), (q5, .inl (zca G, 300, .inr (.inr (.inr (.inr (fun _ => none)))))), (q6, .inl (zci G, 6, .inl (fun j => zi ((zup (zup (zup (zup (zup (fun _ => 0) 1 c1) 2 c2) 3 c3) 4 c4) 5 256) j)))), (q7, .inl (zci G, 6, .inl (fun j => zi ((zup (zup (zup (zup (zup (fun _ => 0) 1 c5) 2 c6) 3 c7) 4 c8) 5 256) j)))), (q8, .inl (zci G, 6, .inl (fun j => zi ((zup (zup (zup (fun _ => 0) 1 c9) 2 c10) 3 c11) j))))] ++ zpic G ad zX0) H := hP
  have hD : va_D A ([(h0, .inr (8, [.ref q1, .ref (zsb G), .int (zi ((dr + 11 : Nat) : Int)), .ref q2, .ref q3, .int (zi 0), .ref q4, .int (zi 0), .int (zi 0), .ref q5])), (q2, .inl (zca G, 4, .inr (.inr (.inr (.inr (va_up (va_up (fun _ => none) 0 (some q6)) 1 (some q7))))))), (q3, .inl (zca G, 0, .inr (.inr (.inr (.inr (fun _ => none)))))), (q4, .inl (zca G, 0, .inr (.inr (.inr (.inr (fun _ => none)))))), (q5, .inl (zca G, 300, .inr (.inr (.inr (.inr (fun _ => none)))))), (q6, .inl (zci G, 6, .inl (fun j => zi ((zup (zup (zup (zup (zup (fun _ => 0) 1 c1) 2 c2) 3 c3) 4 c4) 5 256) j)))), (q7, .inl (zci G, 6, .inl (fun j => zi ((zup (zup (zup (zup (zup (fun _ => 0) 1 c5) 2 c6) 3 c7) 4 c8) 5 256) j)))), (q8, .inl (zci G, 6, .inl (fun j => zi ((zup (zup (zup (fun _ => 0) 1 c9) 2 c10) 3 c11) j))))] ++ zpic G ad zX0) := hD
  refine lv_iinc (v := zi 4) (lv' := [(7, .int (zi 4)), (6, .ref q8), (5, .int (zi 4)), (4, .int (zi 1024)), (3, .int (zi 2)), (0, .ref h0), (1, .ref (zsb G)), (2, .int (zi (dr : Int)))]) hx hb dX8_init_173 hl (k := 0) rfl (zi_add _ _) (by decide) rfl (fun ls hl => ?_)
  refine lv_goto (tgt := 114) hx hb dX8_init_176 (by decide) ?_
  refine lv_iload hx hb dX8_init_114 (lv_at hl 0 rfl) ?_
  refine lv_iload hx hb dX8_init_116 (lv_at hl 2 rfl) ?_
  refine zc_gt (tgt := 179) hx hb dX8_init_118 (by decide) (by decide) (by decide) (fun h9 => absurd h9 (by decide)) (fun h118 => ?_)
  refine lv_aload hx hb dX8_init_121 (lv_at hl 1 rfl) ?_
  refine lv_iload hx hb dX8_init_123 (lv_at hl 0 rfl) ?_
  refine lv_aload hx hb dX8_init_125 (lv_at hl 1 rfl) ?_
  refine lv_iload hx hb dX8_init_127 (lv_at hl 0 rfl) ?_
  refine lv_iconst (v := zi 1) hx hb dX8_init_129 rfl ?_
  refine lv_isub hx hb dX8_init_130 (zti (v := zi 3) (zi_sub _ _) ?_)
  refine zildL hx hb hE hP 7 rfl 3 rfl (by decide) (by decide) dX8_init_131 ?_
  refine zti (v := zi c11) rfl ?_
  refine lv_iconst (v := zi 1) hx hb dX8_init_132 rfl ?_
  refine lv_iadd hx hb dX8_init_133 (zti (v := zi (c11 + 1)) (zi_add _ _) ?_)
  refine lv_aload_n hx hb dX8_init_134 rfl (lv_at hl 5 rfl) ?_
  refine lv_iload hx hb dX8_init_135 (lv_at hl 3 rfl) ?_
  refine lv_aload hx hb dX8_init_137 (lv_at hl 1 rfl) ?_
  refine lv_iload hx hb dX8_init_139 (lv_at hl 0 rfl) ?_
  refine lv_iconst (v := zi 1) hx hb dX8_init_141 rfl ?_
  refine lv_isub hx hb dX8_init_142 (zti (v := zi 3) (zi_sub _ _) ?_)
  refine zildL hx hb hE hP 7 rfl 3 rfl (by decide) (by decide) dX8_init_143 ?_
  refine zti (v := zi c11) rfl ?_
  refine lv_isub hx hb dX8_init_144 (zti (v := zi (1024 - c11)) (zi_sub _ _) ?_)
  refine lv_iconst (v := zi 1) hx hb dX8_init_145 rfl ?_
  refine lv_isub hx hb dX8_init_146 (zti (v := zi ((1024 - c11) - 1)) (zi_sub _ _) ?_)
  refine lv_iload hx hb dX8_init_147 (lv_at hl 2 rfl) ?_
  refine lv_iload hx hb dX8_init_149 (lv_at hl 0 rfl) ?_
  refine lv_isub hx hb dX8_init_151 (zti (v := zi 0) (zi_sub _ _) ?_)
  refine lv_isub hx hb dX8_init_152 (zti (v := zi (((1024 - c11) - 1) - 0)) (zi_sub _ _) ?_)
  refine lv_iconst (v := zi 1) hx hb dX8_init_153 rfl ?_
  refine lv_isub hx hb dX8_init_154 (zti (v := zi ((((1024 - c11) - 1) - 0) - 1)) (zi_sub _ _) ?_)
  refine lv_iload_n hx hb dX8_init_155 rfl (lv_at hl 4 rfl) ?_
  refine lv_iconst (v := zi 3) hx hb dX8_init_156 rfl ?_
  refine zc_ge (tgt := 164) hx hb dX8_init_157 (by decide) (by decide) (by decide) (fun h9 => absurd h9 (by decide)) (fun h157 => ?_)
  refine lv_iconst (v := zi 2) hx hb dX8_init_160 rfl ?_
  refine lv_goto (tgt := 165) hx hb dX8_init_161 (by decide) ?_
  refine lv_idiv hx hb dX8_init_165 (by decide +kernel) (zti (v := zi (((((1024 - c11) - 1) - 0) - 1) / 2)) (zi_dvi (b := 2) (by omega) (by omega) (by decide) (by decide)) ?_)
  refine lv_iconst (v := zi 1) hx hb dX8_init_166 rfl ?_
  refine lv_iadd hx hb dX8_init_167 (zti (v := zi ((((((1024 - c11) - 1) - 0) - 1) / 2) + 1)) (zi_add _ _) ?_)
  obtain ⟨nd12, hnd12⟩ : ∃ z : Nat, ((((((1024 - c11) - 1) - 0) - 1) / 2) + 1 : Int) = (z : Int) := ⟨((((((1024 - c11) - 1) - 0) - 1) / 2) + 1 : Int).toNat, by omega⟩
  refine zti (v := zi (nd12 : Int)) (congrArg zi hnd12) ?_
  refine zcall (wr := []) (wc := [(h0, .inr (8, [.ref q1, .ref (zsb G), .int (zi ((dr + 11 : Nat) : Int)), .ref q2, .ref q3, .int (zi 0), .ref q4, .int (zi 0), .int (zi 0), .ref q5])), (q2, .inl (zca G, 4, .inr (.inr (.inr (.inr (va_up (va_up (fun _ => none) 0 (some q6)) 1 (some q7))))))), (q3, .inl (zca G, 0, .inr (.inr (.inr (.inr (fun _ => none)))))), (q4, .inl (zca G, 0, .inr (.inr (.inr (.inr (fun _ => none)))))), (q5, .inl (zca G, 300, .inr (.inr (.inr (.inr (fun _ => none)))))), (q6, .inl (zci G, 6, .inl (fun j => zi ((zup (zup (zup (zup (zup (fun _ => 0) 1 c1) 2 c2) 3 c3) 4 c4) 5 256) j)))), (q7, .inl (zci G, 6, .inl (fun j => zi ((zup (zup (zup (zup (zup (fun _ => 0) 1 c5) 2 c6) 3 c7) 4 c8) 5 256) j)))), (q8, .inl (zci G, 6, .inl (fun j => zi ((zup (zup (zup (fun _ => 0) 1 c9) 2 c10) 3 c11) j))))] ++ zpic G ad zX0) (va_runV (As := [.int (zi (nd12 : Int))]) (rest := [.int (zi (c11 + 1)), .int (zi 4), .ref q8]) ⟨hx, hb, hml, hown, hts⟩ (k_X8_draw l G ([(h0, .inr (8, [.ref q1, .ref (zsb G), .int (zi ((dr + 11 : Nat) : Int)), .ref q2, .ref q3, .int (zi 0), .ref q4, .int (zi 0), .int (zi 0), .ref q5])), (q2, .inl (zca G, 4, .inr (.inr (.inr (.inr (va_up (va_up (fun _ => none) 0 (some q6)) 1 (some q7))))))), (q3, .inl (zca G, 0, .inr (.inr (.inr (.inr (fun _ => none)))))), (q4, .inl (zca G, 0, .inr (.inr (.inr (.inr (fun _ => none)))))), (q5, .inl (zca G, 300, .inr (.inr (.inr (.inr (fun _ => none)))))), (q6, .inl (zci G, 6, .inl (fun j => zi ((zup (zup (zup (zup (zup (fun _ => 0) 1 c1) 2 c2) 3 c3) 4 c4) 5 256) j)))), (q7, .inl (zci G, 6, .inl (fun j => zi ((zup (zup (zup (zup (zup (fun _ => 0) 1 c5) 2 c6) 3 c7) 4 c8) 5 256) j)))), (q8, .inl (zci G, 6, .inl (fun j => zi ((zup (zup (zup (fun _ => 0) 1 c9) 2 c10) 3 c11) j))))] ++ zpic G ad zX0) 0 h0 (.ref q1) ((dr + 11 : Nat)) (.ref q2) (.ref q3) (.int (zi 0)) (.ref q4) (.int (zi 0)) (.int (zi 0)) (.ref q5) nd12 rfl hsl (by omega) (by omega) H.size) (cwV 1 hts gX8_init_X8_draw rfl rfl rfl (by decide +kernel) ⟨Nat.le_of_ble_eq_true rfl, Nat.le_of_ble_eq_true rfl⟩) (zPreV (As := [.int (zi (nd12 : Int))]) (wr := []) (wc := [(h0, .inr (8, [.ref q1, .ref (zsb G), .int (zi ((dr + 11 : Nat) : Int)), .ref q2, .ref q3, .int (zi 0), .ref q4, .int (zi 0), .int (zi 0), .ref q5])), (q2, .inl (zca G, 4, .inr (.inr (.inr (.inr (va_up (va_up (fun _ => none) 0 (some q6)) 1 (some q7))))))), (q3, .inl (zca G, 0, .inr (.inr (.inr (.inr (fun _ => none)))))), (q4, .inl (zca G, 0, .inr (.inr (.inr (.inr (fun _ => none)))))), (q5, .inl (zca G, 300, .inr (.inr (.inr (.inr (fun _ => none)))))), (q6, .inl (zci G, 6, .inl (fun j => zi ((zup (zup (zup (zup (zup (fun _ => 0) 1 c1) 2 c2) 3 c3) 4 c4) 5 256) j)))), (q7, .inl (zci G, 6, .inl (fun j => zi ((zup (zup (zup (zup (zup (fun _ => 0) 1 c5) 2 c6) 3 c7) 4 c8) 5 256) j)))), (q8, .inl (zci G, 6, .inl (fun j => zi ((zup (zup (zup (fun _ => 0) 1 c9) 2 c10) 3 c11) j))))] ++ zpic G ad zX0) (q0 := 0) (ci := 8) (q := (RX8, TX8, 10)) hP hD hE hS hA rfl rfl) rfl rfl hl.1 rfl (lv_room (Nat.le_of_ble_eq_true rfl)) dX8_init_168 ⟨Nat.le_of_ble_eq_true rfl, Nat.le_of_ble_eq_true rfl⟩) hP hD hS hA (fun _ _ H locs hf hP hD hS => ?_)
  obtain ⟨v12, rfl, hv12, hw9⟩ := hf
  rw [hw9] at hP hD
  have hP : va_P G.1 vwCl ([(h0, .inr (8, [.ref q1, .ref (zsb G), .int (zi ((dr + 12 : Nat) : Int)), .ref q2, .ref q3, .int (zi 0), .ref q4, .int (zi 0), .int (zi 0), .ref q5])), (q2, .inl (zca G, 4, .inr (.inr (.inr (.inr (va_up (va_up (fun _ => none) 0 (some q6)) 1 (some q7))))))), (q3, .inl (zca G, 0, .inr (.inr (.inr (.inr (fun _ => none)))))), (q4, .inl (zca G, 0, .inr (.inr (.inr (.inr (fun _ => none)))))), (q5, .inl (zca G, 300, .inr (.inr (.inr (.inr (fun _ => none)))))), (q6, .inl (zci G, 6, .inl (fun j => zi ((zup (zup (zup (zup (zup (fun _ => 0) 1 c1) 2 c2) 3 c3) 4 c4) 5 256) j)))), (q7, .inl (zci G, 6, .inl (fun j => zi ((zup (zup (zup (zup (zup (fun _ => 0) 1 c5) 2 c6) 3 c7) 4 c8) 5 256) j)))), (q8, .inl (zci G, 6, .inl (fun j => zi ((zup (zup (zup (fun _ => 0) 1 c9) 2 c10) 3 c11) j))))] ++ zpic G ad zX0) H := hP
  have hD : va_D A ([(h0, .inr (8, [.ref q1, .ref (zsb G), .int (zi ((dr + 12 : Nat) : Int)), .ref q2, .ref q3, .int (zi 0), .ref q4, .int (zi 0), .int (zi 0), .ref q5])), (q2, .inl (zca G, 4, .inr (.inr (.inr (.inr (va_up (va_up (fun _ => none) 0 (some q6)) 1 (some q7))))))), (q3, .inl (zca G, 0, .inr (.inr (.inr (.inr (fun _ => none)))))), (q4, .inl (zca G, 0, .inr (.inr (.inr (.inr (fun _ => none)))))), (q5, .inl (zca G, 300, .inr (.inr (.inr (.inr (fun _ => none)))))), (q6, .inl (zci G, 6, .inl (fun j => zi ((zup (zup (zup (zup (zup (fun _ => 0) 1 c1) 2 c2) 3 c3) 4 c4) 5 256) j)))), (q7, .inl (zci G, 6, .inl (fun j => zi ((zup (zup (zup (zup (zup (fun _ => 0) 1 c5) 2 c6) 3 c7) 4 c8) 5 256) j)))), (q8, .inl (zci G, 6, .inl (fun j => zi ((zup (zup (zup (fun _ => 0) 1 c9) 2 c10) 3 c11) j))))] ++ zpic G ad zX0) := hD
  refine W.eq (g2 := F0 m 171 ls [.int (zi v12), .int (zi (c11 + 1)), .int (zi 4), .ref q8]) rfl ?_
  refine lv_iadd hx hb dX8_init_171 (zti (v := zi ((c11 + 1) + v12)) (zi_add _ _) ?_)
  obtain ⟨c12, hc12⟩ : ∃ z : Int, z = (c11 + 1) + v12 := ⟨_, rfl⟩
  refine zti (v := zi c12) (congrArg zi hc12.symm) ?_
  have hc12b : c11 + 1 ≤ c12 ∧ c12 ≤ 1023 := by omega
  refine zistL hx hb hE hP hD hS 7 rfl 4 rfl (by decide) (by decide) dX8_init_172 (fun H locs hP hD hS => ?_)
  have hP : va_P G.1 vwCl ([(h0, .inr (8, [.ref q1, .ref (zsb G), .int (zi ((dr + 12 : Nat) : Int)), .ref q2, .ref q3, .int (zi 0), .ref q4, .int (zi 0), .int (zi 0), .ref q5])), (q2, .inl (zca G, 4, .inr (.inr (.inr (.inr (va_up (va_up (fun _ => none) 0 (some q6)) 1 (some q7))))))), (q3, .inl (zca G, 0, .inr (.inr (.inr (.inr (fun _ => none)))))), (q4, .inl (zca G, 0, .inr (.inr (.inr (.inr (fun _ => none)))))), (q5, .inl (zca G, 300, .inr (.inr (.inr (.inr (fun _ => none)))))), (q6, .inl (zci G, 6, .inl (fun j => zi ((zup (zup (zup (zup (zup (fun _ => 0) 1 c1) 2 c2) 3 c3) 4 c4) 5 256) j)))), (q7, .inl (zci G, 6, .inl (fun j => zi ((zup (zup (zup (zup (zup (fun _ => 0) 1 c5) 2 c6) 3 c7) 4 c8) 5 256) j)))), (q8, .inl (zci G, 6, .inl (fun j => zi ((zup (zup (zup (zup (fun _ => 0) 1 c9) 2 c10) 3 c11) 4 c12) j))))] ++ zpic G ad zX0) H := hP
  have hD : va_D A ([(h0, .inr (8, [.ref q1, .ref (zsb G), .int (zi ((dr + 12 : Nat) : Int)), .ref q2, .ref q3, .int (zi 0), .ref q4, .int (zi 0), .int (zi 0), .ref q5])), (q2, .inl (zca G, 4, .inr (.inr (.inr (.inr (va_up (va_up (fun _ => none) 0 (some q6)) 1 (some q7))))))), (q3, .inl (zca G, 0, .inr (.inr (.inr (.inr (fun _ => none)))))), (q4, .inl (zca G, 0, .inr (.inr (.inr (.inr (fun _ => none)))))), (q5, .inl (zca G, 300, .inr (.inr (.inr (.inr (fun _ => none)))))), (q6, .inl (zci G, 6, .inl (fun j => zi ((zup (zup (zup (zup (zup (fun _ => 0) 1 c1) 2 c2) 3 c3) 4 c4) 5 256) j)))), (q7, .inl (zci G, 6, .inl (fun j => zi ((zup (zup (zup (zup (zup (fun _ => 0) 1 c5) 2 c6) 3 c7) 4 c8) 5 256) j)))), (q8, .inl (zci G, 6, .inl (fun j => zi ((zup (zup (zup (zup (fun _ => 0) 1 c9) 2 c10) 3 c11) 4 c12) j))))] ++ zpic G ad zX0) := hD
  refine lv_iinc (v := zi 5) (lv' := [(7, .int (zi 5)), (6, .ref q8), (5, .int (zi 4)), (4, .int (zi 1024)), (3, .int (zi 2)), (0, .ref h0), (1, .ref (zsb G)), (2, .int (zi (dr : Int)))]) hx hb dX8_init_173 hl (k := 0) rfl (zi_add _ _) (by decide) rfl (fun ls hl => ?_)
  refine lv_goto (tgt := 114) hx hb dX8_init_176 (by decide) ?_
  refine lv_iload hx hb dX8_init_114 (lv_at hl 0 rfl) ?_
  refine lv_iload hx hb dX8_init_116 (lv_at hl 2 rfl) ?_
  refine zc_gt (tgt := 179) hx hb dX8_init_118 (by decide) (by decide) (by decide) (fun h118 => ?_) (fun h9 => absurd h9 (by decide))
  refine lv_aload hx hb dX8_init_179 (lv_at hl 1 rfl) ?_
  refine lv_iload hx hb dX8_init_181 (lv_at hl 2 rfl) ?_
  refine lv_iconst (v := zi 1) hx hb dX8_init_183 rfl ?_
  refine lv_iadd hx hb dX8_init_184 (zti (v := zi 5) (zi_add _ _) ?_)
  refine lv_iload hx hb dX8_init_185 (lv_at hl 3 rfl) ?_
  refine zistL hx hb hE hP hD hS 7 rfl 5 rfl (by decide) (by decide) dX8_init_187 (fun H locs hP hD hS => ?_)
  have hP : va_P G.1 vwCl ([(h0, .inr (8, [.ref q1, .ref (zsb G), .int (zi ((dr + 12 : Nat) : Int)), .ref q2, .ref q3, .int (zi 0), .ref q4, .int (zi 0), .int (zi 0), .ref q5])), (q2, .inl (zca G, 4, .inr (.inr (.inr (.inr (va_up (va_up (fun _ => none) 0 (some q6)) 1 (some q7))))))), (q3, .inl (zca G, 0, .inr (.inr (.inr (.inr (fun _ => none)))))), (q4, .inl (zca G, 0, .inr (.inr (.inr (.inr (fun _ => none)))))), (q5, .inl (zca G, 300, .inr (.inr (.inr (.inr (fun _ => none)))))), (q6, .inl (zci G, 6, .inl (fun j => zi ((zup (zup (zup (zup (zup (fun _ => 0) 1 c1) 2 c2) 3 c3) 4 c4) 5 256) j)))), (q7, .inl (zci G, 6, .inl (fun j => zi ((zup (zup (zup (zup (zup (fun _ => 0) 1 c5) 2 c6) 3 c7) 4 c8) 5 256) j)))), (q8, .inl (zci G, 6, .inl (fun j => zi ((zup (zup (zup (zup (zup (fun _ => 0) 1 c9) 2 c10) 3 c11) 4 c12) 5 1024) j))))] ++ zpic G ad zX0) H := hP
  have hD : va_D A ([(h0, .inr (8, [.ref q1, .ref (zsb G), .int (zi ((dr + 12 : Nat) : Int)), .ref q2, .ref q3, .int (zi 0), .ref q4, .int (zi 0), .int (zi 0), .ref q5])), (q2, .inl (zca G, 4, .inr (.inr (.inr (.inr (va_up (va_up (fun _ => none) 0 (some q6)) 1 (some q7))))))), (q3, .inl (zca G, 0, .inr (.inr (.inr (.inr (fun _ => none)))))), (q4, .inl (zca G, 0, .inr (.inr (.inr (.inr (fun _ => none)))))), (q5, .inl (zca G, 300, .inr (.inr (.inr (.inr (fun _ => none)))))), (q6, .inl (zci G, 6, .inl (fun j => zi ((zup (zup (zup (zup (zup (fun _ => 0) 1 c1) 2 c2) 3 c3) 4 c4) 5 256) j)))), (q7, .inl (zci G, 6, .inl (fun j => zi ((zup (zup (zup (zup (zup (fun _ => 0) 1 c5) 2 c6) 3 c7) 4 c8) 5 256) j)))), (q8, .inl (zci G, 6, .inl (fun j => zi ((zup (zup (zup (zup (zup (fun _ => 0) 1 c9) 2 c10) 3 c11) 4 c12) 5 1024) j))))] ++ zpic G ad zX0) := hD
  refine lv_aload_n hx hb dX8_init_188 rfl (lv_at hl 5 rfl) ?_
  refine va_get (D := G.1) (ci := 8) (v := .ref q2) (C := RX8) (T := TX8) (N := 10) hx hb hts hw8 hown hE.1 hP 0 rfl rfl 3 (by decide) hf18 (fun _ h9 => h9) rfl dX8_init_189 ?_
  refine lv_iload_n hx hb dX8_init_192 rfl (lv_at hl 4 rfl) ?_
  refine lv_aload hx hb dX8_init_193 (lv_at hl 1 rfl) ?_
  refine zastA hx hb hE hP hD hS 1 7 rfl rfl 2 rfl (by decide) (by decide) dX8_init_195 (fun H locs hP hD hS => ?_)
  have hP : va_P G.1 vwCl ([(h0, .inr (8, [.ref q1, .ref (zsb G), .int (zi ((dr + 12 : Nat) : Int)), .ref q2, .ref q3, .int (zi 0), .ref q4, .int (zi 0), .int (zi 0), .ref q5])), (q2, .inl (zca G, 4, .inr (.inr (.inr (.inr (va_up (va_up (va_up (fun _ => none) 0 (some q6)) 1 (some q7)) 2 (some q8))))))), (q3, .inl (zca G, 0, .inr (.inr (.inr (.inr (fun _ => none)))))), (q4, .inl (zca G, 0, .inr (.inr (.inr (.inr (fun _ => none)))))), (q5, .inl (zca G, 300, .inr (.inr (.inr (.inr (fun _ => none)))))), (q6, .inl (zci G, 6, .inl (fun j => zi ((zup (zup (zup (zup (zup (fun _ => 0) 1 c1) 2 c2) 3 c3) 4 c4) 5 256) j)))), (q7, .inl (zci G, 6, .inl (fun j => zi ((zup (zup (zup (zup (zup (fun _ => 0) 1 c5) 2 c6) 3 c7) 4 c8) 5 256) j)))), (q8, .inl (zci G, 6, .inl (fun j => zi ((zup (zup (zup (zup (zup (fun _ => 0) 1 c9) 2 c10) 3 c11) 4 c12) 5 1024) j))))] ++ zpic G ad zX0) H := hP
  have hD : va_D A ([(h0, .inr (8, [.ref q1, .ref (zsb G), .int (zi ((dr + 12 : Nat) : Int)), .ref q2, .ref q3, .int (zi 0), .ref q4, .int (zi 0), .int (zi 0), .ref q5])), (q2, .inl (zca G, 4, .inr (.inr (.inr (.inr (va_up (va_up (va_up (fun _ => none) 0 (some q6)) 1 (some q7)) 2 (some q8))))))), (q3, .inl (zca G, 0, .inr (.inr (.inr (.inr (fun _ => none)))))), (q4, .inl (zca G, 0, .inr (.inr (.inr (.inr (fun _ => none)))))), (q5, .inl (zca G, 300, .inr (.inr (.inr (.inr (fun _ => none)))))), (q6, .inl (zci G, 6, .inl (fun j => zi ((zup (zup (zup (zup (zup (fun _ => 0) 1 c1) 2 c2) 3 c3) 4 c4) 5 256) j)))), (q7, .inl (zci G, 6, .inl (fun j => zi ((zup (zup (zup (zup (zup (fun _ => 0) 1 c5) 2 c6) 3 c7) 4 c8) 5 256) j)))), (q8, .inl (zci G, 6, .inl (fun j => zi ((zup (zup (zup (zup (zup (fun _ => 0) 1 c9) 2 c10) 3 c11) 4 c12) 5 1024) j))))] ++ zpic G ad zX0) := hD
  refine lv_iinc (v := zi 3) (lv' := [(3, .int (zi 3)), (7, .int (zi 5)), (6, .ref q8), (5, .int (zi 4)), (4, .int (zi 1024)), (0, .ref h0), (1, .ref (zsb G)), (2, .int (zi (dr : Int)))]) hx hb dX8_init_196 hl (k := 4) rfl (zi_add _ _) (by decide) rfl (fun ls hl => ?_)
  refine lv_goto (tgt := 61) hx hb dX8_init_199 (by decide) ?_
  refine lv_iload_n hx hb dX8_init_61 rfl (lv_at hl 0 rfl) ?_
  refine lv_iconst (v := zi 4) hx hb dX8_init_62 rfl ?_
  refine zc_ge (tgt := 202) hx hb dX8_init_63 (by decide) (by decide) (by decide) (fun h9 => absurd h9 (by decide)) (fun h63 => ?_)
  refine lv_iload_n hx hb dX8_init_66 rfl (lv_at hl 0 rfl) ?_
  refine lv_iconst (v := zi 2) hx hb dX8_init_67 rfl ?_
  refine zc_ge (tgt := 77) hx hb dX8_init_68 (by decide) (by decide) (by decide) (fun h68 => ?_) (fun h9 => absurd h9 (by decide))
  refine lv_iload_n hx hb dX8_init_77 rfl (lv_at hl 0 rfl) ?_
  refine lv_iconst (v := zi 2) hx hb dX8_init_78 rfl ?_
  refine zc_ne (tgt := 88) hx hb dX8_init_79 (by decide) (by decide) (by decide) (fun h79 => ?_) (fun h9 => absurd h9 (by decide))
  refine lv_iconst (v := zi 4) hx hb dX8_init_88 rfl ?_
  refine lv_istore (lv' := [(4, .int (zi 4)), (3, .int (zi 3)), (7, .int (zi 5)), (6, .ref q8), (5, .int (zi 4)), (0, .ref h0), (1, .ref (zsb G)), (2, .int (zi (dr : Int)))]) hx hb dX8_init_89 hl (by decide) rfl (fun ls hl => ?_)
  refine lv_iload_n hx hb dX8_init_91 rfl (lv_at hl 1 rfl) ?_
  refine lv_iconst (v := zi 3) hx hb dX8_init_92 rfl ?_
  refine zc_ge (tgt := 100) hx hb dX8_init_93 (by decide) (by decide) (by decide) (fun h93 => ?_) (fun h9 => absurd h9 (by decide))
  refine lv_iconst (v := zi 2) hx hb dX8_init_100 rfl ?_
  refine lv_istore (lv' := [(5, .int (zi 2)), (4, .int (zi 4)), (3, .int (zi 3)), (7, .int (zi 5)), (6, .ref q8), (0, .ref h0), (1, .ref (zsb G)), (2, .int (zi (dr : Int)))]) hx hb dX8_init_101 hl (by decide) rfl (fun ls hl => ?_)
  refine lv_iload hx hb dX8_init_103 (lv_at hl 0 rfl) ?_
  refine lv_iconst (v := zi 2) hx hb dX8_init_105 rfl ?_
  refine lv_iadd hx hb dX8_init_106 (zti (v := zi 4) (zi_add _ _) ?_)
  refine znewI hx hb harrI hE hP hD hS hA 4 rfl (by decide) (Nat.le_of_ble_eq_true rfl) (Nat.le_of_ble_eq_true rfl) dX8_init_107 (fun q9 H hP hD hS => ?_)
  have hP := zlay hP
  have hD := zlayD hD
  have hP : va_P G.1 vwCl ([(h0, .inr (8, [.ref q1, .ref (zsb G), .int (zi ((dr + 12 : Nat) : Int)), .ref q2, .ref q3, .int (zi 0), .ref q4, .int (zi 0), .int (zi 0), .ref q5])), (q2, .inl (zca G, 4, .inr (.inr (.inr (.inr (va_up (va_up (va_up (fun _ => none) 0 (some q6)) 1 (some q7)) 2 (some q8))))))), (q3, .inl (zca G, 0, .inr (.inr (.inr (.inr (fun _ => none)))))), (q4, .inl (zca G, 0, .inr (.inr (.inr (.inr (fun _ => none)))))), (q5, .inl (zca G, 300, .inr (.inr (.inr (.inr (fun _ => none)))))), (q6, .inl (zci G, 6, .inl (fun j => zi ((zup (zup (zup (zup (zup (fun _ => 0) 1 c1) 2 c2) 3 c3) 4 c4) 5 256) j)))), (q7, .inl (zci G, 6, .inl (fun j => zi ((zup (zup (zup (zup (zup (fun _ => 0) 1 c5) 2 c6) 3 c7) 4 c8) 5 256) j)))), (q8, .inl (zci G, 6, .inl (fun j => zi ((zup (zup (zup (zup (zup (fun _ => 0) 1 c9) 2 c10) 3 c11) 4 c12) 5 1024) j)))), (q9, .inl (zci G, 4, .inl (fun j => zi ((fun _ => 0) j))))] ++ zpic G ad zX0) H := hP
  have hD : va_D A ([(h0, .inr (8, [.ref q1, .ref (zsb G), .int (zi ((dr + 12 : Nat) : Int)), .ref q2, .ref q3, .int (zi 0), .ref q4, .int (zi 0), .int (zi 0), .ref q5])), (q2, .inl (zca G, 4, .inr (.inr (.inr (.inr (va_up (va_up (va_up (fun _ => none) 0 (some q6)) 1 (some q7)) 2 (some q8))))))), (q3, .inl (zca G, 0, .inr (.inr (.inr (.inr (fun _ => none)))))), (q4, .inl (zca G, 0, .inr (.inr (.inr (.inr (fun _ => none)))))), (q5, .inl (zca G, 300, .inr (.inr (.inr (.inr (fun _ => none)))))), (q6, .inl (zci G, 6, .inl (fun j => zi ((zup (zup (zup (zup (zup (fun _ => 0) 1 c1) 2 c2) 3 c3) 4 c4) 5 256) j)))), (q7, .inl (zci G, 6, .inl (fun j => zi ((zup (zup (zup (zup (zup (fun _ => 0) 1 c5) 2 c6) 3 c7) 4 c8) 5 256) j)))), (q8, .inl (zci G, 6, .inl (fun j => zi ((zup (zup (zup (zup (zup (fun _ => 0) 1 c9) 2 c10) 3 c11) 4 c12) 5 1024) j)))), (q9, .inl (zci G, 4, .inl (fun j => zi ((fun _ => 0) j))))] ++ zpic G ad zX0) := hD
  refine lv_astore (lv' := [(6, .ref q9), (5, .int (zi 2)), (4, .int (zi 4)), (3, .int (zi 3)), (7, .int (zi 5)), (0, .ref h0), (1, .ref (zsb G)), (2, .int (zi (dr : Int)))]) hx hb dX8_init_109 hl (by decide) rfl (fun ls hl => ?_)
  refine lv_iconst (v := zi 1) hx hb dX8_init_111 rfl ?_
  refine lv_istore (lv' := [(7, .int (zi 1)), (6, .ref q9), (5, .int (zi 2)), (4, .int (zi 4)), (3, .int (zi 3)), (0, .ref h0), (1, .ref (zsb G)), (2, .int (zi (dr : Int)))]) hx hb dX8_init_112 hl (by decide) rfl (fun ls hl => ?_)
  refine lv_iload hx hb dX8_init_114 (lv_at hl 0 rfl) ?_
  refine lv_iload hx hb dX8_init_116 (lv_at hl 2 rfl) ?_
  refine zc_gt (tgt := 179) hx hb dX8_init_118 (by decide) (by decide) (by decide) (fun h9 => absurd h9 (by decide)) (fun h118 => ?_)
  refine lv_aload hx hb dX8_init_121 (lv_at hl 1 rfl) ?_
  refine lv_iload hx hb dX8_init_123 (lv_at hl 0 rfl) ?_
  refine lv_aload hx hb dX8_init_125 (lv_at hl 1 rfl) ?_
  refine lv_iload hx hb dX8_init_127 (lv_at hl 0 rfl) ?_
  refine lv_iconst (v := zi 1) hx hb dX8_init_129 rfl ?_
  refine lv_isub hx hb dX8_init_130 (zti (v := zi 0) (zi_sub _ _) ?_)
  refine zildL hx hb hE hP 8 rfl 0 rfl (by decide) (by decide) dX8_init_131 ?_
  refine zti (v := zi 0) rfl ?_
  refine lv_iconst (v := zi 1) hx hb dX8_init_132 rfl ?_
  refine lv_iadd hx hb dX8_init_133 (zti (v := zi 1) (zi_add _ _) ?_)
  refine lv_aload_n hx hb dX8_init_134 rfl (lv_at hl 5 rfl) ?_
  refine lv_iload hx hb dX8_init_135 (lv_at hl 3 rfl) ?_
  refine lv_aload hx hb dX8_init_137 (lv_at hl 1 rfl) ?_
  refine lv_iload hx hb dX8_init_139 (lv_at hl 0 rfl) ?_
  refine lv_iconst (v := zi 1) hx hb dX8_init_141 rfl ?_
  refine lv_isub hx hb dX8_init_142 (zti (v := zi 0) (zi_sub _ _) ?_)
  refine zildL hx hb hE hP 8 rfl 0 rfl (by decide) (by decide) dX8_init_143 ?_
  refine zti (v := zi 0) rfl ?_
  refine lv_isub hx hb dX8_init_144 (zti (v := zi 4) (zi_sub _ _) ?_)
  refine lv_iconst (v := zi 1) hx hb dX8_init_145 rfl ?_
  refine lv_isub hx hb dX8_init_146 (zti (v := zi 3) (zi_sub _ _) ?_)
  refine lv_iload hx hb dX8_init_147 (lv_at hl 2 rfl) ?_
  refine lv_iload hx hb dX8_init_149 (lv_at hl 0 rfl) ?_
  refine lv_isub hx hb dX8_init_151 (zti (v := zi 1) (zi_sub _ _) ?_)
  refine lv_isub hx hb dX8_init_152 (zti (v := zi 2) (zi_sub _ _) ?_)
  refine lv_iconst (v := zi 1) hx hb dX8_init_153 rfl ?_
  refine lv_isub hx hb dX8_init_154 (zti (v := zi 1) (zi_sub _ _) ?_)
  refine lv_iload_n hx hb dX8_init_155 rfl (lv_at hl 4 rfl) ?_
  refine lv_iconst (v := zi 3) hx hb dX8_init_156 rfl ?_
  refine zc_ge (tgt := 164) hx hb dX8_init_157 (by decide) (by decide) (by decide) (fun h157 => ?_) (fun h9 => absurd h9 (by decide))
  refine lv_iconst (v := zi 1) hx hb dX8_init_164 rfl ?_
  refine lv_idiv hx hb dX8_init_165 (by decide +kernel) (zti (v := zi (1 / 1)) (zi_dvi (b := 1) (by omega) (by omega) (by decide) (by decide)) ?_)
  refine lv_iconst (v := zi 1) hx hb dX8_init_166 rfl ?_
  refine lv_iadd hx hb dX8_init_167 (zti (v := zi ((1 / 1) + 1)) (zi_add _ _) ?_)
  obtain ⟨nd13, hnd13⟩ : ∃ z : Nat, ((1 / 1) + 1 : Int) = (z : Int) := ⟨((1 / 1) + 1 : Int).toNat, by omega⟩
  refine zti (v := zi (nd13 : Int)) (congrArg zi hnd13) ?_
  refine zcall (wr := []) (wc := [(h0, .inr (8, [.ref q1, .ref (zsb G), .int (zi ((dr + 12 : Nat) : Int)), .ref q2, .ref q3, .int (zi 0), .ref q4, .int (zi 0), .int (zi 0), .ref q5])), (q2, .inl (zca G, 4, .inr (.inr (.inr (.inr (va_up (va_up (va_up (fun _ => none) 0 (some q6)) 1 (some q7)) 2 (some q8))))))), (q3, .inl (zca G, 0, .inr (.inr (.inr (.inr (fun _ => none)))))), (q4, .inl (zca G, 0, .inr (.inr (.inr (.inr (fun _ => none)))))), (q5, .inl (zca G, 300, .inr (.inr (.inr (.inr (fun _ => none)))))), (q6, .inl (zci G, 6, .inl (fun j => zi ((zup (zup (zup (zup (zup (fun _ => 0) 1 c1) 2 c2) 3 c3) 4 c4) 5 256) j)))), (q7, .inl (zci G, 6, .inl (fun j => zi ((zup (zup (zup (zup (zup (fun _ => 0) 1 c5) 2 c6) 3 c7) 4 c8) 5 256) j)))), (q8, .inl (zci G, 6, .inl (fun j => zi ((zup (zup (zup (zup (zup (fun _ => 0) 1 c9) 2 c10) 3 c11) 4 c12) 5 1024) j)))), (q9, .inl (zci G, 4, .inl (fun j => zi ((fun _ => 0) j))))] ++ zpic G ad zX0) (va_runV (As := [.int (zi (nd13 : Int))]) (rest := [.int (zi 1), .int (zi 1), .ref q9]) ⟨hx, hb, hml, hown, hts⟩ (k_X8_draw l G ([(h0, .inr (8, [.ref q1, .ref (zsb G), .int (zi ((dr + 12 : Nat) : Int)), .ref q2, .ref q3, .int (zi 0), .ref q4, .int (zi 0), .int (zi 0), .ref q5])), (q2, .inl (zca G, 4, .inr (.inr (.inr (.inr (va_up (va_up (va_up (fun _ => none) 0 (some q6)) 1 (some q7)) 2 (some q8))))))), (q3, .inl (zca G, 0, .inr (.inr (.inr (.inr (fun _ => none)))))), (q4, .inl (zca G, 0, .inr (.inr (.inr (.inr (fun _ => none)))))), (q5, .inl (zca G, 300, .inr (.inr (.inr (.inr (fun _ => none)))))), (q6, .inl (zci G, 6, .inl (fun j => zi ((zup (zup (zup (zup (zup (fun _ => 0) 1 c1) 2 c2) 3 c3) 4 c4) 5 256) j)))), (q7, .inl (zci G, 6, .inl (fun j => zi ((zup (zup (zup (zup (zup (fun _ => 0) 1 c5) 2 c6) 3 c7) 4 c8) 5 256) j)))), (q8, .inl (zci G, 6, .inl (fun j => zi ((zup (zup (zup (zup (zup (fun _ => 0) 1 c9) 2 c10) 3 c11) 4 c12) 5 1024) j)))), (q9, .inl (zci G, 4, .inl (fun j => zi ((fun _ => 0) j))))] ++ zpic G ad zX0) 0 h0 (.ref q1) ((dr + 12 : Nat)) (.ref q2) (.ref q3) (.int (zi 0)) (.ref q4) (.int (zi 0)) (.int (zi 0)) (.ref q5) nd13 rfl hsl (by omega) (by omega) H.size) (cwV 1 hts gX8_init_X8_draw rfl rfl rfl (by decide +kernel) ⟨Nat.le_of_ble_eq_true rfl, Nat.le_of_ble_eq_true rfl⟩) (zPreV (As := [.int (zi (nd13 : Int))]) (wr := []) (wc := [(h0, .inr (8, [.ref q1, .ref (zsb G), .int (zi ((dr + 12 : Nat) : Int)), .ref q2, .ref q3, .int (zi 0), .ref q4, .int (zi 0), .int (zi 0), .ref q5])), (q2, .inl (zca G, 4, .inr (.inr (.inr (.inr (va_up (va_up (va_up (fun _ => none) 0 (some q6)) 1 (some q7)) 2 (some q8))))))), (q3, .inl (zca G, 0, .inr (.inr (.inr (.inr (fun _ => none)))))), (q4, .inl (zca G, 0, .inr (.inr (.inr (.inr (fun _ => none)))))), (q5, .inl (zca G, 300, .inr (.inr (.inr (.inr (fun _ => none)))))), (q6, .inl (zci G, 6, .inl (fun j => zi ((zup (zup (zup (zup (zup (fun _ => 0) 1 c1) 2 c2) 3 c3) 4 c4) 5 256) j)))), (q7, .inl (zci G, 6, .inl (fun j => zi ((zup (zup (zup (zup (zup (fun _ => 0) 1 c5) 2 c6) 3 c7) 4 c8) 5 256) j)))), (q8, .inl (zci G, 6, .inl (fun j => zi ((zup (zup (zup (zup (zup (fun _ => 0) 1 c9) 2 c10) 3 c11) 4 c12) 5 1024) j)))), (q9, .inl (zci G, 4, .inl (fun j => zi ((fun _ => 0) j))))] ++ zpic G ad zX0) (q0 := 0) (ci := 8) (q := (RX8, TX8, 10)) hP hD hE hS hA rfl rfl) rfl rfl hl.1 rfl (lv_room (Nat.le_of_ble_eq_true rfl)) dX8_init_168 ⟨Nat.le_of_ble_eq_true rfl, Nat.le_of_ble_eq_true rfl⟩) hP hD hS hA (fun _ _ H locs hf hP hD hS => ?_)
  obtain ⟨v13, rfl, hv13, hw9⟩ := hf
  rw [hw9] at hP hD
  have hP : va_P G.1 vwCl ([(h0, .inr (8, [.ref q1, .ref (zsb G), .int (zi ((dr + 13 : Nat) : Int)), .ref q2, .ref q3, .int (zi 0), .ref q4, .int (zi 0), .int (zi 0), .ref q5])), (q2, .inl (zca G, 4, .inr (.inr (.inr (.inr (va_up (va_up (va_up (fun _ => none) 0 (some q6)) 1 (some q7)) 2 (some q8))))))), (q3, .inl (zca G, 0, .inr (.inr (.inr (.inr (fun _ => none)))))), (q4, .inl (zca G, 0, .inr (.inr (.inr (.inr (fun _ => none)))))), (q5, .inl (zca G, 300, .inr (.inr (.inr (.inr (fun _ => none)))))), (q6, .inl (zci G, 6, .inl (fun j => zi ((zup (zup (zup (zup (zup (fun _ => 0) 1 c1) 2 c2) 3 c3) 4 c4) 5 256) j)))), (q7, .inl (zci G, 6, .inl (fun j => zi ((zup (zup (zup (zup (zup (fun _ => 0) 1 c5) 2 c6) 3 c7) 4 c8) 5 256) j)))), (q8, .inl (zci G, 6, .inl (fun j => zi ((zup (zup (zup (zup (zup (fun _ => 0) 1 c9) 2 c10) 3 c11) 4 c12) 5 1024) j)))), (q9, .inl (zci G, 4, .inl (fun j => zi ((fun _ => 0) j))))] ++ zpic G ad zX0) H := hP
  have hD : va_D A ([(h0, .inr (8, [.ref q1, .ref (zsb G), .int (zi ((dr + 13 : Nat) : Int)), .ref q2, .ref q3, .int (zi 0), .ref q4, .int (zi 0), .int (zi 0), .ref q5])), (q2, .inl (zca G, 4, .inr (.inr (.inr (.inr (va_up (va_up (va_up (fun _ => none) 0 (some q6)) 1 (some q7)) 2 (some q8))))))), (q3, .inl (zca G, 0, .inr (.inr (.inr (.inr (fun _ => none)))))), (q4, .inl (zca G, 0, .inr (.inr (.inr (.inr (fun _ => none)))))), (q5, .inl (zca G, 300, .inr (.inr (.inr (.inr (fun _ => none)))))), (q6, .inl (zci G, 6, .inl (fun j => zi ((zup (zup (zup (zup (zup (fun _ => 0) 1 c1) 2 c2) 3 c3) 4 c4) 5 256) j)))), (q7, .inl (zci G, 6, .inl (fun j => zi ((zup (zup (zup (zup (zup (fun _ => 0) 1 c5) 2 c6) 3 c7) 4 c8) 5 256) j)))), (q8, .inl (zci G, 6, .inl (fun j => zi ((zup (zup (zup (zup (zup (fun _ => 0) 1 c9) 2 c10) 3 c11) 4 c12) 5 1024) j)))), (q9, .inl (zci G, 4, .inl (fun j => zi ((fun _ => 0) j))))] ++ zpic G ad zX0) := hD
  refine W.eq (g2 := F0 m 171 ls [.int (zi v13), .int (zi 1), .int (zi 1), .ref q9]) rfl ?_
  refine lv_iadd hx hb dX8_init_171 (zti (v := zi (1 + v13)) (zi_add _ _) ?_)
  obtain ⟨c13, hc13⟩ : ∃ z : Int, z = 1 + v13 := ⟨_, rfl⟩
  refine zti (v := zi c13) (congrArg zi hc13.symm) ?_
  have hc13b : 0 + 1 ≤ c13 ∧ c13 ≤ 2 := by omega
  refine zistL hx hb hE hP hD hS 8 rfl 1 rfl (by decide) (by decide) dX8_init_172 (fun H locs hP hD hS => ?_)
  have hP : va_P G.1 vwCl ([(h0, .inr (8, [.ref q1, .ref (zsb G), .int (zi ((dr + 13 : Nat) : Int)), .ref q2, .ref q3, .int (zi 0), .ref q4, .int (zi 0), .int (zi 0), .ref q5])), (q2, .inl (zca G, 4, .inr (.inr (.inr (.inr (va_up (va_up (va_up (fun _ => none) 0 (some q6)) 1 (some q7)) 2 (some q8))))))), (q3, .inl (zca G, 0, .inr (.inr (.inr (.inr (fun _ => none)))))), (q4, .inl (zca G, 0, .inr (.inr (.inr (.inr (fun _ => none)))))), (q5, .inl (zca G, 300, .inr (.inr (.inr (.inr (fun _ => none)))))), (q6, .inl (zci G, 6, .inl (fun j => zi ((zup (zup (zup (zup (zup (fun _ => 0) 1 c1) 2 c2) 3 c3) 4 c4) 5 256) j)))), (q7, .inl (zci G, 6, .inl (fun j => zi ((zup (zup (zup (zup (zup (fun _ => 0) 1 c5) 2 c6) 3 c7) 4 c8) 5 256) j)))), (q8, .inl (zci G, 6, .inl (fun j => zi ((zup (zup (zup (zup (zup (fun _ => 0) 1 c9) 2 c10) 3 c11) 4 c12) 5 1024) j)))), (q9, .inl (zci G, 4, .inl (fun j => zi ((zup (fun _ => 0) 1 c13) j))))] ++ zpic G ad zX0) H := hP
  have hD : va_D A ([(h0, .inr (8, [.ref q1, .ref (zsb G), .int (zi ((dr + 13 : Nat) : Int)), .ref q2, .ref q3, .int (zi 0), .ref q4, .int (zi 0), .int (zi 0), .ref q5])), (q2, .inl (zca G, 4, .inr (.inr (.inr (.inr (va_up (va_up (va_up (fun _ => none) 0 (some q6)) 1 (some q7)) 2 (some q8))))))), (q3, .inl (zca G, 0, .inr (.inr (.inr (.inr (fun _ => none)))))), (q4, .inl (zca G, 0, .inr (.inr (.inr (.inr (fun _ => none)))))), (q5, .inl (zca G, 300, .inr (.inr (.inr (.inr (fun _ => none)))))), (q6, .inl (zci G, 6, .inl (fun j => zi ((zup (zup (zup (zup (zup (fun _ => 0) 1 c1) 2 c2) 3 c3) 4 c4) 5 256) j)))), (q7, .inl (zci G, 6, .inl (fun j => zi ((zup (zup (zup (zup (zup (fun _ => 0) 1 c5) 2 c6) 3 c7) 4 c8) 5 256) j)))), (q8, .inl (zci G, 6, .inl (fun j => zi ((zup (zup (zup (zup (zup (fun _ => 0) 1 c9) 2 c10) 3 c11) 4 c12) 5 1024) j)))), (q9, .inl (zci G, 4, .inl (fun j => zi ((zup (fun _ => 0) 1 c13) j))))] ++ zpic G ad zX0) := hD
  refine lv_iinc (v := zi 2) (lv' := [(7, .int (zi 2)), (6, .ref q9), (5, .int (zi 2)), (4, .int (zi 4)), (3, .int (zi 3)), (0, .ref h0), (1, .ref (zsb G)), (2, .int (zi (dr : Int)))]) hx hb dX8_init_173 hl (k := 0) rfl (zi_add _ _) (by decide) rfl (fun ls hl => ?_)
  refine lv_goto (tgt := 114) hx hb dX8_init_176 (by decide) ?_
  refine lv_iload hx hb dX8_init_114 (lv_at hl 0 rfl) ?_
  refine lv_iload hx hb dX8_init_116 (lv_at hl 2 rfl) ?_
  refine zc_gt (tgt := 179) hx hb dX8_init_118 (by decide) (by decide) (by decide) (fun h9 => absurd h9 (by decide)) (fun h118 => ?_)
  refine lv_aload hx hb dX8_init_121 (lv_at hl 1 rfl) ?_
  refine lv_iload hx hb dX8_init_123 (lv_at hl 0 rfl) ?_
  refine lv_aload hx hb dX8_init_125 (lv_at hl 1 rfl) ?_
  refine lv_iload hx hb dX8_init_127 (lv_at hl 0 rfl) ?_
  refine lv_iconst (v := zi 1) hx hb dX8_init_129 rfl ?_
  refine lv_isub hx hb dX8_init_130 (zti (v := zi 1) (zi_sub _ _) ?_)
  refine zildL hx hb hE hP 8 rfl 1 rfl (by decide) (by decide) dX8_init_131 ?_
  refine zti (v := zi c13) rfl ?_
  refine lv_iconst (v := zi 1) hx hb dX8_init_132 rfl ?_
  refine lv_iadd hx hb dX8_init_133 (zti (v := zi (c13 + 1)) (zi_add _ _) ?_)
  refine lv_aload_n hx hb dX8_init_134 rfl (lv_at hl 5 rfl) ?_
  refine lv_iload hx hb dX8_init_135 (lv_at hl 3 rfl) ?_
  refine lv_aload hx hb dX8_init_137 (lv_at hl 1 rfl) ?_
  refine lv_iload hx hb dX8_init_139 (lv_at hl 0 rfl) ?_
  refine lv_iconst (v := zi 1) hx hb dX8_init_141 rfl ?_
  refine lv_isub hx hb dX8_init_142 (zti (v := zi 1) (zi_sub _ _) ?_)
  refine zildL hx hb hE hP 8 rfl 1 rfl (by decide) (by decide) dX8_init_143 ?_
  refine zti (v := zi c13) rfl ?_
  refine lv_isub hx hb dX8_init_144 (zti (v := zi (4 - c13)) (zi_sub _ _) ?_)
  refine lv_iconst (v := zi 1) hx hb dX8_init_145 rfl ?_
  refine lv_isub hx hb dX8_init_146 (zti (v := zi ((4 - c13) - 1)) (zi_sub _ _) ?_)
  refine lv_iload hx hb dX8_init_147 (lv_at hl 2 rfl) ?_
  refine lv_iload hx hb dX8_init_149 (lv_at hl 0 rfl) ?_
  refine lv_isub hx hb dX8_init_151 (zti (v := zi 0) (zi_sub _ _) ?_)
  refine lv_isub hx hb dX8_init_152 (zti (v := zi (((4 - c13) - 1) - 0)) (zi_sub _ _) ?_)
  refine lv_iconst (v := zi 1) hx hb dX8_init_153 rfl ?_
  refine lv_isub hx hb dX8_init_154 (zti (v := zi ((((4 - c13) - 1) - 0) - 1)) (zi_sub _ _) ?_)
  refine lv_iload_n hx hb dX8_init_155 rfl (lv_at hl 4 rfl) ?_
  refine lv_iconst (v := zi 3) hx hb dX8_init_156 rfl ?_
  refine zc_ge (tgt := 164) hx hb dX8_init_157 (by decide) (by decide) (by decide) (fun h157 => ?_) (fun h9 => absurd h9 (by decide))
  refine lv_iconst (v := zi 1) hx hb dX8_init_164 rfl ?_
  refine lv_idiv hx hb dX8_init_165 (by decide +kernel) (zti (v := zi (((((4 - c13) - 1) - 0) - 1) / 1)) (zi_dvi (b := 1) (by omega) (by omega) (by decide) (by decide)) ?_)
  refine lv_iconst (v := zi 1) hx hb dX8_init_166 rfl ?_
  refine lv_iadd hx hb dX8_init_167 (zti (v := zi ((((((4 - c13) - 1) - 0) - 1) / 1) + 1)) (zi_add _ _) ?_)
  obtain ⟨nd14, hnd14⟩ : ∃ z : Nat, ((((((4 - c13) - 1) - 0) - 1) / 1) + 1 : Int) = (z : Int) := ⟨((((((4 - c13) - 1) - 0) - 1) / 1) + 1 : Int).toNat, by omega⟩
  refine zti (v := zi (nd14 : Int)) (congrArg zi hnd14) ?_
  refine zcall (wr := []) (wc := [(h0, .inr (8, [.ref q1, .ref (zsb G), .int (zi ((dr + 13 : Nat) : Int)), .ref q2, .ref q3, .int (zi 0), .ref q4, .int (zi 0), .int (zi 0), .ref q5])), (q2, .inl (zca G, 4, .inr (.inr (.inr (.inr (va_up (va_up (va_up (fun _ => none) 0 (some q6)) 1 (some q7)) 2 (some q8))))))), (q3, .inl (zca G, 0, .inr (.inr (.inr (.inr (fun _ => none)))))), (q4, .inl (zca G, 0, .inr (.inr (.inr (.inr (fun _ => none)))))), (q5, .inl (zca G, 300, .inr (.inr (.inr (.inr (fun _ => none)))))), (q6, .inl (zci G, 6, .inl (fun j => zi ((zup (zup (zup (zup (zup (fun _ => 0) 1 c1) 2 c2) 3 c3) 4 c4) 5 256) j)))), (q7, .inl (zci G, 6, .inl (fun j => zi ((zup (zup (zup (zup (zup (fun _ => 0) 1 c5) 2 c6) 3 c7) 4 c8) 5 256) j)))), (q8, .inl (zci G, 6, .inl (fun j => zi ((zup (zup (zup (zup (zup (fun _ => 0) 1 c9) 2 c10) 3 c11) 4 c12) 5 1024) j)))), (q9, .inl (zci G, 4, .inl (fun j => zi ((zup (fun _ => 0) 1 c13) j))))] ++ zpic G ad zX0) (va_runV (As := [.int (zi (nd14 : Int))]) (rest := [.int (zi (c13 + 1)), .int (zi 2), .ref q9]) ⟨hx, hb, hml, hown, hts⟩ (k_X8_draw l G ([(h0, .inr (8, [.ref q1, .ref (zsb G), .int (zi ((dr + 13 : Nat) : Int)), .ref q2, .ref q3, .int (zi 0), .ref q4, .int (zi 0), .int (zi 0), .ref q5])), (q2, .inl (zca G, 4, .inr (.inr (.inr (.inr (va_up (va_up (va_up (fun _ => none) 0 (some q6)) 1 (some q7)) 2 (some q8))))))), (q3, .inl (zca G, 0, .inr (.inr (.inr (.inr (fun _ => none)))))), (q4, .inl (zca G, 0, .inr (.inr (.inr (.inr (fun _ => none)))))), (q5, .inl (zca G, 300, .inr (.inr (.inr (.inr (fun _ => none)))))), (q6, .inl (zci G, 6, .inl (fun j => zi ((zup (zup (zup (zup (zup (fun _ => 0) 1 c1) 2 c2) 3 c3) 4 c4) 5 256) j)))), (q7, .inl (zci G, 6, .inl (fun j => zi ((zup (zup (zup (zup (zup (fun _ => 0) 1 c5) 2 c6) 3 c7) 4 c8) 5 256) j)))), (q8, .inl (zci G, 6, .inl (fun j => zi ((zup (zup (zup (zup (zup (fun _ => 0) 1 c9) 2 c10) 3 c11) 4 c12) 5 1024) j)))), (q9, .inl (zci G, 4, .inl (fun j => zi ((zup (fun _ => 0) 1 c13) j))))] ++ zpic G ad zX0) 0 h0 (.ref q1) ((dr + 13 : Nat)) (.ref q2) (.ref q3) (.int (zi 0)) (.ref q4) (.int (zi 0)) (.int (zi 0)) (.ref q5) nd14 rfl hsl (by omega) (by omega) H.size) (cwV 1 hts gX8_init_X8_draw rfl rfl rfl (by decide +kernel) ⟨Nat.le_of_ble_eq_true rfl, Nat.le_of_ble_eq_true rfl⟩) (zPreV (As := [.int (zi (nd14 : Int))]) (wr := []) (wc := [(h0, .inr (8, [.ref q1, .ref (zsb G), .int (zi ((dr + 13 : Nat) : Int)), .ref q2, .ref q3, .int (zi 0), .ref q4, .int (zi 0), .int (zi 0), .ref q5])), (q2, .inl (zca G, 4, .inr (.inr (.inr (.inr (va_up (va_up (va_up (fun _ => none) 0 (some q6)) 1 (some q7)) 2 (some q8))))))), (q3, .inl (zca G, 0, .inr (.inr (.inr (.inr (fun _ => none)))))), (q4, .inl (zca G, 0, .inr (.inr (.inr (.inr (fun _ => none)))))), (q5, .inl (zca G, 300, .inr (.inr (.inr (.inr (fun _ => none)))))), (q6, .inl (zci G, 6, .inl (fun j => zi ((zup (zup (zup (zup (zup (fun _ => 0) 1 c1) 2 c2) 3 c3) 4 c4) 5 256) j)))), (q7, .inl (zci G, 6, .inl (fun j => zi ((zup (zup (zup (zup (zup (fun _ => 0) 1 c5) 2 c6) 3 c7) 4 c8) 5 256) j)))), (q8, .inl (zci G, 6, .inl (fun j => zi ((zup (zup (zup (zup (zup (fun _ => 0) 1 c9) 2 c10) 3 c11) 4 c12) 5 1024) j)))), (q9, .inl (zci G, 4, .inl (fun j => zi ((zup (fun _ => 0) 1 c13) j))))] ++ zpic G ad zX0) (q0 := 0) (ci := 8) (q := (RX8, TX8, 10)) hP hD hE hS hA rfl rfl) rfl rfl hl.1 rfl (lv_room (Nat.le_of_ble_eq_true rfl)) dX8_init_168 ⟨Nat.le_of_ble_eq_true rfl, Nat.le_of_ble_eq_true rfl⟩) hP hD hS hA (fun _ _ H locs hf hP hD hS => ?_)
  obtain ⟨v14, rfl, hv14, hw9⟩ := hf
  rw [hw9] at hP hD
  have hP : va_P G.1 vwCl ([(h0, .inr (8, [.ref q1, .ref (zsb G), .int (zi ((dr + 14 : Nat) : Int)), .ref q2, .ref q3, .int (zi 0), .ref q4, .int (zi 0), .int (zi 0), .ref q5])), (q2, .inl (zca G, 4, .inr (.inr (.inr (.inr (va_up (va_up (va_up (fun _ => none) 0 (some q6)) 1 (some q7)) 2 (some q8))))))), (q3, .inl (zca G, 0, .inr (.inr (.inr (.inr (fun _ => none)))))), (q4, .inl (zca G, 0, .inr (.inr (.inr (.inr (fun _ => none)))))), (q5, .inl (zca G, 300, .inr (.inr (.inr (.inr (fun _ => none)))))), (q6, .inl (zci G, 6, .inl (fun j => zi ((zup (zup (zup (zup (zup (fun _ => 0) 1 c1) 2 c2) 3 c3) 4 c4) 5 256) j)))), (q7, .inl (zci G, 6, .inl (fun j => zi ((zup (zup (zup (zup (zup (fun _ => 0) 1 c5) 2 c6) 3 c7) 4 c8) 5 256) j)))), (q8, .inl (zci G, 6, .inl (fun j => zi ((zup (zup (zup (zup (zup (fun _ => 0) 1 c9) 2 c10) 3 c11) 4 c12) 5 1024) j)))), (q9, .inl (zci G, 4, .inl (fun j => zi ((zup (fun _ => 0) 1 c13) j))))] ++ zpic G ad zX0) H := hP
  have hD : va_D A ([(h0, .inr (8, [.ref q1, .ref (zsb G), .int (zi ((dr + 14 : Nat) : Int)), .ref q2, .ref q3, .int (zi 0), .ref q4, .int (zi 0), .int (zi 0), .ref q5])), (q2, .inl (zca G, 4, .inr (.inr (.inr (.inr (va_up (va_up (va_up (fun _ => none) 0 (some q6)) 1 (some q7)) 2 (some q8))))))), (q3, .inl (zca G, 0, .inr (.inr (.inr (.inr (fun _ => none)))))), (q4, .inl (zca G, 0, .inr (.inr (.inr (.inr (fun _ => none)))))), (q5, .inl (zca G, 300, .inr (.inr (.inr (.inr (fun _ => none)))))), (q6, .inl (zci G, 6, .inl (fun j => zi ((zup (zup (zup (zup (zup (fun _ => 0) 1 c1) 2 c2) 3 c3) 4 c4) 5 256) j)))), (q7, .inl (zci G, 6, .inl (fun j => zi ((zup (zup (zup (zup (zup (fun _ => 0) 1 c5) 2 c6) 3 c7) 4 c8) 5 256) j)))), (q8, .inl (zci G, 6, .inl (fun j => zi ((zup (zup (zup (zup (zup (fun _ => 0) 1 c9) 2 c10) 3 c11) 4 c12) 5 1024) j)))), (q9, .inl (zci G, 4, .inl (fun j => zi ((zup (fun _ => 0) 1 c13) j))))] ++ zpic G ad zX0) := hD
  refine W.eq (g2 := F0 m 171 ls [.int (zi v14), .int (zi (c13 + 1)), .int (zi 2), .ref q9]) rfl ?_
  refine lv_iadd hx hb dX8_init_171 (zti (v := zi ((c13 + 1) + v14)) (zi_add _ _) ?_)
  obtain ⟨c14, hc14⟩ : ∃ z : Int, z = (c13 + 1) + v14 := ⟨_, rfl⟩
  refine zti (v := zi c14) (congrArg zi hc14.symm) ?_
  have hc14b : c13 + 1 ≤ c14 ∧ c14 ≤ 3 := by omega
  refine zistL hx hb hE hP hD hS 8 rfl 2 rfl (by decide) (by decide) dX8_init_172 (fun H locs hP hD hS => ?_)
  have hP : va_P G.1 vwCl ([(h0, .inr (8, [.ref q1, .ref (zsb G), .int (zi ((dr + 14 : Nat) : Int)), .ref q2, .ref q3, .int (zi 0), .ref q4, .int (zi 0), .int (zi 0), .ref q5])), (q2, .inl (zca G, 4, .inr (.inr (.inr (.inr (va_up (va_up (va_up (fun _ => none) 0 (some q6)) 1 (some q7)) 2 (some q8))))))), (q3, .inl (zca G, 0, .inr (.inr (.inr (.inr (fun _ => none)))))), (q4, .inl (zca G, 0, .inr (.inr (.inr (.inr (fun _ => none)))))), (q5, .inl (zca G, 300, .inr (.inr (.inr (.inr (fun _ => none)))))), (q6, .inl (zci G, 6, .inl (fun j => zi ((zup (zup (zup (zup (zup (fun _ => 0) 1 c1) 2 c2) 3 c3) 4 c4) 5 256) j)))), (q7, .inl (zci G, 6, .inl (fun j => zi ((zup (zup (zup (zup (zup (fun _ => 0) 1 c5) 2 c6) 3 c7) 4 c8) 5 256) j)))), (q8, .inl (zci G, 6, .inl (fun j => zi ((zup (zup (zup (zup (zup (fun _ => 0) 1 c9) 2 c10) 3 c11) 4 c12) 5 1024) j)))), (q9, .inl (zci G, 4, .inl (fun j => zi ((zup (zup (fun _ => 0) 1 c13) 2 c14) j))))] ++ zpic G ad zX0) H := hP
  have hD : va_D A ([(h0, .inr (8, [.ref q1, .ref (zsb G), .int (zi ((dr + 14 : Nat) : Int)), .ref q2, .ref q3, .int (zi 0), .ref q4, .int (zi 0), .int (zi 0), .ref q5])), (q2, .inl (zca G, 4, .inr (.inr (.inr (.inr (va_up (va_up (va_up (fun _ => none) 0 (some q6)) 1 (some q7)) 2 (some q8))))))), (q3, .inl (zca G, 0, .inr (.inr (.inr (.inr (fun _ => none)))))), (q4, .inl (zca G, 0, .inr (.inr (.inr (.inr (fun _ => none)))))), (q5, .inl (zca G, 300, .inr (.inr (.inr (.inr (fun _ => none)))))), (q6, .inl (zci G, 6, .inl (fun j => zi ((zup (zup (zup (zup (zup (fun _ => 0) 1 c1) 2 c2) 3 c3) 4 c4) 5 256) j)))), (q7, .inl (zci G, 6, .inl (fun j => zi ((zup (zup (zup (zup (zup (fun _ => 0) 1 c5) 2 c6) 3 c7) 4 c8) 5 256) j)))), (q8, .inl (zci G, 6, .inl (fun j => zi ((zup (zup (zup (zup (zup (fun _ => 0) 1 c9) 2 c10) 3 c11) 4 c12) 5 1024) j)))), (q9, .inl (zci G, 4, .inl (fun j => zi ((zup (zup (fun _ => 0) 1 c13) 2 c14) j))))] ++ zpic G ad zX0) := hD
  refine lv_iinc (v := zi 3) (lv' := [(7, .int (zi 3)), (6, .ref q9), (5, .int (zi 2)), (4, .int (zi 4)), (3, .int (zi 3)), (0, .ref h0), (1, .ref (zsb G)), (2, .int (zi (dr : Int)))]) hx hb dX8_init_173 hl (k := 0) rfl (zi_add _ _) (by decide) rfl (fun ls hl => ?_)
  refine lv_goto (tgt := 114) hx hb dX8_init_176 (by decide) ?_
  refine lv_iload hx hb dX8_init_114 (lv_at hl 0 rfl) ?_
  refine lv_iload hx hb dX8_init_116 (lv_at hl 2 rfl) ?_
  refine zc_gt (tgt := 179) hx hb dX8_init_118 (by decide) (by decide) (by decide) (fun h118 => ?_) (fun h9 => absurd h9 (by decide))
  refine lv_aload hx hb dX8_init_179 (lv_at hl 1 rfl) ?_
  refine lv_iload hx hb dX8_init_181 (lv_at hl 2 rfl) ?_
  refine lv_iconst (v := zi 1) hx hb dX8_init_183 rfl ?_
  refine lv_iadd hx hb dX8_init_184 (zti (v := zi 3) (zi_add _ _) ?_)
  refine lv_iload hx hb dX8_init_185 (lv_at hl 3 rfl) ?_
  refine zistL hx hb hE hP hD hS 8 rfl 3 rfl (by decide) (by decide) dX8_init_187 (fun H locs hP hD hS => ?_)
  have hP : va_P G.1 vwCl ([(h0, .inr (8, [.ref q1, .ref (zsb G), .int (zi ((dr + 14 : Nat) : Int)), .ref q2, .ref q3, .int (zi 0), .ref q4, .int (zi 0), .int (zi 0), .ref q5])), (q2, .inl (zca G, 4, .inr (.inr (.inr (.inr (va_up (va_up (va_up (fun _ => none) 0 (some q6)) 1 (some q7)) 2 (some q8))))))), (q3, .inl (zca G, 0, .inr (.inr (.inr (.inr (fun _ => none)))))), (q4, .inl (zca G, 0, .inr (.inr (.inr (.inr (fun _ => none)))))), (q5, .inl (zca G, 300, .inr (.inr (.inr (.inr (fun _ => none)))))), (q6, .inl (zci G, 6, .inl (fun j => zi ((zup (zup (zup (zup (zup (fun _ => 0) 1 c1) 2 c2) 3 c3) 4 c4) 5 256) j)))), (q7, .inl (zci G, 6, .inl (fun j => zi ((zup (zup (zup (zup (zup (fun _ => 0) 1 c5) 2 c6) 3 c7) 4 c8) 5 256) j)))), (q8, .inl (zci G, 6, .inl (fun j => zi ((zup (zup (zup (zup (zup (fun _ => 0) 1 c9) 2 c10) 3 c11) 4 c12) 5 1024) j)))), (q9, .inl (zci G, 4, .inl (fun j => zi ((zup (zup (zup (fun _ => 0) 1 c13) 2 c14) 3 4) j))))] ++ zpic G ad zX0) H := hP
  have hD : va_D A ([(h0, .inr (8, [.ref q1, .ref (zsb G), .int (zi ((dr + 14 : Nat) : Int)), .ref q2, .ref q3, .int (zi 0), .ref q4, .int (zi 0), .int (zi 0), .ref q5])), (q2, .inl (zca G, 4, .inr (.inr (.inr (.inr (va_up (va_up (va_up (fun _ => none) 0 (some q6)) 1 (some q7)) 2 (some q8))))))), (q3, .inl (zca G, 0, .inr (.inr (.inr (.inr (fun _ => none)))))), (q4, .inl (zca G, 0, .inr (.inr (.inr (.inr (fun _ => none)))))), (q5, .inl (zca G, 300, .inr (.inr (.inr (.inr (fun _ => none)))))), (q6, .inl (zci G, 6, .inl (fun j => zi ((zup (zup (zup (zup (zup (fun _ => 0) 1 c1) 2 c2) 3 c3) 4 c4) 5 256) j)))), (q7, .inl (zci G, 6, .inl (fun j => zi ((zup (zup (zup (zup (zup (fun _ => 0) 1 c5) 2 c6) 3 c7) 4 c8) 5 256) j)))), (q8, .inl (zci G, 6, .inl (fun j => zi ((zup (zup (zup (zup (zup (fun _ => 0) 1 c9) 2 c10) 3 c11) 4 c12) 5 1024) j)))), (q9, .inl (zci G, 4, .inl (fun j => zi ((zup (zup (zup (fun _ => 0) 1 c13) 2 c14) 3 4) j))))] ++ zpic G ad zX0) := hD
  refine lv_aload_n hx hb dX8_init_188 rfl (lv_at hl 5 rfl) ?_
  refine va_get (D := G.1) (ci := 8) (v := .ref q2) (C := RX8) (T := TX8) (N := 10) hx hb hts hw8 hown hE.1 hP 0 rfl rfl 3 (by decide) hf18 (fun _ h9 => h9) rfl dX8_init_189 ?_
  refine lv_iload_n hx hb dX8_init_192 rfl (lv_at hl 4 rfl) ?_
  refine lv_aload hx hb dX8_init_193 (lv_at hl 1 rfl) ?_
  refine zastA hx hb hE hP hD hS 1 8 rfl rfl 3 rfl (by decide) (by decide) dX8_init_195 (fun H locs hP hD hS => ?_)
  have hP : va_P G.1 vwCl ([(h0, .inr (8, [.ref q1, .ref (zsb G), .int (zi ((dr + 14 : Nat) : Int)), .ref q2, .ref q3, .int (zi 0), .ref q4, .int (zi 0), .int (zi 0), .ref q5])), (q2, .inl (zca G, 4, .inr (.inr (.inr (.inr (va_up (va_up (va_up (va_up (fun _ => none) 0 (some q6)) 1 (some q7)) 2 (some q8)) 3 (some q9))))))), (q3, .inl (zca G, 0, .inr (.inr (.inr (.inr (fun _ => none)))))), (q4, .inl (zca G, 0, .inr (.inr (.inr (.inr (fun _ => none)))))), (q5, .inl (zca G, 300, .inr (.inr (.inr (.inr (fun _ => none)))))), (q6, .inl (zci G, 6, .inl (fun j => zi ((zup (zup (zup (zup (zup (fun _ => 0) 1 c1) 2 c2) 3 c3) 4 c4) 5 256) j)))), (q7, .inl (zci G, 6, .inl (fun j => zi ((zup (zup (zup (zup (zup (fun _ => 0) 1 c5) 2 c6) 3 c7) 4 c8) 5 256) j)))), (q8, .inl (zci G, 6, .inl (fun j => zi ((zup (zup (zup (zup (zup (fun _ => 0) 1 c9) 2 c10) 3 c11) 4 c12) 5 1024) j)))), (q9, .inl (zci G, 4, .inl (fun j => zi ((zup (zup (zup (fun _ => 0) 1 c13) 2 c14) 3 4) j))))] ++ zpic G ad zX0) H := hP
  have hD : va_D A ([(h0, .inr (8, [.ref q1, .ref (zsb G), .int (zi ((dr + 14 : Nat) : Int)), .ref q2, .ref q3, .int (zi 0), .ref q4, .int (zi 0), .int (zi 0), .ref q5])), (q2, .inl (zca G, 4, .inr (.inr (.inr (.inr (va_up (va_up (va_up (va_up (fun _ => none) 0 (some q6)) 1 (some q7)) 2 (some q8)) 3 (some q9))))))), (q3, .inl (zca G, 0, .inr (.inr (.inr (.inr (fun _ => none)))))), (q4, .inl (zca G, 0, .inr (.inr (.inr (.inr (fun _ => none)))))), (q5, .inl (zca G, 300, .inr (.inr (.inr (.inr (fun _ => none)))))), (q6, .inl (zci G, 6, .inl (fun j => zi ((zup (zup (zup (zup (zup (fun _ => 0) 1 c1) 2 c2) 3 c3) 4 c4) 5 256) j)))), (q7, .inl (zci G, 6, .inl (fun j => zi ((zup (zup (zup (zup (zup (fun _ => 0) 1 c5) 2 c6) 3 c7) 4 c8) 5 256) j)))), (q8, .inl (zci G, 6, .inl (fun j => zi ((zup (zup (zup (zup (zup (fun _ => 0) 1 c9) 2 c10) 3 c11) 4 c12) 5 1024) j)))), (q9, .inl (zci G, 4, .inl (fun j => zi ((zup (zup (zup (fun _ => 0) 1 c13) 2 c14) 3 4) j))))] ++ zpic G ad zX0) := hD
  refine lv_iinc (v := zi 4) (lv' := [(3, .int (zi 4)), (7, .int (zi 3)), (6, .ref q9), (5, .int (zi 2)), (4, .int (zi 4)), (0, .ref h0), (1, .ref (zsb G)), (2, .int (zi (dr : Int)))]) hx hb dX8_init_196 hl (k := 4) rfl (zi_add _ _) (by decide) rfl (fun ls hl => ?_)
  refine lv_goto (tgt := 61) hx hb dX8_init_199 (by decide) ?_
  refine lv_iload_n hx hb dX8_init_61 rfl (lv_at hl 0 rfl) ?_
  refine lv_iconst (v := zi 4) hx hb dX8_init_62 rfl ?_
  refine zc_ge (tgt := 202) hx hb dX8_init_63 (by decide) (by decide) (by decide) (fun h63 => ?_) (fun h9 => absurd h9 (by decide))
  have hP := zsubP (L' := [(h0, .inr (8, [.ref q1, .ref (zsb G), .int (zi ((dr + 14 : Nat) : Int)), .ref q2, .ref q3, .int (zi 0), .ref q4, .int (zi 0), .int (zi 0), .ref q5])), (q2, .inl (zca G, 4, .inr (.inr (.inr (.inr (va_up (va_up (va_up (va_up (fun _ => none) 0 (some q6)) 1 (some q7)) 2 (some q8)) 3 (some q9))))))), (q6, .inl (zci G, 6, .inl (fun j => zi ((zup (zup (zup (zup (zup (fun _ => 0) 1 c1) 2 c2) 3 c3) 4 c4) 5 256) j)))), (q7, .inl (zci G, 6, .inl (fun j => zi ((zup (zup (zup (zup (zup (fun _ => 0) 1 c5) 2 c6) 3 c7) 4 c8) 5 256) j)))), (q8, .inl (zci G, 6, .inl (fun j => zi ((zup (zup (zup (zup (zup (fun _ => 0) 1 c9) 2 c10) 3 c11) 4 c12) 5 1024) j)))), (q9, .inl (zci G, 4, .inl (fun j => zi ((zup (zup (zup (fun _ => 0) 1 c13) 2 c14) 3 4) j)))), (q3, .inl (zca G, 0, .inr (.inr (.inr (.inr (fun _ => none))))))]) hP [0, 1, 5, 6, 7, 8, 2] rfl
  have hD := zsubD (L' := [(h0, .inr (8, [.ref q1, .ref (zsb G), .int (zi ((dr + 14 : Nat) : Int)), .ref q2, .ref q3, .int (zi 0), .ref q4, .int (zi 0), .int (zi 0), .ref q5])), (q2, .inl (zca G, 4, .inr (.inr (.inr (.inr (va_up (va_up (va_up (va_up (fun _ => none) 0 (some q6)) 1 (some q7)) 2 (some q8)) 3 (some q9))))))), (q6, .inl (zci G, 6, .inl (fun j => zi ((zup (zup (zup (zup (zup (fun _ => 0) 1 c1) 2 c2) 3 c3) 4 c4) 5 256) j)))), (q7, .inl (zci G, 6, .inl (fun j => zi ((zup (zup (zup (zup (zup (fun _ => 0) 1 c5) 2 c6) 3 c7) 4 c8) 5 256) j)))), (q8, .inl (zci G, 6, .inl (fun j => zi ((zup (zup (zup (zup (zup (fun _ => 0) 1 c9) 2 c10) 3 c11) 4 c12) 5 1024) j)))), (q9, .inl (zci G, 4, .inl (fun j => zi ((zup (zup (zup (fun _ => 0) 1 c13) 2 c14) 3 4) j)))), (q3, .inl (zca G, 0, .inr (.inr (.inr (.inr (fun _ => none))))))]) hD [0, 1, 5, 6, 7, 8, 2] (by decide) rfl
  obtain ⟨hd, hhd⟩ : ∃ hd : Nat → Nat, hd = fun k => ([h0, q2, q6, q7, q8, q9, q3, q4, q5] : List Nat).getD k 0 := ⟨_, rfl⟩
  obtain ⟨C, hC⟩ : ∃ C : Nat → Nat → Int, C = fun f => ([zup (zup (zup (zup (zup (fun _ => 0) 1 c1) 2 c2) 3 c3) 4 c4) 5 256, zup (zup (zup (zup (zup (fun _ => 0) 1 c5) 2 c6) 3 c7) 4 c8) 5 256, zup (zup (zup (zup (zup (fun _ => 0) 1 c9) 2 c10) 3 c11) 4 c12) 5 1024, zup (zup (zup (fun _ => 0) 1 c13) 2 c14) 3 4] : List (Nat → Int)).getD f (fun _ => 0) := ⟨_, rfl⟩
  have hP := zreqL (k := 1) (g := fun q => some (hd (2 + q))) rfl (fun q hq => by have h4 : q = 0 ∨ q = 1 ∨ q = 2 ∨ q = 3 := (by omega); subst hhd; rcases h4 with rfl | rfl | rfl | rfl <;> rfl) hP
  have hP := zreqL (k := 6) (g := fun q => some (hd q)) rfl (fun q hq => by omega) hP
  rw [← had] at hP hD
  have hP : va_P G.1 vwCl (zhW G ad zX0 hd hd 0 (dr + 14) 0 0 C (fun _ _ => 0)) H := by subst hhd; subst hC; exact hP
  have hD : va_D A (zhW G ad zX0 hd hd 0 (dr + 14) 0 0 C (fun _ _ => 0)) := zkeyD hD (by subst hhd; rfl)
  have hcv : zCv C := by
    intro f hf4
    have h4 : f = 0 ∨ f = 1 ∨ f = 2 ∨ f = 3 := by omega
    subst hC
    rcases h4 with rfl | rfl | rfl | rfl
    · refine ⟨rfl, rfl, fun j hj => ?_⟩
      have hj5 : j = 0 ∨ j = 1 ∨ j = 2 ∨ j = 3 ∨ j = 4 := by have h9 : zPn 0 = 5 := rfl; omega
      rcases hj5 with rfl | rfl | rfl | rfl | rfl
      · show (0 : Int) < c1; omega
      · show (c1 : Int) < c2; omega
      · show (c2 : Int) < c3; omega
      · show (c3 : Int) < c4; omega
      · show (c4 : Int) < 256; omega
    · refine ⟨rfl, rfl, fun j hj => ?_⟩
      have hj5 : j = 0 ∨ j = 1 ∨ j = 2 ∨ j = 3 ∨ j = 4 := by have h9 : zPn 1 = 5 := rfl; omega
      rcases hj5 with rfl | rfl | rfl | rfl | rfl
      · show (0 : Int) < c5; omega
      · show (c5 : Int) < c6; omega
      · show (c6 : Int) < c7; omega
      · show (c7 : Int) < c8; omega
      · show (c8 : Int) < 256; omega
    · refine ⟨rfl, rfl, fun j hj => ?_⟩
      have hj5 : j = 0 ∨ j = 1 ∨ j = 2 ∨ j = 3 ∨ j = 4 := by have h9 : zPn 2 = 5 := rfl; omega
      rcases hj5 with rfl | rfl | rfl | rfl | rfl
      · show (0 : Int) < c9; omega
      · show (c9 : Int) < c10; omega
      · show (c10 : Int) < c11; omega
      · show (c11 : Int) < c12; omega
      · show (c12 : Int) < 1024; omega
    · refine ⟨rfl, rfl, fun j hj => ?_⟩
      have hj5 : j = 0 ∨ j = 1 ∨ j = 2 := by have h9 : zPn 3 = 3 := rfl; omega
      rcases hj5 with rfl | rfl | rfl
      · show (0 : Int) < c13; omega
      · show (c13 : Int) < c14; omega
      · show (c14 : Int) < 4; omega
  exact zend_v hx hb hr hlocks hP hD hS (Nat.le_of_ble_eq_true rfl) (Nat.le_of_ble_eq_true rfl) dX8_init_202 ⟨rfl, ad, hd, hd, 0, C, fun _ _ => 0, by subst hhd; rfl, hcv, rfl⟩
