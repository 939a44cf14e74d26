/-! ===== rows of rows: copying; lists with one cell more ===== -/
theorem zset_last {W0 : va_W} {x y : Nat × va_E} : (W0 ++ [x]).set W0.length y = W0 ++ [y] := by
  rw [List.set_append_right _ _ (Nat.le_refl _), Nat.sub_self]
  rfl
theorem zget_last {W0 : va_W} {x : Nat × va_E} : (W0 ++ [x])[W0.length]? = some x := by
  rw [List.getElem?_append_right (Nat.le_refl _), Nat.sub_self]
  rfl
theorem zget_old {W0 t : va_W} {k : Nat} {x : Nat × va_E} (h : W0[k]? = some x) : (W0 ++ t)[k]? = some x := by
  rw [List.getElem?_append_left (List.getElem?_eq_some_iff.mp h).1]
  exact h
section ZCP
variable {p : Program} {l : Launch} {e : Env} {R : Room} {s : State} {m : MethodId} {args : Array Value} {below : List Frame} {meth : Method} {c : Code} {H : Heap} {locs : List Loc} {cells slots : Nat} {Q : State → Prop}
variable {cc : ByteArray} {pc : Nat} {ls : Array Slot} {rest st0 : List Value} {G : zG} {A : Nat → Prop} {ws : va_W} {a : Nat}
theorem zcpyA (hx : p.tables.exec = Jvm.exec) (hb : c.code = cc) (hml : c.maxLocals = ls.size) {own : String} {index : Nat} (hown : s.vm.findClass own = some m.cls) (hlink : (Cond.methodLink own index arraycopyName).before args s = true) (hnat : (Cond.native arraycopyName).before args s = true) (hstat : (Cond.static arraycopyName).before args s = true) (hini : (Cond.initialized "java/lang/System").before args s = true)
    (hE : zZ G A s s.heap) (hP : va_P G.1 vwCl ws H) (hD : va_D A ws) (hS : va_S A s.heap H locs) (q0 q1 : Nat) {a0 n0 n1 : Nat} {f g : Nat → Option Nat} (ha0 : ws[q0]? = some (a0, .inl (zca G, n0, .inr (.inr (.inr (.inr f)))))) (ha1 : ws[q1]? = some (a, .inl (zca G, n1, .inr (.inr (.inr (.inr g))))))
    {zs zd zn : Int} (sp dp n : Nat) (es : zs = (sp : Int)) (ed : zd = (dp : Int)) (en : zn = (n : Int)) (h4 : sp + n ≤ n0) (h5 : dp + n ≤ n1) (hn0 : n0 ≤ 1024) (hn1 : n1 ≤ 1024) (hel : ∀ i : Nat, i < n → ∀ y : Nat, f (sp + i) = some y → ∃ (k : Nat) (x : vp_A), ws[k]? = some (y, .inl (zci G, x)))
    (hframes : 1 ≤ R.frames) (hlocals : (rest.map fun v => v.category).sum + (nativeFrameWords "java/lang/System" "arraycopy" 5 + 11) ≤ R.locals) (hdg : decode cc pc = .ok (.invokestatic index, 3))
    (kk : ∀ (H1 : Heap) (locs1 : List Loc), va_P G.1 vwCl (ws.set q1 (a, .inl (zca G, n1, .inr (.inr (.inr (.inr (va_cpy f g sp dp n))))))) H1 → va_D A (ws.set q1 (a, .inl (zca G, n1, .inr (.inr (.inr (.inr (va_cpy f g sp dp n))))))) → va_S A s.heap H1 locs1 → W p l e R s m args below meth c H1 locs1 cells slots Q (F0 m (pc + 3) ls rest)) : W p l e R s m args below meth c H locs cells slots Q (F0 m pc ls (.int (zi zn) :: .int (zi zd) :: .ref a :: .int (zi zs) :: .ref a0 :: rest)) := by
  subst es
  subst ed
  subst en
  obtain ⟨s1, s2⟩ := znat (N := sp) (by omega)
  obtain ⟨d1, d2⟩ := znat (N := dp) (by omega)
  obtain ⟨n1', n2'⟩ := znat (N := n) (by omega)
  have ts : (zi (sp : Int)).toInt = (sp : Int) := zi_toInt ⟨by omega, by omega⟩
  have td : (zi (dp : Int)).toInt = (dp : Int) := zi_toInt ⟨by omega, by omega⟩
  have tn : (zi (n : Int)).toInt = (n : Int) := zi_toInt ⟨by omega, by omega⟩
  intro T hT X
  have hc0 : H[a0]? = some (vp_cell (zca G) (n0, .inr (.inr (.inr (.inr f))))) := hP q0 _ ha0
  have hc1 : H[a]? = some (vp_cell (zca G) (n1, .inr (.inr (.inr (.inr g))))) := hP q1 _ ha1
  obtain ⟨-, k0, hk0, cm0, hkk0⟩ := (hE.1.2 2 _ rfl).1 n0 (fun j => va_rf (f j))
  obtain ⟨-, k1, hk1, cm1, hkk1⟩ := (hE.1.2 2 _ rfl).1 n1 (fun j => va_rf (g j))
  obtain ⟨kA, hkA, hkind, kc, hkc⟩ := zAA_of hE
  obtain ⟨vm', X', step⟩ := X.arraycopy hx hown hlink hnat hstat hini (src := a0) (dst := a) (cs := vp_cell (zca G) (n0, .inr (.inr (.inr (.inr f))))) (cd := vp_cell (zca G) (n1, .inr (.inr (.inr (.inr g))))) (srcPos := zi (sp : Int)) (destPos := zi (dp : Int)) (n := zi (n : Int)) (by rw [hT]; exact hc0) (by rw [hT]; exact hc1)
    (fun _ h => by cases h) (fun _ h => by cases h) (fun h => by cases h) (fun h => by cases h) hk0 hk1 hkk0 hkk1 rfl s1 d1 n1'
    (by rw [ts, tn]; show ¬ _ > ((arrV (zca G) n0 (fun j => va_rf (f j))).slots.size : Int); rw [arrV_size]; omega)
    (by rw [td, tn]; show ¬ _ > ((arrV (zca G) n1 (fun j => va_rf (g j))).slots.size : Int); rw [arrV_size]; omega)
    (fun vm₁ hal i hi => by
      rw [n2'] at hi
      rw [s2]
      have e0 : (vp_cell (zca G) (n0, .inr (.inr (.inr (.inr f))))).slots.getD (sp + i) .null = va_rf (f (sp + i)) := by
        show (arrV (zca G) n0 (fun j => va_rf (f j))).slots.getD _ _ = _
        rw [Array.getD_eq_getD_getElem?, arrV_read _ _ (by omega)]
        rfl
      rw [e0]
      cases hy : f (sp + i) with
      | none => exact ⟨rfl, trivial⟩
      | some y =>
        obtain ⟨k, x, hk⟩ := hel i hi y hy
        have g1 : H[y]? = some (vp_cell (zci G) x) := hP k _ hk
        have hcv : (vp_cell (zci G) x).cls = zci G ∧ (vp_cell (zci G) x).vm = .none := by
          obtain ⟨n9, f1 | f1 | f1 | f1 | f1⟩ := x <;> exact ⟨rfl, rfl⟩
        cases hk1.symm.trans hkA
        cases hkk1.symm.trans hkind
        obtain ⟨kc', hkc', -⟩ := hal.2.2 _ _ hkc
        refine ⟨rfl, vp_cell (zci G) x, (show T.heap[y]? = some _ by rw [hT]; exact g1), (fun q h => by rw [hcv.2] at h; cases h), ⟨kc', by rw [hcv.1]; exact hkc'⟩, ⟨kc', hkc'⟩, ?_⟩
        rw [hcv.1]
        exact va_asg _ _)
    (g := F0 m pc ls (.int (zi (n : Int)) :: .int (zi (dp : Int)) :: .ref a :: .int (zi (sp : Int)) :: .ref a0 :: rest)) rfl (by rw [hml]) (rest := rest) rfl (by rw [hb]; exact hdg) hframes (by show 2 * 0 + _ + _ ≤ _; omega)
  have e1 : copied (vp_cell (zca G) (n0, .inr (.inr (.inr (.inr f))))) (vp_cell (zca G) (n1, .inr (.inr (.inr (.inr g))))) (zi (sp : Int)) (zi (dp : Int)) (zi (n : Int)) = vp_cell (zca G) (n1, .inr (.inr (.inr (.inr (va_cpy f g sp dp n))))) := by
    rw [vp_cell_q, vp_cell_q, vp_cell_q]
    show (arrV (zca G) n1 (fun j => va_rf (g j))).storeRun (zi (dp : Int)).toNatClampNeg ((arrV (zca G) n0 (fun j => va_rf (f j))).stretch (zi (sp : Int)).toNatClampNeg (zi (n : Int)).toNatClampNeg) = _
    rw [s2, d2, n2']
    exact va_copied (fun z => va_rf z) (zca G) (zca G) f g h4
  rw [e1] at X' step
  have hl : a < H.size := (Array.getElem?_eq_some_iff.mp hc1).1
  have hheap : ((T.setVm vm').setCell a (vp_cell (zca G) (n1, .inr (.inr (.inr (.inr (va_cpy f g sp dp n))))))).heap = H.setIfInBounds a (vp_cell (zca G) (n1, .inr (.inr (.inr (.inr (va_cpy f g sp dp n)))))) := by rw [← hT]; rfl
  have oq : ∀ q : Nat, q ≠ a → (H.setIfInBounds a (vp_cell (zca G) (n1, .inr (.inr (.inr (.inr (va_cpy f g sp dp n)))))))[q]? = H[q]? := fun q hq => by simp [Array.getElem?_setIfInBounds, Ne.symm hq]
  obtain ⟨t, a1, b1⟩ := kk _ _ (hP.set hD ha1 (show (H.setIfInBounds a _)[a]? = some _ by simp [Array.getElem?_setIfInBounds, hl]) oq) (hD.set ha1) ⟨by simp; exact hS.1, fun q g1 g2 => by
      rw [oq q (fun e9 => g2 (by rw [e9]; exact hD.2 q1 _ ha1))]
      exact hS.2.1 q g1 g2, fun q hq => by
      rcases List.mem_append.mp hq with h | h
      · exact hS.2.2 q h
      · obtain ⟨z, -, hz⟩ := List.mem_map.mp h
        rw [← hz]
        exact hD.2 q1 _ ha1⟩ _ hheap X'
  exact ⟨t, step t a1, b1⟩
/-- how long a row of rows is -/
theorem zalenA (hx : p.tables.exec = Jvm.exec) (hb : c.code = cc) (hE : zZ G A s s.heap) (hP : va_P G.1 vwCl ws H) (q0 : Nat) {n : Nat} {f : Nat → Option Nat} (ha : ws[q0]? = some (a, .inl (zca G, n, .inr (.inr (.inr (.inr f)))))) (hdg : decode cc pc = .ok (.arraylength, 1))
    (kk : W p l e R s m args below meth c H locs cells slots Q (F0 m (pc + 1) ls (.int (zi (n : Int)) :: rest))) : W p l e R s m args below meth c H locs cells slots Q (F0 m pc ls (.ref a :: rest)) :=
  va_alen hx hb hE.1 hP q0 2 ha (ty := .array .int) rfl (zlen n) hdg kk
theorem zalenI (hx : p.tables.exec = Jvm.exec) (hb : c.code = cc) (hE : zZ G A s s.heap) (hP : va_P G.1 vwCl ws H) (q0 : Nat) {n : Nat} {x : Nat → Int} (ha : ws[q0]? = some (a, .inl (zci G, n, .inl (fun j => zi (x j))))) (hdg : decode cc pc = .ok (.arraylength, 1))
    (kk : W p l e R s m args below meth c H locs cells slots Q (F0 m (pc + 1) ls (.int (zi (n : Int)) :: rest))) : W p l e R s m args below meth c H locs cells slots Q (F0 m pc ls (.ref a :: rest)) :=
  va_alen hx hb hE.1 hP q0 0 ha (ty := .int) rfl (zlen n) hdg kk
end ZCP
