/-! ===== rows over lists of cells: new rows of ints, of RULES, of rows; rows of rows ===== -/
theorem znat {N : Nat} (h : N ≤ 100000) : ¬ zi (N : Int) < 0 ∧ (zi (N : Int)).toNatClampNeg = N := by
  refine ⟨fun q => ?_, by rw [zi_nat (by omega) (by omega)]; rfl⟩
  have h2 := (zi_lt (a := (N : Int)) (b := 0) ⟨by omega, by omega⟩ ⟨by omega, by omega⟩).mp q
  omega
/-- the class of rows of rows: what its rows are -/
theorem zAA_of {G : zG} {A : Nat → Prop} {s : State} {H : Heap} (hE : zZ G A s H) : ∃ k : Class, s.vm.classes[zca G]? = some k ∧ k.kind = .array (zci G) (.array .int) ∧ ∃ kc : Class, s.vm.classes[zci G]? = some kc := by
  obtain ⟨comp, c, k, h1, -, h3, h4, h5⟩ := arrayOverA_spec (args := #[]) (first := s) (o := none) (s := s) (idx := []) (t := .int) hE.2.2.2.2.2.1
  have e1 : s.vm.findClass ("[" ++ (FieldType.int).toString) = some (zci G) := (hE.1.2 0 _ rfl).2
  have e2 : s.vm.findClass ("[" ++ (FieldType.array .int).toString) = some (zca G) := (hE.1.2 2 _ rfl).2
  have ec : c = zca G := Option.some.inj (h5.symm.trans e2)
  have ed : comp = zci G := Option.some.inj (h1.symm.trans e1)
  rw [ec] at h3
  rw [ed] at h4
  obtain ⟨kc, hkc, -⟩ := Vm.findClass_spec e1
  exact ⟨k, h3, h4, kc, hkc⟩
/-- the last cell comes ahead of the tail -/
theorem zlay {D : va_G} {cl : List vw_C} {a t : va_W} {x : Nat × va_E} {H : Heap} (h : va_P D cl ((a ++ t) ++ [x]) H) : va_P D cl ((a ++ [x]) ++ t) H := va_P.swap h
theorem zlayD {A : Nat → Prop} {a t : va_W} {x : Nat × va_E} (h : va_D A ((a ++ t) ++ [x])) : va_D A ((a ++ [x]) ++ t) := va_D.swap h
/-- a row of references: only its places count -/
theorem zcellq (cA : ClassId) {n : Nat} {f g : Nat → Option Nat} (h : ∀ i : Nat, i < n → f i = g i) : vp_cell cA (n, .inr (.inr (.inr (.inr f)))) = vp_cell cA (n, .inr (.inr (.inr (.inr g)))) := by
  rw [vp_cell_q, vp_cell_q]
  unfold arrV
  have e : (fun j : Fin n => va_rf (f j.val)) = (fun j : Fin n => va_rf (g j.val)) := funext fun j => by rw [h j.val j.isLt]
  rw [e]
theorem zcelli (cA : ClassId) {n : Nat} {f g : Nat → Int32} (h : ∀ i : Nat, i < n → f i = g i) : vp_cell cA (n, .inl f) = vp_cell cA (n, .inl g) := by
  rw [vp_cell_i, vp_cell_i]
  unfold arrV
  have e : (fun j : Fin n => Value.int (f j.val)) = (fun j : Fin n => Value.int (g j.val)) := funext fun j => by rw [h j.val j.isLt]
  rw [e]
/-- the same cells in other words -/
theorem zsameP {D : va_G} {cl : List vw_C} {ws ws' : va_W} {H : Heap} (h : va_P D cl ws H) (hs : ∀ (k : Nat) (q : Nat × va_E), ws'[k]? = some q → ∃ q0 : Nat × va_E, ws[k]? = some q0 ∧ (va_at D cl q0 H → va_at D cl q H)) : va_P D cl ws' H := fun k q hk => by
  obtain ⟨q0, h1, h2⟩ := hs k q hk
  exact h2 (h k q0 h1)
theorem zsameD {A : Nat → Prop} {ws ws' : va_W} (h : va_D A ws) (hs : ∀ (k : Nat) (q : Nat × va_E), ws'[k]? = some q → ∃ q0 : Nat × va_E, ws[k]? = some q0 ∧ q0.1 = q.1) : va_D A ws' := by
  refine ⟨fun i j p q h1 h2 h3 => ?_, fun k q hk => ?_⟩
  · obtain ⟨p0, a1, a2⟩ := hs i p h1
    obtain ⟨q0, b1, b2⟩ := hs j q h2
    exact h.1 i j p0 q0 a1 b1 (by rw [a2, b2, h3])
  · obtain ⟨q0, a1, a2⟩ := hs k q hk
    rw [← a2]
    exact h.2 k q0 a1
section ZLW
variable {p : Program} {l : Launch} {e : Env} {R : Room} {s : State} {m : MethodId} {args : Array Value} {below : List Frame} {meth : Method} {c : Code} {H : Heap} {locs : List Loc} {cells slots : Nat} {Q : State → Prop}
variable {cc : ByteArray} {pc : Nat} {ls : Array Slot} {rest st0 : List Value} {G : zG} {A : Nat → Prop} {ws : va_W}
theorem znewI (hx : p.tables.exec = Jvm.exec) (hb : c.code = cc) (harr : (Cond.arrayClass .int).before args s = true) (hE : zZ G A s s.heap) (hP : va_P G.1 vwCl ws H) (hD : va_D A ws) (hS : va_S A s.heap H locs) (hA : ∀ q : Nat, s.heap.size ≤ q → A q) {n : Int} (N : Nat) (hn : n = (N : Int)) (hN : N ≤ 100000) (hcells : cells + 1 ≤ R.cells) (hslots : slots + N ≤ R.slots) (hdg : decode cc pc = .ok (.newarray .int, 2))
    (kk : ∀ (q : Nat) (H1 : Heap), va_P G.1 vwCl (ws ++ [(q, .inl (zci G, N, .inl (fun _ => zi 0)))]) H1 → va_D A (ws ++ [(q, .inl (zci G, N, .inl (fun _ => zi 0)))]) → va_S A s.heap H1 locs → W p l e R s m args below meth c H1 locs (cells + 1) (slots + N) Q (F0 m (pc + 2) ls (.ref q :: rest))) : W p l e R s m args below meth c H locs cells slots Q (F0 m pc ls (.int (zi n) :: rest)) := by
  subst hn
  refine va_newa (atype := .int) (ty := .int) (a0 := (N, .inl (fun _ => zi 0))) hx hb harr rfl hE.1 hP hD hS hA (fun cA => rfl) (znat hN).1 (znat hN).2 (by show N * 4 ≤ _; omega) hcells hslots hdg (fun q cA H1 hK hP1 hD1 hS1 => ?_)
  have e1 : s.vm.findClass ("[" ++ (FieldType.int).toString) = some cA := (hK.2 3 (cA, .int) rfl).2
  have e2 : s.vm.findClass ("[" ++ (FieldType.int).toString) = some (zci G) := (hE.1.2 0 _ rfl).2
  have ec : cA = zci G := Option.some.inj (e1.symm.trans e2)
  rw [ec] at hP1 hD1
  exact kk q H1 hP1 hD1 hS1
theorem znewQ (hx : p.tables.exec = Jvm.exec) (hb : c.code = cc) {own : String} {index : Nat} (hown : s.vm.findClass own = some m.cls) (hcl : (Cond.classLink own index "Nettle$Rule").before args s = true) (hE : zZ G A s s.heap) (hP : va_P G.1 vwCl ws H) (hD : va_D A ws) (hS : va_S A s.heap H locs) (hA : ∀ q : Nat, s.heap.size ≤ q → A q) {n : Int} (N : Nat) (hn : n = (N : Int)) (hN : N ≤ 100000) (hcells : cells + 1 ≤ R.cells) (hslots : slots + N ≤ R.slots) (hdg : decode cc pc = .ok (.anewarray index, 3))
    (kk : ∀ (q : Nat) (H1 : Heap), va_P G.1 vwCl (ws ++ [(q, .inl (zcq G, N, .inr (.inr (.inr (.inr (fun _ => none))))))]) H1 → va_D A (ws ++ [(q, .inl (zcq G, N, .inr (.inr (.inr (.inr (fun _ => none))))))]) → va_S A s.heap H1 locs → W p l e R s m args below meth c H1 locs (cells + 1) (slots + N) Q (F0 m (pc + 3) ls (.ref q :: rest))) : W p l e R s m args below meth c H locs cells slots Q (F0 m pc ls (.int (zi n) :: rest)) := by
  subst hn
  refine va_newq hx hb hown hcl hE.2.2.2.2.1 hE.1 hP hD hS hA (znat hN).1 (znat hN).2 (by omega) hcells hslots hdg (fun q cA H1 hK hP1 hD1 hS1 => ?_)
  obtain ⟨-, -, -, -, -, e1⟩ := (hK.2 3 (cA, .object "Nettle$Rule") rfl).2
  obtain ⟨-, -, -, -, -, e2⟩ := (hE.1.2 1 _ rfl).2
  have ec : cA = zcq G := Option.some.inj (e1.symm.trans e2)
  rw [ec] at hP1 hD1
  exact kk q H1 hP1 hD1 hS1
theorem znewA (hx : p.tables.exec = Jvm.exec) (hb : c.code = cc) {own : String} {index : Nat} (hown : s.vm.findClass own = some m.cls) (hcl : (Cond.classLink own index "[I").before args s = true) (hE : zZ G A s s.heap) (hP : va_P G.1 vwCl ws H) (hD : va_D A ws) (hS : va_S A s.heap H locs) (hA : ∀ q : Nat, s.heap.size ≤ q → A q) {n : Int} (N : Nat) (hn : n = (N : Int)) (hN : N ≤ 100000) (hcells : cells + 1 ≤ R.cells) (hslots : slots + N ≤ R.slots) (hdg : decode cc pc = .ok (.anewarray index, 3))
    (kk : ∀ (q : Nat) (H1 : Heap), va_P G.1 vwCl (ws ++ [(q, .inl (zca G, N, .inr (.inr (.inr (.inr (fun _ => none))))))]) H1 → va_D A (ws ++ [(q, .inl (zca G, N, .inr (.inr (.inr (.inr (fun _ => none))))))]) → va_S A s.heap H1 locs → W p l e R s m args below meth c H1 locs (cells + 1) (slots + N) Q (F0 m (pc + 3) ls (.ref q :: rest))) : W p l e R s m args below meth c H locs cells slots Q (F0 m pc ls (.int (zi n) :: rest)) := by
  subst hn
  obtain ⟨g1, g2⟩ := znat hN
  have hcl2 : (Cond.classLink own index (FieldType.array .int).toString).before args s = true := hcl
  refine W.anewA (t := .int) hx hb hown hcl2 hE.2.2.2.2.2.1 rfl hdg rfl g1 (by rw [g2]; omega) hcells (by rw [g2]; exact hslots) fun cA kA comp f1 _ _ _ => ?_
  rw [g2]
  have e2 : s.vm.findClass ("[" ++ (FieldType.array .int).toString) = some (zca G) := (hE.1.2 2 _ rfl).2
  have ec : cA = zca G := Option.some.inj (f1.symm.trans e2)
  subst ec
  generalize hH1 : H.push ({ cls := zca G, slots := Array.replicate N .null, vm := .none } : Cell) = H1
  have z1 : H1.size = H.size + 1 := by rw [← hH1, Array.size_push]
  have e1 : H1[H.size]? = some (arrV (zca G) N (fun _ => .null)) := by rw [← hH1, Array.getElem?_push_size, ← arrV_new]
  have o1 : ∀ q : Nat, q < H.size → H1[q]? = H[q]? := fun q hq => by rw [← hH1, Array.getElem?_push, if_neg (Nat.ne_of_lt hq)]
  refine kk H.size H1 ((hP.kept fun k x hx => o1 x.1 ((hP k x hx).lt)).app (fun k x hx => ?_)) (hD.push hP rfl (hA _ hS.1)) ⟨Nat.le_trans hS.1 (by omega), fun x h1 h2 => (o1 x (Nat.lt_of_lt_of_le h1 hS.1)).trans (hS.2.1 x h1 h2), hS.2.2⟩
  have hz : k < 1 := (List.getElem?_eq_some_iff.mp hx).1
  rw [show k = 0 by omega] at hx
  cases hx
  exact e1
theorem zaldA (hx : p.tables.exec = Jvm.exec) (hb : c.code = cc) (hE : zZ G A s s.heap) (hP : va_P G.1 vwCl ws H) (q0 : Nat) {a n : Nat} {f : Nat → Option Nat} (ha : ws[q0]? = some (a, .inl (zca G, n, .inr (.inr (.inr (.inr f)))))) {z : Int} (j : Nat) (hz : z = (j : Int)) (hj : j < n) (hn : n ≤ 1024) {r : Nat} (hr : f j = some r) (hdg : decode cc pc = .ok (.aaload, 1))
    (kk : W p l e R s m args below meth c H locs cells slots Q (F0 m (pc + 1) ls (.ref r :: rest))) : W p l e R s m args below meth c H locs cells slots Q (F0 m pc ls (.int (zi z) :: .ref a :: rest)) := by
  subst hz
  have hc : (zi (j : Int)).toNatClampNeg = j := (znat (by omega)).2
  have hin : vp_in (zi (j : Int)) n := zi_in (by omega) (by omega) (by omega)
  exact W.aald (v := .ref r) (ty := .array .int) hx hb (hP q0 _ ha) ((hE.1.2 2 _ rfl).1 n (fun j => va_rf (f j))) rfl (fun q => by cases q) (by show ¬ (zi (j : Int) < 0 ∨ (arrV _ _ _).slots.size ≤ _); rw [arrV_size]; exact hin) (by show (arrV _ _ _).slots[_]? = _; rw [hc, arrV_read _ _ hj, hr]; rfl) rfl rfl hdg kk
theorem zastA (hx : p.tables.exec = Jvm.exec) (hb : c.code = cc) (hE : zZ G A s s.heap) (hP : va_P G.1 vwCl ws H) (hD : va_D A ws) (hS : va_S A s.heap H locs) (q0 qk : Nat) {a v n : Nat} {f : Nat → Option Nat} {x : vp_A} (ha : ws[q0]? = some (a, .inl (zca G, n, .inr (.inr (.inr (.inr f)))))) (hv : ws[qk]? = some (v, .inl (zci G, x))) {z : Int} (j : Nat) (hz : z = (j : Int)) (hj : j < n) (hn : n ≤ 1024) (hdg : decode cc pc = .ok (.aastore, 1))
    (kk : ∀ (H1 : Heap) (locs1 : List Loc), va_P G.1 vwCl (ws.set q0 (a, .inl (zca G, n, .inr (.inr (.inr (.inr (va_up f j (some v)))))))) H1 → va_D A (ws.set q0 (a, .inl (zca G, n, .inr (.inr (.inr (.inr (va_up f j (some v)))))))) → va_S A s.heap H1 locs1 → W p l e R s m args below meth c H1 locs1 cells slots Q (F0 m (pc + 1) ls rest)) : W p l e R s m args below meth c H locs cells slots Q (F0 m pc ls (.ref v :: .int (zi z) :: .ref a :: rest)) := by
  subst hz
  have hc : (zi (j : Int)).toNatClampNeg = j := (znat (by omega)).2
  obtain ⟨kA, hkA, hkind, kc, hkc⟩ := zAA_of hE
  have hcv : (vp_cell (zci G) x).cls = zci G ∧ (vp_cell (zci G) x).vm = .none := by
    obtain ⟨n1, f1 | f1 | f1 | f1 | f1⟩ := x <;> exact ⟨rfl, rfl⟩
  refine W.aast hx hb (hP q0 _ ha) (fun q h => by cases h) (fun h => by cases h) hkA hkind rfl hkc ⟨(znat (by omega)).1, by show _ < (arrV _ _ _).slots.size; rw [arrV_size, hc]; exact hj⟩ (hP qk _ hv) (fun q h => by rw [hcv.2] at h; cases h) (by rw [hcv.1]; exact hkc) (by rw [hcv.1]; exact va_asg _ _) rfl rfl hdg fun H1 e1 z1 oq => ?_
  refine kk H1 _ (hP.set hD ha ?_ oq) (hD.set ha) (hS.put z1 oq (hD.2 q0 _ ha))
  show H1[a]? = some (vp_cell _ _)
  rw [e1, hc, vp_cell_q, vp_cell_q, arrV_store]
  congr 2
  funext q
  by_cases hq : q = j
  · subst hq
    simp [updV, va_up, va_rf]
  · simp [updV, va_up, hq]
end ZLW
