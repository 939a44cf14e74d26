/-! ===== rows over that memory; branches on whole numbers; loops ===== -/
theorem a_l {G : zG} {ad : Nat → Nat} {r : Nat} (h : zIsR r) : ∀ x : Nat → Int, zF G ad (r + 1) x = .inl (zci G, 4, .inl (fun j => zi (x j))) := zF_l h
theorem a_h {G : zG} {ad : Nat → Nat} {r : Nat} (h : zIsR r) : ∀ x : Nat → Int, zF G ad (r + 2) x = .inl (zci G, 4, .inl (fun j => zi (x j))) := zF_h h
section ZRW
variable {p : Program} {l : Launch} {e : Env} {R : Room} {s : State} {m : MethodId} {args : Array Value} {below : List Frame} {meth : Method} {c : Code} {H : Heap} {locs : List Loc} {cells slots : Nat} {Q : State → Prop}
variable {cc : ByteArray} {pc : Nat} {ls : Array Slot} {rest st0 : List Value} {G : zG} {A : Nat → Prop} {ad : Nat → Nat} {X : Nat → Nat → Int}
/-- an int out of a row -/
theorem zild (hx : p.tables.exec = Jvm.exec) (hb : c.code = cc) (hE : zZ G A s s.heap) (hP : va_P G.1 vwCl (zpic G ad X) H) (k n : Nat) (ha : ∀ x : Nat → Int, zF G ad k x = .inl (zci G, n, .inl (fun j => zi (x j)))) (hk : k < 71) {z : Int} (j : Nat) (hz : z = (j : Int)) (hj : j < n) (hn : n ≤ 1024) (hdg : decode cc pc = .ok (.iaload, 1))
    (kk : W p l e R s m args below meth c H locs cells slots Q (F0 m (pc + 1) ls (.int (zi (X k j)) :: rest))) : W p l e R s m args below meth c H locs cells slots Q (F0 m pc ls (.int (zi z) :: .ref (ad k) :: rest)) := by
  subst hz
  have he : (zpic G ad X)[k]? = some (ad k, .inl (zci G, n, .inl (fun j => zi (X k j)))) := by rw [zpic_at hk, ha]
  refine va_iald hx hb hE.1 hP k 0 he rfl (zi_in (by omega) (by omega) (by omega)) hdg ?_
  have h : (zi (j : Int)).toNatClampNeg = j := by rw [zi_nat (by omega) (by omega)]; rfl
  rw [h]
  exact kk
/-- .. into a row -/
theorem zist (hx : p.tables.exec = Jvm.exec) (hb : c.code = cc) (hE : zZ G A s s.heap) (hP : va_P G.1 vwCl (zpic G ad X) H) (hD : va_D A (zpic G ad X)) (hS : va_S A s.heap H locs) (k n : Nat) (ha : ∀ x : Nat → Int, zF G ad k x = .inl (zci G, n, .inl (fun j => zi (x j)))) (hk : k < 71) {z v : Int} (j : Nat) (hz : z = (j : Int)) (hj : j < n) (hn : n ≤ 1024) (hdg : decode cc pc = .ok (.iastore, 1))
    (kk : ∀ (H1 : Heap) (locs1 : List Loc), va_P G.1 vwCl (zpic G ad (zw X k j v)) H1 → va_D A (zpic G ad (zw X k j v)) → va_S A s.heap H1 locs1 → W p l e R s m args below meth c H1 locs1 cells slots Q (F0 m (pc + 1) ls rest)) : W p l e R s m args below meth c H locs cells slots Q (F0 m pc ls (.int (zi v) :: .int (zi z) :: .ref (ad k) :: rest)) := by
  subst hz
  have he : (zpic G ad X)[k]? = some (ad k, .inl (zci G, n, .inl (fun j => zi (X k j)))) := by rw [zpic_at hk, ha]
  refine va_iast hx hb hE.1 hP hD hS k 0 he rfl (zi_in (by omega) (by omega) (by omega)) hdg (fun H1 l1 hP1 hD1 hS1 => ?_)
  have h : (zi (j : Int)).toNatClampNeg = j := by rw [zi_nat (by omega) (by omega)]; rfl
  rw [h, s_a ha] at hP1 hD1
  exact kk H1 l1 hP1 hD1 hS1
/-- a RULE out of a wall's row -/
theorem zqld (hx : p.tables.exec = Jvm.exec) (hb : c.code = cc) (hE : zZ G A s s.heap) (hP : va_P G.1 vwCl (zpic G ad X) H) {a : Nat} (h : zIsW a) {z : Int} (j : Nat) (hz : z = (j : Int)) (hj : j < 8) (hdg : decode cc pc = .ok (.aaload, 1))
    (kk : W p l e R s m args below meth c H locs cells slots Q (F0 m (pc + 1) ls (.ref (ad (zr X a j)) :: rest))) : W p l e R s m args below meth c H locs cells slots Q (F0 m pc ls (.int (zi z) :: .ref (ad (a + 1)) :: rest)) := by
  subst hz
  refine va_aldq hx hb hE.1 hP (a + 1) 1 (p_q h) rfl (zi_in (by omega) (by omega) (by omega)) hdg ?_
  have h2 : (zi (j : Int)).toNatClampNeg = j := by rw [zi_nat (by omega) (by omega)]; rfl
  rw [h2]
  exact kk
theorem zqst (hx : p.tables.exec = Jvm.exec) (hb : c.code = cc) (hE : zZ G A s s.heap) (hP : va_P G.1 vwCl (zpic G ad X) H) (hD : va_D A (zpic G ad X)) (hS : va_S A s.heap H locs) {a : Nat} (h : zIsW a) {z : Int} (j : Nat) (hz : z = (j : Int)) (hj : j < 8) (t : Nat) (ht : t < 8) (hdg : decode cc pc = .ok (.aastore, 1))
    (kk : ∀ (H1 : Heap) (locs1 : List Loc), va_P G.1 vwCl (zpic G ad (zw X (a + 1) j (t : Int))) H1 → va_D A (zpic G ad (zw X (a + 1) j (t : Int))) → va_S A s.heap H1 locs1 → W p l e R s m args below meth c H1 locs1 cells slots Q (F0 m (pc + 1) ls rest)) : W p l e R s m args below meth c H locs cells slots Q (F0 m pc ls (.ref (ad (a + 2 + 3 * t)) :: .int (zi z) :: .ref (ad (a + 1)) :: rest)) := by
  subst hz
  refine va_astq hx hb hE.1 hP hD hS (a + 1) 1 (a + 2 + 3 * t) 3 (r := (RX3, TX3, 4)) (p_q h) rfl (p_r ⟨a, t, h, ht, rfl⟩) rfl (zi_in (by omega) (by omega) (by omega)) hdg (fun H1 l1 hP1 hD1 hS1 => ?_)
  have h2 : (zi (j : Int)).toNatClampNeg = j := by rw [zi_nat (by omega) (by omega)]; rfl
  rw [h2, s_q h] at hP1 hD1
  exact kk H1 l1 hP1 hD1 hS1
/-- SIZES, AMOUNTS -/
theorem zsz_ld (hx : p.tables.exec = Jvm.exec) (hb : c.code = cc) (hE : zZ G A s s.heap) (hS : va_S A s.heap H locs) {z : Int} (j : Nat) (hz : z = (j : Int)) (hj : j < 4) (hdg : decode cc pc = .ok (.iaload, 1))
    (kk : W p l e R s m args below meth c H locs cells slots Q (F0 m (pc + 1) ls (.int (zi (zS j)) :: rest))) : W p l e R s m args below meth c H locs cells slots Q (F0 m pc ls (.int (zi z) :: .ref (zsz G) :: rest)) := by
  subst hz
  have h : (zi (j : Int)).toNatClampNeg = j := by rw [zi_nat (by omega) (by omega)]; rfl
  exact va_ti (v := .int (zi (zS j))) hx hb hE.2.1.2 hS (zi_in (by omega) (by omega) (by omega)) (by rw [h]) hdg kk
theorem zam_ld (hx : p.tables.exec = Jvm.exec) (hb : c.code = cc) (hE : zZ G A s s.heap) (hS : va_S A s.heap H locs) {z : Int} (j : Nat) (hz : z = (j : Int)) (hj : j < 5) (hdg : decode cc pc = .ok (.iaload, 1))
    (kk : W p l e R s m args below meth c H locs cells slots Q (F0 m (pc + 1) ls (.int (zi (zM j)) :: rest))) : W p l e R s m args below meth c H locs cells slots Q (F0 m pc ls (.int (zi z) :: .ref (zam G) :: rest)) := by
  subst hz
  have h : (zi (j : Int)).toNatClampNeg = j := by rw [zi_nat (by omega) (by omega)]; rfl
  exact va_ti (v := .int (zi (zM j))) hx hb hE.2.2.1.2 hS (zi_in (by omega) (by omega) (by omega)) (by rw [h]) hdg kk
/-- an int into a field -/
theorem zput {X' : Nat → Nat → Int} (hexec : p.tables.exec = Jvm.exec) (hb : c.code = cc) {own ref C : String} {T : u_T} {N ci index : Nat} {Ts : List Cond} (hts : ∀ w ∈ Ts, w.before args s = true) (hin : ∀ w ∈ u_ws C T N, w ∈ Ts) (ty0 : Nat → FieldType) (hty : ∀ k, k < N → parseFieldDescriptor (T k).2.2.1 = some (ty0 k)) (hnm : ∀ a, a < N → ∀ b, b < N → a ≠ b → (T a).2.1 ≠ (T b).2.1) (hown : s.vm.findClass own = some m.cls) (hE : zZ G A s s.heap) (hP : va_P G.1 vwCl (zpic G ad X) H) (hD : va_D A (zpic G ad X)) (hS0 : va_S A s.heap H locs) (q0 : Nat) {fs : List Value} (he : (zpic G ad X)[q0]? = some (ad q0, .inr (ci, fs))) (hc : vwCl[ci]? = some (C, T, N)) (k : Nat) (hk : k < N) (hlink : (Cond.fieldLink own index ref (T k).2.1 (T k).2.2.1).before args s = true) (hsame : ∀ x, s.fieldFound? (T k).1 (T k).2.1 (T k).2.2.1 = some x → s.fieldFound? ref (T k).2.1 (T k).2.2.1 = some x) (hfin : (T k).2.2.2 = false) {ty : FieldType} {v : Value} (hd : parseFieldDescriptor (T k).2.2.1 = some ty) (hn : narrow ty v = v) (hfit : fits ty v = true) (hl : k < fs.length)
    (hset : (zpic G ad X).set q0 (ad q0, .inr (ci, fs.set k v)) = zpic G ad X') (hdg : decode cc pc = .ok (.putfield index, 3))
    (kk : ∀ (H1 : Heap) (locs1 : List Loc), va_P G.1 vwCl (zpic G ad X') H1 → va_D A (zpic G ad X') → va_S A s.heap H1 locs1 → W p l e R s m args below meth c H1 locs1 cells slots Q (F0 m (pc + 3) ls rest)) : W p l e R s m args below meth c H locs cells slots Q (F0 m pc ls (v :: .ref (ad q0) :: rest)) :=
  va_put hexec hb hts hin ty0 hty hnm hown hE.1 hP hD hS0 q0 he hc k hk hlink hsame hfin hd hn hfit hl hdg (fun H1 l1 hP1 hD1 hS1 => kk H1 l1 (hset ▸ hP1) (hset ▸ hD1) hS1)
/-- branches -/
theorem zc_lt (hx : p.tables.exec = Jvm.exec) (hb : c.code = cc) {x y : Int} {off : Int} {tgt : Nat} (hdg : decode cc pc = .ok (.if_icmp .lt off, 3)) (ht : (pc : Int) + off = (tgt : Int)) (rx : -2147483648 ≤ x ∧ x ≤ 2147483647) (ry : -2147483648 ≤ y ∧ y ≤ 2147483647)
    (kt : x < y → W p l e R s m args below meth c H locs cells slots Q (F0 m tgt ls rest)) (kf : y ≤ x → W p l e R s m args below meth c H locs cells slots Q (F0 m (pc + 3) ls rest)) : W p l e R s m args below meth c H locs cells slots Q (F0 m pc ls (.int (zi y) :: .int (zi x) :: rest)) :=
  lv_icmp_lt hx hb hdg ht (fun h => kt ((zi_lt rx ry).mp h)) (fun h => kf (Int.not_lt.mp (fun q => h ((zi_lt rx ry).mpr q))))
theorem zc_ge (hx : p.tables.exec = Jvm.exec) (hb : c.code = cc) {x y : Int} {off : Int} {tgt : Nat} (hdg : decode cc pc = .ok (.if_icmp .ge off, 3)) (ht : (pc : Int) + off = (tgt : Int)) (rx : -2147483648 ≤ x ∧ x ≤ 2147483647) (ry : -2147483648 ≤ y ∧ y ≤ 2147483647)
    (kt : y ≤ x → W p l e R s m args below meth c H locs cells slots Q (F0 m tgt ls rest)) (kf : x < y → W p l e R s m args below meth c H locs cells slots Q (F0 m (pc + 3) ls rest)) : W p l e R s m args below meth c H locs cells slots Q (F0 m pc ls (.int (zi y) :: .int (zi x) :: rest)) :=
  lv_icmp_ge hx hb hdg ht (fun h => kt ((zi_le ry rx).mp h)) (fun h => kf (Int.not_le.mp (fun q => h ((zi_le ry rx).mpr q))))
theorem zc_gt (hx : p.tables.exec = Jvm.exec) (hb : c.code = cc) {x y : Int} {off : Int} {tgt : Nat} (hdg : decode cc pc = .ok (.if_icmp .gt off, 3)) (ht : (pc : Int) + off = (tgt : Int)) (rx : -2147483648 ≤ x ∧ x ≤ 2147483647) (ry : -2147483648 ≤ y ∧ y ≤ 2147483647)
    (kt : y < x → W p l e R s m args below meth c H locs cells slots Q (F0 m tgt ls rest)) (kf : x ≤ y → W p l e R s m args below meth c H locs cells slots Q (F0 m (pc + 3) ls rest)) : W p l e R s m args below meth c H locs cells slots Q (F0 m pc ls (.int (zi y) :: .int (zi x) :: rest)) :=
  lv_icmp_gt hx hb hdg ht (fun h => kt ((zi_lt ry rx).mp h)) (fun h => kf (Int.not_lt.mp (fun q => h ((zi_lt ry rx).mpr q))))
theorem zc_le (hx : p.tables.exec = Jvm.exec) (hb : c.code = cc) {x y : Int} {off : Int} {tgt : Nat} (hdg : decode cc pc = .ok (.if_icmp .le off, 3)) (ht : (pc : Int) + off = (tgt : Int)) (rx : -2147483648 ≤ x ∧ x ≤ 2147483647) (ry : -2147483648 ≤ y ∧ y ≤ 2147483647)
    (kt : x ≤ y → W p l e R s m args below meth c H locs cells slots Q (F0 m tgt ls rest)) (kf : y < x → W p l e R s m args below meth c H locs cells slots Q (F0 m (pc + 3) ls rest)) : W p l e R s m args below meth c H locs cells slots Q (F0 m pc ls (.int (zi y) :: .int (zi x) :: rest)) :=
  lv_icmp_le hx hb hdg ht (fun h => kt ((zi_le rx ry).mp h)) (fun h => kf (Int.not_le.mp (fun q => h ((zi_le rx ry).mpr q))))
theorem zc_eq (hx : p.tables.exec = Jvm.exec) (hb : c.code = cc) {x y : Int} {off : Int} {tgt : Nat} (hdg : decode cc pc = .ok (.if_icmp .eq off, 3)) (ht : (pc : Int) + off = (tgt : Int)) (rx : -2147483648 ≤ x ∧ x ≤ 2147483647) (ry : -2147483648 ≤ y ∧ y ≤ 2147483647)
    (kt : x = y → W p l e R s m args below meth c H locs cells slots Q (F0 m tgt ls rest)) (kf : x ≠ y → W p l e R s m args below meth c H locs cells slots Q (F0 m (pc + 3) ls rest)) : W p l e R s m args below meth c H locs cells slots Q (F0 m pc ls (.int (zi y) :: .int (zi x) :: rest)) :=
  lv_icmp_eq hx hb hdg ht (fun h => kt ((zi_eq rx ry).mp h)) (fun h => kf (fun q => h ((zi_eq rx ry).mpr q)))
theorem zc_ne (hx : p.tables.exec = Jvm.exec) (hb : c.code = cc) {x y : Int} {off : Int} {tgt : Nat} (hdg : decode cc pc = .ok (.if_icmp .ne off, 3)) (ht : (pc : Int) + off = (tgt : Int)) (rx : -2147483648 ≤ x ∧ x ≤ 2147483647) (ry : -2147483648 ≤ y ∧ y ≤ 2147483647)
    (kt : x ≠ y → W p l e R s m args below meth c H locs cells slots Q (F0 m tgt ls rest)) (kf : x = y → W p l e R s m args below meth c H locs cells slots Q (F0 m (pc + 3) ls rest)) : W p l e R s m args below meth c H locs cells slots Q (F0 m pc ls (.int (zi y) :: .int (zi x) :: rest)) :=
  lv_icmp_ne hx hb hdg ht (fun h => kt (fun q => h ((zi_eq rx ry).mpr q))) (fun h => kf ((zi_eq rx ry).mp h))
theorem z0_lt (hx : p.tables.exec = Jvm.exec) (hb : c.code = cc) {x : Int} {off : Int} {tgt : Nat} (hdg : decode cc pc = .ok (.ifCond .lt off, 3)) (ht : (pc : Int) + off = (tgt : Int)) (rx : -2147483648 ≤ x ∧ x ≤ 2147483647)
    (kt : x < 0 → W p l e R s m args below meth c H locs cells slots Q (F0 m tgt ls rest)) (kf : 0 ≤ x → W p l e R s m args below meth c H locs cells slots Q (F0 m (pc + 3) ls rest)) : W p l e R s m args below meth c H locs cells slots Q (F0 m pc ls (.int (zi x) :: rest)) :=
  lv_if_lt hx hb hdg ht (fun h => kt ((zi_lt (b := 0) rx ⟨by omega, by omega⟩).mp h)) (fun h => kf (Int.not_lt.mp (fun q => h ((zi_lt (b := 0) rx ⟨by omega, by omega⟩).mpr q))))
theorem z0_ge (hx : p.tables.exec = Jvm.exec) (hb : c.code = cc) {x : Int} {off : Int} {tgt : Nat} (hdg : decode cc pc = .ok (.ifCond .ge off, 3)) (ht : (pc : Int) + off = (tgt : Int)) (rx : -2147483648 ≤ x ∧ x ≤ 2147483647)
    (kt : 0 ≤ x → W p l e R s m args below meth c H locs cells slots Q (F0 m tgt ls rest)) (kf : x < 0 → W p l e R s m args below meth c H locs cells slots Q (F0 m (pc + 3) ls rest)) : W p l e R s m args below meth c H locs cells slots Q (F0 m pc ls (.int (zi x) :: rest)) :=
  lv_if_ge hx hb hdg ht (fun h => kt ((zi_le (a := 0) ⟨by omega, by omega⟩ rx).mp h)) (fun h => kf (Int.not_le.mp (fun q => h ((zi_le (a := 0) ⟨by omega, by omega⟩ rx).mpr q))))
theorem z0_gt (hx : p.tables.exec = Jvm.exec) (hb : c.code = cc) {x : Int} {off : Int} {tgt : Nat} (hdg : decode cc pc = .ok (.ifCond .gt off, 3)) (ht : (pc : Int) + off = (tgt : Int)) (rx : -2147483648 ≤ x ∧ x ≤ 2147483647)
    (kt : 0 < x → W p l e R s m args below meth c H locs cells slots Q (F0 m tgt ls rest)) (kf : x ≤ 0 → W p l e R s m args below meth c H locs cells slots Q (F0 m (pc + 3) ls rest)) : W p l e R s m args below meth c H locs cells slots Q (F0 m pc ls (.int (zi x) :: rest)) :=
  lv_if_gt hx hb hdg ht (fun h => kt ((zi_lt (a := 0) ⟨by omega, by omega⟩ rx).mp h)) (fun h => kf (Int.not_lt.mp (fun q => h ((zi_lt (a := 0) ⟨by omega, by omega⟩ rx).mpr q))))
theorem z0_le (hx : p.tables.exec = Jvm.exec) (hb : c.code = cc) {x : Int} {off : Int} {tgt : Nat} (hdg : decode cc pc = .ok (.ifCond .le off, 3)) (ht : (pc : Int) + off = (tgt : Int)) (rx : -2147483648 ≤ x ∧ x ≤ 2147483647)
    (kt : x ≤ 0 → W p l e R s m args below meth c H locs cells slots Q (F0 m tgt ls rest)) (kf : 0 < x → W p l e R s m args below meth c H locs cells slots Q (F0 m (pc + 3) ls rest)) : W p l e R s m args below meth c H locs cells slots Q (F0 m pc ls (.int (zi x) :: rest)) :=
  lv_if_le hx hb hdg ht (fun h => kt ((zi_le (b := 0) rx ⟨by omega, by omega⟩).mp h)) (fun h => kf (Int.not_le.mp (fun q => h ((zi_le (b := 0) rx ⟨by omega, by omega⟩).mpr q))))
theorem z0_eq (hx : p.tables.exec = Jvm.exec) (hb : c.code = cc) {x : Int} {off : Int} {tgt : Nat} (hdg : decode cc pc = .ok (.ifCond .eq off, 3)) (ht : (pc : Int) + off = (tgt : Int)) (rx : -2147483648 ≤ x ∧ x ≤ 2147483647)
    (kt : x = 0 → W p l e R s m args below meth c H locs cells slots Q (F0 m tgt ls rest)) (kf : x ≠ 0 → W p l e R s m args below meth c H locs cells slots Q (F0 m (pc + 3) ls rest)) : W p l e R s m args below meth c H locs cells slots Q (F0 m pc ls (.int (zi x) :: rest)) :=
  lv_if_eq hx hb hdg ht (fun h => kt ((zi_eq (b := 0) rx ⟨by omega, by omega⟩).mp h)) (fun h => kf (fun q => h ((zi_eq (b := 0) rx ⟨by omega, by omega⟩).mpr q)))
theorem z0_ne (hx : p.tables.exec = Jvm.exec) (hb : c.code = cc) {x : Int} {off : Int} {tgt : Nat} (hdg : decode cc pc = .ok (.ifCond .ne off, 3)) (ht : (pc : Int) + off = (tgt : Int)) (rx : -2147483648 ≤ x ∧ x ≤ 2147483647)
    (kt : x ≠ 0 → W p l e R s m args below meth c H locs cells slots Q (F0 m tgt ls rest)) (kf : x = 0 → W p l e R s m args below meth c H locs cells slots Q (F0 m (pc + 3) ls rest)) : W p l e R s m args below meth c H locs cells slots Q (F0 m pc ls (.int (zi x) :: rest)) :=
  lv_if_ne hx hb hdg ht (fun h => kt (fun q => h ((zi_eq (b := 0) rx ⟨by omega, by omega⟩).mpr q))) (fun h => kf ((zi_eq (b := 0) rx ⟨by omega, by omega⟩).mp h))
/-- loops: a measure that falls -/
theorem zloop1 {α : Type} (mu : α → Nat) (Inv : α → Heap → List Loc → Array Slot → Prop) (step : ∀ a : α, (∀ b : α, mu b < mu a → ∀ (H : Heap) (locs : List Loc) (ls : Array Slot), Inv b H locs ls → W p l e R s m args below meth c H locs cells slots Q (F0 m pc ls st0)) → ∀ (H : Heap) (locs : List Loc) (ls : Array Slot), Inv a H locs ls → W p l e R s m args below meth c H locs cells slots Q (F0 m pc ls st0)) (a : α) (h : Inv a H locs ls) : W p l e R s m args below meth c H locs cells slots Q (F0 m pc ls st0) := by
  have key : ∀ (n : Nat) (a : α), mu a < n → ∀ (H : Heap) (locs : List Loc) (ls : Array Slot), Inv a H locs ls → W p l e R s m args below meth c H locs cells slots Q (F0 m pc ls st0) := by
    intro n
    induction n with
    | zero => intro a ha; omega
    | succ n ih => intro a ha H locs ls h; exact step a (fun b hb => ih b (by omega)) H locs ls h
  exact key _ a (Nat.lt_succ_self _) H locs ls h
theorem zloop2 {α β : Type} (mu : α → β → Nat) (Inv : α → β → Heap → List Loc → Array Slot → Prop) (step : ∀ (a : α) (b : β), (∀ (a' : α) (b' : β), mu a' b' < mu a b → ∀ (H : Heap) (locs : List Loc) (ls : Array Slot), Inv a' b' H locs ls → W p l e R s m args below meth c H locs cells slots Q (F0 m pc ls st0)) → ∀ (H : Heap) (locs : List Loc) (ls : Array Slot), Inv a b H locs ls → W p l e R s m args below meth c H locs cells slots Q (F0 m pc ls st0)) (a : α) (b : β) (h : Inv a b H locs ls) : W p l e R s m args below meth c H locs cells slots Q (F0 m pc ls st0) :=
  zloop1 (α := α × β) (fun q => mu q.1 q.2) (fun q => Inv q.1 q.2) (fun q ih H locs ls h => step q.1 q.2 (fun a' b' h' H locs ls hi => ih (a', b') h' H locs ls hi) H locs ls h) (a, b) h
theorem zloop3 {α β γ : Type} (mu : α → β → γ → Nat) (Inv : α → β → γ → Heap → List Loc → Array Slot → Prop) (step : ∀ (a : α) (b : β) (g : γ), (∀ (a' : α) (b' : β) (g' : γ), mu a' b' g' < mu a b g → ∀ (H : Heap) (locs : List Loc) (ls : Array Slot), Inv a' b' g' H locs ls → W p l e R s m args below meth c H locs cells slots Q (F0 m pc ls st0)) → ∀ (H : Heap) (locs : List Loc) (ls : Array Slot), Inv a b g H locs ls → W p l e R s m args below meth c H locs cells slots Q (F0 m pc ls st0)) (a : α) (b : β) (g : γ) (h : Inv a b g H locs ls) : W p l e R s m args below meth c H locs cells slots Q (F0 m pc ls st0) :=
  zloop1 (α := α × β × γ) (fun q => mu q.1 q.2.1 q.2.2) (fun q => Inv q.1 q.2.1 q.2.2) (fun q ih H locs ls h => step q.1 q.2.1 q.2.2 (fun a' b' g' h' H locs ls hi => ih (a', b', g') h' H locs ls hi) H locs ls h) (a, b, g) h
end ZRW
/-- answers: an int, nothing changed; an int, ints changed; nothing; a reference -/
def zq (G : zG) (ad : Nat → Nat) (X : Nat → Nat → Int) (P : Int → Prop) : Option Value → va_W → Prop := fun r w => ∃ v : Int, r = some (.int (zi v)) ∧ P v ∧ w = zpic G ad X
def zu (G : zG) (ad : Nat → Nat) (P : Int → (Nat → Nat → Int) → Prop) : Option Value → va_W → Prop := fun r w => ∃ (v : Int) (X' : Nat → Nat → Int), r = some (.int (zi v)) ∧ P v X' ∧ w = zpic G ad X'
def zv (G : zG) (ad : Nat → Nat) (P : (Nat → Nat → Int) → Prop) : Option Value → va_W → Prop := fun r w => ∃ X' : Nat → Nat → Int, r = none ∧ P X' ∧ w = zpic G ad X'
def za (G : zG) (ad : Nat → Nat) (k : Nat) (P : (Nat → Nat → Int) → Prop) : Option Value → va_W → Prop := fun r w => ∃ X' : Nat → Nat → Int, r = some (.ref (ad k)) ∧ P X' ∧ w = zpic G ad X'
