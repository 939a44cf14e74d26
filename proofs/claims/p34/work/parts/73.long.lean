/-! the law: longs, a loop that allocates -/
/-- a long, as the machine holds it -/
def zln (z : Int) : Int64 := Int64.ofInt z
theorem zln_add (a b : Int) : zln a + zln b = zln (a + b) := (Int64.ofInt_add a b).symm
theorem zln_sub (a b : Int) : zln a - zln b = zln (a - b) := (Int64.ofInt_sub a b).symm
theorem zln_toInt {a : Int} (h : -4611686018427387904 ≤ a ∧ a ≤ 4611686018427387904) : (zln a).toInt = a := Int64.toInt_ofInt_of_le (by show (-9223372036854775808 : Int) ≤ a; omega) (by show a < (9223372036854775808 : Int); omega)
theorem zi_l {d : Int} (h : -2147483648 ≤ d ∧ d ≤ 2147483647) : (zi d).toInt64 = zln d := by
  rw [← Int64.toInt_inj, Int32.toInt_toInt64, zi_toInt h, zln_toInt ⟨by omega, by omega⟩]
def zcmp (a b : Int) : Int := if b < a then 1 else if a = b then 0 else -1
theorem zln_cmp {a b : Int} (ha : -4611686018427387904 ≤ a ∧ a ≤ 4611686018427387904) (hb : -4611686018427387904 ≤ b ∧ b ≤ 4611686018427387904) : (if zln a > zln b then (1 : Int32) else if zln a == zln b then 0 else -1) = zi (zcmp a b) := by
  have e1 : (zln a > zln b) ↔ b < a := by
    show zln b < zln a ↔ _
    rw [Int64.lt_iff_toInt_lt, zln_toInt ha, zln_toInt hb]
  have e2 : (zln a == zln b) = decide (a = b) := by
    by_cases e : a = b
    · rw [e]; simp
    · have hne : zln a ≠ zln b := fun q => e (by rw [← zln_toInt ha, ← zln_toInt hb, q])
      simp [e, hne]
  unfold zcmp
  by_cases c1 : b < a
  · rw [if_pos (e1.mpr c1), if_pos c1]; rfl
  · rw [if_neg (fun q => c1 (e1.mp q)), if_neg c1, e2]
    by_cases c2 : a = b
    · rw [if_pos c2, if_pos (by simp [c2])]; rfl
    · rw [if_neg c2, if_neg (by simp [c2])]; rfl
theorem zln_self (x : Int64) : (if x > x then (1 : Int32) else if x == x then 0 else -1) = zi 0 := by
  rw [if_neg (by show ¬ x < x; rw [Int64.lt_iff_toInt_lt]; omega), if_pos (by simp)]; rfl
section ZLW
variable {p : Program} {l : Launch} {e : Env} {R0 : Room} {s : State} {m : MethodId} {args : Array Value} {below : List Frame} {meth : Method} {c : Code} {H : Heap} {locs : List Loc} {cells slots : Nat} {Q : State → Prop}
variable {cc : ByteArray} {pc : Nat} {ls : Array Slot} {rest st0 : List Value} {G : zG} {A : Nat → Prop}
theorem lv_lcmp (hexec : p.tables.exec = Jvm.exec) (hb : c.code = cc) {x y : Int64} (hdg : decode cc pc = .ok (.lcmp, 1))
    (k : W p l e R0 s m args below meth c H locs cells slots Q (F0 m (pc + 1) ls (.int (if x > y then 1 else if x == y then 0 else -1) :: rest))) : W p l e R0 s m args below meth c H locs cells slots Q (F0 m pc ls (.long y :: .long x :: rest)) := by
  intro T hT X
  obtain ⟨t, a, b⟩ := k T hT X
  refine ⟨t, ?_, b⟩
  jvm_step X.here [X.here.top, hexec, hb, hdg]
  by_cases c1 : y < x
  · rw [if_pos c1]
    rw [show (if x > y then (1 : Int32) else if x == y then 0 else -1) = 1 from if_pos c1] at a
    exact a
  · rw [if_neg c1]
    rw [show (if x > y then (1 : Int32) else if x == y then 0 else -1) = if x == y then 0 else -1 from if_neg c1] at a
    by_cases c2 : x = y
    · rw [if_pos c2]
      rw [show (if x == y then (0 : Int32) else -1) = 0 from if_pos (by simp [c2])] at a
      exact a
    · rw [if_neg c2]
      rw [show (if x == y then (0 : Int32) else -1) = -1 from if_neg (by simp [c2])] at a
      exact a
/-- a loop whose rounds make cells: how many there are may grow -/
theorem zloopC {α : Type} (mu : α → Nat) (Inv : α → Heap → List Loc → Array Slot → Nat → Nat → Prop) (step : ∀ a : α, (∀ b : α, mu b < mu a → ∀ (H : Heap) (locs : List Loc) (ls : Array Slot) (cells slots : Nat), Inv b H locs ls cells slots → W p l e R0 s m args below meth c H locs cells slots Q (F0 m pc ls st0)) → ∀ (H : Heap) (locs : List Loc) (ls : Array Slot) (cells slots : Nat), Inv a H locs ls cells slots → W p l e R0 s m args below meth c H locs cells slots Q (F0 m pc ls st0)) (a : α) (h : Inv a H locs ls cells slots) : W p l e R0 s m args below meth c H locs cells slots Q (F0 m pc ls st0) := by
  have key : ∀ (n : Nat) (a : α), mu a < n → ∀ (H : Heap) (locs : List Loc) (ls : Array Slot) (cells slots : Nat), Inv a H locs ls cells slots → W p l e R0 s m args below meth c H locs cells slots Q (F0 m pc ls st0) := by
    intro n
    induction n with
    | zero => intro a h9; omega
    | succ n ih => intro a h9; exact step a (fun b hb9 => ih b (by omega))
  exact key (mu a + 1) a (by omega) H locs ls cells slots h
end ZLW
