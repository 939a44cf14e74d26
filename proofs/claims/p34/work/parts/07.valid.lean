/-! ===== what holds of the memory between calls: RULES and walls ===== -/
theorem zi_max {a b : Int} (ra : -2147483648 ≤ a ∧ a ≤ 2147483647) (rb : -2147483648 ≤ b ∧ b ≤ 2147483647) : (if zi a < zi b then zi b else zi a) = zi (max a b) := by
  by_cases h : a < b
  · rw [if_pos ((zi_lt ra rb).mpr h), Int.max_eq_right (by omega)]
  · rw [if_neg (fun q => h ((zi_lt ra rb).mp q)), Int.max_eq_left (by omega)]
theorem zi_min {a b : Int} (ra : -2147483648 ≤ a ∧ a ≤ 2147483647) (rb : -2147483648 ≤ b ∧ b ≤ 2147483647) : (if zi b < zi a then zi b else zi a) = zi (min a b) := by
  by_cases h : b < a
  · rw [if_pos ((zi_lt rb ra).mpr h), Int.min_eq_right (by omega)]
  · rw [if_neg (fun q => h ((zi_lt rb ra).mp q)), Int.min_eq_left (by omega)]
def zabs (a : Int) : Int := if 0 ≤ a then a else 0 - a
theorem zi_abs {a : Int} (ra : -2147483648 ≤ a ∧ a ≤ 2147483647) : (if 0 ≤ zi a then zi a else 0 - zi a) = zi (zabs a) := by
  have h0 : (0 : Int32) = zi 0 := rfl
  unfold zabs
  by_cases h : 0 ≤ a
  · rw [if_pos h, h0, if_pos ((zi_le ⟨by omega, by omega⟩ ra).mpr h)]
  · rw [if_neg h, h0, if_neg (fun q => h ((zi_le ⟨by omega, by omega⟩ ra).mp q)), zi_sub]
def zRok (X : Nat → Nat → Int) (r : Nat) : Prop := (0 ≤ X r 0 ∧ X r 0 ≤ 2) ∧ X r 1 = 0 ∧ ∀ f : Nat, f < 4 → 0 ≤ X (r + 1) f ∧ X (r + 1) f ≤ X (r + 2) f ∧ X (r + 2) f < zS f
def zWok (X : Nat → Nat → Int) (a : Nat) : Prop := (0 ≤ X a 1 ∧ X a 1 ≤ 8) ∧ (X a 2 = 0 ∨ X a 2 = 1) ∧ (∀ i : Nat, i < 8 → 0 ≤ X (a + 1) i ∧ X (a + 1) i < 8) ∧ (∀ i j : Nat, i < 8 → j < 8 → X (a + 1) i = X (a + 1) j → i = j) ∧ ∀ s : Nat, s < 8 → zRok X (a + 2 + 3 * s)
def zV (X : Nat → Nat → Int) : Prop := zWok X 0 ∧ zWok X 26
theorem zV.wok {X : Nat → Nat → Int} (h : zV X) {a : Nat} (ha : zIsW a) : zWok X a := by
  rcases ha with rfl | rfl
  · exact h.1
  · exact h.2
theorem zV.slot {X : Nat → Nat → Int} (h : zV X) {a i : Nat} (ha : zIsW a) (hi : i < 8) : (X (a + 1) i).toNat < 8 := by
  have := (h.wok ha).2.2.1 i hi
  omega
theorem zV.isR {X : Nat → Nat → Int} (h : zV X) {a i : Nat} (ha : zIsW a) (hi : i < 8) : zIsR (zr X a i) := ⟨a, _, ha, h.slot ha hi, rfl⟩
theorem zV.rok {X : Nat → Nat → Int} (h : zV X) {r : Nat} (hr : zIsR r) : zRok X r := by
  obtain ⟨a, s, ha, hs, rfl⟩ := hr
  exact (h.wok ha).2.2.2.2 s hs
theorem zS_le (f : Nat) : 4 ≤ zS f ∧ zS f ≤ 1024 := by
  unfold zS
  split <;> omega
/-- bounds with written numbers -/
theorem zV.r4 {X : Nat → Nat → Int} (h : zV X) {r : Nat} (hr : zIsR r) : (0 ≤ X r 0 ∧ X r 0 ≤ 2 ∧ X r 1 = 0) ∧ (0 ≤ X (r + 1) 0 ∧ X (r + 1) 0 ≤ X (r + 2) 0 ∧ X (r + 2) 0 < 256) ∧ (0 ≤ X (r + 1) 1 ∧ X (r + 1) 1 ≤ X (r + 2) 1 ∧ X (r + 2) 1 < 256) ∧ (0 ≤ X (r + 1) 2 ∧ X (r + 1) 2 ≤ X (r + 2) 2 ∧ X (r + 2) 2 < 1024) ∧ (0 ≤ X (r + 1) 3 ∧ X (r + 1) 3 ≤ X (r + 2) 3 ∧ X (r + 2) 3 < 4) := by
  obtain ⟨h1, h2, h3⟩ := h.rok hr
  exact ⟨⟨h1.1, h1.2, h2⟩, h3 0 (by omega), h3 1 (by omega), h3 2 (by omega), h3 3 (by omega)⟩
theorem zV.rf {X : Nat → Nat → Int} (h : zV X) {r f : Nat} (hr : zIsR r) (hf : f < 4) : 0 ≤ X (r + 1) f ∧ X (r + 1) f ≤ X (r + 2) f ∧ X (r + 2) f < zS f ∧ zS f ≤ 1024 := by
  have h1 := (h.rok hr).2.2 f hf
  have h2 := zS_le f
  omega
/-- a RULE is whole from a FIELD on; a PACKET (the row 70) meets it; it covers another -/
def zWhole (X : Nat → Nat → Int) (r f : Nat) : Prop := ∀ g : Nat, f ≤ g → g < 4 → X (r + 1) g = 0 ∧ X (r + 2) g = zS g - 1
def zMeets (X : Nat → Nat → Int) (r : Nat) : Prop := ∀ g : Nat, g < 4 → X (r + 1) g ≤ X 70 g ∧ X 70 g ≤ X (r + 2) g
def zCov (X : Nat → Nat → Int) (r q : Nat) : Prop := ∀ g : Nat, g < 4 → X (r + 1) g ≤ X (q + 1) g ∧ X (q + 2) g ≤ X (r + 2) g
def zW1 (X : Nat → Nat → Int) (r q g : Nat) : Int := max 0 (min (X (r + 2) g) (X (q + 2) g) - max (X (r + 1) g) (X (q + 1) g) + 1)
def zAW (X : Nat → Nat → Int) (r q : Nat) : Int := 1 * zW1 X r q 0 * zW1 X r q 1 * zW1 X r q 2 * zW1 X r q 3
/-- a PACKET in the row 70; RULES against each other -/
def zPk (X : Nat → Nat → Int) : Prop := ∀ g : Nat, g < 4 → 0 ≤ X 70 g ∧ X 70 g < zS g
def zAg (X : Nat → Nat → Int) (r q : Nat) : Prop := X r 0 ≠ 2 ∧ X q 0 ≠ 2 ∧ X r 0 ≠ X q 0 ∧ 0 < zAW X r q
theorem zW1_bd {X : Nat → Nat → Int} (h : zV X) {r q f : Nat} (hr : zIsR r) (hq : zIsR q) (hf : f < 4) : 0 ≤ zW1 X r q f ∧ zW1 X r q f ≤ zS f := by
  have h1 := h.rf hr hf
  have h2 := h.rf hq hf
  unfold zW1
  omega
theorem zAW_bd {X : Nat → Nat → Int} (h : zV X) {r q : Nat} (hr : zIsR r) (hq : zIsR q) : 0 ≤ zAW X r q ∧ zAW X r q ≤ 268435456 := by
  have a0 := zW1_bd h hr hq (show 0 < 4 by omega)
  have a1 := zW1_bd h hr hq (show 1 < 4 by omega)
  have a2 := zW1_bd h hr hq (show 2 < 4 by omega)
  have a3 := zW1_bd h hr hq (show 3 < 4 by omega)
  unfold zAW
  generalize zW1 X r q 0 = a at *
  generalize zW1 X r q 1 = b at *
  generalize zW1 X r q 2 = c at *
  generalize zW1 X r q 3 = d at *
  simp only [zS] at a0 a1 a2 a3
  have b1 : 0 ≤ a * b := Int.mul_nonneg a0.1 a1.1
  have b2 : a * b ≤ 256 * 256 := Int.mul_le_mul a0.2 a1.2 a1.1 (by omega)
  have c1 : 0 ≤ a * b * c := Int.mul_nonneg b1 a2.1
  have c2 : a * b * c ≤ 256 * 256 * 1024 := Int.mul_le_mul b2 a2.2 a2.1 (by omega)
  have d1 : 0 ≤ a * b * c * d := Int.mul_nonneg c1 a3.1
  have d2 : a * b * c * d ≤ 256 * 256 * 1024 * 4 := Int.mul_le_mul c2 a3.2 a3.1 (by omega)
  rw [Int.one_mul]
  omega
