/-! ===== how many PACKETS meet just these RULES ===== -/
/-- the size of a FIELD -/
def zSn (f : Nat) : Nat := (zS f).toNat
theorem zSn_eq (f : Nat) : ((zSn f : Nat) : Int) = zS f := by
  have h := zS_le f
  unfold zSn
  omega
def zBx (X : Nat → Nat → Int) (r a b c d : Nat) : Bool := zIv (X (r + 1) 0) (X (r + 2) 0) a && zIv (X (r + 1) 1) (X (r + 2) 1) b && zIv (X (r + 1) 2) (X (r + 2) 2) c && zIv (X (r + 1) 3) (X (r + 2) 3) d
/-- the RULES that a PACKET meets -/
def zMs (X : Nat → Nat → Int) (a b c d : Nat) : Nat := zSet (zN X 0) (fun i => zBx X (zr X 0 i) a b c d)
theorem zMs_bit (X : Nat → Nat → Int) (a b c d i : Nat) : (zMs X a b c d).testBit i = (decide (i < zN X 0) && zBx X (zr X 0 i) a b c d) := zSet_bit _ _ _
theorem zMs_lt (X : Nat → Nat → Int) (a b c d : Nat) : zMs X a b c d < 2 ^ zN X 0 := zSet_lt _ _
def zmu (X : Nat → Nat → Int) (p : Nat → Bool) : Int := ((zct zSn (fun a b c d => p (zMs X a b c d)) : Nat) : Int)
section ZMU
variable {X : Nat → Nat → Int}
theorem zmu_nn (p : Nat → Bool) : 0 ≤ zmu X p := Int.natCast_nonneg _
theorem zmu_add (p q : Nat → Bool) : zmu X p = zmu X (fun m => p m && q m) + zmu X (fun m => p m && !q m) := by
  unfold zmu
  rw [zct_add (fun a b c d => p (zMs X a b c d)) (fun a b c d => q (zMs X a b c d)), Int.natCast_add]
theorem zmu_congr {p q : Nat → Bool} (h : ∀ m : Nat, m < 2 ^ zN X 0 → p m = q m) : zmu X p = zmu X q := by
  unfold zmu
  exact congrArg _ (zct_congr fun a b c d _ _ _ _ => h _ (zMs_lt X a b c d))
theorem zmu_none {p : Nat → Bool} (h : ∀ m : Nat, m < 2 ^ zN X 0 → p m = false) : zmu X p = 0 := by
  rw [zmu_congr (q := fun _ => false) h]
  unfold zmu
  rw [zct_false]
  rfl
theorem zmu_le {p q : Nat → Bool} (h : ∀ m : Nat, m < 2 ^ zN X 0 → p m = true → q m = true) : zmu X p ≤ zmu X q := by
  have h1 := zmu_add (X := X) q p
  have h2 : zmu X (fun m => q m && p m) = zmu X p := zmu_congr fun m hm => by
    cases hp : p m
    · rw [Bool.and_false]
    · rw [h m hm hp]; rfl
  have h3 := zmu_nn (X := X) (fun m => q m && !p m)
  omega
/-- where p is said by intervals of the FIELDS -/
theorem zmu_box {p : Nat → Bool} (L U : Nat → Int) (hb : ∀ g : Nat, g < 4 → 0 ≤ L g ∧ U g < zS g) (h : ∀ a b c d : Nat, a < zSn 0 → b < zSn 1 → c < zSn 2 → d < zSn 3 → p (zMs X a b c d) = (zIv (L 0) (U 0) a && zIv (L 1) (U 1) b && zIv (L 2) (U 2) c && zIv (L 3) (U 3) d)) :
    zmu X p = max 0 (U 0 - L 0 + 1) * max 0 (U 1 - L 1 + 1) * max 0 (U 2 - L 2 + 1) * max 0 (U 3 - L 3 + 1) := by
  unfold zmu
  rw [zct_congr h]
  have e : ∀ g : Nat, g < 4 → 0 ≤ L g ∧ U g < ((zSn g : Nat) : Int) := fun g hg => by rw [zSn_eq]; exact hb g hg
  exact zct_ivs (e 0 (by omega)) (e 1 (by omega)) (e 2 (by omega)) (e 3 (by omega))
theorem zmu_all : zmu X (fun _ => true) = 268435456 := by
  have h := zmu_box (X := X) (p := fun _ => true) (fun _ => 0) (fun g => zS g - 1) (fun g _ => ⟨Int.le_refl 0, by omega⟩) (fun a b c d ha hb hc hd => by
    have e0 := zSn_eq 0
    have e1 := zSn_eq 1
    have e2 := zSn_eq 2
    have e3 := zSn_eq 3
    rw [zIv_iff.mpr ⟨by omega, by omega⟩, zIv_iff.mpr ⟨by omega, by omega⟩, zIv_iff.mpr ⟨by omega, by omega⟩, zIv_iff.mpr ⟨by omega, by omega⟩]
    rfl)
  rw [h]
  decide
theorem zmu_le_all (p : Nat → Bool) : zmu X p ≤ 268435456 := by
  rw [← zmu_all (X := X)]
  exact zmu_le fun _ _ _ => rfl
theorem zmu_bit (hV : zV X) {i : Nat} (hi : i < zN X 0) : zmu X (fun m => m.testBit i) = zAW X (zr X 0 i) (zr X 0 i) := by
  have hn := hV.n (Or.inl rfl : zIsW 0)
  have hR := hV.isR (Or.inl rfl : zIsW 0) (show i < 8 by omega)
  rw [zmu_box (fun g => X (zr X 0 i + 1) g) (fun g => X (zr X 0 i + 2) g) (fun g hg => by have := hV.rf hR hg; omega) (fun a b c d _ _ _ _ => by
    rw [zMs_bit, decide_eq_true hi, Bool.true_and]
    rfl)]
  unfold zAW zW1
  rw [Int.min_self, Int.min_self, Int.min_self, Int.min_self, Int.max_self, Int.max_self, Int.max_self, Int.max_self, Int.one_mul]
end ZMU
