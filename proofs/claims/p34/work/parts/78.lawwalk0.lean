/-! the way of a PACKET -/
theorem zWe.pt {X Y : Nat → Nat → Int} (h : zWe X Y) (hV : zV X) (pk : Nat → Int) (g : Nat) : zPt Y pk g = zPt X pk g := by
  induction g with
  | zero => exact h.dec hV (Or.inl rfl : zIsW 0)
  | succ g ih =>
    show zPt Y pk g &&& zHav Y 0 g (pk g) = zPt X pk g &&& zHav X 0 g (pk g)
    rw [ih, h.hav hV (Or.inl rfl : zIsW 0)]
/-- where a PACKET is on its way -/
def zWk (X : Nat → Nat → Int) (pk : Nat → Int) (aa : Int) (t : Nat) : Prop := t ≤ 4 ∧ (0 ≤ aa → aa < X 61 5 ∧ zFo X aa.toNat = t ∧ zSo X aa.toNat = zPt X pk t ∧ ¬ zLf X t (zPt X pk t)) ∧ (aa < 0 → -10 < aa ∧ zLf X t (zPt X pk t) ∧ zIsF (zN X 0) (zPt X pk t) (-2 - aa)) ∧ ∀ g : Nat, g < t → ¬ zLf X g (zPt X pk g)
theorem zWk_0 {X : Nat → Nat → Int} (hV : zV X) (hT : zTf X) (h : 0 < X 61 5) (pk : Nat → Int) : zWk X pk 0 0 := by
  have hr := zroot hV hT h
  have hl : ¬ zLf X 0 (zDec X 0) := by
    rcases hT.2.2.2.2 with ⟨-, h2⟩ | ⟨h1, -⟩
    · omega
    · exact h1
  exact ⟨by omega, fun _ => ⟨h, hr.1, hr.2, hl⟩, fun q => by omega, fun g hg => by omega⟩
theorem zWk_step {X : Nat → Nat → Int} {pk : Nat → Int} (hV : zV X) (hT : zTf X) {ka t i : Nat} {v : Int} (h : zWk X pk (ka : Int) t) (hi : i < zNp X ka) (hp : 0 ≤ pk t ∧ pk t < zS t) (h1 : pk t ≤ zPf X ka i 1) (h0 : zEn X ka i ≤ pk t) (hv : v = zPf X ka i 2) : zWk X pk v (t + 1) := by
  obtain ⟨a1, a2, a3, a4⟩ := h
  obtain ⟨b1, b2, b3, b4⟩ := a2 (by omega)
  rw [Int.toNat_natCast] at b2 b3
  have hnd := hT.2.2.2.node b1
  have hld := zPt_step hV hT b1 hi b2 b3 hp h1 h0
  rw [← hv] at hld
  have hno : ∀ g : Nat, g < t + 1 → ¬ zLf X g (zPt X pk g) := fun g hg => by
    by_cases c : g < t
    · exact a4 g c
    · rw [show g = t by omega]; exact b4
  refine ⟨by omega, fun q => ?_, fun q => ?_, hno⟩
  · have hf := hld.facts hV hT (by omega) (zPt_lt hV pk (t + 1))
    rcases hld with ⟨-, -, -, z⟩ | ⟨z, -⟩
    · omega
    · exact ⟨hf.1, (hf.2.2 q).2.1, (hf.2.2 q).2.2, z⟩
  · rcases hld with ⟨z1, z2, z3, -⟩ | ⟨-, z, -⟩
    · exact ⟨z3, z1, z2⟩
    · omega
