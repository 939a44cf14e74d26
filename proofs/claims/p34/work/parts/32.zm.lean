/-! ===== sets of PACKETS by what a set of RULES says; sums over sets ===== -/
noncomputable def zB (P : Prop) : Bool := @decide P (Classical.propDecidable P)
theorem zB_iff {P : Prop} : zB P = true ↔ P := by unfold zB; exact @decide_eq_true_iff P (Classical.propDecidable P)
theorem zB_no {P : Prop} : zB P = false ↔ ¬ P := by unfold zB; exact @decide_eq_false_iff_not P (Classical.propDecidable P)
theorem zB_congr {P Q : Prop} (h : P ↔ Q) : zB P = zB Q := by rw [propext h]
theorem zB_and (P Q : Prop) : (zB P && zB Q) = zB (P ∧ Q) := by
  rw [Bool.eq_iff_iff, Bool.and_eq_true, zB_iff, zB_iff, zB_iff]
theorem zB_not (P : Prop) : (!zB P) = zB (¬ P) := by
  rw [Bool.eq_iff_iff, Bool.not_eq_true', zB_no, zB_iff]
theorem zadd2 {a b c d : Int} (h1 : a = c) (h2 : b = d) : a + b = c + d := by rw [h1, h2]
/-- how many PACKETS meet a set of RULES that P holds of -/
noncomputable def zm (X : Nat → Nat → Int) (P : Nat → Prop) : Int := zmu X (fun m => zB (P m))
section ZMM
variable {X : Nat → Nat → Int} {P Q : Nat → Prop}
theorem zm_nn : 0 ≤ zm X P := zmu_nn _
theorem zm_top : zm X P ≤ 268435456 := zmu_le_all _
theorem zm_congr (h : ∀ m : Nat, m < 2 ^ zN X 0 → (P m ↔ Q m)) : zm X P = zm X Q := zmu_congr fun m hm => zB_congr (h m hm)
theorem zm_add (P Q : Nat → Prop) : zm X P = zm X (fun m => P m ∧ Q m) + zm X (fun m => P m ∧ ¬ Q m) := by
  unfold zm
  rw [zmu_add (X := X) (fun m => zB (P m)) (fun m => zB (Q m))]
  refine zadd2 ?_ ?_
  · exact zmu_congr fun m _ => zB_and _ _
  · exact zmu_congr fun m _ => by rw [zB_not, zB_and]
theorem zm_none (h : ∀ m : Nat, m < 2 ^ zN X 0 → ¬ P m) : zm X P = 0 := zmu_none fun m hm => zB_no.mpr (h m hm)
theorem zm_le (h : ∀ m : Nat, m < 2 ^ zN X 0 → P m → Q m) : zm X P ≤ zm X Q := zmu_le fun m hm hp => zB_iff.mpr (h m hm (zB_iff.mp hp))
theorem zm_all : zm X (fun _ => True) = 268435456 := by
  rw [← zmu_all (X := X)]
  exact zmu_congr fun m _ => zB_iff.mpr trivial
theorem zm_not : zm X (fun m => ¬ P m) = 268435456 - zm X P := by
  have h := zm_add (X := X) (fun _ => True) P
  rw [zm_all, zm_congr (X := X) (P := fun m => True ∧ P m) (Q := P) (fun m _ => ⟨fun q => q.2, fun q => ⟨trivial, q⟩⟩), zm_congr (X := X) (P := fun m => True ∧ ¬ P m) (Q := fun m => ¬ P m) (fun m _ => ⟨fun q => q.2, fun q => ⟨trivial, q⟩⟩)] at h
  omega
theorem zm_or (h : ∀ m : Nat, m < 2 ^ zN X 0 → ¬ (P m ∧ Q m)) : zm X (fun m => P m ∨ Q m) = zm X P + zm X Q := by
  rw [zm_add (X := X) (fun m => P m ∨ Q m) P]
  refine zadd2 ?_ ?_
  · exact zm_congr fun m _ => ⟨fun q => q.2, fun q => ⟨Or.inl q, q⟩⟩
  · exact zm_congr fun m hm => ⟨fun q => q.1.elim (fun z => absurd z q.2) id, fun q => ⟨Or.inr q, fun z => h m hm ⟨z, q⟩⟩⟩
/-- the parts of nothing are nothing -/
theorem zm_zero (h : zm X Q = 0) (hi : ∀ m : Nat, m < 2 ^ zN X 0 → P m → Q m) : zm X P = 0 := by
  have h1 := zm_le (X := X) hi
  have h2 := zm_nn (X := X) (P := P)
  omega
/-- sums over sets, one by one -/
theorem zm_yes {k : Nat} (hk : P k) : zm X (fun m => m < k + 1 ∧ P m) = zm X (fun m => m < k ∧ P m) + zm X (fun m => m = k) := by
  rw [zm_add (X := X) (fun m => m < k + 1 ∧ P m) (fun m => m < k)]
  refine zadd2 ?_ ?_
  · exact zm_congr fun m _ => ⟨fun q => ⟨q.2, q.1.2⟩, fun q => ⟨⟨by omega, q.2⟩, q.1⟩⟩
  · exact zm_congr fun m _ => ⟨fun q => by omega, fun q => ⟨⟨by omega, by rw [q]; exact hk⟩, by omega⟩⟩
theorem zm_no {k : Nat} (hk : ¬ P k) : zm X (fun m => m < k + 1 ∧ P m) = zm X (fun m => m < k ∧ P m) := by
  refine zm_congr fun m _ => ⟨fun q => ⟨?_, q.2⟩, fun q => ⟨by omega, q.2⟩⟩
  by_cases h : m = k
  · exact absurd (h ▸ q.2) hk
  · omega
theorem zm_start : zm X (fun m => m < 0 ∧ P m) = 0 := zm_none fun m _ q => by omega
theorem zm_full : zm X (fun m => m < 2 ^ zN X 0 ∧ P m) = zm X P := zm_congr fun m hm => ⟨fun q => q.2, fun q => ⟨hm, q⟩⟩
end ZMM
/-! a memory with the same walls -/
theorem zN_eq {X Y : Nat → Nat → Int} {a : Nat} (h : Y a = X a) : zN Y a = zN X a := by unfold zN; rw [h]
theorem zr_eq {X Y : Nat → Nat → Int} {a i : Nat} (h : Y (a + 1) = X (a + 1)) : zr Y a i = zr X a i := by unfold zr; rw [h]
theorem zBx_eq {X Y : Nat → Nat → Int} {r a b c d : Nat} (h1 : Y (r + 1) = X (r + 1)) (h2 : Y (r + 2) = X (r + 2)) : zBx Y r a b c d = zBx X r a b c d := by unfold zBx; rw [h1, h2]
theorem zSet_congr {n : Nat} {p q : Nat → Bool} (h : ∀ i : Nat, i < n → p i = q i) : zSet n p = zSet n q := by
  apply Nat.eq_of_testBit_eq
  intro i
  rw [zSet_bit, zSet_bit]
  by_cases hi : i < n
  · rw [h i hi]
  · rw [decide_eq_false hi, Bool.false_and, Bool.false_and]
theorem zr_lt {X : Nat → Nat → Int} (hV : zV X) {a i : Nat} (ha : zIsW a) (hi : i < 8) : zr X a i + 2 < a + 26 := by
  have h := hV.slot ha hi
  unfold zr
  omega
/-- the walls' cells are the same -/
def zWe (X Y : Nat → Nat → Int) : Prop := ∀ k : Nat, k < 52 → Y k = X k
theorem zWe.rf (X : Nat → Nat → Int) : zWe X X := fun _ _ => rfl
theorem zWe.trans {X Y Z : Nat → Nat → Int} (h : zWe X Y) (h2 : zWe Y Z) : zWe X Z := fun k hk => (h2 k hk).trans (h k hk)
theorem zWe.symm {X Y : Nat → Nat → Int} (h : zWe X Y) : zWe Y X := fun k hk => (h k hk).symm
theorem zWe.v {X Y : Nat → Nat → Int} (h : zWe X Y) (hV : zV X) : zV Y := hV.eq h
section ZWE
variable {X Y : Nat → Nat → Int}
theorem zWe.n (h : zWe X Y) {a : Nat} (ha : zIsW a) : zN Y a = zN X a := zN_eq (h a (by rcases ha with rfl | rfl <;> omega))
theorem zWe.r (h : zWe X Y) {a : Nat} (ha : zIsW a) (i : Nat) : zr Y a i = zr X a i := zr_eq (h (a + 1) (by rcases ha with rfl | rfl <;> omega))
theorem zWe.cell (h : zWe X Y) (hV : zV X) {a i : Nat} (ha : zIsW a) (hi : i < 8) : Y (zr X a i) = X (zr X a i) ∧ Y (zr X a i + 1) = X (zr X a i + 1) ∧ Y (zr X a i + 2) = X (zr X a i + 2) := by
  have h1 := zr_lt hV ha hi
  have h2 : zr X a i + 2 < 52 := by rcases ha with rfl | rfl <;> omega
  exact ⟨h _ (by omega), h _ (by omega), h _ (by omega)⟩
theorem zWe.ms (h : zWe X Y) (hV : zV X) (a b c d : Nat) : zMs Y a b c d = zMs X a b c d := by
  have h0 : zIsW 0 := Or.inl rfl
  unfold zMs
  rw [h.n h0]
  refine zSet_congr fun i hi => ?_
  have hn := hV.n h0
  have hc := h.cell hV h0 (show i < 8 by omega)
  rw [h.r h0]
  exact zBx_eq hc.2.1 hc.2.2
theorem zWe.mu (h : zWe X Y) (hV : zV X) (p : Nat → Bool) : zmu Y p = zmu X p := by
  unfold zmu
  exact congrArg _ (zct_congr fun a b c d _ _ _ _ => by rw [h.ms hV])
theorem zWe.m (h : zWe X Y) (hV : zV X) (P : Nat → Prop) : zm Y P = zm X P := h.mu hV _
theorem zWe.dec (h : zWe X Y) (hV : zV X) {a : Nat} (ha : zIsW a) : zDec Y a = zDec X a := by
  unfold zDec
  rw [h.n ha]
  refine zSet_congr fun i hi => ?_
  have hn := hV.n ha
  unfold zPd
  rw [h.r ha, (h.cell hV ha (show i < 8 by omega)).1]
theorem zWe.hav (h : zWe X Y) (hV : zV X) {a : Nat} (ha : zIsW a) (f : Nat) (v : Int) : zHav Y a f v = zHav X a f v := by
  unfold zHav
  rw [h.n ha]
  refine zSet_congr fun i hi => ?_
  have hn := hV.n ha
  have hc := h.cell hV ha (show i < 8 by omega)
  unfold zPh zHasB
  rw [h.r ha, hc.2.1, hc.2.2]
theorem zWe.al (h : zWe X Y) (hV : zV X) {a : Nat} (ha : zIsW a) (u : Nat) : zAl Y a u ↔ zAl X a u := by
  have h0 : Y a = X a := h a (by rcases ha with rfl | rfl <;> omega)
  have hn := hV.n ha
  unfold zAl
  rw [h.n ha, h0]
  constructor
  · rintro (⟨k, hk, e⟩ | e)
    · have hk8 : k < 8 := by have := hk.1; omega
      rw [h.r ha, (h.cell hV ha hk8).1] at e
      exact Or.inl ⟨k, hk, e⟩
    · exact Or.inr e
  · rintro (⟨k, hk, e⟩ | e)
    · have hk8 : k < 8 := by have := hk.1; omega
      refine Or.inl ⟨k, hk, ?_⟩
      rw [h.r ha, (h.cell hV ha hk8).1]
      exact e
    · exact Or.inr e
theorem zWe.se (h : zWe X Y) (hV : zV X) {a : Nat} (ha : zIsW a) (f u : Nat) : zSe Y a f u ↔ zSe X a f u := by
  have hn := hV.n ha
  have key : ∀ k : Nat, k < 8 → (zWhole Y (zr Y a k) f ↔ zWhole X (zr X a k) f) := by
    intro k hk
    have hc := h.cell hV ha hk
    unfold zWhole
    rw [h.r ha, hc.2.1, hc.2.2]
  unfold zSe
  rw [h.n ha]
  constructor
  · rintro (e | ⟨k, hk, e⟩)
    · exact Or.inl e
    · exact Or.inr ⟨k, hk, (key k (by have := hk.1; omega)).mp e⟩
  · rintro (e | ⟨k, hk, e⟩)
    · exact Or.inl e
    · exact Or.inr ⟨k, hk, (key k (by have := hk.1; omega)).mpr e⟩
end ZWE
