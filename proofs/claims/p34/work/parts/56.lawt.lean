/-! ===== what the law asks of the TREE ===== -/
section ZLT
variable {X : Nat → Nat → Int}
theorem zRE.ex {f j u : Nat} (hj : j < zCn X f) : ∃ e : Nat, zRE X f j u e := by
  have key : ∀ n : Nat, j < n → n ≤ zCn X f → (∃ e : Nat, j < e ∧ e < n ∧ zSR X f e u ∧ ∀ i : Nat, j < i → i < e → ¬ zSR X f i u) ∨ ∀ i : Nat, j < i → i < n → ¬ zSR X f i u := by
    intro n
    induction n with
    | zero => intro h; omega
    | succ n ih =>
      intro h1 h2
      by_cases e : j = n
      · exact Or.inr fun i a b => by omega
      · rcases ih (by omega) (by omega) with ⟨e1, a, b, c, d⟩ | h
        · exact Or.inl ⟨e1, a, by omega, c, d⟩
        · by_cases hs : zSR X f n u
          · exact Or.inl ⟨n, by omega, by omega, hs, h⟩
          · refine Or.inr fun i a b => ?_
            by_cases ei : i = n
            · rw [ei]; exact hs
            · exact h i a (by omega)
  rcases key _ hj (Nat.le_refl _) with ⟨e, a, b, c, d⟩ | h
  · exact ⟨e, a, by omega, d, Or.inr c⟩
  · exact ⟨zCn X f, hj, Nat.le_refl _, h, Or.inl rfl⟩
theorem zRE.nr {f j u e i : Nat} (h : zRE X f j u e) (hs : zSg X f u i j) : zNr X f u e = i + 1 := by
  have key : ∀ n : Nat, j < n → n ≤ e → zNr X f u n = i + 1 := by
    intro n
    induction n with
    | zero => intro h1; omega
    | succ n ih =>
      intro h1 h2
      by_cases en : j = n
      · rw [← en, zNr_yes hs.2.1, hs.2.2]
      · rw [zNr_no (h.2.2.1 n (by omega) (by omega))]
        exact ih (by omega) (by omega)
  exact key e h.1 (Nat.le_refl _)
theorem zRE.next {f j u e i : Nat} (h : zRE X f j u e) (hs : zSg X f u i j) : (e = zCn X f ∧ i + 1 = zNr X f u (zCn X f)) ∨ zSg X f u (i + 1) e := by
  have h1 := h.nr hs
  by_cases ee : e = zCn X f
  · exact Or.inl ⟨ee, by rw [← ee, h1]⟩
  · have h2 := h.2.1
    rcases h.2.2.2 with z | z
    · exact absurd z ee
    · exact Or.inr ⟨by omega, z, h1⟩
theorem zNp_pos (hT : zTf X) {k : Nat} (hk : (k : Int) < X 61 5) : 1 ≤ zNp X k := by
  have hnd := hT.2.2.2.node hk
  have hcn := hT.2.2.1.n hnd.2.2.1
  have h1 := zNr_mono X (zFo X k) (zSo X k) (show 0 + 1 ≤ zCn X (zFo X k) from hcn.2.1)
  rw [zNr_yes (Or.inl rfl)] at h1
  unfold zNp
  omega
/-- a PIECE: where it begins, where it is over -/
theorem zPiece (hT : zTf X) {k i : Nat} (hi : i < zNp X k) : ∃ j e : Nat, zSg X (zFo X k) (zSo X k) i j ∧ zRE X (zFo X k) j (zSo X k) e ∧ zPf X k i 0 = zS0 X (zFo X k) j ∧ zPf X k i 1 = zS0 X (zFo X k) e - 1 := by
  obtain ⟨j, hj⟩ := zSg.ex hi
  obtain ⟨e, he⟩ := zRE.ex (u := zSo X k) hj.1
  exact ⟨j, e, hj, he, ((zPc.f (t := 0) ⟨j, hj, Or.inl ⟨rfl, rfl⟩⟩)).symm, ((zPc.f (t := 1) ⟨j, hj, Or.inr (Or.inl ⟨rfl, e, he, rfl⟩)⟩)).symm⟩
/-- where the PIECE i begins; behind the last one the size -/
noncomputable def zEn (X : Nat → Nat → Int) (k i : Nat) : Int := if i < zNp X k then zPf X k i 0 else zS (zFo X k)
theorem zEn_0 (hT : zTf X) {k : Nat} (hk : (k : Int) < X 61 5) : zEn X k 0 = 0 := by
  have hnd := hT.2.2.2.node hk
  have hcn := hT.2.2.1.n hnd.2.2.1
  have hp := zNp_pos hT hk
  have hs : zSg X (zFo X k) (zSo X k) 0 0 := ⟨by omega, Or.inl rfl, rfl⟩
  unfold zEn
  rw [if_pos (by omega), ← zPc.f (t := 0) ⟨0, hs, Or.inl ⟨rfl, rfl⟩⟩]
  exact hT.2.2.1.s0 hnd.2.2.1
theorem zEn_i {k i : Nat} (hi : i < zNp X k) : zPf X k i 0 = zEn X k i := by
  unfold zEn
  rw [if_pos hi]
theorem zEn_s {k : Nat} : zEn X k (zNp X k) = zS (zFo X k) := by
  unfold zEn
  rw [if_neg (by omega)]
theorem zEn_step (hT : zTf X) {k i : Nat} (hk : (k : Int) < X 61 5) (hi : i < zNp X k) : zPf X k i 1 + 1 = zEn X k (i + 1) ∧ zPf X k i 0 ≤ zPf X k i 1 ∧ 0 ≤ zPf X k i 0 ∧ zPf X k i 1 < zS (zFo X k) := by
  have hnd := hT.2.2.2.node hk
  obtain ⟨j, e, hj, he, e0, e1⟩ := zPiece hT hi
  have h1 := hT.2.2.1.seg hnd.2.2.1 hj.1
  have h2 := hT.2.2.1.mono hnd.2.2.1 (j + 1) e he.1 he.2.1
  have h3 := hT.2.2.1.mono hnd.2.2.1 e (zCn X (zFo X k)) he.2.1 (Nat.le_refl _)
  rw [zCs.sn] at h3
  refine ⟨?_, by omega, by omega, by omega⟩
  rcases he.next hj with ⟨a, b⟩ | a
  · have b2 : i + 1 = zNp X k := b
    rw [b2, zEn_s, e1, a, zCs.sn]
    omega
  · have b2 : i + 1 < zNp X k := a.lt
    unfold zEn
    rw [if_pos b2, ← zPc.f (t := 0) ⟨e, a, Or.inl ⟨rfl, rfl⟩⟩, e1]
    omega
theorem zIsF.ex (n u : Nat) : ∃ w : Int, zIsF n u w ∧ -1 ≤ w ∧ w < n := by
  rcases zFi_or n u with ⟨k, hk⟩ | hk
  · exact ⟨(k : Int), Or.inl ⟨k, rfl, hk⟩, by omega, by have := hk.1; omega⟩
  · exact ⟨-1, Or.inr ⟨rfl, hk⟩, by omega, by omega⟩
theorem zLd.ex (hV : zV X) (hT : zTf X) {k j : Nat} (hk : (k : Int) < X 61 5) (hj : j < zCn X (zFo X k)) : ∃ w : Int, zLd X (zFo X k + 1) (zSo X k &&& zMa X (zFo X k) j) w := by
  have hnd := hT.2.2.2.node hk
  have hn := hV.n (Or.inl rfl : zIsW 0)
  have h0 := hT.2.2.2.1.2.2.1 k hk
  have hc := (hT.2.2.2.1.2.2.2.2 k hk (by omega)).1 j hj
  by_cases hl : zLf X (zFo X k + 1) (zSo X k &&& zMa X (zFo X k) j)
  · obtain ⟨w, a, b, c⟩ := zIsF.ex (zN X 0) (zSo X k &&& zMa X (zFo X k) j)
    exact ⟨-2 - w, Or.inl ⟨hl, by rw [show -2 - (-2 - w) = w by omega]; exact a, by omega, by omega⟩⟩
  · rcases hc with q | q
    · exact absurd q hl
    · have hle : zSo X k &&& zMa X (zFo X k) j ≤ zSo X k := Nat.and_le_left
      have hf4 : zFo X k + 1 < 4 := by
        have := hnd.2.2.1
        by_cases e : zFo X k + 1 = 4
        · exact absurd (Or.inl (by omega)) hl
        · omega
      have h2 := hT.2.2.2.1.2.1 ((zFo X k + 1) * 256 + (zSo X k &&& zMa X (zFo X k) j)) (by omega)
      rcases h2 with z | z
      · have q2 : 0 ≤ X 62 ((zFo X k + 1) * 256 + (zSo X k &&& zMa X (zFo X k) j)) := q
        omega
      · exact ⟨_, Or.inr ⟨hl, z.1, z.2.1, rfl⟩⟩
/-- to what a code leads -/
theorem zLd.facts (hV : zV X) (hT : zTf X) {g u : Nat} {w : Int} (hg : g ≤ 4) (hu : u < 256) (h : zLd X g u w) : w < X 61 5 ∧ -1 - (zN X 0 : Int) ≤ w ∧ (0 ≤ w → g < 4 ∧ zFo X w.toNat = g ∧ zSo X w.toNat = u) := by
  have hcnt := hT.2.2.2.1.cnt
  rcases h with ⟨a1, a2, a3, a4⟩ | ⟨a1, a2, a3, a4⟩
  · refine ⟨by omega, ?_, fun q => by omega⟩
    rcases a2 with ⟨k, e, hk⟩ | ⟨e, -⟩
    · have := hk.1; omega
    · omega
  · have hg4 : g < 4 := by
      by_cases e : g < 4
      · exact e
      · exact absurd (Or.inl (by omega)) a1
    refine ⟨a3, by omega, fun _ => ⟨hg4, ?_⟩⟩
    have h2 := hT.2.2.2.1.2.1 (g * 256 + u) (by omega)
    rw [a4] at h2
    have h3 : X 63 w.toNat = ((g * 256 + u : Nat) : Int) := by
      rcases h2 with z | z
      · omega
      · exact z.2.2
    unfold zFo zSo
    rw [h3, Int.toNat_natCast]
    omega
theorem zPf2 (hV : zV X) (hT : zTf X) {k i : Nat} (hk : (k : Int) < X 61 5) (hi : i < zNp X k) : ∃ j : Nat, zSg X (zFo X k) (zSo X k) i j ∧ zLd X (zFo X k + 1) (zSo X k &&& zMa X (zFo X k) j) (zPf X k i 2) := by
  obtain ⟨j, hj⟩ := zSg.ex hi
  obtain ⟨w, hw⟩ := zLd.ex hV hT hk hj.1
  refine ⟨j, hj, ?_⟩
  rw [← zPc.f (t := 2) ⟨j, hj, Or.inr (Or.inr ⟨rfl, hw⟩)⟩]
  exact hw
theorem zPf2_facts (hV : zV X) (hT : zTf X) {k i : Nat} (hk : (k : Int) < X 61 5) (hi : i < zNp X k) : zPf X k i 2 < X 61 5 ∧ -1 - (zN X 0 : Int) ≤ zPf X k i 2 ∧ (0 ≤ zPf X k i 2 → zFo X (zPf X k i 2).toNat = zFo X k + 1 ∧ zSo X (zPf X k i 2).toNat &&& zSo X k = zSo X (zPf X k i 2).toNat) := by
  have hnd := hT.2.2.2.node hk
  obtain ⟨j, hj, hw⟩ := zPf2 hV hT hk hi
  have hle : zSo X k &&& zMa X (zFo X k) j ≤ zSo X k := Nat.and_le_left
  have h1 := hw.facts hV hT (by have := hnd.2.2.1; omega) (by omega)
  refine ⟨h1.1, h1.2.1, fun q => ⟨(h1.2.2 q).2.1, ?_⟩⟩
  rw [(h1.2.2 q).2.2]
  exact zand_sub (Nat.and_self _)
/-- the way of a PACKET down the TREE -/
def zPt (X : Nat → Nat → Int) (pk : Nat → Int) : Nat → Nat
  | 0 => zDec X 0
  | g + 1 => zPt X pk g &&& zHav X 0 g (pk g)
theorem zPt_lt (hV : zV X) (pk : Nat → Int) (g : Nat) : zPt X pk g < 256 := by
  induction g with
  | zero => exact zDec_lt hV (Or.inl rfl)
  | succ g ih => exact Nat.lt_of_le_of_lt Nat.and_le_left ih
theorem zmk_and (hV : zV X) {f u : Nat} (hu : u < 256) (v : Int) : u &&& zMk X f v = u &&& zHav X 0 f v := by
  unfold zMk
  apply Nat.eq_of_testBit_eq
  intro i
  rw [Nat.testBit_and, Nat.testBit_and, Nat.testBit_or]
  by_cases hi : i < 8
  · have e : (zHav X 26 f v * 256).testBit i = false := by
      rw [show (256 : Nat) = 2 ^ 8 from rfl, Nat.testBit_mul_two_pow, decide_eq_false (by omega), Bool.false_and]
    rw [e, Bool.or_false]
  · have e : u.testBit i = false := Nat.testBit_lt_two_pow (Nat.lt_of_lt_of_le hu (Nat.pow_le_pow_right (n := 2) (i := 8) (by omega) (by omega)))
    rw [e, Bool.false_and, Bool.false_and]
theorem zPt_step (hV : zV X) (hT : zTf X) {k i t : Nat} {pk : Nat → Int} (hk : (k : Int) < X 61 5) (hi : i < zNp X k) (hf : zFo X k = t) (hu : zSo X k = zPt X pk t) (hp : 0 ≤ pk t ∧ pk t < zS t) (h1 : pk t ≤ zPf X k i 1) (h0 : zEn X k i ≤ pk t) : zLd X (t + 1) (zPt X pk (t + 1)) (zPf X k i 2) := by
  have hnd := hT.2.2.2.node hk
  obtain ⟨j, e, hj, he, e0, e1⟩ := zPiece hT hi
  obtain ⟨j2, hj2, hw⟩ := zPf2 hV hT hk hi
  have ej := hj2.uniq hj
  rw [ej] at hw
  rw [zEn_i hi |>.symm, e0] at h0
  rw [e1] at h1
  obtain ⟨s, hs, s0, s1⟩ := hT.2.2.1.find hnd.2.2.1 (x := pk t) hp.1 (by rw [hf]; exact hp.2)
  have hjs : j ≤ s := by
    by_cases q : j ≤ s
    · exact q
    · have h2 := hT.2.2.1.mono hnd.2.2.1 (s + 1) j (by omega) (by have := hj.1; omega)
      omega
  have hse : s < e := by
    by_cases q : s < e
    · exact q
    · have h2 := hT.2.2.1.mono hnd.2.2.1 e s (by omega) (by omega)
      omega
  have h3 := he.same s hjs hse
  have h4 := (hT.2.2.1.ma hnd.2.2.1 hs).2 (pk t) s0 s1
  have h5 : zSo X k &&& zMa X (zFo X k) j = zPt X pk (t + 1) := by
    show _ = zPt X pk t &&& zHav X 0 t (pk t)
    rw [Nat.and_comm, ← h3, Nat.and_comm, h4, hf, hu, zmk_and hV (zPt_lt hV pk t)]
  rw [h5, hf] at hw
  exact hw
theorem zPt_bit (hV : zV X) {pk : Nat → Int} {t j : Nat} (hj : j < zN X 0) : (zPt X pk t).testBit j = true ↔ X (zr X 0 j) 0 ≠ 2 ∧ ∀ g : Nat, g < t → X (zr X 0 j + 1) g ≤ pk g ∧ pk g ≤ X (zr X 0 j + 2) g := by
  induction t with
  | zero =>
    show (zDec X 0).testBit j = true ↔ _
    rw [zDec_bit]
    exact ⟨fun z => ⟨z.2, fun g hg => by omega⟩, fun z => ⟨hj, z.1⟩⟩
  | succ t ih =>
    show (zPt X pk t &&& zHav X 0 t (pk t)).testBit j = true ↔ _
    have e : (zHav X 0 t (pk t)).testBit j = true ↔ (X (zr X 0 j + 1) t ≤ pk t ∧ pk t ≤ X (zr X 0 j + 2) t) := by
      unfold zHav zPh
      rw [zSet_bit, decide_eq_true hj, Bool.true_and, zHasB_iff]
    rw [Nat.testBit_and, Bool.and_eq_true, ih, e]
    constructor
    · rintro ⟨⟨a, b⟩, c⟩
      refine ⟨a, fun g hg => ?_⟩
      by_cases eg : g = t
      · rw [eg]; exact c
      · exact b g (by omega)
    · rintro ⟨a, b⟩
      exact ⟨⟨a, fun g hg => b g (by omega)⟩, b t (by omega)⟩
/-- where it ends, the first RULE that is left decides -/
theorem zPt_dcd (hV : zV X) {pk : Nat → Int} {t : Nat} {at_ w : Int} (ht : t ≤ 4) (hpk : ∀ g : Nat, g < 4 → 0 ≤ pk g ∧ pk g < zS g) (hl : zLf X t (zPt X pk t)) (hf : zIsF (zN X 0) (zPt X pk t) (-2 - at_)) (h70 : ∀ g : Nat, g < 4 → X 70 g = pk g) (hw : zDcd X w) : w = -2 - at_ := by
  have meets : ∀ j : Nat, j < zN X 0 → ((X (zr X 0 j) 0 ≠ 2 ∧ zMeets X (zr X 0 j)) → (zPt X pk t).testBit j = true) := fun j hj z => (zPt_bit hV hj).mpr ⟨z.1, fun g hg => by have h1 := z.2 g (by omega); rw [h70 g (by omega)] at h1; exact h1⟩
  rcases hf with ⟨k, e, hk⟩ | ⟨e, hno⟩
  · have hb := (zPt_bit hV hk.1).mp hk.2.1
    have hm : zMeets X (zr X 0 k) := by
      intro g hg
      rw [h70 g hg]
      by_cases h1 : g < t
      · exact hb.2 g h1
      · rcases hl with q | q
        · omega
        · have h2 := (zSe_fi hk).mp q g (by omega) hg
          have h3 := hpk g hg
          omega
    rcases hw with ⟨k2, a, b, c, d⟩ | ⟨b, d⟩
    · have ek : k2 = k := by
        rcases Nat.lt_trichotomy k2 k with q | q | q
        · have h1 := hk.2.2 k2 q
          rw [meets k2 a c] at h1
          cases h1
        · exact q
        · exact absurd ⟨hb.1, hm⟩ (d k q)
      omega
    · exact absurd ⟨hb.1, hm⟩ (d k hk.1)
  · rcases hw with ⟨k2, a, b, c, d⟩ | ⟨b, d⟩
    · have h1 := hno k2 a
      rw [meets k2 a c] at h1
      cases h1
    · omega
theorem zPt_pth {pk : Nat → Int} (h70 : ∀ g : Nat, g < 4 → X 70 g = pk g) {t : Nat} (ht : t ≤ 4) : zPth X t = zPt X pk t := by
  induction t with
  | zero => rfl
  | succ t ih =>
    show zPth X t &&& zHav X 0 t (X 70 t) = zPt X pk t &&& zHav X 0 t (pk t)
    rw [ih (by omega), h70 t (by omega)]
theorem zStp_eq {pk : Nat → Int} {t f : Nat} (ht : t ≤ 4) (h70 : ∀ g : Nat, g < 4 → X 70 g = pk g) (hl : zLf X t (zPt X pk t)) (hno : ∀ g : Nat, g < t → ¬ zLf X g (zPt X pk g)) (hs : zStp X f) : f = t := by
  obtain ⟨a, b, c⟩ := hs
  rcases Nat.lt_trichotomy f t with q | q | q
  · refine absurd ?_ (hno f q)
    rcases b with z | z
    · exact Or.inl (by omega)
    · rw [zPt_pth h70 (by omega)] at z
      exact Or.inr z
  · exact q
  · have h1 := c t q
    rw [zPt_pth h70 ht] at h1
    rcases hl with z | z
    · omega
    · exact absurd z h1
end ZLT
