/-! ===== what the law asks of amounts ===== -/
section ZLM
variable {X : Nat → Nat → Int}
theorem zm_bitq (hV : zV X) {q : Nat} (hq : q < zN X 0) : zm X (fun m => m.testBit q = true) = zAW X (zr X 0 q) (zr X 0 q) := by
  rw [← zmu_bit hV hq]
  refine zmu_congr fun m _ => ?_
  rw [Bool.eq_iff_iff, zB_iff]
theorem zDc_le (hV : zV X) {q : Nat} (hq : q < zN X 0) : zDc X q ≤ zAW X (zr X 0 q) (zr X 0 q) := by
  rw [← zm_bitq hV hq]
  exact zm_le fun m _ h => h.1
theorem zDc_bd (q : Nat) : 0 ≤ zDc X q ∧ zDc X q ≤ 268435456 := ⟨zm_nn, zm_top⟩
/-- of PACKETS alone -/
theorem zm_nopk {P : Nat → Prop} (h : ∀ a b c d : Nat, ¬ P (zMs X a b c d)) : zm X P = 0 := by
  unfold zm zmu
  rw [zct_congr (q := fun _ _ _ _ => false) (fun a b c d _ _ _ _ => zB_no.mpr (h a b c d)), zct_false]
  rfl
/-- one that is covered decides nothing -/
theorem zCvr_dead (hV : zV X) {q k : Nat} (hq : q < zN X 0) (hk : k < q) (h : zCvr X 0 q k) : zDc X q = 0 := by
  have hn := hV.n (Or.inl rfl : zIsW 0)
  refine zm_nopk fun a b c d hp => hp.2 k hk ⟨?_, zDec_bit.mpr ⟨by omega, h.1⟩⟩
  have h1 := hp.1
  rw [zMs_bit, Bool.and_eq_true] at h1
  rw [zMs_bit, decide_eq_true (show k < zN X 0 by omega), Bool.true_and]
  have h2 := h1.2
  unfold zBx at h2 ⊢
  rw [Bool.and_eq_true, Bool.and_eq_true, Bool.and_eq_true, zIv_iff, zIv_iff, zIv_iff, zIv_iff] at h2 ⊢
  have c0 := h.2 0 (by omega)
  have c1 := h.2 1 (by omega)
  have c2 := h.2 2 (by omega)
  have c3 := h.2 3 (by omega)
  omega
theorem zCvF_dead (hV : zV X) {q : Nat} (hq : q < zN X 0) {w : Int} (hw : w < q) (h : zIsC X 0 q w) (h0 : 0 ≤ w) : zDc X q = 0 := by
  rcases h with ⟨k, e, h1, -⟩ | ⟨e, -⟩
  · exact zCvr_dead hV hq (by omega) h1
  · omega
/-- where nothing is, nothing counts -/
theorem zm_ae {P Q : Nat → Prop} (h : ∀ j : Nat, j < 2 ^ zN X 0 → 0 < zm X (fun m => m = j) → (P j ↔ Q j)) : zm X P = zm X Q := by
  have key : ∀ R : Nat → Prop, (∀ j : Nat, j < 2 ^ zN X 0 → R j → zm X (fun m => m = j) = 0) → zm X R = 0 := by
    intro R hR
    have h1 : ∀ k : Nat, k ≤ 2 ^ zN X 0 → zm X (fun m => m < k ∧ R m) = 0 := by
      intro k
      induction k with
      | zero => exact fun _ => zm_start
      | succ k ih =>
        intro hk
        by_cases hr : R k
        · rw [zm_yes hr, ih (by omega), hR k (by omega) hr]; rfl
        · rw [zm_no hr]; exact ih (by omega)
    rw [← zm_full (X := X) (P := R)]
    exact h1 _ (Nat.le_refl _)
  have z : ∀ j : Nat, zm X (fun m => m = j) = 0 ∨ 0 < zm X (fun m => m = j) := fun j => by
    have := zm_nn (X := X) (P := fun m => m = j)
    omega
  have a1 : zm X (fun m => P m ∧ ¬ Q m) = 0 := key _ fun j hj hr => (z j).elim id fun q => absurd ((h j hj q).mp hr.1) hr.2
  have a2 : zm X (fun m => Q m ∧ ¬ P m) = 0 := key _ fun j hj hr => (z j).elim id fun q => absurd ((h j hj q).mpr hr.1) hr.2
  have b1 := zm_add (X := X) P Q
  have b2 := zm_add (X := X) Q P
  have b3 : zm X (fun m => P m ∧ Q m) = zm X (fun m => Q m ∧ P m) := zm_congr fun m _ => And.comm
  omega
theorem zAll_del (hV : zV X) {q : Nat} (hq : q < 8) : zAll X (255 - 2 ^ q) = zm X (fun m => zAl X 0 (m &&& zDel (zDec X 0) q)) := rfl
theorem zAll_255 (hV : zV X) : zAll X 255 = zm X (fun m => zAl X 0 (m &&& zDec X 0)) := by
  unfold zAll
  rw [zAll_full hV]
theorem zand_del (m d q : Nat) : m &&& zDel d q = zDel (m &&& d) q := by
  unfold zDel
  rw [Nat.and_assoc]
/-- without a NOTE as much is allowed -/
theorem zAll_note (hV : zV X) {q : Nat} (hq : q < 8) (h : X (zr X 0 q) 0 = 2) : zAll X (255 - 2 ^ q) = zAll X 255 := by
  rw [zAll_del hV hq, zAll_255 hV, zDel_id (zDec_lt hV (Or.inl rfl)) hq]
  cases hb : (zDec X 0).testBit q
  · rfl
  · exact absurd h (zDec_bit.mp hb).2
/-- without a RULE that decides nothing as much is allowed -/
theorem zAll_dead (hV : zV X) {q : Nat} (hq : q < zN X 0) (h : zDc X q = 0) : zAll X (255 - 2 ^ q) = zAll X 255 := by
  have hn := hV.n (Or.inl rfl : zIsW 0)
  have hd := zDec_lt hV (Or.inl rfl : zIsW 0)
  rw [zAll_del hV (by omega), zAll_255 hV]
  have key : ∀ m : Nat, ¬ zPdc X q m → (zAl X 0 (m &&& zDel (zDec X 0) q) ↔ zAl X 0 (m &&& zDec X 0)) := by
    intro m hp
    have hmd : m &&& zDec X 0 < 256 := Nat.lt_of_le_of_lt Nat.and_le_right hd
    rw [zand_del]
    cases hb : (m &&& zDec X 0).testBit q
    · rw [zDel_id hmd (by omega) hb]
    · rw [Nat.testBit_and, Bool.and_eq_true] at hb
      have h2 : ∃ j : Nat, j < q ∧ m.testBit j = true ∧ (zDec X 0).testBit j = true := by
        by_cases hex : ∃ j : Nat, j < q ∧ m.testBit j = true ∧ (zDec X 0).testBit j = true
        · exact hex
        · exact absurd ⟨hb.1, fun j hj hz => hex ⟨j, hj, hz⟩⟩ hp
      obtain ⟨j, hj, hj1, hj2⟩ := h2
      rcases zFi_or (zN X 0) (m &&& zDec X 0) with ⟨k, hk⟩ | hk
      · refine zAl_del hn.2 (by omega) hk (fun e => ?_)
        have h3 := hk.2.2 j (by omega)
        rw [Nat.testBit_and, hj1, hj2] at h3
        cases h3
      · have h3 := hk j (by omega)
        rw [Nat.testBit_and, hj1, hj2] at h3
        cases h3
  have a1 := zm_add (X := X) (fun m => zAl X 0 (m &&& zDel (zDec X 0) q)) (zPdc X q)
  have a2 := zm_add (X := X) (fun m => zAl X 0 (m &&& zDec X 0)) (zPdc X q)
  have b1 : zm X (fun m => zAl X 0 (m &&& zDel (zDec X 0) q) ∧ zPdc X q m) = 0 := zm_zero (Q := zPdc X q) h fun m _ hz => hz.2
  have b2 : zm X (fun m => zAl X 0 (m &&& zDec X 0) ∧ zPdc X q m) = 0 := zm_zero (Q := zPdc X q) h fun m _ hz => hz.2
  have b3 : zm X (fun m => zAl X 0 (m &&& zDel (zDec X 0) q) ∧ ¬ zPdc X q m) = zm X (fun m => zAl X 0 (m &&& zDec X 0) ∧ ¬ zPdc X q m) := zm_congr fun m _ => ⟨fun z => ⟨(key m z.2).mp z.1, z.2⟩, fun z => ⟨(key m z.2).mpr z.1, z.2⟩⟩
  omega
theorem zAll_nm (hV : zV X) {q : Nat} (hq : q < 8) (h : zNm X q) : zAll X (255 - 2 ^ q) = zAll X 255 := by
  rw [zAll_del hV hq, zAll_255 hV]
  exact zm_ae fun j hj hz => (h.2 j hj hz).symm
/-- what the state says -/
theorem zSt_cases (q : Nat) : (zDc X q = 0 ∧ (zSt X q = 1 ∨ zSt X q = 2 ∨ zSt X q = 3) ∧ (0 ≤ zCvF X q → zSt X q = 1 ∨ zSt X q = 2)) ∨ (zDc X q ≠ 0 ∧ ((zSt X q = 4 ∧ zNm X q) ∨ zSt X q = 0)) := by
  unfold zSt
  by_cases h : zDc X q = 0
  · refine Or.inl ⟨h, ?_, fun hc => ?_⟩
    · rw [if_pos h]
      by_cases h2 : zCvF X q < 0
      · rw [if_pos h2]; exact Or.inr (Or.inr rfl)
      · rw [if_neg h2]
        by_cases h3 : X (zr X 0 (zCvF X q).toNat) 0 = X (zr X 0 q) 0
        · rw [if_pos h3]; exact Or.inl rfl
        · rw [if_neg h3]; exact Or.inr (Or.inl rfl)
    · rw [if_pos h, if_neg (by omega)]
      by_cases h3 : X (zr X 0 (zCvF X q).toNat) 0 = X (zr X 0 q) 0
      · rw [if_pos h3]; exact Or.inl rfl
      · rw [if_neg h3]; exact Or.inr rfl
  · refine Or.inr ⟨h, ?_⟩
    rw [if_neg h]
    by_cases h2 : zB (zNm X q) = true
    · rw [if_pos h2]; exact Or.inl ⟨rfl, zB_iff.mp h2⟩
    · rw [if_neg h2]; exact Or.inr rfl
theorem zAll_st (hV : zV X) {q : Nat} (hq : q < zN X 0) (h : 0 < zSt X q) : zAll X (255 - 2 ^ q) = zAll X 255 := by
  have hn := hV.n (Or.inl rfl : zIsW 0)
  rcases zSt_cases (X := X) q with ⟨a, -⟩ | ⟨-, ⟨-, b⟩ | b⟩
  · exact zAll_dead hV hq a
  · exact zAll_nm hV (by omega) b
  · omega
theorem zAW_comm (r q : Nat) : zAW X r q = zAW X q r := by
  have e : ∀ g : Nat, zW1 X r q g = zW1 X q r g := fun g => by unfold zW1; rw [Int.min_comm, Int.max_comm (X (r + 1) g)]
  unfold zAW
  rw [e, e, e, e]
/-- the sums of what the RULES decide -/
noncomputable def zSA (X : Nat → Nat → Int) (k : Nat) : Int := zsm k (fun a => if X (zr X 0 a) 0 = 2 then 0 else zDc X a)
noncomputable def zSW (X : Nat → Nat → Int) (k : Nat) : Int := zsm k (fun a => if X (zr X 0 a) 0 = 1 then zDc X a else 0)
theorem zSA_eq {k : Nat} (hk : k ≤ zN X 0) : zSA X k = zm X (fun m => ∃ j : Nat, j < k ∧ m.testBit j = true ∧ (zDec X 0).testBit j = true) := by
  induction k with
  | zero => exact (zm_none fun m _ ⟨j, hj, _⟩ => by omega).symm
  | succ k ih =>
    have e : zSA X (k + 1) = zSA X k + (if X (zr X 0 k) 0 = 2 then 0 else zDc X k) := rfl
    rw [e, ih (by omega)]
    by_cases h : X (zr X 0 k) 0 = 2
    · rw [if_pos h, Int.add_zero]
      refine zm_congr fun m _ => ⟨fun ⟨j, a, b⟩ => ⟨j, by omega, b⟩, fun ⟨j, a, b, c⟩ => ⟨j, ?_, b, c⟩⟩
      by_cases ej : j = k
      · rw [ej] at c; exact absurd h (zDec_bit.mp c).2
      · omega
    · have hd : (zDec X 0).testBit k = true := zDec_bit.mpr ⟨by omega, h⟩
      rw [if_neg h]
      unfold zDc
      rw [← zm_or (X := X) (P := fun m => ∃ j : Nat, j < k ∧ m.testBit j = true ∧ (zDec X 0).testBit j = true) (Q := zPdc X k) (fun m _ z => by obtain ⟨⟨j, a, b⟩, c⟩ := z; exact c.2 j a b)]
      refine zm_congr fun m _ => ⟨?_, ?_⟩
      · rintro (⟨j, a, b⟩ | c)
        · exact ⟨j, by omega, b⟩
        · exact ⟨k, by omega, c.1, hd⟩
      · rintro ⟨j, a, b, c⟩
        by_cases hex : ∃ j : Nat, j < k ∧ m.testBit j = true ∧ (zDec X 0).testBit j = true
        · exact Or.inl hex
        · have ej : j = k := by
            by_cases e : j = k
            · exact e
            · exact absurd ⟨j, by omega, b, c⟩ hex
          rw [ej] at b
          exact Or.inr ⟨b, fun i hi hz => hex ⟨i, hi, hz⟩⟩
theorem zSA_bd {k : Nat} (hk : k ≤ zN X 0) : 0 ≤ zSA X k ∧ zSA X k ≤ 268435456 := by
  rw [zSA_eq hk]
  exact ⟨zm_nn, zm_top⟩
theorem zPdc_uniq {i j m : Nat} (hi : zPdc X i m) (hj : zPdc X j m) (di : (zDec X 0).testBit i = true) (dj : (zDec X 0).testBit j = true) : i = j := by
  rcases Nat.lt_trichotomy i j with q | q | q
  · exact absurd ⟨hi.1, di⟩ (hj.2 i q)
  · exact q
  · exact absurd ⟨hj.1, dj⟩ (hi.2 j q)
theorem zSW_eq {k : Nat} (hk : k ≤ zN X 0) : zSW X k = zm X (fun m => ∃ j : Nat, j < k ∧ zPdc X j m ∧ X (zr X 0 j) 0 = 1) := by
  induction k with
  | zero => exact (zm_none fun m _ ⟨j, hj, _⟩ => by omega).symm
  | succ k ih =>
    have e : zSW X (k + 1) = zSW X k + (if X (zr X 0 k) 0 = 1 then zDc X k else 0) := rfl
    rw [e, ih (by omega)]
    by_cases h : X (zr X 0 k) 0 = 1
    · have hd : (zDec X 0).testBit k = true := zDec_bit.mpr ⟨by omega, by omega⟩
      rw [if_pos h]
      unfold zDc
      rw [← zm_or (X := X) (P := fun m => ∃ j : Nat, j < k ∧ zPdc X j m ∧ X (zr X 0 j) 0 = 1) (Q := zPdc X k) (fun m _ z => by
        obtain ⟨⟨j, a, b, c⟩, d⟩ := z
        have ej := zPdc_uniq b d (zDec_bit.mpr ⟨by omega, by omega⟩) hd
        omega)]
      refine zm_congr fun m _ => ⟨?_, ?_⟩
      · rintro (⟨j, a, b⟩ | c)
        · exact ⟨j, by omega, b⟩
        · exact ⟨k, by omega, c, h⟩
      · rintro ⟨j, a, b, c⟩
        by_cases ej : j = k
        · rw [ej] at b; exact Or.inr b
        · exact Or.inl ⟨j, by omega, b, c⟩
    · rw [if_neg h, Int.add_zero]
      refine zm_congr fun m _ => ⟨fun ⟨j, a, b⟩ => ⟨j, by omega, b⟩, fun ⟨j, a, b, c⟩ => ⟨j, ?_, b, c⟩⟩
      by_cases ej : j = k
      · rw [ej] at c; exact absurd c h
      · omega
/-- all that is allowed -/
theorem zAll_sum (hV : zV X) : zAll X 255 - zSW X (zN X 0) = if X 0 2 = 1 then 268435456 - zSA X (zN X 0) else 0 := by
  rw [zSW_eq (Nat.le_refl _), zSA_eq (Nat.le_refl _), zAll_255 hV]
  have key : ∀ m : Nat, zAl X 0 (m &&& zDec X 0) ↔ (∃ j : Nat, j < zN X 0 ∧ zPdc X j m ∧ X (zr X 0 j) 0 = 1) ∨ ((¬ ∃ j : Nat, j < zN X 0 ∧ m.testBit j = true ∧ (zDec X 0).testBit j = true) ∧ X 0 2 = 1) := by
    intro m
    rcases zFi_or (zN X 0) (m &&& zDec X 0) with ⟨k, hk⟩ | hk
    · have hb := hk.2.1
      rw [Nat.testBit_and, Bool.and_eq_true] at hb
      have hp : zPdc X k m := ⟨hb.1, fun j hj hz => by
        have h3 := hk.2.2 j hj
        rw [Nat.testBit_and, hz.1, hz.2] at h3
        cases h3⟩
      rw [zAl_fi hk]
      constructor
      · exact fun h => Or.inl ⟨k, hk.1, hp, h⟩
      · rintro (⟨j, a, b, c⟩ | ⟨a, -⟩)
        · have ej := zPdc_uniq b hp (zDec_bit.mpr ⟨by omega, by omega⟩) hb.2
          rw [← ej]; exact c
        · exact absurd ⟨k, hk.1, hb⟩ a
    · rw [zAl_no hk]
      have hno : ∀ j : Nat, j < zN X 0 → ¬ (m.testBit j = true ∧ (zDec X 0).testBit j = true) := fun j hj hz => by
        have h3 := hk j hj
        rw [Nat.testBit_and, hz.1, hz.2] at h3
        cases h3
      constructor
      · exact fun h => Or.inr ⟨fun ⟨j, a, b⟩ => hno j a b, h⟩
      · rintro (⟨j, a, b, c⟩ | ⟨-, h⟩)
        · exact absurd ⟨b.1, zDec_bit.mpr ⟨by omega, by omega⟩⟩ (hno j a)
        · exact h
  rw [zm_congr (P := fun m => zAl X 0 (m &&& zDec X 0)) (fun m _ => key m)]
  by_cases hl : X 0 2 = 1
  · rw [if_pos hl, zm_or (X := X) (P := fun m => ∃ j : Nat, j < zN X 0 ∧ zPdc X j m ∧ X (zr X 0 j) 0 = 1) (Q := fun m => (¬ ∃ j : Nat, j < zN X 0 ∧ m.testBit j = true ∧ (zDec X 0).testBit j = true) ∧ X 0 2 = 1) (fun m _ z => by obtain ⟨⟨j, a, b, c⟩, d⟩ := z; exact d.1 ⟨j, a, b.1, zDec_bit.mpr ⟨by omega, by omega⟩⟩)]
    rw [zm_congr (X := X) (P := fun m => (¬ ∃ j : Nat, j < zN X 0 ∧ m.testBit j = true ∧ (zDec X 0).testBit j = true) ∧ X 0 2 = 1) (Q := fun m => ¬ ∃ j : Nat, j < zN X 0 ∧ m.testBit j = true ∧ (zDec X 0).testBit j = true) (fun m _ => ⟨fun z => z.1, fun z => ⟨z, hl⟩⟩), zm_not]
    omega
  · rw [if_neg hl, zm_congr (X := X) (Q := fun m => ∃ j : Nat, j < zN X 0 ∧ zPdc X j m ∧ X (zr X 0 j) 0 = 1) (fun m _ => ⟨fun z => z.elim id (fun q => absurd q.2 hl), Or.inl⟩)]
    omega
/-- pairs against each other, counted the other way -/
theorem zAg_comm (r q : Nat) : zAg X r q ↔ zAg X q r := by
  unfold zAg
  rw [zAW_comm]
  constructor
  · exact fun ⟨a, b, c, d⟩ => ⟨b, a, fun e => c e.symm, d⟩
  · exact fun ⟨a, b, c, d⟩ => ⟨b, a, fun e => c e.symm, d⟩
noncomputable def zQl (X : Nat → Nat → Int) (a b : Nat) : Int := zsm b (fun j => z1 (zAg X (zr X 0 a) (zr X 0 j)))
noncomputable def zQt (X : Nat → Nat → Int) (n : Nat) : Int := zsm n (fun a => zQl X a a)
theorem zsm_cut {n a : Nat} (h : a ≤ n) (f : Nat → Int) (P : Nat → Prop) : zsm n (fun b => z1 (b < a ∧ P b)) = zsm a (fun b => z1 (P b)) := by
  induction n with
  | zero => rw [show a = 0 by omega]; rfl
  | succ n ih =>
    by_cases e : a = n + 1
    · subst e
      exact zsm_congr fun b hb => z1_congr ⟨fun z => z.2, fun z => ⟨hb, z⟩⟩
    · show zsm n (fun b => z1 (b < a ∧ P b)) + z1 (n < a ∧ P n) = _
      rw [z1_no (fun z => by omega), Int.add_zero]
      exact ih (by omega)
theorem zQu_eq : zQu X (zN X 0) = zQt X (zN X 0) := by
  have e1 : zQu X (zN X 0) = zsm (zN X 0) (fun a => zsm (zN X 0) (fun j => z1 (a < j ∧ zAg X (zr X 0 a) (zr X 0 j)))) := rfl
  rw [e1, zsm_swap]
  refine zsm_congr fun a ha => ?_
  show _ = zQl X a a
  unfold zQl
  rw [← zsm_cut (n := zN X 0) (a := a) (by omega) (fun _ => 0)]
  exact zsm_congr fun b _ => z1_congr ⟨fun z => ⟨z.1, (zAg_comm _ _).mp z.2⟩, fun z => ⟨z.1, (zAg_comm _ _).mp z.2⟩⟩
theorem zQl_bd (a b : Nat) : 0 ≤ zQl X a b ∧ zQl X a b ≤ b := by
  have h := zsm_bd (n := b) (f := fun j => z1 (zAg X (zr X 0 a) (zr X 0 j))) (c := 1) (fun i _ => z1_bd _)
  unfold zQl
  omega
theorem zQt_bd (n : Nat) (hn : n ≤ 8) : 0 ≤ zQt X n ∧ zQt X n ≤ 64 := by
  have h := zsm_bd (n := n) (f := fun a => zQl X a a) (c := 8) (fun i hi => by have := zQl_bd (X := X) i i; omega)
  unfold zQt
  omega
end ZLM
