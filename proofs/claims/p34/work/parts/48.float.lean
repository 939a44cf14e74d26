/-! ===== the mean of steps: a double from 0.0 to 4.0 ===== -/
theorem zfl_b : (Jvm.FP.Core.i2d (zi 268435456)).toNat = 1051 * 2 ^ 52 ∧ Jvm.FP.Core.val64 (Jvm.FP.Core.i2d (zi 268435456)) = .fin false (2 ^ 52) (-24) := by decide +kernel
theorem zfl_4 : Jvm.FP.Core.val64 4616189618054758400 = .fin false (2 ^ 52) (-50) := by decide +kernel
theorem zfl_mag (v : Int) : (Jvm.FP.Core.ddiv (Jvm.FP.Core.i2d (zi v)) (Jvm.FP.Core.i2d (zi 268435456))).toNat % 2 ^ 63 < 1029 * 2 ^ 52 := by
  have h := Jvm.FP.Core.ddiv_mag (a := Jvm.FP.Core.i2d (zi v)) (b := Jvm.FP.Core.i2d (zi 268435456)) (K := 1056) (L := 1051) (Jvm.FP.Core.i2d_mag _) (by rw [zfl_b.1]; omega) (by rw [zfl_b.1]; omega) (by omega) (by omega)
  omega
theorem zfl_n64 (v : Int) : vf_n64 (FP.ddiv (FP.i2d (zi v)) (FP.i2d (zi 268435456))) := by
  have h := zfl_mag v
  unfold vf_n64
  rw [UInt64.le_iff_toNat_le, UInt64.toNat_and]
  show (Jvm.FP.Core.ddiv (Jvm.FP.Core.i2d (zi v)) (Jvm.FP.Core.i2d (zi 268435456))).toNat &&& (2 ^ 63 - 1) ≤ 2047 * 2 ^ 52
  rw [Nat.and_two_pow_sub_one_eq_mod]
  omega
/-- the parts of a whole number from 0 on -/
theorem zfl_a {v : Int} (h0 : 0 ≤ v) (h1 : v ≤ 2147483647) : ∃ (c : Nat) (q : Int), Jvm.FP.Core.val64 (Jvm.FP.Core.i2d (zi v)) = .fin false c q ∧ Jvm.FP.Core.b64.qmin ≤ q ∧ c * 2 ^ (q - Jvm.FP.Core.b64.qmin).toNat = v.toNat * 2 ^ (-Jvm.FP.Core.b64.qmin).toNat := by
  have hi : (zi v).toInt = v := zi_toInt ⟨by omega, h1⟩
  have hfit := Jvm.FP.Core.val64_fits (Jvm.FP.Core.i2d (zi v))
  have hw := Jvm.FP.Core.whole_zval Jvm.FP.Core.good_b64 hfit (Jvm.FP.Core.i2d_int (zi v))
  rw [hi] at hw
  have hv : Jvm.FP.Core.val64 (Jvm.FP.Core.i2d (zi v)) = Jvm.FP.Core.roundRatio Jvm.FP.Core.b64 (decide (v < 0)) v.natAbs 1 0 := by
    rw [Jvm.FP.Core.val64_i2d, hi]
    rfl
  obtain ⟨s, c, q, e⟩ := Jvm.FP.Core.i2d_fin (zi v)
  have hs : s = false := by
    have h2 := Jvm.FP.Core.sgn_roundRatio Jvm.FP.Core.b64 (decide (v < 0)) v.natAbs 1 0
    rw [← hv, e, decide_eq_false (by omega)] at h2
    exact h2
  subst hs
  rw [e] at hw hfit
  refine ⟨c, q, e, hfit.2.1, ?_⟩
  have h3 : ((c * 2 ^ (q - Jvm.FP.Core.b64.qmin).toNat : Nat) : Int) = v * ((2 ^ (-Jvm.FP.Core.b64.qmin).toNat : Nat) : Int) := hw
  have h4 : v = ((v.toNat : Nat) : Int) := by omega
  rw [h4, ← Int.natCast_mul] at h3
  exact_mod_cast h3
theorem zfl_q {v : Int} (h0 : 0 ≤ v) (h1 : v ≤ 1073741824) : Jvm.FP.Core.sgn (Jvm.FP.Core.val64 (FP.ddiv (FP.i2d (zi v)) (FP.i2d (zi 268435456)))) = false ∧ Jvm.FP.Core.zmag Jvm.FP.Core.b64 (Jvm.FP.Core.val64 (FP.ddiv (FP.i2d (zi v)) (FP.i2d (zi 268435456)))) ≤ Jvm.FP.Core.zmag Jvm.FP.Core.b64 (Jvm.FP.Core.val64 4616189618054758400) ∧ Jvm.FP.Core.val64 (FP.ddiv (FP.i2d (zi v)) (FP.i2d (zi 268435456))) ≠ .nan := by
  obtain ⟨c, q, e, hq, hc⟩ := zfl_a h0 (by omega)
  have hd : Jvm.FP.Core.val64 (FP.ddiv (FP.i2d (zi v)) (FP.i2d (zi 268435456))) = Jvm.FP.Core.roundRatio Jvm.FP.Core.b64 false c (2 ^ 52) (q - (-24)) := by
    show Jvm.FP.Core.val64 (Jvm.FP.Core.ddiv (Jvm.FP.Core.i2d (zi v)) (Jvm.FP.Core.i2d (zi 268435456))) = _
    rw [Jvm.FP.Core.val64_ddiv, e, zfl_b.2]
    rfl
  rw [hd]
  refine ⟨Jvm.FP.Core.sgn_roundRatio _ _ _ _ _, ?_, Jvm.FP.Core.roundRatio_ne_nan _ _ _ _ _⟩
  have hV := Jvm.FP.Core.val64_fits 4616189618054758400
  rw [zfl_4] at hV ⊢
  have hqm : Jvm.FP.Core.b64.qmin = -1074 := by decide +kernel
  refine Jvm.FP.Core.zmag_roundRatio_le Jvm.FP.Core.good_b64 (e0 := Jvm.FP.Core.b64.qmin) (Nat.two_pow_pos _) hV (fun z => by cases z) (Int.le_refl _) (by omega) ?_
  have z1 : ∀ (c : Nat) (q : Int), Jvm.FP.Core.zmag Jvm.FP.Core.b64 (.fin false c q) = c * 2 ^ (q - Jvm.FP.Core.b64.qmin).toNat := fun c q => rfl
  have z2 : ∀ (c : Nat) (q e : Int), Jvm.FP.Core.inUnits c q e = c * 2 ^ (q - e).toNat := fun c q e => rfl
  rw [z1, z2]
  rw [hqm] at hc hq ⊢
  have e1 : (q - (-24) - -1074).toNat = (q - -1074).toNat + 24 := by omega
  have e2 : ((-1074 : Int) - -1074).toNat = 0 := rfl
  have e3 : ((-50 : Int) - -1074).toNat = 1024 := rfl
  have e4 : (- -1074 : Int).toNat = 1074 := rfl
  rw [e1, e2, e3, Nat.pow_add, ← Nat.mul_assoc, hc, e4]
  have h3 : v.toNat ≤ 2 ^ 30 := by omega
  have h5 : v.toNat * 2 ^ 1074 * 2 ^ 24 ≤ 2 ^ 30 * 2 ^ 1074 * 2 ^ 24 := Nat.mul_le_mul_right _ (Nat.mul_le_mul_right _ h3)
  refine Nat.le_trans h5 ?_
  rw [Nat.pow_zero, Nat.mul_one, ← Nat.pow_add, ← Nat.pow_add, ← Nat.pow_add, ← Nat.pow_add]
  exact Nat.le_refl _
theorem zfl_0 {v : Int} (h0 : 0 ≤ v) (h1 : v ≤ 1073741824) : FP.dcmp (FP.ddiv (FP.i2d (zi v)) (FP.i2d (zi 268435456))) FP.dconst0 = some .gt ∨ FP.dcmp (FP.ddiv (FP.i2d (zi v)) (FP.i2d (zi 268435456))) FP.dconst0 = some .eq := by
  have h := zfl_q h0 h1
  have hz : Jvm.FP.Core.val64 FP.dconst0 = .fin false 0 Jvm.FP.Core.b64.qmin := by decide +kernel
  refine Jvm.FP.Core.dcmp_ge.mpr ⟨h.2.2, by rw [hz]; exact fun z => (by cases z), ?_⟩
  have e1 : Jvm.FP.Core.zval Jvm.FP.Core.b64 (Jvm.FP.Core.val64 FP.dconst0) = 0 := by
    rw [hz]
    show Jvm.FP.Core.signed false (0 * _) = 0
    rw [Nat.zero_mul]
    rfl
  rw [e1]
  unfold Jvm.FP.Core.zval
  rw [h.1]
  exact Int.natCast_nonneg _
theorem zfl_le {v : Int} (h0 : 0 ≤ v) (h1 : v ≤ 1073741824) : FP.dcmp (FP.ddiv (FP.i2d (zi v)) (FP.i2d (zi 268435456))) 4616189618054758400 = some .lt ∨ FP.dcmp (FP.ddiv (FP.i2d (zi v)) (FP.i2d (zi 268435456))) 4616189618054758400 = some .eq := by
  have h := zfl_q h0 h1
  refine Jvm.FP.Core.dcmp_le.mpr ⟨h.2.2, by rw [zfl_4]; exact fun z => (by cases z), ?_⟩
  have e1 : Jvm.FP.Core.sgn (Jvm.FP.Core.val64 4616189618054758400) = false := by rw [zfl_4]; rfl
  unfold Jvm.FP.Core.zval
  rw [h.1, e1]
  have s1 : ∀ n : Nat, Jvm.FP.Core.signed false n = (n : Int) := fun n => rfl
  rw [s1, s1]
  exact Int.ofNat_le.mpr h.2.1
