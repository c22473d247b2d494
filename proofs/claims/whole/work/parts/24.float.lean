/-! ===== DOUBLES: values as whole numbers of 2^-1074; what an operation may be off ===== -/
/-- a double's value, in units of 2^-1074 -/
def zv (a : UInt64) : Int := FP.Core.zval FP.Core.b64 (FP.Core.val64 a)
abbrev DF (a : UInt64) : Prop := FP.Core.DFin a
/-- 2^-30 in these units -/
def gr : Nat := 2 ^ 1044
theorem gr_pos : 0 < gr := Nat.two_pow_pos _
theorem one_gr : FP.Core.one64 = 1073741824 * gr := by
  unfold FP.Core.one64 gr
  rw [show 1074 = 30 + 1044 from rfl, Nat.pow_add]
theorem one_grI : (FP.Core.one64 : Int) = 1073741824 * (gr : Int) := by rw [one_gr, Int.natCast_mul]; rfl
theorem gr_posI : (0 : Int) < (gr : Int) := Int.ofNat_lt.mpr gr_pos
theorem one_posI : (0 : Int) < (FP.Core.one64 : Int) := Int.ofNat_lt.mpr FP.Core.one64_pos
/-- a number of the grid of 2^-30 -/
theorem grid_at (k : Int) (hk : k.natAbs < 2 ^ 53) : ∃ V : FP.Core.Datum, FP.Core.fits FP.Core.b64 V ∧ V ≠ .nan ∧ FP.Core.zval FP.Core.b64 V = k * (gr : Int) := by
  obtain ⟨c', q', h1, h2⟩ := FP.Core.round_exact FP.Core.good_b64 (decide (k < 0)) (c := k.natAbs) (q := -30) hk (by decide) (by decide)
  have hf : FP.Core.fits FP.Core.b64 (.fin (decide (k < 0)) c' q') := by rw [← h1]; exact FP.Core.round_fits FP.Core.good_b64 _
  refine ⟨.fin (decide (k < 0)) c' q', hf, (fun q => by cases q), ?_⟩
  show FP.Core.signed _ (FP.Core.inUnits c' q' _) = _
  rw [h2]
  have e : FP.Core.inUnits k.natAbs (-30) FP.Core.b64.qmin = k.natAbs * gr := by
    unfold FP.Core.inUnits gr
    rw [show (-30 - FP.Core.b64.qmin : Int).toNat = 1044 from by decide]
  rw [e, FP.Core.signed_mul]
  have e3 : FP.Core.signed (decide (k < 0)) k.natAbs = k := by
    unfold FP.Core.signed
    by_cases h : k < 0 <;> simp [h] <;> omega
  show FP.Core.signed (decide (k < 0)) k.natAbs * (gr : Int) = _
  rw [e3]
theorem grid_up (p : Int) (B : Nat) (hB : 0 < B) (hp : p ≤ 5000 * (FP.Core.one64 : Int) * B) (hm : -(5000 * (FP.Core.one64 : Int) * B) ≤ p) :
    ∃ V : FP.Core.Datum, FP.Core.fits FP.Core.b64 V ∧ V ≠ .nan ∧ p ≤ FP.Core.zval FP.Core.b64 V * B ∧ FP.Core.zval FP.Core.b64 V * B ≤ p + gr * B := by
  have hg : (0 : Int) < (gr : Int) * B := Int.mul_pos gr_posI (Int.ofNat_lt.mpr hB)
  obtain ⟨C, hC⟩ : ∃ C : Int, C = (gr : Int) * B := ⟨_, rfl⟩
  have e1 : (5000 * (FP.Core.one64 : Int) * B) = 5368709120000 * C := by
    rw [one_grI, hC, ← Int.mul_assoc, ← Int.mul_assoc]
    rfl
  rw [e1] at hp hm
  rw [← hC] at hg
  obtain ⟨k, hk⟩ : ∃ k : Int, k = -((-p) / C) := ⟨_, rfl⟩
  have d1 := Int.mul_ediv_add_emod (-p) C
  have d2 := Int.emod_nonneg (-p) (Int.ne_of_gt hg)
  have d3 := Int.emod_lt_of_pos (-p) hg
  have e2 : C * ((-p) / C) = -(k * C) := by rw [hk, Int.neg_mul, Int.neg_neg, Int.mul_comm]
  have k1 : p ≤ k * C := by omega
  have k2 : k * C ≤ p + C := by omega
  have b1 : k ≤ 5368709120001 := by
    by_cases h : 5368709120001 < k
    · have : (5368709120001 + 1) * C ≤ k * C := Int.mul_le_mul_of_nonneg_right h (Int.le_of_lt hg)
      omega
    · omega
  have b2 : -5368709120001 ≤ k := by
    by_cases h : k < -5368709120001
    · have : k * C ≤ (-5368709120001 - 1) * C := Int.mul_le_mul_of_nonneg_right (by omega) (Int.le_of_lt hg)
      omega
    · omega
  obtain ⟨V, v1, v2, v3⟩ := grid_at k (by omega)
  refine ⟨V, v1, v2, ?_, ?_⟩
  · rw [v3, Int.mul_assoc, ← hC]; exact k1
  · rw [v3, Int.mul_assoc, ← hC]; exact k2
theorem grid_dn (p : Int) (B : Nat) (hB : 0 < B) (hp : p ≤ 5000 * (FP.Core.one64 : Int) * B) (hm : -(5000 * (FP.Core.one64 : Int) * B) ≤ p) :
    ∃ V : FP.Core.Datum, FP.Core.fits FP.Core.b64 V ∧ V ≠ .nan ∧ FP.Core.zval FP.Core.b64 V * B ≤ p ∧ p - gr * B ≤ FP.Core.zval FP.Core.b64 V * B := by
  obtain ⟨V, v1, v2, v3, v4⟩ := grid_up (-p) B hB (by omega) (by omega)
  refine ⟨FP.Core.negate V, FP.Core.negate_fits v1, FP.Core.negate_ne_nan v2, ?_, ?_⟩
  · rw [FP.Core.zval_negate, Int.neg_mul]; omega
  · rw [FP.Core.zval_negate, Int.neg_mul]; omega
theorem inf_big : 5001 * FP.Core.one64 < FP.Core.b64.tails * 2 ^ (FP.Core.b64.exps - 2) := by decide +kernel
/-- no NaN, and not too great: a finite number -/
theorem DF.of {a : UInt64} (hn : FP.Core.dIsNaN a = false) (h1 : zv a ≤ 5001 * (FP.Core.one64 : Int)) (h2 : -(5001 * (FP.Core.one64 : Int)) ≤ zv a) : DF a := by
  have hn := (FP.Core.notNaN_iff a).mp hn
  unfold zv at h1 h2
  have hb : (5001 * FP.Core.one64 : Nat) < FP.Core.b64.tails * 2 ^ (FP.Core.b64.exps - 2) := inf_big
  cases hv : FP.Core.val64 a with
  | nan => exact absurd hv hn
  | inf s =>
    rw [hv] at h1 h2
    exfalso
    have e : FP.Core.zval FP.Core.b64 (.inf s) = FP.Core.signed s (FP.Core.b64.tails * 2 ^ (FP.Core.b64.exps - 2)) := rfl
    rw [e] at h1 h2
    generalize FP.Core.b64.tails * 2 ^ (FP.Core.b64.exps - 2) = T at *
    cases s
    · simp only [FP.Core.signed] at h1
      have : (T : Int) ≤ 5001 * (FP.Core.one64 : Int) := by simpa using h1
      omega
    · simp only [FP.Core.signed] at h2
      have : -(5001 * (FP.Core.one64 : Int)) ≤ -(T : Int) := by simpa using h2
      omega
  | fin s c q => exact ⟨s, c, q, hv⟩
theorem add_err {a b : UInt64} (ha : DF a) (hb : DF b) (h1 : zv a + zv b ≤ 5000 * (FP.Core.one64 : Int)) (h2 : -(5000 * (FP.Core.one64 : Int)) ≤ zv a + zv b) :
    DF (FP.dadd a b) ∧ zv (FP.dadd a b) ≤ zv a + zv b + gr ∧ zv a + zv b - gr ≤ zv (FP.dadd a b) := by
  have hg : (gr : Int) ≤ FP.Core.one64 := by rw [one_grI]; have := gr_posI; omega
  have ev : zv (FP.dadd a b) = FP.Core.zval FP.Core.b64 (FP.Core.round FP.Core.b64 (FP.Core.exactSum (FP.Core.val64 a) (FP.Core.val64 b))) := by
    unfold zv; rw [← FP.Core.val64_dadd]
  obtain ⟨V, v1, v2, v3, v4⟩ := grid_up (zv a + zv b) 1 (by decide) (by omega) (by omega)
  obtain ⟨U, u1, u2, u3, u4⟩ := grid_dn (zv a + zv b) 1 (by decide) (by omega) (by omega)
  have l1 := FP.Core.sum_le FP.Core.good_b64 (V := V) ha hb (FP.Core.val64_fits a) (FP.Core.val64_fits b) v1 v2 (by unfold zv at v3; omega)
  have l2 := FP.Core.sum_ge FP.Core.good_b64 (V := U) ha hb (FP.Core.val64_fits a) (FP.Core.val64_fits b) u1 u2 (by unfold zv at u3; omega)
  rw [← ev] at l1 l2
  have r1 : zv (FP.dadd a b) ≤ zv a + zv b + gr := by omega
  have r2 : zv a + zv b - gr ≤ zv (FP.dadd a b) := by omega
  exact ⟨DF.of (FP.Core.dadd_out ha.notNaN hb) (by omega) (by omega), r1, r2⟩
theorem zv_neg (a : UInt64) : zv (FP.Core.dneg a) = - zv a := by
  unfold zv; rw [FP.Core.val64_dneg, FP.Core.zval_negate]
theorem df_neg {a : UInt64} (h : DF a) : DF (FP.Core.dneg a) := by
  obtain ⟨s, c, q, h⟩ := h
  exact ⟨!s, c, q, by rw [FP.Core.val64_dneg, h]; rfl⟩
theorem sub_err {a b : UInt64} (ha : DF a) (hb : DF b) (h1 : zv a - zv b ≤ 5000 * (FP.Core.one64 : Int)) (h2 : -(5000 * (FP.Core.one64 : Int)) ≤ zv a - zv b) :
    DF (FP.dsub a b) ∧ zv (FP.dsub a b) ≤ zv a - zv b + gr ∧ zv a - zv b - gr ≤ zv (FP.dsub a b) := by
  have e : FP.dsub a b = FP.dadd a (FP.Core.dneg b) := FP.Core.dsub_eq a b
  rw [e]
  have h := add_err ha (df_neg hb) (by rw [zv_neg]; omega) (by rw [zv_neg]; omega)
  rw [zv_neg] at h
  exact ⟨h.1, by omega, by omega⟩
theorem signed_mul2 (s t : Bool) (m k : Nat) : FP.Core.signed (s != t) (m * k) = FP.Core.signed s m * FP.Core.signed t k := by
  cases s <;> cases t <;> simp [FP.Core.signed, Int.neg_mul, Int.mul_neg]
theorem mul_err {a b : UInt64} (ha : DF a) (hb : DF b) (h1 : zv a * zv b ≤ 5000 * (FP.Core.one64 : Int) * FP.Core.one64) (h2 : -(5000 * (FP.Core.one64 : Int) * FP.Core.one64) ≤ zv a * zv b) :
    DF (FP.dmul a b) ∧ zv (FP.dmul a b) * FP.Core.one64 ≤ zv a * zv b + gr * FP.Core.one64 ∧ zv a * zv b - gr * FP.Core.one64 ≤ zv (FP.dmul a b) * FP.Core.one64 := by
  have ho : (0 : Int) < FP.Core.one64 := one_posI
  have hg : (gr : Int) ≤ FP.Core.one64 := by rw [one_grI]; have := gr_posI; omega
  obtain ⟨V, v1, v2, v3, v4⟩ := grid_up (zv a * zv b) FP.Core.one64 FP.Core.one64_pos h1 h2
  obtain ⟨U, u1, u2, u3, u4⟩ := grid_dn (zv a * zv b) FP.Core.one64 FP.Core.one64_pos h1 h2
  have hn := FP.Core.dmul_out ha hb
  obtain ⟨s, c, q, hva⟩ := ha
  obtain ⟨t, d, r, hvb⟩ := hb
  have fa := FP.Core.val64_fits a
  have fb := FP.Core.val64_fits b
  rw [hva] at fa
  rw [hvb] at fb
  obtain ⟨p1, p2, p3⟩ := FP.Core.product_units fa fb
  have ez : zv a * zv b = FP.Core.signed (s != t) (FP.Core.inUnits (c * d) (q + r) (2 * FP.Core.b64.qmin)) := by
    unfold zv
    rw [hva, hvb, p3, signed_mul2]
    rfl
  have eq1 : (FP.Core.b64.qmin - 2 * FP.Core.b64.qmin).toNat = (-FP.Core.b64.qmin).toNat := by
    congr 1
  have epw : ((2 ^ (FP.Core.b64.qmin - 2 * FP.Core.b64.qmin).toNat : Nat) : Int) = FP.Core.one64 := by
    rw [eq1, FP.Core.pow_qmin64]
  have hq := FP.Core.qmin_neg FP.Core.good_b64
  have ev : zv (FP.dmul a b) = FP.Core.zval FP.Core.b64 (FP.Core.round FP.Core.b64 (.fin (s != t) (c * d) (q + r))) := by
    unfold zv
    rw [show FP.dmul a b = FP.Core.dmul a b from rfl, FP.Core.val64_dmul, hva, hvb, p1]
  have l1 := FP.Core.zval_round_le FP.Core.good_b64 (V := V) (s := s != t) (c := c * d) (q := q + r) (e0 := 2 * FP.Core.b64.qmin) v1 v2 (by omega) p2 (by rw [epw, ← ez]; exact v3)
  have l2 := FP.Core.zval_round_ge FP.Core.good_b64 (V := U) (s := s != t) (c := c * d) (q := q + r) (e0 := 2 * FP.Core.b64.qmin) u1 u2 (by omega) p2 (by rw [epw, ← ez]; exact u3)
  rw [← ev] at l1 l2
  have m1 : zv (FP.dmul a b) * FP.Core.one64 ≤ FP.Core.zval FP.Core.b64 V * FP.Core.one64 := Int.mul_le_mul_of_nonneg_right l1 (Int.le_of_lt ho)
  have m2 : FP.Core.zval FP.Core.b64 U * FP.Core.one64 ≤ zv (FP.dmul a b) * FP.Core.one64 := Int.mul_le_mul_of_nonneg_right l2 (Int.le_of_lt ho)
  refine ⟨DF.of hn ?_ ?_, by omega, by omega⟩
  · refine Int.le_of_mul_le_mul_right (a := (FP.Core.one64 : Int)) ?_ ho
    have x1 : 5001 * (FP.Core.one64 : Int) * FP.Core.one64 = 5000 * (FP.Core.one64 : Int) * FP.Core.one64 + FP.Core.one64 * FP.Core.one64 := by
      rw [show (5001 : Int) = 5000 + 1 from rfl, Int.add_mul, Int.add_mul, Int.one_mul]
    have x2 : (gr : Int) * FP.Core.one64 ≤ FP.Core.one64 * FP.Core.one64 := Int.mul_le_mul_of_nonneg_right hg (Int.le_of_lt ho)
    omega
  · refine Int.le_of_mul_le_mul_right (a := (FP.Core.one64 : Int)) ?_ ho
    have x1 : -(5001 * (FP.Core.one64 : Int)) * FP.Core.one64 = -(5000 * (FP.Core.one64 : Int) * FP.Core.one64) - FP.Core.one64 * FP.Core.one64 := by
      rw [show (5001 : Int) = 5000 + 1 from rfl, Int.neg_mul, Int.add_mul, Int.add_mul, Int.one_mul]; omega
    have x2 : (gr : Int) * FP.Core.one64 ≤ FP.Core.one64 * FP.Core.one64 := Int.mul_le_mul_of_nonneg_right hg (Int.le_of_lt ho)
    omega
theorem zmag_zval {V : FP.Core.Datum} (h : 0 ≤ FP.Core.zval FP.Core.b64 V) : (FP.Core.zmag FP.Core.b64 V : Int) = FP.Core.zval FP.Core.b64 V := by
  unfold FP.Core.zval at *
  cases hs : FP.Core.sgn V
  · simp [FP.Core.signed]
  · rw [hs] at h
    simp only [FP.Core.signed] at h ⊢
    have : 0 ≤ -(FP.Core.zmag FP.Core.b64 V : Int) := by simpa using h
    simp; omega
theorem div_units {s : Bool} {c d : Nat} {q r : Int} (hd : d ≠ 0) (hq : FP.Core.b64.qmin ≤ q) (hr : FP.Core.b64.qmin ≤ r) :
    FP.Core.roundRatio FP.Core.b64 s c d (q - r) = FP.Core.roundRatio FP.Core.b64 s (FP.Core.inUnits c q FP.Core.b64.qmin) (FP.Core.inUnits d r FP.Core.b64.qmin) 0 := by
  have hd2 : 0 < d := Nat.pos_of_ne_zero hd
  refine FP.Core.roundRatio_congr hd2 (Nat.mul_pos hd2 (Nat.two_pow_pos _)) ?_
  unfold FP.Core.inUnits
  generalize FP.Core.b64.qmin = z at *
  have e : (r - z).toNat + (q - r - 0).toNat = (q - z).toNat + (0 - (q - r)).toNat := by omega
  rw [Nat.mul_assoc, Nat.mul_assoc, ← Nat.pow_add, e, Nat.pow_add]
  simp only [Nat.mul_assoc, Nat.mul_comm, Nat.mul_left_comm]
theorem div_err {a b : UInt64} (ha : DF a) (hb : DF b) (h0 : 0 ≤ zv a) (hb0 : 0 < zv b) (h1 : zv a ≤ 5000 * zv b) :
    DF (FP.ddiv a b) ∧ zv (FP.ddiv a b) * zv b ≤ zv a * FP.Core.one64 + gr * zv b ∧ zv a * FP.Core.one64 - gr * zv b ≤ zv (FP.ddiv a b) * zv b ∧ 0 ≤ zv (FP.ddiv a b) := by
  have ho : (0 : Int) < FP.Core.one64 := one_posI
  have hg : (gr : Int) ≤ FP.Core.one64 := by rw [one_grI]; have := gr_posI; omega
  have hnz : ¬ FP.Core.DZero b := fun z => by have := z.zval; unfold zv at hb0; omega
  have hn := FP.Core.ddiv_out ha.notNaN hb hnz
  obtain ⟨s, c, q, hva⟩ := ha
  obtain ⟨t, d, r, hvb⟩ := hb
  have fa := FP.Core.val64_fits a
  have fb := FP.Core.val64_fits b
  rw [hva] at fa
  rw [hvb] at fb
  have ea : zv a = FP.Core.signed s (FP.Core.inUnits c q FP.Core.b64.qmin) := by unfold zv; rw [hva]; rfl
  have eb : zv b = FP.Core.signed t (FP.Core.inUnits d r FP.Core.b64.qmin) := by unfold zv; rw [hvb]; rfl
  have ht : t = false := by
    cases t
    · rfl
    · rw [eb] at hb0
      simp only [FP.Core.signed] at hb0
      simp at hb0
      exact absurd hb0 (by omega)
  subst ht
  have eb : zv b = (FP.Core.inUnits d r FP.Core.b64.qmin : Nat) := by rw [eb]; rfl
  have hd : d ≠ 0 := by
    rintro rfl
    rw [eb] at hb0
    unfold FP.Core.inUnits at hb0
    simp at hb0
  have ev : zv (FP.ddiv a b) = FP.Core.signed s (FP.Core.zmag FP.Core.b64 (FP.Core.roundRatio FP.Core.b64 s (FP.Core.inUnits c q FP.Core.b64.qmin) (FP.Core.inUnits d r FP.Core.b64.qmin) 0)) := by
    unfold zv
    rw [show FP.ddiv a b = FP.Core.ddiv a b from rfl, FP.Core.val64_ddiv, hva, hvb]
    simp only [FP.Core.quotient, if_neg hd]
    rw [show (s != false) = s by cases s <;> rfl, div_units hd fa.2.1 fb.2.1]
    unfold FP.Core.zval
    rw [FP.Core.sgn_roundRatio]
  have hB : 0 < FP.Core.inUnits d r FP.Core.b64.qmin := by rw [eb] at hb0; exact_mod_cast hb0
  have hma : (FP.Core.inUnits c q FP.Core.b64.qmin : Int) = zv a := by
    rw [ea] at h0 ⊢
    cases s
    · rfl
    · simp only [FP.Core.signed] at h0 ⊢
      simp at h0 ⊢
      omega
  have eU : FP.Core.inUnits (FP.Core.inUnits c q FP.Core.b64.qmin) 0 FP.Core.b64.qmin = FP.Core.inUnits c q FP.Core.b64.qmin * FP.Core.one64 := by
    show FP.Core.inUnits c q FP.Core.b64.qmin * 2 ^ (0 - FP.Core.b64.qmin).toNat = _
    rw [← FP.Core.pow_qmin64, show (0 - FP.Core.b64.qmin) = -FP.Core.b64.qmin by omega]
  generalize FP.Core.inUnits c q FP.Core.b64.qmin = A at *
  generalize FP.Core.inUnits d r FP.Core.b64.qmin = B at *
  have hp1 : zv a * FP.Core.one64 ≤ 5000 * (FP.Core.one64 : Int) * B := by
    rw [Int.mul_assoc, Int.mul_comm (FP.Core.one64 : Int) B, ← Int.mul_assoc, ← eb]
    exact Int.mul_le_mul_of_nonneg_right h1 (Int.le_of_lt ho)
  have hp2 : 0 ≤ zv a * FP.Core.one64 := Int.mul_nonneg h0 (Int.le_of_lt ho)
  have hp3 : 0 ≤ 5000 * (FP.Core.one64 : Int) * B := by omega
  obtain ⟨V, v1, v2, v3, v4⟩ := grid_up (zv a * FP.Core.one64) B hB hp1 (by omega)
  obtain ⟨U, u1, u2, u3, u4⟩ := grid_dn (zv a * FP.Core.one64) B hB hp1 (by omega)
  have hBi : (0 : Int) < B := by exact_mod_cast hB
  have hV0 : 0 ≤ FP.Core.zval FP.Core.b64 V := by
    by_cases h : FP.Core.zval FP.Core.b64 V < 0
    · have := Int.mul_neg_of_neg_of_pos h hBi
      omega
    · omega
  have hq0 : (FP.Core.b64.qmin - FP.Core.b64.qmin).toNat = 0 := by rw [Int.sub_self]; rfl
  have hqn : FP.Core.b64.qmin ≤ 0 := by decide
  have l1 := FP.Core.zmag_roundRatio_le FP.Core.good_b64 (s := s) (A := A) (B := B) (e := 0) (e0 := FP.Core.b64.qmin) (V := V) hB v1 v2 (Int.le_refl _) hqn (by
    rw [eU, hq0, Nat.pow_zero, Nat.mul_one]
    have : ((A * FP.Core.one64 : Nat) : Int) ≤ ((FP.Core.zmag FP.Core.b64 V * B : Nat) : Int) := by
      push_cast
      rw [hma, zmag_zval hV0]; exact v3
    exact_mod_cast this)
  generalize hZ : FP.Core.zmag FP.Core.b64 (FP.Core.roundRatio FP.Core.b64 s A B 0) = Z at *
  have l2 : FP.Core.zval FP.Core.b64 U ≤ Z := by
    by_cases h : FP.Core.zval FP.Core.b64 U < 0
    · omega
    · have h : 0 ≤ FP.Core.zval FP.Core.b64 U := by omega
      have := FP.Core.zmag_roundRatio_ge FP.Core.good_b64 (s := s) (A := A) (B := B) (e := 0) (e0 := FP.Core.b64.qmin) (V := U) hB u1 (Int.le_refl _) hqn (by
        rw [eU, hq0, Nat.pow_zero, Nat.mul_one]
        have : ((FP.Core.zmag FP.Core.b64 U * B : Nat) : Int) ≤ ((A * FP.Core.one64 : Nat) : Int) := by
          push_cast
          rw [hma, zmag_zval h]; exact u3
        exact_mod_cast this)
      rw [hZ] at this
      have h2 := zmag_zval h
      omega
  have l1' : (Z : Int) ≤ FP.Core.zval FP.Core.b64 V := by
    have h2 := zmag_zval hV0
    omega
  have hzs : zv (FP.ddiv a b) = Z := by
    rw [ev]
    cases s
    · rfl
    · have hA0 : A = 0 := by
        rw [ea] at h0
        simp only [FP.Core.signed] at h0
        simp at h0
        omega
      have hZ0 : Z = 0 := by
        have := FP.Core.zmag_roundRatio_le FP.Core.good_b64 (s := true) (A := A) (B := B) (e := 0) (e0 := FP.Core.b64.qmin) (V := .fin false 0 FP.Core.b64.qmin) hB (FP.Core.zero_fits FP.Core.good_b64 false) (by intro q; cases q) (Int.le_refl _) hqn (by
          rw [hA0]; unfold FP.Core.inUnits; simp)
        rw [hZ] at this
        have e2 : FP.Core.zmag FP.Core.b64 (.fin false 0 FP.Core.b64.qmin) = 0 := by unfold FP.Core.zmag FP.Core.inUnits; simp
        omega
      rw [hZ0]; rfl
  have m1 : (Z : Int) * B ≤ FP.Core.zval FP.Core.b64 V * B := Int.mul_le_mul_of_nonneg_right l1' (Int.le_of_lt hBi)
  have m2 : FP.Core.zval FP.Core.b64 U * B ≤ (Z : Int) * B := Int.mul_le_mul_of_nonneg_right l2 (Int.le_of_lt hBi)
  refine ⟨DF.of hn ?_ (by rw [hzs]; omega), by rw [hzs, eb]; omega, by rw [hzs, eb]; omega, by rw [hzs]; omega⟩
  rw [hzs]
  refine Int.le_of_mul_le_mul_right (a := (B : Int)) ?_ hBi
  have x1 : 5001 * (FP.Core.one64 : Int) * B = 5000 * (FP.Core.one64 : Int) * B + FP.Core.one64 * B := by
    rw [show (5001 : Int) = 5000 + 1 from rfl, Int.add_mul, Int.add_mul, Int.one_mul]
  have x2 : (gr : Int) * B ≤ FP.Core.one64 * B := Int.mul_le_mul_of_nonneg_right hg (Int.le_of_lt hBi)
  omega
/-- whole numbers -/
theorem i2d_zv {n : Nat} (h : n ≤ 2000) : DF (FP.i2d (nI n)) ∧ zv (FP.i2d (nI n)) = n * (FP.Core.one64 : Int) := by
  refine ⟨FP.Core.i2d_fin _, ?_⟩
  have h1 : FP.Core.DInt ((nI n).toInt) (FP.i2d (nI n)) := FP.Core.i2d_int _
  have h2 := FP.Core.DInt_zval h1
  unfold zv
  rw [h2, nI_toInt (by omega)]
