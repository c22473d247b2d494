/-! ===== BITS of a number: halved, doubled, compared ===== -/
theorem bt_T : FP.Core.b64.tails = 4503599627370496 := by decide
theorem bt_E : FP.Core.b64.exps = 2048 := by decide
theorem bt_q : FP.Core.b64.qmin = -1074 := by decide
theorem bt_Q : FP.Core.b64.qmax = 971 := by decide
theorem bt_P : 2 ^ FP.Core.b64.p = 9007199254740992 := by decide
/-- what the bits of a number that is no less than 0 stand for -/
theorem bt_val {m : UInt64} {n : Nat} (e : m.toNat = n) (hn : n < 9218868437227405312) : FP.Core.val64 m = .fin false (if n < 4503599627370496 then n else 4503599627370496 + n % 4503599627370496) (if n < 4503599627370496 then -1074 else ((n / 4503599627370496 : Nat) : Int) - 1075) := by
  subst e
  show FP.Core.decode FP.Core.b64 m.toNat = _
  unfold FP.Core.decode FP.Core.fieldE FP.Core.fieldT FP.Core.fieldS
  rw [bt_T, bt_E, bt_q]
  generalize m.toNat = n at *
  have e0 : n / 4503599627370496 < 2047 := by omega
  have e1 : n / 4503599627370496 % 2048 = n / 4503599627370496 := by omega
  have e2 : n / 4503599627370496 / 2048 = 0 := by omega
  rw [e1, e2, if_neg (by omega)]
  by_cases h : n < 4503599627370496
  · rw [if_pos (by omega), if_pos h, if_pos h, Nat.mod_eq_of_lt h]
    rfl
  · rw [if_neg (by omega), if_neg h, if_neg h]
    have e3 : (-1074 : Int) + (((n / 4503599627370496 : Nat) : Int) - 1) = ((n / 4503599627370496 : Nat) : Int) - 1075 := by omega
    rw [e3]
    rfl
theorem bt_norm {m : UInt64} {n : Nat} (e : m.toNat = n) (h1 : 4503599627370496 ≤ n) (hn : n < 9218868437227405312) : FP.Core.val64 m = .fin false (4503599627370496 + n % 4503599627370496) (((n / 4503599627370496 : Nat) : Int) - 1075) := by
  rw [bt_val e hn, if_neg (by omega), if_neg (by omega)]
theorem bt_low {m : UInt64} {n : Nat} (e : m.toNat = n) (h1 : n < 4503599627370496) : FP.Core.val64 m = .fin false n (-1074) := by
  rw [bt_val e (by omega), if_pos h1, if_pos h1]
/-- its bits again -/
theorem bt_enc {c : Nat} {q : Int} (h1 : 4503599627370496 ≤ c) (h2 : c < 9007199254740992) (h3 : -1074 ≤ q) (h4 : q ≤ 971) : (FP.Core.of64 (.fin false c q)).toNat = ((q + 1074).toNat + 1) * 4503599627370496 + (c - 4503599627370496) := by
  rw [FP.Core.toNat_of64 (show FP.Core.fits FP.Core.b64 (.fin false c q) from ⟨by rw [bt_P]; exact h2, by rw [bt_q]; exact h3, by rw [bt_Q]; exact h4, Or.inr (by rw [bt_T]; exact h1)⟩)]
  show (if c < FP.Core.b64.tails then _ else FP.Core.assemble FP.Core.b64 false ((q - FP.Core.b64.qmin).toNat + 1) (c - FP.Core.b64.tails)) = _
  rw [bt_T, bt_q, if_neg (by omega)]
  unfold FP.Core.assemble
  rw [bt_T, bt_E]
  show (0 * 2048 + ((q - -1074).toNat + 1)) * 4503599627370496 + _ = _
  rw [Nat.zero_mul, Nat.zero_add, show q - -1074 = q + 1074 by omega]
theorem bt_encl {c : Nat} (h1 : c < 4503599627370496) : (FP.Core.of64 (.fin false c (-1074))).toNat = c := by
  rw [FP.Core.toNat_of64 (show FP.Core.fits FP.Core.b64 (.fin false c (-1074)) from ⟨by rw [bt_P]; omega, by rw [bt_q]; omega, by rw [bt_Q]; omega, Or.inl bt_q.symm⟩)]
  show (if c < FP.Core.b64.tails then FP.Core.assemble FP.Core.b64 false 0 c else _) = _
  rw [bt_T, if_pos h1]
  unfold FP.Core.assemble
  rw [bt_T, bt_E]
  show (0 * 2048 + 0) * 4503599627370496 + c = c
  omega
theorem bt_fits {c : Nat} {q : Int} (h1 : 4503599627370496 ≤ c ∨ q = -1074) (h2 : c < 9007199254740992) (h3 : -1074 ≤ q) (h4 : q ≤ 971) : FP.Core.fits FP.Core.b64 (.fin false c q) :=
  ⟨by rw [bt_P]; exact h2, by rw [bt_q]; exact h3, by rw [bt_Q]; exact h4, by rw [bt_T, bt_q]; omega⟩
theorem bt_two : FP.Core.val64 4611686018427387904 = .fin false 4503599627370496 (-51) := by rw [bt_norm (n := 4611686018427387904) rfl (by omega) (by omega)]; rfl
theorem pow52 : (2 : Nat) ^ 52 = 4503599627370496 := by decide
/-- halved -/
theorem bt_half {m : UInt64} {n : Nat} (e : m.toNat = n) (h1 : 4611686018427387904 ≤ n) (h2 : n < 9218868437227405312) : (FP.ddiv m 4611686018427387904).toNat = n - 4503599627370496 := by
  have hv := bt_norm e (by omega) h2
  have ev : FP.ddiv m 4611686018427387904 = FP.Core.of64 (FP.Core.quotient FP.Core.b64 (FP.Core.val64 m) (FP.Core.val64 4611686018427387904)) := rfl
  have hq : FP.Core.quotient FP.Core.b64 (FP.Core.val64 m) (FP.Core.val64 4611686018427387904) = .fin false (4503599627370496 + n % 4503599627370496) (((n / 4503599627370496 : Nat) : Int) - 1076) := by
    rw [hv, bt_two]
    show (if (4503599627370496 : Nat) = 0 then (if 4503599627370496 + n % 4503599627370496 = 0 then FP.Core.Datum.nan else .inf (false != false)) else FP.Core.roundRatio FP.Core.b64 (false != false) (4503599627370496 + n % 4503599627370496) 4503599627370496 (((n / 4503599627370496 : Nat) : Int) - 1075 - -51)) = _
    rw [if_neg (by omega)]
    refine FP.Core.roundRatio_exact FP.Core.good_b64 (by omega) (bt_fits (Or.inl (by omega)) (by omega) (by omega) (by omega)) ?_
    rw [show (((n / 4503599627370496 : Nat) : Int) - 1075 - -51 - (((n / 4503599627370496 : Nat) : Int) - 1076)).toNat = 52 by omega, show (((n / 4503599627370496 : Nat) : Int) - 1076 - (((n / 4503599627370496 : Nat) : Int) - 1075 - -51)).toNat = 0 by omega, pow52, Nat.pow_zero, Nat.mul_one]
  rw [ev, hq, bt_enc (by omega) (by omega) (by omega) (by omega)]
  omega
/-- doubled -/
theorem bt_dbl {m : UInt64} {n : Nat} (e : m.toNat = n) (h1 : 4503599627370496 ≤ n) (h2 : n < 9214364837600034816) : (FP.dmul m 4611686018427387904).toNat = n + 4503599627370496 := by
  have hv := bt_norm e h1 (by omega)
  have ev : FP.dmul m 4611686018427387904 = FP.Core.of64 (FP.Core.round FP.Core.b64 (FP.Core.exactProduct (FP.Core.val64 m) (FP.Core.val64 4611686018427387904))) := rfl
  have hq : FP.Core.round FP.Core.b64 (FP.Core.exactProduct (FP.Core.val64 m) (FP.Core.val64 4611686018427387904)) = .fin false (4503599627370496 + n % 4503599627370496) (((n / 4503599627370496 : Nat) : Int) - 1074) := by
    rw [hv, bt_two]
    show FP.Core.roundRatio FP.Core.b64 (false != false) ((4503599627370496 + n % 4503599627370496) * 4503599627370496) 1 (((n / 4503599627370496 : Nat) : Int) - 1075 + -51) = _
    refine FP.Core.roundRatio_exact FP.Core.good_b64 (by omega) (bt_fits (Or.inl (by omega)) (by omega) (by omega) (by omega)) ?_
    rw [show (((n / 4503599627370496 : Nat) : Int) - 1075 + -51 - (((n / 4503599627370496 : Nat) : Int) - 1074)).toNat = 0 by omega, show (((n / 4503599627370496 : Nat) : Int) - 1074 - (((n / 4503599627370496 : Nat) : Int) - 1075 + -51)).toNat = 52 by omega, pow52, Nat.pow_zero, Nat.mul_one, Nat.mul_one]
  rw [ev, hq, bt_enc (by omega) (by omega) (by omega) (by omega)]
  omega
theorem bt_dbll {m : UInt64} {n : Nat} (e : m.toNat = n) (h1 : n < 4503599627370496) : (FP.dmul m 4611686018427387904).toNat = 2 * n := by
  have hv := bt_low e h1
  have ev : FP.dmul m 4611686018427387904 = FP.Core.of64 (FP.Core.round FP.Core.b64 (FP.Core.exactProduct (FP.Core.val64 m) (FP.Core.val64 4611686018427387904))) := rfl
  have hq : FP.Core.round FP.Core.b64 (FP.Core.exactProduct (FP.Core.val64 m) (FP.Core.val64 4611686018427387904)) = .fin false (2 * n) (-1074) := by
    rw [hv, bt_two]
    show FP.Core.roundRatio FP.Core.b64 (false != false) (n * 4503599627370496) 1 (-1074 + -51) = _
    refine FP.Core.roundRatio_exact FP.Core.good_b64 (by omega) (bt_fits (Or.inr rfl) (by omega) (by omega) (by omega)) ?_
    rw [show ((-1074 : Int) + -51 - -1074).toNat = 0 by decide, show ((-1074 : Int) - (-1074 + -51)).toNat = 51 by decide, Nat.pow_zero, Nat.mul_one, Nat.mul_one, show (2 : Nat) ^ 51 = 2251799813685248 by decide]
    omega
  rw [ev, hq]
  by_cases h : 2 * n < 4503599627370496
  · exact bt_encl h
  · rw [bt_enc (by omega) (by omega) (by omega) (by omega), show ((-1074 : Int) + 1074).toNat = 0 by decide]
    omega
/-- compared -/
theorem bt_key {m : UInt64} {n : Nat} (e : m.toNat = n) (hn : n < 9218868437227405312) : FP.Core.dkey m = (n : Int) ∧ FP.Core.val64 m ≠ .nan := by
  refine ⟨?_, fun q => by rw [bt_val e hn] at q; cases q⟩
  unfold FP.Core.dkey
  rw [e, if_neg (show ¬ 2 ^ 63 ≤ n by rw [show (2 : Nat) ^ 63 = 9223372036854775808 by decide]; omega)]
theorem bt_cmp {m z : UInt64} {n k : Nat} (e : m.toNat = n) (hn : n < 9218868437227405312) (ez : z.toNat = k) (hk : k < 9218868437227405312) : FP.dcmp m z = some (compare (n : Int) (k : Int)) := by
  obtain ⟨a1, a2⟩ := bt_key e hn
  obtain ⟨b1, b2⟩ := bt_key ez hk
  have h := FP.Core.dcmp_key a2 b2
  rw [a1, b1] at h
  exact h
theorem cmp_l {a b : Int} (h : a < b) : compare a b = .lt := by simp only [compare, compareOfLessAndEq, if_pos h]
theorem cmp_e {a b : Int} (h : a = b) : compare a b = .eq := by subst h; simp only [compare, compareOfLessAndEq, Int.lt_irrefl, if_false, if_true]
theorem cmp_g {a b : Int} (h : b < a) : compare a b = .gt := by simp only [compare, compareOfLessAndEq, if_neg (show ¬ a < b by omega), if_neg (show ¬ a = b by omega)]
/-- what is left at the end, as a whole number -/
theorem bt_end {m z : UInt64} {c : Nat} {q j : Int} (hz : FP.Core.val64 z = .fin false 4503599627370496 (j - 52)) (hv : FP.Core.val64 m = .fin false c q) (d : Nat) (hd : (d : Int) = -j - q) (hc : c < 9007199254740992) (k : Nat) (hk : k * 2 ^ d = c) : vf_n64 (FP.dmul m z) ∧ FP.d2l (FP.dmul m z) = Int64.ofInt (k : Int) := by
  have hkb : k < 9007199254740992 := Nat.lt_of_le_of_lt (by rw [← hk]; exact Nat.le_mul_of_pos_right _ (Nat.two_pow_pos _)) hc
  have ev : FP.Core.val64 (FP.dmul m z) = FP.Core.round FP.Core.b64 (FP.Core.exactProduct (FP.Core.val64 m) (FP.Core.val64 z)) := FP.Core.val64_dmul _ _
  have e1 : FP.Core.exactProduct (FP.Core.val64 m) (FP.Core.val64 z) = .fin false (c * 4503599627370496) (q + (j - 52)) := by rw [hv, hz]; rfl
  obtain ⟨c', q', r1, r2⟩ := FP.Core.round_exact FP.Core.good_b64 false (c := k) (q := 0) (by rw [bt_P]; exact hkb) (by rw [bt_q]; omega) (by rw [bt_Q]; omega)
  have e2 : FP.Core.round FP.Core.b64 (.fin false (c * 4503599627370496) (q + (j - 52))) = FP.Core.round FP.Core.b64 (.fin false k 0) := by
    show FP.Core.roundRatio FP.Core.b64 false (c * 4503599627370496) 1 (q + (j - 52)) = FP.Core.roundRatio FP.Core.b64 false k 1 0
    refine FP.Core.roundRatio_congr (by decide) (by decide) ?_
    rw [← hk, ← pow52, show (q + (j - 52) - 0).toNat = 0 by omega, show (0 - (q + (j - 52))).toNat = 52 + d by omega, Nat.pow_add]
    simp only [Nat.pow_zero, Nat.mul_one]
    rw [Nat.mul_assoc, Nat.mul_comm (2 ^ d) (2 ^ 52)]
  have hq' : FP.Core.b64.qmin ≤ q' := by
    have := FP.Core.round_fits FP.Core.good_b64 (.fin false k 0)
    rw [r1] at this
    exact this.2.1
  have ev2 : FP.Core.val64 (FP.dmul m z) = .fin false c' q' := by rw [ev, e1, e2, r1]
  refine ⟨vfn ⟨_, _, _, ev2⟩, ?_⟩
  show FP.Core.toL (FP.Core.val64 (FP.dmul m z)) = _
  rw [ev2]
  have key : c' * 2 ^ q'.toNat / 2 ^ (-q').toNat = k := by
    unfold FP.Core.inUnits at r2
    rw [bt_q] at r2 hq'
    have z1 : c' * 2 ^ (q' + 1074).toNat = k * 2 ^ 1074 := by
      have a1 : (q' - -1074).toNat = (q' + 1074).toNat := by congr 1
      have a2 : ((0 : Int) - -1074).toNat = 1074 := by decide
      rw [a1, a2] at r2
      exact r2
    by_cases hs : 0 ≤ q'
    · rw [show (-q').toNat = 0 by omega, Nat.pow_zero, Nat.div_one]
      rw [show (q' + 1074).toNat = q'.toNat + 1074 by omega, Nat.pow_add, ← Nat.mul_assoc] at z1
      exact Nat.eq_of_mul_eq_mul_right (Nat.two_pow_pos 1074) z1
    · rw [show q'.toNat = 0 by omega, Nat.pow_zero, Nat.mul_one]
      have z2 : 1074 = (q' + 1074).toNat + (-q').toNat := by omega
      have z3 : k * 2 ^ 1074 = (k * 2 ^ (-q').toNat) * 2 ^ (q' + 1074).toNat := by
        rw [Nat.mul_assoc, ← Nat.pow_add]
        congr 2
        omega
      rw [z3] at z1
      rw [Nat.eq_of_mul_eq_mul_right (Nat.two_pow_pos _) z1]
      exact Nat.mul_div_cancel _ (Nat.two_pow_pos _)
  show Int64.ofInt (max ((-2 : Int) ^ 63) (min (2 ^ 63 - 1) (FP.Core.signed false (c' * 2 ^ q'.toNat / 2 ^ (-q').toNat)))) = _
  rw [key]
  have b1 : FP.Core.signed false k = (k : Int) := rfl
  rw [b1, show max ((-2 : Int) ^ 63) (min (2 ^ 63 - 1) (k : Int)) = (k : Int) from by
    rw [show ((-2 : Int) ^ 63) = -9223372036854775808 by decide, show ((2 : Int) ^ 63 - 1) = 9223372036854775807 by decide]; omega]
theorem bt_end52 {m : UInt64} {c : Nat} {q : Int} (hv : FP.Core.val64 m = .fin false c q) {d : Nat} (hd : (d : Int) = -52 - q) (hc : c < 9007199254740992) (k : Nat) (hk : k * 2 ^ d = c) : vf_n64 (FP.dmul m 4841369599423283200) ∧ FP.d2l (FP.dmul m 4841369599423283200) = Int64.ofInt (k : Int) :=
  bt_end (j := 52) (by rw [bt_norm (n := 4841369599423283200) rfl (by omega) (by omega)]; rfl) hv d hd hc k hk
theorem bt_end23 {m : UInt64} {c : Nat} {q : Int} (hv : FP.Core.val64 m = .fin false c q) {d : Nat} (hd : (d : Int) = -23 - q) (hc : c < 9007199254740992) (k : Nat) (hk : k * 2 ^ d = c) : vf_n64 (FP.dmul m 4710765210229538816) ∧ FP.d2l (FP.dmul m 4710765210229538816) = Int64.ofInt (k : Int) :=
  bt_end (j := 23) (by rw [bt_norm (n := 4710765210229538816) rfl (by omega) (by omega)]; rfl) hv d hd hc k hk
