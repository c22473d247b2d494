/-! ===== THE FACE: the bits of a number, by halving and doubling ===== -/
theorem bc_lt {m z : UInt64} {n k : Nat} {o : CmpOp} (e : m.toNat = n) (hn : n < 9218868437227405312) (ez : z.toNat = k) (hk : k < 9218868437227405312) (h : n < k) : Op.cmpValue (FP.dcmp m z) o < 0 := by
  rw [bt_cmp e hn ez hk, cmp_l (by omega)]
  cases o <;> decide
theorem bc_ge {m z : UInt64} {n k : Nat} {o : CmpOp} (e : m.toNat = n) (hn : n < 9218868437227405312) (ez : z.toNat = k) (hk : k < 9218868437227405312) (h : k ≤ n) : 0 ≤ Op.cmpValue (FP.dcmp m z) o := by
  rw [bt_cmp e hn ez hk]
  by_cases hh : k < n
  · rw [cmp_g (by omega)]
    cases o <;> decide
  · rw [cmp_e (by omega)]
    cases o <;> decide
theorem bc_eq {m z : UInt64} {n k : Nat} {o : CmpOp} (e : m.toNat = n) (hn : n < 9218868437227405312) (ez : z.toNat = k) (hk : k < 9218868437227405312) (h : n = k) : Op.cmpValue (FP.dcmp m z) o = 0 := by
  rw [bt_cmp e hn ez hk, cmp_e (by omega)]
  cases o <;> decide
theorem bc_ne {m z : UInt64} {n k : Nat} {o : CmpOp} (e : m.toNat = n) (hn : n < 9218868437227405312) (ez : z.toNat = k) (hk : k < 9218868437227405312) (h : n ≠ k) : ¬ Op.cmpValue (FP.dcmp m z) o = 0 := by
  rw [bt_cmp e hn ez hk]
  by_cases hh : k < n
  · rw [cmp_g (by omega)]
    cases o <;> decide
  · rw [cmp_l (by omega)]
    cases o <;> decide
theorem bc_nl {x : Int32} (h : 0 ≤ x) : ¬ x < 0 := Int32.not_lt.mpr h
theorem bc_ng {x : Int32} (h : x < 0) : ¬ 0 ≤ x := Int32.not_le.mpr h
theorem bt_n64 {m : UInt64} {n : Nat} (e : m.toNat = n) (hn : n < 9218868437227405312) : vf_n64 m := vfn ⟨_, _, _, bt_val e hn⟩
/-- units of 2^-1074 -/
def uts (n : Nat) : Nat := if n < 9007199254740992 then n else (4503599627370496 + n % 4503599627370496) * 2 ^ (n / 4503599627370496 - 1)
theorem uts_low {n : Nat} (h : n < 4503599627370496) : uts (2 * n) = 2 * uts n := by
  unfold uts
  rw [if_pos (by omega), if_pos (by omega)]
theorem uts_norm {n : Nat} (h : 4503599627370496 ≤ n) : uts n = (4503599627370496 + n % 4503599627370496) * 2 ^ (n / 4503599627370496 - 1) := by
  unfold uts
  by_cases hh : n < 9007199254740992
  · rw [if_pos hh, show n / 4503599627370496 - 1 = 0 by omega, Nat.pow_zero, Nat.mul_one]
    omega
  · rw [if_neg hh]
theorem uts_dbl {n : Nat} (h : 4503599627370496 ≤ n) : uts (n + 4503599627370496) = 2 * uts n := by
  rw [uts_norm h, uts_norm (by omega), show (n + 4503599627370496) / 4503599627370496 - 1 = (n / 4503599627370496 - 1) + 1 by omega, show (n + 4503599627370496) % 4503599627370496 = n % 4503599627370496 by omega, Nat.pow_succ]
  generalize 2 ^ (n / 4503599627370496 - 1) = p
  rw [← Nat.mul_assoc, Nat.mul_comm _ 2]
theorem uts_ge {n : Nat} (h : 4607182418800017408 ≤ n) : 4503599627370496 * 2 ^ 1022 ≤ uts n := by
  rw [uts_norm (by omega)]
  exact Nat.mul_le_mul (by omega) (Nat.pow_le_pow_right (by decide) (by omega))
theorem uts_lt {n n0 k : Nat} (h0 : n0 < 4503599627370496) (h : uts n * 2 ^ k = n0 * 2 ^ 1022) : n < 4607182418800017408 := by
  refine Nat.lt_of_not_le (fun q => ?_)
  have h1 := uts_ge q
  have h2 : uts n ≤ uts n * 2 ^ k := Nat.le_mul_of_pos_right _ (Nat.two_pow_pos _)
  rw [h] at h2
  have h3 := Nat.le_of_mul_le_mul_right (Nat.le_trans h1 h2) (Nat.two_pow_pos 1022)
  omega
theorem shl52 (e : Nat) (h : e < 2047) : (nI e).toInt64 <<< ((nI 52).toInt64 &&& 63) = Int64.ofInt ((e * 4503599627370496 : Nat) : Int) := by
  have k : (List.range 2047).all (fun e => (nI e).toInt64 <<< ((nI 52).toInt64 &&& 63) == Int64.ofInt ((e * 4503599627370496 : Nat) : Int)) = true := by decide +kernel
  exact eq_of_beq (List.all_eq_true.mp k e (List.mem_range.mpr h))
theorem shl23 (e : Nat) (h : e < 255) : (nI e).toInt64 <<< ((nI 23).toInt64 &&& 63) = Int64.ofInt ((e * 8388608 : Nat) : Int) := by
  have k : (List.range 255).all (fun e => (nI e).toInt64 <<< ((nI 23).toInt64 &&& 63) == Int64.ofInt ((e * 8388608 : Nat) : Int)) = true := by decide +kernel
  exact eq_of_beq (List.all_eq_true.mp k e (List.mem_range.mpr h))
theorem one52 : FP.l2d ((1 : Int64) <<< ((nI 52).toInt64 &&& 63)) = 4841369599423283200 := by decide +kernel
theorem one23 : FP.l2d ((1 : Int64) <<< ((nI 23).toInt64 &&& 63)) = 4710765210229538816 := by decide +kernel
theorem one52i : (1 : Int64) <<< ((nI 52).toInt64 &&& 63) = Int64.ofInt 4503599627370496 := by decide +kernel
theorem one23i : (1 : Int64) <<< ((nI 23).toInt64 &&& 63) = Int64.ofInt 8388608 := by decide +kernel
theorem sum64 (a b c : Int) : Int64.ofInt a + Int64.ofInt b - Int64.ofInt c = Int64.ofInt (a + b - c) := by rw [Int64.ofInt_sub, Int64.ofInt_add]
theorem l_bUp (w : XW) (h : XH) (P : Option Value → XH → Prop) {x : UInt64} {F B N E : Nat} (hB : B ≤ 1023) (hF : F < 100) (hN : N < 4611686018427387904) (hE : E ≤ 2 * B) (hP : ∀ m' : UInt64, m'.toNat = N → AX w M_X11_bitsOfSize 0 0 45 [.double x, .null, .int (nI F), .int (nI B), .double m', .null, .int (nI E), .null, .null] [] h P) : ∀ (k e : Nat) (m : UInt64), e + k = E → m.toNat = N + k * 4503599627370496 → (k = 0 ∨ 4607182418800017408 ≤ N) → N + k * 4503599627370496 < 9218868437227405312 → AX w M_X11_bitsOfSize 0 0 14 [.double x, .null, .int (nI F), .int (nI B), .double m, .null, .int (nI e), .null, .null] [] h P := by
  intro k
  induction k with
  | zero =>
    intro e m he hm hk hb
    have e0 : e = E := by omega
    subst e0
    have hm : m.toNat = N := by omega
    refine AX.iload (pc := 14) dX11_bitsOfSize_14 rfl ?_
    refine AX.iconst (pc := 16) (v := nI 2) dX11_bitsOfSize_16 (by decide) ?_
    refine AX.iload_n (pc := 17) dX11_bitsOfSize_17 rfl ?_
    refine AX.imulN (pc := 18) (c := 2 * B) dX11_bitsOfSize_18 rfl ?_
    refine AX.icmp_geN (pc := 19) (tgt := 45) dX11_bitsOfSize_19 (by decide) (by omega) (by omega) (fun hc19 => ?_) (fun hc19 => ?_)
    · exact hP m hm
    · refine AX.dload (pc := 22) dX11_bitsOfSize_22 rfl ?_
      refine AX.ldc2d (pc := 24) (v := 4611686018427387904) dX11_bitsOfSize_24 cX11_bitsOfSize_343 ?_
      refine AX.dcmp (pc := 27) dX11_bitsOfSize_27 ?_
      refine AX.if_lt (pc := 28) (tgt := 45) dX11_bitsOfSize_28 (by decide) (fun hc28 => ?_) (fun q => absurd (bc_lt hm (by omega) (show (4611686018427387904 : UInt64).toNat = 4611686018427387904 from rfl) (by omega) (by omega)) q)
      exact hP m hm
  | succ k ih =>
    intro e m he hm hk hb
    have h1 : k = 0 ∨ 4607182418800017408 ≤ N := by
      rcases hk with z | z
      · exact absurd z (Nat.succ_ne_zero k)
      · exact Or.inr z
    have h1b : 4607182418800017408 ≤ N := hk.resolve_left (Nat.succ_ne_zero k)
    have hg : 4611686018427387904 ≤ N + (k + 1) * 4503599627370496 := by rw [Nat.add_mul]; omega
    have h2 : N + k * 4503599627370496 < 9218868437227405312 := Nat.lt_of_le_of_lt (Nat.add_le_add_left (Nat.mul_le_mul_right _ (Nat.le_succ k)) N) hb
    have h3 : (FP.ddiv m 4611686018427387904).toNat = N + k * 4503599627370496 := (bt_half hm hg hb).trans (by rw [Nat.add_mul]; omega)
    refine AX.iload (pc := 14) dX11_bitsOfSize_14 rfl ?_
    refine AX.iconst (pc := 16) (v := nI 2) dX11_bitsOfSize_16 (by decide) ?_
    refine AX.iload_n (pc := 17) dX11_bitsOfSize_17 rfl ?_
    refine AX.imulN (pc := 18) (c := 2 * B) dX11_bitsOfSize_18 rfl ?_
    refine AX.icmp_geN (pc := 19) (tgt := 45) dX11_bitsOfSize_19 (by decide) (by omega) (by omega) (fun q => absurd q (by omega)) (fun hc19 => ?_)
    refine AX.dload (pc := 22) dX11_bitsOfSize_22 rfl ?_
    refine AX.ldc2d (pc := 24) (v := 4611686018427387904) dX11_bitsOfSize_24 cX11_bitsOfSize_343 ?_
    refine AX.dcmp (pc := 27) dX11_bitsOfSize_27 ?_
    refine AX.if_lt (pc := 28) (tgt := 45) dX11_bitsOfSize_28 (by decide) (fun q => absurd q (bc_nl (bc_ge hm hb (show (4611686018427387904 : UInt64).toNat = 4611686018427387904 from rfl) (by omega) hg))) (fun hc28 => ?_)
    refine AX.dload (pc := 31) dX11_bitsOfSize_31 rfl ?_
    refine AX.ldc2d (pc := 33) (v := 4611686018427387904) dX11_bitsOfSize_33 cX11_bitsOfSize_343 ?_
    refine AX.ddiv (pc := 36) dX11_bitsOfSize_36 (bt_n64 (bt_half hm hg hb) (by omega)) ?_
    refine AX.dstore (pc := 37) (L' := [.double x, .null, .int (nI F), .int (nI B), .double (FP.ddiv m 4611686018427387904), .null, .int (nI e), .null, .null]) dX11_bitsOfSize_37 (by decide) rfl ?_
    refine AX.iincN (c := e + 1) (pc := 39) (L' := [.double x, .null, .int (nI F), .int (nI B), .double (FP.ddiv m 4611686018427387904), .null, .int (nI (e + 1)), .null, .null]) dX11_bitsOfSize_39 rfl (inc1 _) (by decide) rfl ?_
    refine AX.goto (pc := 42) (tgt := 14) dX11_bitsOfSize_42 (by decide) ?_
    exact ih (e + 1) _ (by omega) h3 h1 h2
theorem l_bDn (w : XW) (h : XH) (P : Option Value → XH → Prop) {x : UInt64} {F B N E : Nat} (hB : B ≤ 1023) (hF : F < 100) (hN : N < 4611686018427387904) (hN2 : 4607182418800017408 ≤ N) (hE : 1 ≤ E) (hE2 : E < 100000) (hP : ∀ m' : UInt64, m'.toNat = N → AX w M_X11_bitsOfSize 0 0 72 [.double x, .null, .int (nI F), .int (nI B), .double m', .null, .int (nI E), .null, .null] [] h P) : ∀ (k e : Nat) (m : UInt64), e = E + k → k < 100000 → m.toNat + k * 4503599627370496 = N → 4503599627370496 ≤ m.toNat → AX w M_X11_bitsOfSize 0 0 45 [.double x, .null, .int (nI F), .int (nI B), .double m, .null, .int (nI e), .null, .null] [] h P
  | 0, e, m, he, hk, hm, hl => by
    have e0 : e = E := by omega
    subst e0
    have hm : m.toNat = N := by omega
    refine AX.iload (pc := 45) dX11_bitsOfSize_45 rfl ?_
    refine AX.iconst (pc := 47) (v := nI 1) dX11_bitsOfSize_47 (by decide) ?_
    refine AX.icmp_leN (pc := 48) (tgt := 72) dX11_bitsOfSize_48 (by decide) (by omega) (by decide) (fun hc48 => ?_) (fun hc48 => ?_)
    · exact hP m hm
    · refine AX.dload (pc := 51) dX11_bitsOfSize_51 rfl ?_
      refine AX.dconst1 (pc := 53) dX11_bitsOfSize_53 ?_
      refine AX.dcmp (pc := 54) dX11_bitsOfSize_54 ?_
      refine AX.if_ge (pc := 55) (tgt := 72) dX11_bitsOfSize_55 (by decide) (fun hc55 => ?_) (fun q => absurd (bc_ge hm (by omega) (show (FP.dconst1).toNat = 4607182418800017408 from rfl) (by omega) (by omega)) q)
      exact hP m hm
  | k + 1, e, m, he, hk, hm, hl => by
    have hd := bt_dbl (m := m) rfl hl (by omega)
    have e0 : e = E + k + 1 := by omega
    subst e0
    refine AX.iload (pc := 45) dX11_bitsOfSize_45 rfl ?_
    refine AX.iconst (pc := 47) (v := nI 1) dX11_bitsOfSize_47 (by decide) ?_
    refine AX.icmp_leN (pc := 48) (tgt := 72) dX11_bitsOfSize_48 (by decide) (by omega) (by decide) (fun q => absurd q (by omega)) (fun hc48 => ?_)
    refine AX.dload (pc := 51) dX11_bitsOfSize_51 rfl ?_
    refine AX.dconst1 (pc := 53) dX11_bitsOfSize_53 ?_
    refine AX.dcmp (pc := 54) dX11_bitsOfSize_54 ?_
    refine AX.if_ge (pc := 55) (tgt := 72) dX11_bitsOfSize_55 (by decide) (fun q => absurd q (bc_ng (bc_lt (m := m) rfl (by omega) (show (FP.dconst1).toNat = 4607182418800017408 from rfl) (by omega) (by omega)))) (fun hc55 => ?_)
    refine AX.dload (pc := 58) dX11_bitsOfSize_58 rfl ?_
    refine AX.ldc2d (pc := 60) (v := 4611686018427387904) dX11_bitsOfSize_60 cX11_bitsOfSize_343 ?_
    refine AX.dmul (pc := 63) dX11_bitsOfSize_63 (bt_n64 hd (by omega)) ?_
    refine AX.dstore (pc := 64) (L' := [.double x, .null, .int (nI F), .int (nI B), .double (FP.dmul m 4611686018427387904), .null, .int (nI (E + k + 1)), .null, .null]) dX11_bitsOfSize_64 (by decide) rfl ?_
    refine AX.iincN (c := E + k) (pc := 66) (L' := [.double x, .null, .int (nI F), .int (nI B), .double (FP.dmul m 4611686018427387904), .null, .int (nI (E + k)), .null, .null]) dX11_bitsOfSize_66 rfl (dec1 _) (by decide) rfl ?_
    refine AX.goto (pc := 69) (tgt := 45) dX11_bitsOfSize_69 (by decide) ?_
    exact l_bDn w h P hB hF hN hN2 hE hE2 hP k (E + k) _ rfl (by omega) (by rw [hd]; omega) (by omega)
theorem l_bSub (w : XW) (h : XH) (P : Option Value → XH → Prop) {x : UInt64} {F B n0 : Nat} (hB : B ≤ 1023) (hF : F < 100) (h0 : n0 < 4503599627370496) (hP : ∀ m' : UInt64, uts m'.toNat = n0 * 2 ^ 1022 → AX w M_X11_bitsOfSize 0 0 72 [.double x, .null, .int (nI F), .int (nI B), .double m', .null, .int (nI 1), .null, .null] [] h P) : ∀ (k e : Nat) (m : UInt64), e = k + 1 → k < 100000 → uts m.toNat * 2 ^ k = n0 * 2 ^ 1022 → AX w M_X11_bitsOfSize 0 0 45 [.double x, .null, .int (nI F), .int (nI B), .double m, .null, .int (nI e), .null, .null] [] h P
  | 0, e, m, he, hk, hm => by
    have e0 : e = 1 := by omega
    subst e0
    rw [Nat.pow_zero, Nat.mul_one] at hm
    refine AX.iload (pc := 45) dX11_bitsOfSize_45 rfl ?_
    refine AX.iconst (pc := 47) (v := nI 1) dX11_bitsOfSize_47 (by decide) ?_
    refine AX.icmp_leN (pc := 48) (tgt := 72) dX11_bitsOfSize_48 (by decide) (by decide) (by decide) (fun hc48 => ?_) (fun q => absurd q (by decide))
    exact hP m hm
  | k + 1, e, m, he, hk, hm => by
    have e0 : e = k + 1 + 1 := by omega
    subst e0
    have hl := uts_lt h0 hm
    have hd : uts (FP.dmul m 4611686018427387904).toNat * 2 ^ k = n0 * 2 ^ 1022 ∧ (FP.dmul m 4611686018427387904).toNat < 9218868437227405312 := by
      rw [Nat.pow_succ, ← Nat.mul_assoc] at hm
      by_cases hh : m.toNat < 4503599627370496
      · rw [bt_dbll rfl hh, uts_low hh]
        refine ⟨?_, by omega⟩
        rw [← hm]; generalize uts m.toNat = u; generalize 2 ^ k = p; rw [Nat.mul_comm 2 u, Nat.mul_assoc, Nat.mul_comm 2 p, Nat.mul_assoc]
      · rw [bt_dbl rfl (by omega) (by omega), uts_dbl (by omega)]
        refine ⟨?_, by omega⟩
        rw [← hm]; generalize uts m.toNat = u; generalize 2 ^ k = p; rw [Nat.mul_comm 2 u, Nat.mul_assoc, Nat.mul_comm 2 p, Nat.mul_assoc]
    refine AX.iload (pc := 45) dX11_bitsOfSize_45 rfl ?_
    refine AX.iconst (pc := 47) (v := nI 1) dX11_bitsOfSize_47 (by decide) ?_
    refine AX.icmp_leN (pc := 48) (tgt := 72) dX11_bitsOfSize_48 (by decide) (by omega) (by decide) (fun q => absurd q (by omega)) (fun hc48 => ?_)
    refine AX.dload (pc := 51) dX11_bitsOfSize_51 rfl ?_
    refine AX.dconst1 (pc := 53) dX11_bitsOfSize_53 ?_
    refine AX.dcmp (pc := 54) dX11_bitsOfSize_54 ?_
    refine AX.if_ge (pc := 55) (tgt := 72) dX11_bitsOfSize_55 (by decide) (fun q => absurd q (bc_ng (bc_lt (m := m) rfl (by omega) (show (FP.dconst1).toNat = 4607182418800017408 from rfl) (by omega) hl))) (fun hc55 => ?_)
    refine AX.dload (pc := 58) dX11_bitsOfSize_58 rfl ?_
    refine AX.ldc2d (pc := 60) (v := 4611686018427387904) dX11_bitsOfSize_60 cX11_bitsOfSize_343 ?_
    refine AX.dmul (pc := 63) dX11_bitsOfSize_63 (bt_n64 rfl hd.2) ?_
    refine AX.dstore (pc := 64) (L' := [.double x, .null, .int (nI F), .int (nI B), .double (FP.dmul m 4611686018427387904), .null, .int (nI (k + 1 + 1)), .null, .null]) dX11_bitsOfSize_64 (by decide) rfl ?_
    refine AX.iincN (c := k + 1) (pc := 66) (L' := [.double x, .null, .int (nI F), .int (nI B), .double (FP.dmul m 4611686018427387904), .null, .int (nI (k + 1)), .null, .null]) dX11_bitsOfSize_66 rfl (dec1 _) (by decide) rfl ?_
    refine AX.goto (pc := 69) (tgt := 45) dX11_bitsOfSize_69 (by decide) ?_
    exact l_bSub w h P hB hF h0 hP k (k + 1) _ rfl (by omega) hd.1
theorem l_bEnd52 (w : XW) (h : XH) (P : Option Value → XH → Prop) {x m : UInt64} {B e c d kk : Nat} {q : Int} (he : e < 2047) (hv : FP.Core.val64 m = .fin false c q) (hd : (d : Int) = -52 - q) (hc : c < 9007199254740992) (hk : kk * 2 ^ d = c) (hP : P (some (.long (Int64.ofInt (((e * 4503599627370496 : Nat) : Int) + (kk : Int) - 4503599627370496)))) h) : AX w M_X11_bitsOfSize 0 0 72 [.double x, .null, .int (nI 52), .int (nI B), .double m, .null, .int (nI e), .null, .null] [] h P := by
  have hdm := bt_end52 hv hd hc kk hk
  refine AX.lconst (pc := 72) (v := 1) dX11_bitsOfSize_72 (by decide) ?_
  refine AX.iload_n (pc := 73) dX11_bitsOfSize_73 rfl ?_
  refine AX.lshl (pc := 74) dX11_bitsOfSize_74 ?_
  refine AX.lstore (pc := 75) (L' := [.double x, .null, .int (nI 52), .int (nI B), .double m, .null, .int (nI e), .long ((1 : Int64) <<< ((nI 52).toInt64 &&& 63)), .null]) dX11_bitsOfSize_75 (by decide) rfl ?_
  refine AX.iload (pc := 77) dX11_bitsOfSize_77 rfl ?_
  refine AX.i2l (pc := 79) dX11_bitsOfSize_79 ?_
  refine AX.iload_n (pc := 80) dX11_bitsOfSize_80 rfl ?_
  refine AX.lshl (pc := 81) dX11_bitsOfSize_81 ?_
  refine AX.dload (pc := 82) dX11_bitsOfSize_82 rfl ?_
  refine AX.lload (pc := 84) dX11_bitsOfSize_84 rfl ?_
  refine AX.l2d (pc := 86) dX11_bitsOfSize_86 ?_
  refine AX.dmul (pc := 87) dX11_bitsOfSize_87 (by rw [one52]; exact hdm.1) ?_
  refine AX.d2l (pc := 88) dX11_bitsOfSize_88 ?_
  refine AX.ladd (pc := 89) dX11_bitsOfSize_89 ?_
  refine AX.lload (pc := 90) dX11_bitsOfSize_90 rfl ?_
  refine AX.lsub (pc := 92) dX11_bitsOfSize_92 ?_
  refine AX.lret (pc := 93) dX11_bitsOfSize_93 rfl (by decide) (by decide) ?_
  rw [one52, hdm.2, shl52 e he, one52i, sum64]
  exact hP
theorem l_bEnd23 (w : XW) (h : XH) (P : Option Value → XH → Prop) {x m : UInt64} {B e c d kk : Nat} {q : Int} (he : e < 255) (hv : FP.Core.val64 m = .fin false c q) (hd : (d : Int) = -23 - q) (hc : c < 9007199254740992) (hk : kk * 2 ^ d = c) (hP : P (some (.long (Int64.ofInt (((e * 8388608 : Nat) : Int) + (kk : Int) - 8388608)))) h) : AX w M_X11_bitsOfSize 0 0 72 [.double x, .null, .int (nI 23), .int (nI B), .double m, .null, .int (nI e), .null, .null] [] h P := by
  have hdm := bt_end23 hv hd hc kk hk
  refine AX.lconst (pc := 72) (v := 1) dX11_bitsOfSize_72 (by decide) ?_
  refine AX.iload_n (pc := 73) dX11_bitsOfSize_73 rfl ?_
  refine AX.lshl (pc := 74) dX11_bitsOfSize_74 ?_
  refine AX.lstore (pc := 75) (L' := [.double x, .null, .int (nI 23), .int (nI B), .double m, .null, .int (nI e), .long ((1 : Int64) <<< ((nI 23).toInt64 &&& 63)), .null]) dX11_bitsOfSize_75 (by decide) rfl ?_
  refine AX.iload (pc := 77) dX11_bitsOfSize_77 rfl ?_
  refine AX.i2l (pc := 79) dX11_bitsOfSize_79 ?_
  refine AX.iload_n (pc := 80) dX11_bitsOfSize_80 rfl ?_
  refine AX.lshl (pc := 81) dX11_bitsOfSize_81 ?_
  refine AX.dload (pc := 82) dX11_bitsOfSize_82 rfl ?_
  refine AX.lload (pc := 84) dX11_bitsOfSize_84 rfl ?_
  refine AX.l2d (pc := 86) dX11_bitsOfSize_86 ?_
  refine AX.dmul (pc := 87) dX11_bitsOfSize_87 (by rw [one23]; exact hdm.1) ?_
  refine AX.d2l (pc := 88) dX11_bitsOfSize_88 ?_
  refine AX.ladd (pc := 89) dX11_bitsOfSize_89 ?_
  refine AX.lload (pc := 90) dX11_bitsOfSize_90 rfl ?_
  refine AX.lsub (pc := 92) dX11_bitsOfSize_92 ?_
  refine AX.lret (pc := 93) dX11_bitsOfSize_93 rfl (by decide) (by decide) ?_
  rw [one23, hdm.2, shl23 e he, one23i, sum64]
  exact hP
