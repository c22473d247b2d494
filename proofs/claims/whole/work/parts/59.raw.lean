/-! ===== THE FACE: raw bits of doubles and floats ===== -/
theorem nx63 {n r : Nat} (e : n = 9223372036854775808 + r) (h : r < 9223372036854775808) : n ^^^ 9223372036854775808 = r := by
  subst e
  refine Nat.eq_of_testBit_eq fun i => ?_
  rw [Nat.testBit_xor, show (9223372036854775808 : Nat) = 2 ^ 63 from by decide, Nat.testBit_two_pow]
  by_cases h1 : i < 63
  · rw [Nat.testBit_two_pow_add_gt h1, decide_eq_false (by omega), Bool.xor_false]
  · by_cases h2 : i = 63
    · subst h2
      rw [Nat.testBit_two_pow_add_eq, Nat.testBit_lt_two_pow (by omega)]
      rfl
    · have h3 : 2 ^ 64 ≤ 2 ^ i := Nat.pow_le_pow_right (by decide) (by omega)
      rw [Nat.testBit_lt_two_pow (show 2 ^ 63 + r < 2 ^ i by omega), Nat.testBit_lt_two_pow (show r < 2 ^ i by omega), decide_eq_false (by omega)]
      rfl
theorem nx31 {n r : Nat} (e : n = 2147483648 + r) (h : r < 2147483648) : n ^^^ 2147483648 = r := by
  subst e
  refine Nat.eq_of_testBit_eq fun i => ?_
  rw [Nat.testBit_xor, show (2147483648 : Nat) = 2 ^ 31 from by decide, Nat.testBit_two_pow]
  by_cases h1 : i < 31
  · rw [Nat.testBit_two_pow_add_gt h1, decide_eq_false (by omega), Bool.xor_false]
  · by_cases h2 : i = 31
    · subst h2
      rw [Nat.testBit_two_pow_add_eq, Nat.testBit_lt_two_pow (by omega)]
      rfl
    · have h3 : 2 ^ 32 ≤ 2 ^ i := Nat.pow_le_pow_right (by decide) (by omega)
      rw [Nat.testBit_lt_two_pow (show 2 ^ 31 + r < 2 ^ i by omega), Nat.testBit_lt_two_pow (show r < 2 ^ i by omega), decide_eq_false (by omega)]
      rfl
theorem ng64 {x : UInt64} {r : Nat} (e : x.toNat = 9223372036854775808 + r) (h : r < 9223372036854775808) : (FP.dneg x).toNat = r := by
  unfold FP.dneg
  rw [UInt64.toNat_xor]
  exact nx63 e h
theorem ng32 {x : UInt32} {r : Nat} (e : x.toNat = 2147483648 + r) (h : r < 2147483648) : (FP.fneg x).toNat = r := by
  unfold FP.fneg
  rw [UInt32.toNat_xor]
  exact nx31 e h
theorem raw64 {x : UInt64} {n : Nat} (e : x.toNat = n) (h : n < 9223372036854775808) : Int64.ofInt (n : Int) = x.toInt64 := by
  subst e
  refine Int64.toBitVec_inj.mp ?_
  refine BitVec.eq_of_toNat_eq ?_
  show (BitVec.ofInt 64 (x.toNat : Int)).toNat = x.toNat
  rw [BitVec.toNat_ofInt]
  omega
theorem raw64n {x : UInt64} {r : Nat} (e : x.toNat = 9223372036854775808 + r) (h : r < 9223372036854775808) : Int64.ofInt (r : Int) ||| (-9223372036854775808) = x.toInt64 := by
  refine Int64.toBitVec_inj.mp ?_
  refine BitVec.eq_of_toNat_eq ?_
  show (BitVec.ofInt 64 (r : Int) ||| 9223372036854775808#64).toNat = x.toNat
  rw [BitVec.toNat_or, BitVec.toNat_ofInt, e, show ((r : Int) % ((2 ^ 64 : Nat) : Int)).toNat = r by omega]
  show r ||| 9223372036854775808 = _
  have := Nat.two_pow_add_eq_or_of_lt (i := 63) (b := r) (by omega) 1
  rw [Nat.or_comm]
  rw [show (2 : Nat) ^ 63 * 1 = 9223372036854775808 by decide] at this
  omega
theorem raw32 {x : UInt32} {n : Nat} (e : x.toNat = n) (h : n < 2147483648) : (Int64.ofInt (n : Int)).toInt32 = x.toInt32 := by
  subst e
  refine Int32.toBitVec_inj.mp ?_
  refine BitVec.eq_of_toNat_eq ?_
  show ((BitVec.ofInt 64 (x.toNat : Int)).signExtend 32).toNat = x.toNat
  rw [BitVec.signExtend_eq_setWidth_of_le _ (by decide), BitVec.toNat_setWidth, BitVec.toNat_ofInt]
  omega
theorem raw32n {x : UInt32} {r : Nat} (e : x.toNat = 2147483648 + r) (h : r < 2147483648) : (Int64.ofInt (r : Int)).toInt32 ||| (-2147483648) = x.toInt32 := by
  refine Int32.toBitVec_inj.mp ?_
  refine BitVec.eq_of_toNat_eq ?_
  show ((BitVec.ofInt 64 (r : Int)).signExtend 32 ||| 2147483648#32).toNat = x.toNat
  rw [BitVec.toNat_or, BitVec.signExtend_eq_setWidth_of_le _ (by decide), BitVec.toNat_setWidth, BitVec.toNat_ofInt, e, show ((r : Int) % ((2 ^ 64 : Nat) : Int)).toNat % 2 ^ 32 = r by omega]
  show r ||| 2147483648 = _
  have := Nat.two_pow_add_eq_or_of_lt (i := 31) (b := r) (by omega) 1
  rw [Nat.or_comm]
  rw [show (2 : Nat) ^ 31 * 1 = 2147483648 by decide] at this
  omega
/-- below 0 -/
theorem bn_lt {x : UInt64} {r : Nat} (e : x.toNat = 9223372036854775808 + r) (h0 : 0 < r) (h : r < 9218868437227405312) : FP.dcmp x FP.dconst0 = some .lt := by
  have hx : FP.Core.val64 x ≠ .nan := (FP.Core.ne_nan x).mpr (by omega)
  have hz : FP.Core.val64 FP.dconst0 ≠ .nan := by decide +kernel
  have hk := FP.Core.dcmp_key hx hz
  have k1 : FP.Core.dkey x = -(r : Int) := by
    unfold FP.Core.dkey
    rw [e, if_pos (by omega)]
    omega
  have k2 : FP.Core.dkey FP.dconst0 = 0 := by decide +kernel
  rw [k1, k2, cmp_l (by omega)] at hk
  exact hk
/-! floats -/
theorem ft_T : FP.Core.b32.tails = 8388608 := by decide
theorem ft_E : FP.Core.b32.exps = 256 := by decide
theorem ft_q : FP.Core.b32.qmin = -149 := by decide
theorem ft_val {x : UInt32} {f : Nat} (e : x.toNat = f) (h1 : 8388608 ≤ f) (hf : f < 2139095040) : FP.Core.val32 x = .fin false (8388608 + f % 8388608) (((f / 8388608 : Nat) : Int) - 150) := by
  subst e
  show FP.Core.decode FP.Core.b32 x.toNat = _
  unfold FP.Core.decode FP.Core.fieldE FP.Core.fieldT FP.Core.fieldS
  rw [ft_T, ft_E, ft_q]
  generalize x.toNat = n at *
  have e1 : n / 8388608 % 256 = n / 8388608 := by omega
  have e2 : n / 8388608 / 256 = 0 := by omega
  rw [e1, e2, if_neg (by omega), if_neg (by omega)]
  have e3 : (-149 : Int) + (((n / 8388608 : Nat) : Int) - 1) = ((n / 8388608 : Nat) : Int) - 150 := by omega
  rw [e3]
  rfl
theorem ft_notnan {x : UInt32} {f : Nat} (e : x.toNat = f) (h1 : 8388608 ≤ f) (hf : f < 2139095040) : FP.Core.fIsNaN x = false := by
  rw [FP.Core.notNaN_iff32, ft_val e h1 hf]
  exact fun q => by cases q
theorem ft_wide {x : UInt32} {f : Nat} (e : x.toNat = f) (h1 : 8388608 ≤ f) (hf : f < 2139095040) : (FP.f2d x).toNat = (f + 7516192768) * 536870912 := by
  unfold FP.f2d
  rw [ft_notnan e h1 hf]
  show (FP.Core.of64 (FP.Core.round FP.Core.b64 (FP.Core.val32 x))).toNat = _
  have hq : FP.Core.round FP.Core.b64 (FP.Core.val32 x) = .fin false ((8388608 + f % 8388608) * 536870912) (((f / 8388608 : Nat) : Int) - 179) := by
    rw [ft_val e h1 hf]
    show FP.Core.roundRatio FP.Core.b64 false (8388608 + f % 8388608) 1 (((f / 8388608 : Nat) : Int) - 150) = _
    refine FP.Core.roundRatio_exact FP.Core.good_b64 (by omega) (bt_fits (Or.inl (by omega)) (by omega) (by omega) (by omega)) ?_
    rw [show (((f / 8388608 : Nat) : Int) - 150 - (((f / 8388608 : Nat) : Int) - 179)).toNat = 29 by omega, show (((f / 8388608 : Nat) : Int) - 179 - (((f / 8388608 : Nat) : Int) - 150)).toNat = 0 by omega, show (2 : Nat) ^ 29 = 536870912 by decide, Nat.pow_zero, Nat.mul_one, Nat.mul_one]
  rw [hq, bt_enc (by omega) (by omega) (by omega) (by omega)]
  omega
theorem ft_nn {x : UInt32} (h : x.toNat % 2147483648 < 2139095040) : FP.Core.val32 x ≠ .nan := (FP.Core.ne_nan32 x).mpr (by omega)
theorem ft_key (x : UInt32) : FP.Core.key FP.Core.b32 x.toNat = if 2147483648 ≤ x.toNat then 2147483648 - (x.toNat : Int) else (x.toNat : Int) := by
  have h1 := x.toNat_lt
  unfold FP.Core.key
  rw [FP.Core.mag_toNat32, FP.Core.half_b32]
  by_cases h : 2147483648 ≤ x.toNat
  · rw [if_pos h, decide_eq_true (by omega)]
    show -(((x.toNat % 2 ^ 31 : Nat)) : Int) = _
    omega
  · rw [if_neg h, decide_eq_false (by omega)]
    show (((x.toNat % 2 ^ 31 : Nat)) : Int) = _
    omega
theorem ft_cmp {x : UInt32} (h : x.toNat % 2147483648 < 2139095040) : FP.fcmp x FP.fconst0 = some (compare (if 2147483648 ≤ x.toNat then 2147483648 - (x.toNat : Int) else (x.toNat : Int)) 0) := by
  have hz : FP.Core.val32 FP.fconst0 ≠ .nan := by decide +kernel
  have := FP.Core.cmp_key FP.Core.good_b32 (FP.Core.lt_full32 x) (FP.Core.lt_full32 FP.fconst0) (ft_nn h) hz
  rw [ft_key, ft_key] at this
  exact this
theorem ft_ge {x : UInt32} (h : x.toNat < 2139095040) : 0 ≤ Op.cmpValue (FP.fcmp x FP.fconst0) .g := by
  rw [ft_cmp (by omega), if_neg (by omega)]
  by_cases hh : x.toNat = 0
  · rw [cmp_e (by omega)]; decide
  · rw [cmp_g (by omega)]; decide
theorem ft_lt {x : UInt32} {r : Nat} (e : x.toNat = 2147483648 + r) (h0 : 0 < r) (h : r < 2139095040) : Op.cmpValue (FP.fcmp x FP.fconst0) .g < 0 := by
  rw [ft_cmp (by omega), if_pos (by omega), cmp_l (by omega)]; decide
theorem c_bitsOfDouble (w : XW) (h : XH) {x : UInt64} (hf : x.toNat % 9223372036854775808 < 9218868437227405312) (hz : x.toNat ≠ 9223372036854775808) : CE w M_X11_bitsOfDouble [.double x] h (some (.long x.toInt64)) h := by
  refine CA.of (by decide) rfl (fun _ => Nat.le_of_ble_eq_true rfl) ?_
  show AX w M_X11_bitsOfDouble 0 0 0 [.double x, .null, .null, .null] [] h _
  have hlt := x.toNat_lt
  by_cases hs : x.toNat < 9223372036854775808
  · refine AX.dload_n (pc := 0) dX11_bitsOfDouble_0 rfl ?_
    refine AX.dconst0 (pc := 1) dX11_bitsOfDouble_1 ?_
    refine AX.dcmp (pc := 2) dX11_bitsOfDouble_2 ?_
    refine AX.if_ge (pc := 3) (tgt := 11) dX11_bitsOfDouble_3 (by decide) (fun hc3 => ?_) (fun q => absurd (bc_ge (m := x) rfl (by omega) (show (FP.dconst0).toNat = 0 from rfl) (by omega) (by omega)) q)
    refine AX.dload_n (pc := 11) dX11_bitsOfDouble_11 rfl ?_
    refine AX.bipush (pc := 12) (v := nI 52) dX11_bitsOfDouble_12 (by decide) ?_
    refine AX.sipush (pc := 14) (v := nI 1023) dX11_bitsOfDouble_14 (by decide) ?_
    refine AX.callS (pc := 17) (M2 := M_X11_bitsOfSize) (As := [.double x, .int (nI 52), .int (nI 1023)]) (rest := []) (c_bits52 w h rfl (by omega)) xc_X11_bitsOfDouble__X11_bitsOfSize gX11_bitsOfDouble_X11_bitsOfSize rfl (Nat.le_of_ble_eq_true rfl) dX11_bitsOfDouble_17 ?_
    rintro _ h9 ⟨rfl, e9⟩
    have e9 := e9.symm
    subst e9
    show AX w M_X11_bitsOfDouble 0 0 20 [.double x, .null, .null, .null] [.long (Int64.ofInt (x.toNat : Int))] _ _
    refine AX.lstore_n (pc := 20) (L' := [.double x, .null, .long (Int64.ofInt (x.toNat : Int)), .null]) dX11_bitsOfDouble_20 (by decide) rfl ?_
    refine AX.dload_n (pc := 21) dX11_bitsOfDouble_21 rfl ?_
    refine AX.dconst0 (pc := 22) dX11_bitsOfDouble_22 ?_
    refine AX.dcmp (pc := 23) dX11_bitsOfDouble_23 ?_
    refine AX.if_ge (pc := 24) (tgt := 35) dX11_bitsOfDouble_24 (by decide) (fun hc24 => ?_) (fun q => absurd (bc_ge (m := x) rfl (by omega) (show (FP.dconst0).toNat = 0 from rfl) (by omega) (by omega)) q)
    refine AX.lload_n (pc := 35) dX11_bitsOfDouble_35 rfl ?_
    refine AX.lret (pc := 36) dX11_bitsOfDouble_36 rfl (by decide) (by decide) ?_
    exact ⟨congrArg (fun z => some (Value.long z)) (raw64 rfl hs), rfl⟩
  · obtain ⟨r, hr⟩ : ∃ r, x.toNat = 9223372036854775808 + r := ⟨x.toNat - 9223372036854775808, by omega⟩
    have hc : Op.cmpValue (FP.dcmp x FP.dconst0) .g < 0 := by rw [bn_lt hr (by omega) (by omega)]; decide
    refine AX.dload_n (pc := 0) dX11_bitsOfDouble_0 rfl ?_
    refine AX.dconst0 (pc := 1) dX11_bitsOfDouble_1 ?_
    refine AX.dcmp (pc := 2) dX11_bitsOfDouble_2 ?_
    refine AX.if_ge (pc := 3) (tgt := 11) dX11_bitsOfDouble_3 (by decide) (fun q => absurd q (bc_ng hc)) (fun hc3 => ?_)
    refine AX.dload_n (pc := 6) dX11_bitsOfDouble_6 rfl ?_
    refine AX.dneg (pc := 7) dX11_bitsOfDouble_7 ?_
    refine AX.goto (pc := 8) (tgt := 12) dX11_bitsOfDouble_8 (by decide) ?_
    refine AX.bipush (pc := 12) (v := nI 52) dX11_bitsOfDouble_12 (by decide) ?_
    refine AX.sipush (pc := 14) (v := nI 1023) dX11_bitsOfDouble_14 (by decide) ?_
    refine AX.callS (pc := 17) (M2 := M_X11_bitsOfSize) (As := [.double (FP.dneg x), .int (nI 52), .int (nI 1023)]) (rest := []) (c_bits52 w h (ng64 hr (by omega)) (by omega)) xc_X11_bitsOfDouble__X11_bitsOfSize gX11_bitsOfDouble_X11_bitsOfSize rfl (Nat.le_of_ble_eq_true rfl) dX11_bitsOfDouble_17 ?_
    rintro _ h9 ⟨rfl, e9⟩
    have e9 := e9.symm
    subst e9
    show AX w M_X11_bitsOfDouble 0 0 20 [.double x, .null, .null, .null] [.long (Int64.ofInt (r : Int))] _ _
    refine AX.lstore_n (pc := 20) (L' := [.double x, .null, .long (Int64.ofInt (r : Int)), .null]) dX11_bitsOfDouble_20 (by decide) rfl ?_
    refine AX.dload_n (pc := 21) dX11_bitsOfDouble_21 rfl ?_
    refine AX.dconst0 (pc := 22) dX11_bitsOfDouble_22 ?_
    refine AX.dcmp (pc := 23) dX11_bitsOfDouble_23 ?_
    refine AX.if_ge (pc := 24) (tgt := 35) dX11_bitsOfDouble_24 (by decide) (fun q => absurd q (bc_ng hc)) (fun hc24 => ?_)
    refine AX.lload_n (pc := 27) dX11_bitsOfDouble_27 rfl ?_
    refine AX.ldc2 (pc := 28) (v := (-9223372036854775808)) dX11_bitsOfDouble_28 cX11_bitsOfDouble_340 ?_
    refine AX.lor (pc := 31) dX11_bitsOfDouble_31 ?_
    refine AX.goto (pc := 32) (tgt := 36) dX11_bitsOfDouble_32 (by decide) ?_
    refine AX.lret (pc := 36) dX11_bitsOfDouble_36 rfl (by decide) (by decide) ?_
    exact ⟨congrArg (fun z => some (Value.long z)) (raw64n hr (by omega)), rfl⟩
theorem c_bitsOfFloat (w : XW) (h : XH) {x : UInt32} (hf : x.toNat % 2147483648 < 2139095040) (hl : x.toNat = 0 ∨ 8388608 ≤ x.toNat % 2147483648) : CE w M_X11_bitsOfFloat [.float x] h (some (.int x.toInt32)) h := by
  refine CA.of (by decide) rfl (fun _ => Nat.le_of_ble_eq_true rfl) ?_
  show AX w M_X11_bitsOfFloat 0 0 0 [.float x, .null] [] h _
  have hlt := x.toNat_lt
  by_cases h0 : x.toNat = 0
  · have e0 : x = 0 := UInt32.toNat_inj.mp h0
    subst e0
    refine AX.fload_n (pc := 0) dX11_bitsOfFloat_0 rfl ?_
    refine AX.fconst0 (pc := 1) dX11_bitsOfFloat_1 ?_
    refine AX.fcmp (pc := 2) dX11_bitsOfFloat_2 ?_
    refine AX.if_ge (pc := 3) (tgt := 12) dX11_bitsOfFloat_3 (by decide) (fun hc3 => ?_) (fun q => absurd (ft_ge (by decide)) q)
    refine AX.fload_n (pc := 12) dX11_bitsOfFloat_12 rfl ?_
    refine AX.f2d (pc := 13) dX11_bitsOfFloat_13 (bt_n64 (m := FP.f2d 0) (n := 0) (by decide +kernel) (by omega)) ?_
    refine AX.bipush (pc := 14) (v := nI 23) dX11_bitsOfFloat_14 (by decide) ?_
    refine AX.bipush (pc := 16) (v := nI 127) dX11_bitsOfFloat_16 (by decide) ?_
    refine AX.callS (pc := 18) (M2 := M_X11_bitsOfSize) (As := [.double (FP.f2d 0), .int (nI 23), .int (nI 127)]) (rest := []) (c_bits23 w h (x := FP.f2d 0) (n := 0) (by decide +kernel) (by omega) (Or.inl rfl) rfl) xc_X11_bitsOfFloat__X11_bitsOfSize gX11_bitsOfFloat_X11_bitsOfSize rfl (Nat.le_of_ble_eq_true rfl) dX11_bitsOfFloat_18 ?_
    rintro _ h9 ⟨rfl, e9⟩
    have e9 := e9.symm
    subst e9
    show AX w M_X11_bitsOfFloat 0 0 21 [.float 0, .null] [.long (Int64.ofInt ((if (0 : Nat) = 0 then 0 else 0 / 536870912 - 7516192768 : Nat) : Int))] _ _
    refine AX.l2i (pc := 21) dX11_bitsOfFloat_21 ?_
    refine AX.istore_n (pc := 22) (L' := [.float 0, .int ((Int64.ofInt ((if (0 : Nat) = 0 then 0 else 0 / 536870912 - 7516192768 : Nat) : Int)).toInt32)]) dX11_bitsOfFloat_22 (by decide) rfl ?_
    refine AX.fload_n (pc := 23) dX11_bitsOfFloat_23 rfl ?_
    refine AX.fconst0 (pc := 24) dX11_bitsOfFloat_24 ?_
    refine AX.fcmp (pc := 25) dX11_bitsOfFloat_25 ?_
    refine AX.if_ge (pc := 26) (tgt := 37) dX11_bitsOfFloat_26 (by decide) (fun hc26 => ?_) (fun q => absurd (ft_ge (by decide)) q)
    refine AX.iload_n (pc := 37) dX11_bitsOfFloat_37 rfl ?_
    refine AX.iret (pc := 38) dX11_bitsOfFloat_38 rfl rfl (by decide) (by decide) ?_
    exact ⟨by decide +kernel, rfl⟩
  · have hl := hl.resolve_left h0
    by_cases hs : x.toNat < 2147483648
    · have hw := ft_wide (x := x) rfl (by omega) (by omega)
      refine AX.fload_n (pc := 0) dX11_bitsOfFloat_0 rfl ?_
      refine AX.fconst0 (pc := 1) dX11_bitsOfFloat_1 ?_
      refine AX.fcmp (pc := 2) dX11_bitsOfFloat_2 ?_
      refine AX.if_ge (pc := 3) (tgt := 12) dX11_bitsOfFloat_3 (by decide) (fun hc3 => ?_) (fun q => absurd (ft_ge (by omega)) q)
      refine AX.fload_n (pc := 12) dX11_bitsOfFloat_12 rfl ?_
      refine AX.f2d (pc := 13) dX11_bitsOfFloat_13 (bt_n64 hw (by omega)) ?_
      refine AX.bipush (pc := 14) (v := nI 23) dX11_bitsOfFloat_14 (by decide) ?_
      refine AX.bipush (pc := 16) (v := nI 127) dX11_bitsOfFloat_16 (by decide) ?_
      refine AX.callS (pc := 18) (M2 := M_X11_bitsOfSize) (As := [.double (FP.f2d x), .int (nI 23), .int (nI 127)]) (rest := []) (c_bits23 w h hw (by omega) (Or.inr (by omega)) (by omega)) xc_X11_bitsOfFloat__X11_bitsOfSize gX11_bitsOfFloat_X11_bitsOfSize rfl (Nat.le_of_ble_eq_true rfl) dX11_bitsOfFloat_18 ?_
      rintro _ h9 ⟨rfl, e9⟩
      have e9 := e9.symm
      subst e9
      show AX w M_X11_bitsOfFloat 0 0 21 [.float x, .null] [.long (Int64.ofInt ((if (x.toNat + 7516192768) * 536870912 = 0 then 0 else (x.toNat + 7516192768) * 536870912 / 536870912 - 7516192768 : Nat) : Int))] _ _
      refine AX.l2i (pc := 21) dX11_bitsOfFloat_21 ?_
      refine AX.istore_n (pc := 22) (L' := [.float x, .int ((Int64.ofInt ((if (x.toNat + 7516192768) * 536870912 = 0 then 0 else (x.toNat + 7516192768) * 536870912 / 536870912 - 7516192768 : Nat) : Int)).toInt32)]) dX11_bitsOfFloat_22 (by decide) rfl ?_
      refine AX.fload_n (pc := 23) dX11_bitsOfFloat_23 rfl ?_
      refine AX.fconst0 (pc := 24) dX11_bitsOfFloat_24 ?_
      refine AX.fcmp (pc := 25) dX11_bitsOfFloat_25 ?_
      refine AX.if_ge (pc := 26) (tgt := 37) dX11_bitsOfFloat_26 (by decide) (fun hc26 => ?_) (fun q => absurd (ft_ge (by omega)) q)
      refine AX.iload_n (pc := 37) dX11_bitsOfFloat_37 rfl ?_
      refine AX.iret (pc := 38) dX11_bitsOfFloat_38 rfl rfl (by decide) (by decide) ?_
      rw [if_neg (by omega), show (x.toNat + 7516192768) * 536870912 / 536870912 - 7516192768 = x.toNat by omega]
      exact ⟨congrArg (fun z => some (Value.int z)) (raw32 rfl hs), rfl⟩
    · obtain ⟨r, hr⟩ : ∃ r, x.toNat = 2147483648 + r := ⟨x.toNat - 2147483648, by omega⟩
      have hw := ft_wide (ng32 hr (by omega)) (by omega) (by omega)
      have hc := ft_lt hr (by omega) (by omega)
      refine AX.fload_n (pc := 0) dX11_bitsOfFloat_0 rfl ?_
      refine AX.fconst0 (pc := 1) dX11_bitsOfFloat_1 ?_
      refine AX.fcmp (pc := 2) dX11_bitsOfFloat_2 ?_
      refine AX.if_ge (pc := 3) (tgt := 12) dX11_bitsOfFloat_3 (by decide) (fun q => absurd q (bc_ng hc)) (fun hc3 => ?_)
      refine AX.fload_n (pc := 6) dX11_bitsOfFloat_6 rfl ?_
      refine AX.fneg (pc := 7) dX11_bitsOfFloat_7 ?_
      refine AX.f2d (pc := 8) dX11_bitsOfFloat_8 (bt_n64 hw (by omega)) ?_
      refine AX.goto (pc := 9) (tgt := 14) dX11_bitsOfFloat_9 (by decide) ?_
      refine AX.bipush (pc := 14) (v := nI 23) dX11_bitsOfFloat_14 (by decide) ?_
      refine AX.bipush (pc := 16) (v := nI 127) dX11_bitsOfFloat_16 (by decide) ?_
      refine AX.callS (pc := 18) (M2 := M_X11_bitsOfSize) (As := [.double (FP.f2d (FP.fneg x)), .int (nI 23), .int (nI 127)]) (rest := []) (c_bits23 w h hw (by omega) (Or.inr (by omega)) (by omega)) xc_X11_bitsOfFloat__X11_bitsOfSize gX11_bitsOfFloat_X11_bitsOfSize rfl (Nat.le_of_ble_eq_true rfl) dX11_bitsOfFloat_18 ?_
      rintro _ h9 ⟨rfl, e9⟩
      have e9 := e9.symm
      subst e9
      show AX w M_X11_bitsOfFloat 0 0 21 [.float x, .null] [.long (Int64.ofInt ((if (r + 7516192768) * 536870912 = 0 then 0 else (r + 7516192768) * 536870912 / 536870912 - 7516192768 : Nat) : Int))] _ _
      refine AX.l2i (pc := 21) dX11_bitsOfFloat_21 ?_
      refine AX.istore_n (pc := 22) (L' := [.float x, .int ((Int64.ofInt ((if (r + 7516192768) * 536870912 = 0 then 0 else (r + 7516192768) * 536870912 / 536870912 - 7516192768 : Nat) : Int)).toInt32)]) dX11_bitsOfFloat_22 (by decide) rfl ?_
      refine AX.fload_n (pc := 23) dX11_bitsOfFloat_23 rfl ?_
      refine AX.fconst0 (pc := 24) dX11_bitsOfFloat_24 ?_
      refine AX.fcmp (pc := 25) dX11_bitsOfFloat_25 ?_
      refine AX.if_ge (pc := 26) (tgt := 37) dX11_bitsOfFloat_26 (by decide) (fun q => absurd q (bc_ng hc)) (fun hc26 => ?_)
      refine AX.iload_n (pc := 29) dX11_bitsOfFloat_29 rfl ?_
      refine AX.ldcw (pc := 30) (v := (-2147483648)) dX11_bitsOfFloat_30 cX11_bitsOfFloat_342 ?_
      refine AX.ior (pc := 33) dX11_bitsOfFloat_33 ?_
      refine AX.goto (pc := 34) (tgt := 38) dX11_bitsOfFloat_34 (by decide) ?_
      refine AX.iret (pc := 38) dX11_bitsOfFloat_38 rfl rfl (by decide) (by decide) ?_
      rw [if_neg (by omega), show (r + 7516192768) * 536870912 / 536870912 - 7516192768 = r by omega]
      exact ⟨congrArg (fun z => some (Value.int z)) (raw32n hr (by omega)), rfl⟩
