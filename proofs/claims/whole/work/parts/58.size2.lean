/-! ===== THE FACE: the bits of doubles and floats ===== -/
/-- the tail of a walk: between 1.0 and 2.0 -/
theorem bt_tail {m : UInt64} {N : Nat} (e : m.toNat = N) (h1 : 4607182418800017408 ≤ N) (h2 : N < 4611686018427387904) : FP.Core.val64 m = .fin false (4503599627370496 + N % 4503599627370496) (-52) := by
  rw [bt_norm e (by omega) (by omega), show ((N / 4503599627370496 : Nat) : Int) - 1075 = -52 by omega]
theorem c_bits52 (w : XW) (h : XH) {x : UInt64} {n : Nat} (e : x.toNat = n) (hn : n < 9218868437227405312) : CE w M_X11_bitsOfSize [.double x, .int (nI 52), .int (nI 1023)] h (some (.long (Int64.ofInt (n : Int)))) h := by
  refine CA.of (by decide) rfl (fun _ => Nat.le_of_ble_eq_true rfl) ?_
  show AX w M_X11_bitsOfSize 0 0 0 [.double x, .null, .int (nI 52), .int (nI 1023), .null, .null, .null, .null, .null] [] h _
  by_cases h0 : n = 0
  · subst h0
    refine AX.dload_n (pc := 0) dX11_bitsOfSize_0 rfl ?_
    refine AX.dconst0 (pc := 1) dX11_bitsOfSize_1 ?_
    refine AX.dcmp (pc := 2) dX11_bitsOfSize_2 ?_
    refine AX.if_ne (pc := 3) (tgt := 8) dX11_bitsOfSize_3 (by decide) (fun q => absurd (bc_eq e (by omega) (show (FP.dconst0).toNat = 0 from rfl) (by omega) rfl) q) (fun hc3 => ?_)
    refine AX.lconst (pc := 6) (v := 0) dX11_bitsOfSize_6 (by decide) ?_
    refine AX.lret (pc := 7) dX11_bitsOfSize_7 rfl (by decide) (by decide) ?_
    exact ⟨rfl, rfl⟩
  · by_cases h1 : 4611686018427387904 ≤ n
    · obtain ⟨k, hk⟩ : ∃ k, n / 4503599627370496 = 1023 + k := ⟨n / 4503599627370496 - 1023, by omega⟩
      refine AX.dload_n (pc := 0) dX11_bitsOfSize_0 rfl ?_
      refine AX.dconst0 (pc := 1) dX11_bitsOfSize_1 ?_
      refine AX.dcmp (pc := 2) dX11_bitsOfSize_2 ?_
      refine AX.if_ne (pc := 3) (tgt := 8) dX11_bitsOfSize_3 (by decide) (fun hc3 => ?_) (fun q => absurd q (bc_ne e hn (show (FP.dconst0).toNat = 0 from rfl) (by omega) h0))
      refine AX.dload_n (pc := 8) dX11_bitsOfSize_8 rfl ?_
      refine AX.dstore (pc := 9) (L' := [.double x, .null, .int (nI 52), .int (nI 1023), .double x, .null, .null, .null, .null]) dX11_bitsOfSize_9 (by decide) rfl ?_
      refine AX.iload_n (pc := 11) dX11_bitsOfSize_11 rfl ?_
      refine AX.istore (pc := 12) (L' := [.double x, .null, .int (nI 52), .int (nI 1023), .double x, .null, .int (nI 1023), .null, .null]) dX11_bitsOfSize_12 (by decide) rfl ?_
      refine l_bUp w h _ (N := n - k * 4503599627370496) (E := 1023 + k) (by omega) (by omega) (by omega) (by omega) (fun m hm => ?_) k 1023 x rfl (by omega) (by omega) (by omega)
      exact l_bDn w h _ (N := n - k * 4503599627370496) (E := 1023 + k) (by omega) (by omega) (by omega) (by omega) (by omega) (by omega) (fun m2 hm2 => l_bEnd52 w h _ (by omega) (bt_tail hm2 (by omega) (by omega)) (d := 0) (by omega) (by omega) (kk := 4503599627370496 + (n - k * 4503599627370496) % 4503599627370496) (by rw [Nat.pow_zero, Nat.mul_one]) ⟨congrArg (fun z => some (Value.long (Int64.ofInt z))) (by omega), rfl⟩) 0 (1023 + k) m rfl (by omega) (by omega) (by omega)
    · by_cases h2 : 4503599627370496 ≤ n
      · by_cases h3 : 4607182418800017408 ≤ n
        · refine AX.dload_n (pc := 0) dX11_bitsOfSize_0 rfl ?_
          refine AX.dconst0 (pc := 1) dX11_bitsOfSize_1 ?_
          refine AX.dcmp (pc := 2) dX11_bitsOfSize_2 ?_
          refine AX.if_ne (pc := 3) (tgt := 8) dX11_bitsOfSize_3 (by decide) (fun hc3 => ?_) (fun q => absurd q (bc_ne e hn (show (FP.dconst0).toNat = 0 from rfl) (by omega) h0))
          refine AX.dload_n (pc := 8) dX11_bitsOfSize_8 rfl ?_
          refine AX.dstore (pc := 9) (L' := [.double x, .null, .int (nI 52), .int (nI 1023), .double x, .null, .null, .null, .null]) dX11_bitsOfSize_9 (by decide) rfl ?_
          refine AX.iload_n (pc := 11) dX11_bitsOfSize_11 rfl ?_
          refine AX.istore (pc := 12) (L' := [.double x, .null, .int (nI 52), .int (nI 1023), .double x, .null, .int (nI 1023), .null, .null]) dX11_bitsOfSize_12 (by decide) rfl ?_
          refine l_bUp w h _ (N := n) (E := 1023) (by omega) (by omega) (by omega) (by omega) (fun m hm => ?_) 0 1023 x rfl (by omega) (Or.inl rfl) (by omega)
          exact l_bDn w h _ (N := n) (E := 1023) (by omega) (by omega) (by omega) (by omega) (by omega) (by omega) (fun m2 hm2 => l_bEnd52 w h _ (by omega) (bt_tail hm2 (by omega) (by omega)) (d := 0) (by omega) (by omega) (kk := 4503599627370496 + (n) % 4503599627370496) (by rw [Nat.pow_zero, Nat.mul_one]) ⟨congrArg (fun z => some (Value.long (Int64.ofInt z))) (by omega), rfl⟩) 0 1023 m (by omega) (by omega) (by omega) (by omega)
        · obtain ⟨k, hk⟩ : ∃ k, n / 4503599627370496 + k = 1023 := ⟨1023 - n / 4503599627370496, by omega⟩
          refine AX.dload_n (pc := 0) dX11_bitsOfSize_0 rfl ?_
          refine AX.dconst0 (pc := 1) dX11_bitsOfSize_1 ?_
          refine AX.dcmp (pc := 2) dX11_bitsOfSize_2 ?_
          refine AX.if_ne (pc := 3) (tgt := 8) dX11_bitsOfSize_3 (by decide) (fun hc3 => ?_) (fun q => absurd q (bc_ne e hn (show (FP.dconst0).toNat = 0 from rfl) (by omega) h0))
          refine AX.dload_n (pc := 8) dX11_bitsOfSize_8 rfl ?_
          refine AX.dstore (pc := 9) (L' := [.double x, .null, .int (nI 52), .int (nI 1023), .double x, .null, .null, .null, .null]) dX11_bitsOfSize_9 (by decide) rfl ?_
          refine AX.iload_n (pc := 11) dX11_bitsOfSize_11 rfl ?_
          refine AX.istore (pc := 12) (L' := [.double x, .null, .int (nI 52), .int (nI 1023), .double x, .null, .int (nI 1023), .null, .null]) dX11_bitsOfSize_12 (by decide) rfl ?_
          refine l_bUp w h _ (N := n) (E := 1023) (by omega) (by omega) (by omega) (by omega) (fun m hm => ?_) 0 1023 x rfl (by omega) (Or.inl rfl) (by omega)
          exact l_bDn w h _ (N := n + k * 4503599627370496) (E := n / 4503599627370496) (by omega) (by omega) (by omega) (by omega) (by omega) (by omega) (fun m2 hm2 => l_bEnd52 w h _ (by omega) (bt_tail hm2 (by omega) (by omega)) (d := 0) (by omega) (by omega) (kk := 4503599627370496 + (n + k * 4503599627370496) % 4503599627370496) (by rw [Nat.pow_zero, Nat.mul_one]) ⟨congrArg (fun z => some (Value.long (Int64.ofInt z))) (by omega), rfl⟩) k 1023 m (by omega) (by omega) (by omega) (by omega)
      · refine AX.dload_n (pc := 0) dX11_bitsOfSize_0 rfl ?_
        refine AX.dconst0 (pc := 1) dX11_bitsOfSize_1 ?_
        refine AX.dcmp (pc := 2) dX11_bitsOfSize_2 ?_
        refine AX.if_ne (pc := 3) (tgt := 8) dX11_bitsOfSize_3 (by decide) (fun hc3 => ?_) (fun q => absurd q (bc_ne e hn (show (FP.dconst0).toNat = 0 from rfl) (by omega) h0))
        refine AX.dload_n (pc := 8) dX11_bitsOfSize_8 rfl ?_
        refine AX.dstore (pc := 9) (L' := [.double x, .null, .int (nI 52), .int (nI 1023), .double x, .null, .null, .null, .null]) dX11_bitsOfSize_9 (by decide) rfl ?_
        refine AX.iload_n (pc := 11) dX11_bitsOfSize_11 rfl ?_
        refine AX.istore (pc := 12) (L' := [.double x, .null, .int (nI 52), .int (nI 1023), .double x, .null, .int (nI 1023), .null, .null]) dX11_bitsOfSize_12 (by decide) rfl ?_
        refine l_bUp w h _ (N := n) (E := 1023) (by omega) (by omega) (by omega) (by omega) (fun m hm => ?_) 0 1023 x rfl (by omega) (Or.inl rfl) (by omega)
        refine l_bSub w h _ (n0 := n) (by omega) (by omega) (by omega) (fun m2 hm2 => ?_) 1022 1023 m rfl (by omega) (by rw [hm, show uts n = n from if_pos (by omega)])
        have u1 := uts_lt (k := 0) (show n < 4503599627370496 by omega) (by rw [Nat.pow_zero, Nat.mul_one]; exact hm2)
        have u2 : 4503599627370496 ≤ m2.toNat := Nat.le_of_not_lt (fun q => by
          rw [show uts m2.toNat = m2.toNat from if_pos (by omega)] at hm2
          have u3 : 1 * 2 ^ 1022 ≤ n * 2 ^ 1022 := Nat.mul_le_mul_right _ (by omega)
          have u4 : (4503599627370496 : Nat) ≤ 2 ^ 1022 := by decide +kernel
          omega)
        rw [uts_norm u2] at hm2
        have u5 : n * 2 ^ (1023 - m2.toNat / 4503599627370496) = 4503599627370496 + m2.toNat % 4503599627370496 := by
          refine Nat.eq_of_mul_eq_mul_right (Nat.two_pow_pos (m2.toNat / 4503599627370496 - 1)) ?_
          rw [hm2, Nat.mul_assoc, ← Nat.pow_add]
          congr 2
          omega
        exact l_bEnd52 w h _ (by omega) (bt_norm rfl u2 (by omega)) (d := 1023 - m2.toNat / 4503599627370496) (by omega) (by omega) u5 ⟨congrArg (fun z => some (Value.long (Int64.ofInt z))) (by omega), rfl⟩
theorem c_bits23 (w : XW) (h : XH) {x : UInt64} {n : Nat} (e : x.toNat = n) (hn : n < 5183643171103440896) (hl : n = 0 ∨ 4039728865751334912 ≤ n) (hm : n % 536870912 = 0) : CE w M_X11_bitsOfSize [.double x, .int (nI 23), .int (nI 127)] h (some (.long (Int64.ofInt ((if n = 0 then 0 else n / 536870912 - 7516192768 : Nat) : Int)))) h := by
  refine CA.of (by decide) rfl (fun _ => Nat.le_of_ble_eq_true rfl) ?_
  show AX w M_X11_bitsOfSize 0 0 0 [.double x, .null, .int (nI 23), .int (nI 127), .null, .null, .null, .null, .null] [] h _
  by_cases h0 : n = 0
  · subst h0
    refine AX.dload_n (pc := 0) dX11_bitsOfSize_0 rfl ?_
    refine AX.dconst0 (pc := 1) dX11_bitsOfSize_1 ?_
    refine AX.dcmp (pc := 2) dX11_bitsOfSize_2 ?_
    refine AX.if_ne (pc := 3) (tgt := 8) dX11_bitsOfSize_3 (by decide) (fun q => absurd (bc_eq e (by omega) (show (FP.dconst0).toNat = 0 from rfl) (by omega) rfl) q) (fun hc3 => ?_)
    refine AX.lconst (pc := 6) (v := 0) dX11_bitsOfSize_6 (by decide) ?_
    refine AX.lret (pc := 7) dX11_bitsOfSize_7 rfl (by decide) (by decide) ?_
    exact ⟨rfl, rfl⟩
  · rw [if_neg h0]
    have hl := hl.resolve_left h0
    by_cases h1 : 4607182418800017408 ≤ n
    · obtain ⟨k, hk⟩ : ∃ k, n / 4503599627370496 = 1023 + k := ⟨n / 4503599627370496 - 1023, by omega⟩
      refine AX.dload_n (pc := 0) dX11_bitsOfSize_0 rfl ?_
      refine AX.dconst0 (pc := 1) dX11_bitsOfSize_1 ?_
      refine AX.dcmp (pc := 2) dX11_bitsOfSize_2 ?_
      refine AX.if_ne (pc := 3) (tgt := 8) dX11_bitsOfSize_3 (by decide) (fun hc3 => ?_) (fun q => absurd q (bc_ne e (by omega) (show (FP.dconst0).toNat = 0 from rfl) (by omega) h0))
      refine AX.dload_n (pc := 8) dX11_bitsOfSize_8 rfl ?_
      refine AX.dstore (pc := 9) (L' := [.double x, .null, .int (nI 23), .int (nI 127), .double x, .null, .null, .null, .null]) dX11_bitsOfSize_9 (by decide) rfl ?_
      refine AX.iload_n (pc := 11) dX11_bitsOfSize_11 rfl ?_
      refine AX.istore (pc := 12) (L' := [.double x, .null, .int (nI 23), .int (nI 127), .double x, .null, .int (nI 127), .null, .null]) dX11_bitsOfSize_12 (by decide) rfl ?_
      refine l_bUp w h _ (N := n - k * 4503599627370496) (E := 127 + k) (by omega) (by omega) (by omega) (by omega) (fun m hm => ?_) k 127 x rfl (by omega) (by omega) (by omega)
      exact l_bDn w h _ (N := n - k * 4503599627370496) (E := 127 + k) (by omega) (by omega) (by omega) (by omega) (by omega) (by omega) (fun m2 hm2 => l_bEnd23 w h _ (by omega) (bt_tail hm2 (by omega) (by omega)) (d := 29) (by omega) (by omega) (kk := (4503599627370496 + (n - k * 4503599627370496) % 4503599627370496) / 536870912) (by rw [show (2 : Nat) ^ 29 = 536870912 by decide]; omega) ⟨congrArg (fun z => some (Value.long (Int64.ofInt z))) (by omega), rfl⟩) 0 (127 + k) m rfl (by omega) (by omega) (by omega)
    · obtain ⟨k, hk⟩ : ∃ k, n / 4503599627370496 + k = 1023 := ⟨1023 - n / 4503599627370496, by omega⟩
      refine AX.dload_n (pc := 0) dX11_bitsOfSize_0 rfl ?_
      refine AX.dconst0 (pc := 1) dX11_bitsOfSize_1 ?_
      refine AX.dcmp (pc := 2) dX11_bitsOfSize_2 ?_
      refine AX.if_ne (pc := 3) (tgt := 8) dX11_bitsOfSize_3 (by decide) (fun hc3 => ?_) (fun q => absurd q (bc_ne e (by omega) (show (FP.dconst0).toNat = 0 from rfl) (by omega) h0))
      refine AX.dload_n (pc := 8) dX11_bitsOfSize_8 rfl ?_
      refine AX.dstore (pc := 9) (L' := [.double x, .null, .int (nI 23), .int (nI 127), .double x, .null, .null, .null, .null]) dX11_bitsOfSize_9 (by decide) rfl ?_
      refine AX.iload_n (pc := 11) dX11_bitsOfSize_11 rfl ?_
      refine AX.istore (pc := 12) (L' := [.double x, .null, .int (nI 23), .int (nI 127), .double x, .null, .int (nI 127), .null, .null]) dX11_bitsOfSize_12 (by decide) rfl ?_
      refine l_bUp w h _ (N := n) (E := 127) (by omega) (by omega) (by omega) (by omega) (fun m hm => ?_) 0 127 x rfl (by omega) (Or.inl rfl) (by omega)
      exact l_bDn w h _ (N := n + k * 4503599627370496) (E := 127 - k) (by omega) (by omega) (by omega) (by omega) (by omega) (by omega) (fun m2 hm2 => l_bEnd23 w h _ (by omega) (bt_tail hm2 (by omega) (by omega)) (d := 29) (by omega) (by omega) (kk := (4503599627370496 + (n + k * 4503599627370496) % 4503599627370496) / 536870912) (by rw [show (2 : Nat) ^ 29 = 536870912 by decide]; omega) ⟨congrArg (fun z => some (Value.long (Int64.ofInt z))) (by omega), rfl⟩) k 127 m (by omega) (by omega) (by omega) (by omega)
