/-! ===== THE FACE: AVERAGE ===== -/
def avF (p k : Int32) : UInt32 := FP.fdiv (FP.fmul 1077936128 (FP.i2f p)) (FP.i2f k)
def aAvg (q : Nat → Int32) (x : Int32) : Int32 := if inR 0 1 x then (if q (8 + x.toNatClampNeg) = nI 0 then nI 0 else (avF (q (10 + x.toNatClampNeg)) (q (8 + x.toNatClampNeg))).toInt32) else -1
theorem un_one : FP.Core.unitsOf FP.Core.b32 1065353216 = 2 ^ 149 := by decide +kernel
theorem un_min : FP.Core.unitsOf FP.Core.b32 8388608 = 2 ^ 23 := by decide +kernel
theorem un_top : FP.Core.unitsOf FP.Core.b32 1207959552 = 2 ^ 166 := by decide +kernel
theorem fl_three : FP.Core.val32 1077936128 = .fin false 12582912 (-22) := by decide +kernel
/-- a finite float, its units known from below -/
theorem fl_fin {x : UInt32} (h : x.toNat % 2147483648 < 2139095040) : ∃ s c q, FP.Core.val32 x = .fin s c q ∧ c * 2 ^ (q + 149).toNat = FP.Core.unitsOf FP.Core.b32 (x.toNat % 2147483648) ∧ -149 ≤ q ∧ q ≤ 104 := by
  obtain ⟨s, c, q, hv⟩ := (FP.Core.fin_bits32 x).mpr h
  have hf := FP.Core.val32_fits x
  rw [hv] at hf
  have hz := FP.Core.zmag_toNat32 (a := x) (by rw [hv]; exact fun z => by cases z)
  rw [hv] at hz
  refine ⟨s, c, q, hv, ?_, ?_, ?_⟩
  · refine Eq.trans ?_ hz
    show _ = c * 2 ^ (q - FP.Core.b32.qmin).toNat
    rw [ft_q, show q - -149 = q + 149 by omega]
  · have := hf.2.1; rw [ft_q] at this; exact this
  · have := hf.2.2.1; rw [ft_Q] at this; exact this
theorem fmul_ge {p : Int32} (hp : p.toInt ≠ 0) : 1065353216 ≤ (FP.fmul 1077936128 (FP.i2f p)).toNat % 2147483648 := by
  have h1 := FP.Core.fromInt_ge32 (FP.Core.toNat_i2f p) hp
  have h2 := FP.Core.i2f_mag p
  obtain ⟨s, c, q, hv, hu, q1, q2⟩ := fl_fin (x := FP.i2f p) (by show (FP.Core.i2f p).toNat % 2147483648 < _; omega)
  have hU : 2 ^ 149 ≤ c * 2 ^ (q + 149).toNat := by
    rw [hu, ← un_one]
    exact FP.Core.unitsOf_le_iff.mpr (by show _ ≤ (FP.Core.i2f p).toNat % 2147483648; omega)
  have hd : FP.Core.decode FP.Core.b32 (FP.fmul 1077936128 (FP.i2f p)).toNat = FP.Core.roundRatio FP.Core.b32 (false != s) (12582912 * c) 1 (-22 + q) := by
    have e : FP.Core.val32 (FP.Core.fmul 1077936128 (FP.i2f p)) = FP.Core.round FP.Core.b32 (FP.Core.exactProduct (FP.Core.val32 1077936128) (FP.Core.val32 (FP.i2f p))) := FP.Core.val32_of32 (FP.Core.round_fits FP.Core.good_b32 _)
    rw [fl_three, hv] at e
    exact e
  have g := FP.Core.mag_ge FP.Core.good_b32 (m := 1065353216) (e0 := -298) hd (by decide) (by rw [ft_q]; omega) (by omega) (by decide) (by
    rw [un_one, ft_q, show (-149 - -298 : Int).toNat = 149 by decide, Nat.mul_one]
    unfold FP.Core.inUnits
    rw [show (-22 + q - -298).toNat = (q + 149).toNat + 127 by omega, Nat.pow_add]
    have a1 : 2 ^ 149 * 2 ^ 127 ≤ (c * 2 ^ (q + 149).toNat) * 2 ^ 127 := Nat.mul_le_mul_right _ hU
    have a2 : 12582912 * (2 ^ 149 * 2 ^ 127) ≤ 12582912 * ((c * 2 ^ (q + 149).toNat) * 2 ^ 127) := Nat.mul_le_mul_left _ a1
    have a3 : (2 : Nat) ^ 149 * 2 ^ 149 ≤ 12582912 * (2 ^ 149 * 2 ^ 127) := by decide
    have a4 : 12582912 * ((c * 2 ^ (q + 149).toNat) * 2 ^ 127) = 12582912 * c * (2 ^ (q + 149).toNat * 2 ^ 127) := by
      simp only [Nat.mul_assoc]
    rw [← a4]
    exact Nat.le_trans a3 a2)
  rw [FP.Core.mag_toNat32] at g
  exact g
theorem fmul_lt (p : Int32) : (FP.fmul 1077936128 (FP.i2f p)).toNat % 2147483648 < 1367343104 := by
  have h := FP.Core.fmul_mag (a := 1077936128) (b := FP.i2f p) (Ka := 129) (Kb := 160) (by decide) (FP.Core.i2f_mag p) (by omega) (by omega)
  exact h
theorem i2f_in {k : Nat} (h1 : 1 ≤ k) (h2 : k ≤ 100000) : 1065353216 ≤ (FP.i2f (nI k)).toNat % 2147483648 ∧ (FP.i2f (nI k)).toNat % 2147483648 ≤ 1207959552 := by
  have e : (nI k).toInt = (k : Int) := nI_toInt (by omega)
  have a1 := FP.Core.fromInt_ge32 (FP.Core.toNat_i2f (nI k)) (by rw [e]; omega)
  have a2 := FP.Core.fromInt_mag32 (FP.Core.toNat_i2f (nI k)) (j := 17) (K := 144) (by rw [e]; omega) (by omega) (by omega)
  exact ⟨a1, a2⟩
theorem i2f_pos {k : Nat} (h1 : 1 ≤ k) (h2 : k ≤ 100000) : ∃ d r, FP.Core.val32 (FP.i2f (nI k)) = .fin false d r ∧ d ≠ 0 ∧ d * 2 ^ (r + 149).toNat ≤ 2 ^ 166 ∧ -149 ≤ r ∧ r ≤ 104 := by
  obtain ⟨b1, b2⟩ := i2f_in h1 h2
  obtain ⟨s, d, r, hv, hu, r1, r2⟩ := fl_fin (x := FP.i2f (nI k)) (by omega)
  have hs : s = false := by
    have e : FP.Core.val32 (FP.i2f (nI k)) = FP.Core.round FP.Core.b32 (FP.Core.ofInt (nI k).toInt) := FP.Core.val32_of32 (FP.Core.round_fits FP.Core.good_b32 _)
    rw [nI_toInt (show k < 2147483648 by omega)] at e
    have e2 : FP.Core.val32 (FP.i2f (nI k)) = FP.Core.roundRatio FP.Core.b32 (decide ((k : Int) < 0)) ((k : Int).natAbs) 1 0 := e
    have e3 := FP.Core.sgn_roundRatio FP.Core.b32 (decide ((k : Int) < 0)) ((k : Int).natAbs) 1 0
    rw [← e2, hv, decide_eq_false (by omega)] at e3
    exact e3
  subst hs
  refine ⟨d, r, hv, ?_, ?_, r1, r2⟩
  · rintro rfl
    rw [Nat.zero_mul] at hu
    have := FP.Core.unitsOf_eq_zero.mp hu.symm
    omega
  · rw [hu, ← un_top]
    exact FP.Core.unitsOf_le_iff.mpr b2
theorem avF_zero {k : Nat} (h1 : 1 ≤ k) (h2 : k ≤ 100000) : (avF 0 (nI k)).toNat = 0 := by
  obtain ⟨d, r, hv, hd, -⟩ := i2f_pos h1 h2
  unfold avF
  rw [show FP.fmul 1077936128 (FP.i2f 0) = 0 from by decide +kernel]
  show (FP.Core.of32 (FP.Core.quotient FP.Core.b32 (FP.Core.val32 0) (FP.Core.val32 (FP.i2f (nI k))))).toNat = 0
  rw [hv, show FP.Core.val32 0 = .fin false 0 (-149) from by decide +kernel]
  have e : FP.Core.quotient FP.Core.b32 (.fin false 0 (-149)) (.fin false d r) = .fin false 0 (-149) := by
    show (if d = 0 then (if (0 : Nat) = 0 then FP.Core.Datum.nan else .inf (false != false)) else FP.Core.roundRatio FP.Core.b32 (false != false) 0 d (-149 - r)) = _
    rw [if_neg hd]
    unfold FP.Core.roundRatio
    rw [if_pos rfl, ft_q]
    rfl
  rw [e]
  decide +kernel
theorem avF_ok {p : Int32} {k : Nat} (h1 : 1 ≤ k) (h2 : k ≤ 100000) : (avF p (nI k)).toNat % 2147483648 < 2139095040 ∧ ((avF p (nI k)).toNat = 0 ∨ 8388608 ≤ (avF p (nI k)).toNat % 2147483648) := by
  obtain ⟨b1, b2⟩ := i2f_in h1 h2
  have hy := fmul_lt p
  have up := FP.Core.fdiv_mag (a := FP.fmul 1077936128 (FP.i2f p)) (b := FP.i2f (nI k)) (K := 163) (L := 127) (by omega) (by omega) (by omega) (by omega) (by omega)
  have up2 : (avF p (nI k)).toNat % 2147483648 < 1375731712 := up
  refine ⟨by omega, ?_⟩
  by_cases hp : p.toInt = 0
  · have e : p = 0 := Int32.toInt_inj.mp hp
    subst e
    exact Or.inl (avF_zero h1 h2)
  · right
    have hg := fmul_ge hp
    obtain ⟨s, c, q, hv, hu, q1, q2⟩ := fl_fin (x := FP.fmul 1077936128 (FP.i2f p)) (by omega)
    obtain ⟨d, r, hw, hd, hD, r1, r2⟩ := i2f_pos h1 h2
    have hU : 2 ^ 149 ≤ c * 2 ^ (q + 149).toNat := by
      rw [hu, ← un_one]
      exact FP.Core.unitsOf_le_iff.mpr hg
    have hdec : FP.Core.decode FP.Core.b32 (avF p (nI k)).toNat = FP.Core.roundRatio FP.Core.b32 (s != false) c d (q - r) := by
      have e : FP.Core.val32 (avF p (nI k)) = FP.Core.quotient FP.Core.b32 (FP.Core.val32 (FP.fmul 1077936128 (FP.i2f p))) (FP.Core.val32 (FP.i2f (nI k))) := FP.Core.val32_of32 (FP.Core.quotient_fits FP.Core.good_b32 _ _)
      rw [hv, hw] at e
      refine Eq.trans e ?_
      show (if d = 0 then (if c = 0 then FP.Core.Datum.nan else .inf (s != false)) else FP.Core.roundRatio FP.Core.b32 (s != false) c d (q - r)) = _
      rw [if_neg hd]
    have g := FP.Core.mag_ge FP.Core.good_b32 (m := 8388608) (e0 := -549) hdec (Nat.pos_of_ne_zero hd) (by rw [ft_q]; omega) (by omega) (by decide) (by
      rw [un_min, ft_q, show (-149 - -549 : Int).toNat = 400 by decide]
      unfold FP.Core.inUnits
      refine Nat.le_of_mul_le_mul_right ?_ (Nat.two_pow_pos (r + 149).toNat)
      have z1 : c * 2 ^ (q - r - -549).toNat * 2 ^ (r + 149).toNat = (c * 2 ^ (q + 149).toNat) * 2 ^ 549 := by
        rw [Nat.mul_assoc, ← Nat.pow_add, Nat.mul_assoc, ← Nat.pow_add]
        congr 2
        omega
      rw [z1]
      have z2 : 2 ^ 23 * 2 ^ 400 * d * 2 ^ (r + 149).toNat = 2 ^ 23 * 2 ^ 400 * (d * 2 ^ (r + 149).toNat) := by rw [Nat.mul_assoc (2 ^ 23 * 2 ^ 400)]
      rw [z2]
      have z3 : 2 ^ 23 * 2 ^ 400 * (d * 2 ^ (r + 149).toNat) ≤ 2 ^ 23 * 2 ^ 400 * 2 ^ 166 := Nat.mul_le_mul_left _ hD
      have z4 : 2 ^ 149 * 2 ^ 549 ≤ (c * 2 ^ (q + 149).toNat) * 2 ^ 549 := Nat.mul_le_mul_right _ hU
      have z5 : (2 : Nat) ^ 23 * 2 ^ 400 * 2 ^ 166 ≤ 2 ^ 149 * 2 ^ 549 := by decide +kernel
      exact Nat.le_trans z3 (Nat.le_trans z5 z4))
    rw [FP.Core.mag_toNat32] at g
    exact g
theorem c_average (w : XW) (h : XH) {s : SS} {n o : Nat} {a b : Nat × Nat} (c : CSo h s o a b) (l : LV (sq s) n o a b) (hn : n ≤ 100000) (x : Int32) : CA w M_X11_average [.ref 0, .int x] h (fun v' h'' => v' = some (.int (aAvg (sq s) x)) ∧ h'' = h) := by
  obtain ⟨f65, e65, q65⟩ := id c.lg.2.1
  by_cases h_x : inR 0 1 x
  · obtain ⟨xn, rfl, l_x, u_x⟩ := inR_nat (by decide) h_x
    rcases (show xn = 0 ∨ xn = 1 by omega) with rfl | rfl
    · obtain ⟨k, hk, kn⟩ := l.th 8 (by omega)
      have e66 := c.lg.2.2.1
      rw [hk] at e66
      by_cases hz : k = 0
      · subst hz
        refine CA.of (by decide) rfl (fun _ => Nat.le_of_ble_eq_true rfl) ?_
        show AX w M_X11_average 0 0 0 [.ref 0, .int (nI 0), .null] [] h _
        refine AX.iload_n (pc := 0) dX11_average_0 rfl ?_
        refine AX.callS (pc := 1) (M2 := M_X11_isPlayer) (As := [.int (nI 0)]) (rest := []) (c_isPlayer w h (nI 0)) xc_X11_average__X11_isPlayer gX11_average_X11_isPlayer rfl (Nat.le_of_ble_eq_true rfl) dX11_average_1 ?_
        rintro _ h9 ⟨rfl, e9⟩
        have e9 := e9.symm
        subst e9
        rw [decide_eq_true (play_iff.mpr h_x)]
        show AX w M_X11_average 0 0 4 [.ref 0, .int (nI 0), .null] [.int (bI true)] _ _
        refine AX.if_neB (pc := 4) (tgt := 9) dX11_average_4 (by decide) (fun hc4 => ?_) (fun q => absurd q (by decide))
        refine AX.aload_n (pc := 9) dX11_average_9 rfl ?_
        refine AX.getf (pc := 10) fX11_average_53 (lt_k c.hn (by omega)) c.dm rfl dX11_average_10 ?_
        refine AX.getf (pc := 13) fX11_average_115 (lt_k c.hn (by omega)) c.lg.1 rfl dX11_average_13 ?_
        refine AX.iload_n (pc := 16) dX11_average_16 rfl ?_
        refine AX.aaldN (pc := 17) (i := 0) (b := 66) (by decide) (lt_k c.hn (by omega)) e65 (by decide) (by decide) (q65 _ (by decide)) dX11_average_17 ?_
        refine AX.astore_n (pc := 18) (L' := [.ref 0, .int (nI 0), .ref 66]) dX11_average_18 (by decide) rfl ?_
        refine AX.aload_n (pc := 19) dX11_average_19 rfl ?_
        refine AX.getf (pc := 20) fX11_average_246 (lt_k c.hn (by omega)) e66 rfl dX11_average_20 ?_
        refine AX.if_gtN (pc := 23) (tgt := 31) dX11_average_23 (by decide) (by decide) (fun q => absurd q (by decide)) (fun hc23 => ?_)
        refine AX.fconst0 (pc := 26) dX11_average_26 ?_
        refine AX.callS (pc := 27) (M2 := M_X11_bitsOfFloat) (As := [.float FP.fconst0]) (rest := []) (c_bitsOfFloat w h (x := FP.fconst0) (by decide) (Or.inl rfl)) xc_X11_average__X11_bitsOfFloat gX11_average_X11_bitsOfFloat rfl (Nat.le_of_ble_eq_true rfl) dX11_average_27 ?_
        rintro _ h9 ⟨rfl, e9⟩
        have e9 := e9.symm
        subst e9
        show AX w M_X11_average 0 0 30 [.ref 0, .int (nI 0), .ref 66] [.int FP.fconst0.toInt32] _ _
        refine AX.iret (pc := 30) dX11_average_30 rfl rfl (by decide) (by decide) ?_
        exact ⟨by unfold aAvg; rw [if_pos h_x]; show _ = some (Value.int (if sq s 8 = nI 0 then _ else _)); rw [if_pos hk]; rfl, rfl⟩
      have av := avF_ok (p := sq s 10) (k := k) (by omega) (by omega)
      have hk0 : ¬ sq s 8 = nI 0 := by rw [hk]; exact fun q => hz (nI_inj (by omega) (by omega) q)
      refine CA.of (by decide) rfl (fun _ => Nat.le_of_ble_eq_true rfl) ?_
      show AX w M_X11_average 0 0 0 [.ref 0, .int (nI 0), .null] [] h _
      refine AX.iload_n (pc := 0) dX11_average_0 rfl ?_
      refine AX.callS (pc := 1) (M2 := M_X11_isPlayer) (As := [.int (nI 0)]) (rest := []) (c_isPlayer w h (nI 0)) xc_X11_average__X11_isPlayer gX11_average_X11_isPlayer rfl (Nat.le_of_ble_eq_true rfl) dX11_average_1 ?_
      rintro _ h9 ⟨rfl, e9⟩
      have e9 := e9.symm
      subst e9
      rw [decide_eq_true (play_iff.mpr h_x)]
      show AX w M_X11_average 0 0 4 [.ref 0, .int (nI 0), .null] [.int (bI true)] _ _
      refine AX.if_neB (pc := 4) (tgt := 9) dX11_average_4 (by decide) (fun hc4 => ?_) (fun q => absurd q (by decide))
      refine AX.aload_n (pc := 9) dX11_average_9 rfl ?_
      refine AX.getf (pc := 10) fX11_average_53 (lt_k c.hn (by omega)) c.dm rfl dX11_average_10 ?_
      refine AX.getf (pc := 13) fX11_average_115 (lt_k c.hn (by omega)) c.lg.1 rfl dX11_average_13 ?_
      refine AX.iload_n (pc := 16) dX11_average_16 rfl ?_
      refine AX.aaldN (pc := 17) (i := 0) (b := 66) (by decide) (lt_k c.hn (by omega)) e65 (by decide) (by decide) (q65 _ (by decide)) dX11_average_17 ?_
      refine AX.astore_n (pc := 18) (L' := [.ref 0, .int (nI 0), .ref 66]) dX11_average_18 (by decide) rfl ?_
      refine AX.aload_n (pc := 19) dX11_average_19 rfl ?_
      refine AX.getf (pc := 20) fX11_average_246 (lt_k c.hn (by omega)) e66 rfl dX11_average_20 ?_
      refine AX.if_gtN (pc := 23) (tgt := 31) dX11_average_23 (by decide) (by omega) (fun hc23 => ?_) (fun q => absurd q (by omega))
      refine AX.ldcf (pc := 31) (v := 1077936128) dX11_average_31 cX11_average_249 ?_
      refine AX.aload_n (pc := 33) dX11_average_33 rfl ?_
      refine AX.getf (pc := 34) fX11_average_250 (lt_k c.hn (by omega)) e66 rfl dX11_average_34 ?_
      refine AX.i2f (pc := 37) dX11_average_37 ?_
      refine AX.fmul (pc := 38) dX11_average_38 (n32_of (by have := fmul_lt (sq s 10); show (FP.fmul 1077936128 (FP.i2f (sq s 10))).toNat % 2147483648 < _; omega)) ?_
      refine AX.aload_n (pc := 39) dX11_average_39 rfl ?_
      refine AX.getf (pc := 40) fX11_average_246 (lt_k c.hn (by omega)) e66 rfl dX11_average_40 ?_
      refine AX.i2f (pc := 43) dX11_average_43 ?_
      refine AX.fdiv (pc := 44) dX11_average_44 (n32_of av.1) ?_
      refine AX.callS (pc := 45) (M2 := M_X11_bitsOfFloat) (As := [.float (FP.fdiv (FP.fmul 1077936128 (FP.i2f (sq s 10))) (FP.i2f (nI k)))]) (rest := []) (c_bitsOfFloat w h (x := avF (sq s 10) (nI k)) av.1 av.2) xc_X11_average__X11_bitsOfFloat gX11_average_X11_bitsOfFloat rfl (Nat.le_of_ble_eq_true rfl) dX11_average_45 ?_
      rintro _ h9 ⟨rfl, e9⟩
      have e9 := e9.symm
      subst e9
      show AX w M_X11_average 0 0 48 [.ref 0, .int (nI 0), .ref 66] [.int ((avF (sq s 10) (nI k)).toInt32)] _ _
      refine AX.iret (pc := 48) dX11_average_48 rfl rfl (by decide) (by decide) ?_
      exact ⟨by unfold aAvg; rw [if_pos h_x]; show _ = some (Value.int (if sq s 8 = nI 0 then _ else (avF (sq s 10) (sq s 8)).toInt32)); rw [if_neg hk0, hk], rfl⟩
    · obtain ⟨k, hk, kn⟩ := l.th 9 (by omega)
      have e67 := c.lg.2.2.2
      rw [hk] at e67
      by_cases hz : k = 0
      · subst hz
        refine CA.of (by decide) rfl (fun _ => Nat.le_of_ble_eq_true rfl) ?_
        show AX w M_X11_average 0 0 0 [.ref 0, .int (nI 1), .null] [] h _
        refine AX.iload_n (pc := 0) dX11_average_0 rfl ?_
        refine AX.callS (pc := 1) (M2 := M_X11_isPlayer) (As := [.int (nI 1)]) (rest := []) (c_isPlayer w h (nI 1)) xc_X11_average__X11_isPlayer gX11_average_X11_isPlayer rfl (Nat.le_of_ble_eq_true rfl) dX11_average_1 ?_
        rintro _ h9 ⟨rfl, e9⟩
        have e9 := e9.symm
        subst e9
        rw [decide_eq_true (play_iff.mpr h_x)]
        show AX w M_X11_average 0 0 4 [.ref 0, .int (nI 1), .null] [.int (bI true)] _ _
        refine AX.if_neB (pc := 4) (tgt := 9) dX11_average_4 (by decide) (fun hc4 => ?_) (fun q => absurd q (by decide))
        refine AX.aload_n (pc := 9) dX11_average_9 rfl ?_
        refine AX.getf (pc := 10) fX11_average_53 (lt_k c.hn (by omega)) c.dm rfl dX11_average_10 ?_
        refine AX.getf (pc := 13) fX11_average_115 (lt_k c.hn (by omega)) c.lg.1 rfl dX11_average_13 ?_
        refine AX.iload_n (pc := 16) dX11_average_16 rfl ?_
        refine AX.aaldN (pc := 17) (i := 1) (b := 67) (by decide) (lt_k c.hn (by omega)) e65 (by decide) (by decide) (q65 _ (by decide)) dX11_average_17 ?_
        refine AX.astore_n (pc := 18) (L' := [.ref 0, .int (nI 1), .ref 67]) dX11_average_18 (by decide) rfl ?_
        refine AX.aload_n (pc := 19) dX11_average_19 rfl ?_
        refine AX.getf (pc := 20) fX11_average_246 (lt_k c.hn (by omega)) e67 rfl dX11_average_20 ?_
        refine AX.if_gtN (pc := 23) (tgt := 31) dX11_average_23 (by decide) (by decide) (fun q => absurd q (by decide)) (fun hc23 => ?_)
        refine AX.fconst0 (pc := 26) dX11_average_26 ?_
        refine AX.callS (pc := 27) (M2 := M_X11_bitsOfFloat) (As := [.float FP.fconst0]) (rest := []) (c_bitsOfFloat w h (x := FP.fconst0) (by decide) (Or.inl rfl)) xc_X11_average__X11_bitsOfFloat gX11_average_X11_bitsOfFloat rfl (Nat.le_of_ble_eq_true rfl) dX11_average_27 ?_
        rintro _ h9 ⟨rfl, e9⟩
        have e9 := e9.symm
        subst e9
        show AX w M_X11_average 0 0 30 [.ref 0, .int (nI 1), .ref 67] [.int FP.fconst0.toInt32] _ _
        refine AX.iret (pc := 30) dX11_average_30 rfl rfl (by decide) (by decide) ?_
        exact ⟨by unfold aAvg; rw [if_pos h_x]; show _ = some (Value.int (if sq s 9 = nI 0 then _ else _)); rw [if_pos hk]; rfl, rfl⟩
      have av := avF_ok (p := sq s 11) (k := k) (by omega) (by omega)
      have hk0 : ¬ sq s 9 = nI 0 := by rw [hk]; exact fun q => hz (nI_inj (by omega) (by omega) q)
      refine CA.of (by decide) rfl (fun _ => Nat.le_of_ble_eq_true rfl) ?_
      show AX w M_X11_average 0 0 0 [.ref 0, .int (nI 1), .null] [] h _
      refine AX.iload_n (pc := 0) dX11_average_0 rfl ?_
      refine AX.callS (pc := 1) (M2 := M_X11_isPlayer) (As := [.int (nI 1)]) (rest := []) (c_isPlayer w h (nI 1)) xc_X11_average__X11_isPlayer gX11_average_X11_isPlayer rfl (Nat.le_of_ble_eq_true rfl) dX11_average_1 ?_
      rintro _ h9 ⟨rfl, e9⟩
      have e9 := e9.symm
      subst e9
      rw [decide_eq_true (play_iff.mpr h_x)]
      show AX w M_X11_average 0 0 4 [.ref 0, .int (nI 1), .null] [.int (bI true)] _ _
      refine AX.if_neB (pc := 4) (tgt := 9) dX11_average_4 (by decide) (fun hc4 => ?_) (fun q => absurd q (by decide))
      refine AX.aload_n (pc := 9) dX11_average_9 rfl ?_
      refine AX.getf (pc := 10) fX11_average_53 (lt_k c.hn (by omega)) c.dm rfl dX11_average_10 ?_
      refine AX.getf (pc := 13) fX11_average_115 (lt_k c.hn (by omega)) c.lg.1 rfl dX11_average_13 ?_
      refine AX.iload_n (pc := 16) dX11_average_16 rfl ?_
      refine AX.aaldN (pc := 17) (i := 1) (b := 67) (by decide) (lt_k c.hn (by omega)) e65 (by decide) (by decide) (q65 _ (by decide)) dX11_average_17 ?_
      refine AX.astore_n (pc := 18) (L' := [.ref 0, .int (nI 1), .ref 67]) dX11_average_18 (by decide) rfl ?_
      refine AX.aload_n (pc := 19) dX11_average_19 rfl ?_
      refine AX.getf (pc := 20) fX11_average_246 (lt_k c.hn (by omega)) e67 rfl dX11_average_20 ?_
      refine AX.if_gtN (pc := 23) (tgt := 31) dX11_average_23 (by decide) (by omega) (fun hc23 => ?_) (fun q => absurd q (by omega))
      refine AX.ldcf (pc := 31) (v := 1077936128) dX11_average_31 cX11_average_249 ?_
      refine AX.aload_n (pc := 33) dX11_average_33 rfl ?_
      refine AX.getf (pc := 34) fX11_average_250 (lt_k c.hn (by omega)) e67 rfl dX11_average_34 ?_
      refine AX.i2f (pc := 37) dX11_average_37 ?_
      refine AX.fmul (pc := 38) dX11_average_38 (n32_of (by have := fmul_lt (sq s 11); show (FP.fmul 1077936128 (FP.i2f (sq s 11))).toNat % 2147483648 < _; omega)) ?_
      refine AX.aload_n (pc := 39) dX11_average_39 rfl ?_
      refine AX.getf (pc := 40) fX11_average_246 (lt_k c.hn (by omega)) e67 rfl dX11_average_40 ?_
      refine AX.i2f (pc := 43) dX11_average_43 ?_
      refine AX.fdiv (pc := 44) dX11_average_44 (n32_of av.1) ?_
      refine AX.callS (pc := 45) (M2 := M_X11_bitsOfFloat) (As := [.float (FP.fdiv (FP.fmul 1077936128 (FP.i2f (sq s 11))) (FP.i2f (nI k)))]) (rest := []) (c_bitsOfFloat w h (x := avF (sq s 11) (nI k)) av.1 av.2) xc_X11_average__X11_bitsOfFloat gX11_average_X11_bitsOfFloat rfl (Nat.le_of_ble_eq_true rfl) dX11_average_45 ?_
      rintro _ h9 ⟨rfl, e9⟩
      have e9 := e9.symm
      subst e9
      show AX w M_X11_average 0 0 48 [.ref 0, .int (nI 1), .ref 67] [.int ((avF (sq s 11) (nI k)).toInt32)] _ _
      refine AX.iret (pc := 48) dX11_average_48 rfl rfl (by decide) (by decide) ?_
      exact ⟨by unfold aAvg; rw [if_pos h_x]; show _ = some (Value.int (if sq s 9 = nI 0 then _ else (avF (sq s 11) (sq s 9)).toInt32)); rw [if_neg hk0, hk], rfl⟩
  · refine CA.of (by decide) rfl (fun _ => Nat.le_of_ble_eq_true rfl) ?_
    show AX w M_X11_average 0 0 0 [.ref 0, .int x, .null] [] h _
    refine AX.iload_n (pc := 0) dX11_average_0 rfl ?_
    refine AX.callS (pc := 1) (M2 := M_X11_isPlayer) (As := [.int x]) (rest := []) (c_isPlayer w h x) xc_X11_average__X11_isPlayer gX11_average_X11_isPlayer rfl (Nat.le_of_ble_eq_true rfl) dX11_average_1 ?_
    rintro _ h9 ⟨rfl, e9⟩
    have e9 := e9.symm
    subst e9
    rw [decide_eq_false (fun q => h_x (play_iff.mp q))]
    show AX w M_X11_average 0 0 4 [.ref 0, .int x, .null] [.int (bI false)] _ _
    refine AX.if_neB (pc := 4) (tgt := 9) dX11_average_4 (by decide) (fun q => absurd q (by decide)) (fun hc4 => ?_)
    refine AX.iconst (pc := 7) (v := (-1)) dX11_average_7 (by decide) ?_
    refine AX.iret (pc := 8) dX11_average_8 rfl rfl (by decide) (by decide) ?_
    exact ⟨by unfold aAvg; rw [if_neg h_x]; try rfl, rfl⟩
