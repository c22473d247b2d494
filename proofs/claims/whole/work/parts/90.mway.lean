/-! ===== THE REFERENCE: way, spell, paper ===== -/
theorem in_m1 {x : Int32} {K : Nat} (h1 : 1 ≤ K) (hK : K < 2147483648) : ((-1 : Int64).toInt ≤ x.toInt64.toInt ∧ x.toInt64.toInt ≤ ((nI (K - 1)).toInt64).toInt) ↔ (x = -1 ∨ inR 0 (K - 1) x) := by
  rw [n64 (K - 1) (by omega), Int32.toInt_toInt64, show (-1 : Int64).toInt = -1 by decide]
  unfold inR
  constructor
  · rintro ⟨a, b⟩
    by_cases e : x.toInt = -1
    · exact Or.inl (Int32.toInt_inj.mp (e.trans iM1.symm))
    · exact Or.inr ⟨by omega, by omega⟩
  · rintro (e | ⟨a, b⟩)
    · subst e
      rw [iM1]
      exact ⟨by omega, by omega⟩
    · exact ⟨by omega, by omega⟩
theorem c_mWay (w : XW) (h : XH) {s : SS} {n o : Nat} {a b : Nat × Nat} (c : MS h s) (l : LV (sq s) n o a b) (r : Int32) (i : Int32) (j : Int32) : CA w M_X12_way [.ref 87, .int r, .int i, .int j] h (fun v' h'' => v' = some (.int (aWay o r i j)) ∧ Same mdS h h'' ∧ MS h'' s) := by
  obtain ⟨v, hO, hv⟩ := id c.ob
  obtain ⟨f89, e89, q89⟩ := id c.nw
  by_cases h_r : inR (leN o) 180 r
  · obtain ⟨rn, rfl, l_r, u_r⟩ := inR_nat (by decide) h_r
    have p_r := leN_pos o
    by_cases h_i : inR 0 2147483647 i
    · obtain ⟨in_, rfl, l_i, u_i⟩ := inR_nat (by decide) h_i
      by_cases hA : in_ < wyA o rn
      · obtain ⟨k1, k2, k3⟩ := wyK_ok hA
        by_cases hj : j = -1
        · refine CA.of (by decide) rfl (fun _ => Nat.le_of_ble_eq_true rfl) ?_
          show AX w M_X12_way 0 0 0 [.ref 87, .int (nI rn), .int (nI in_), .int j] [] h _
          refine AX.aload_n (pc := 0) dX12_way_0 rfl ?_
          refine AX.iload_n (pc := 1) dX12_way_1 rfl ?_
          refine AX.sipush (pc := 2) (v := nI 180) dX12_way_2 (by decide) ?_
          refine AX.callV (pc := 5) (M2 := M_X12_isRest) (As := [.int (nI rn), .int (nI 180)]) (rest := []) (c_mRest w h c l (nI rn) 180 (by decide)) xc_X12_way__X12_isRest gX12_way_X12_isRest (ci := 11) rfl (lt_k c.hn (by omega)) hO rfl (Nat.le_of_ble_eq_true rfl) dX12_way_5 ?_
          rintro _ h9 ⟨rfl, e9⟩
          have e9 := e9.symm
          subst e9
          rw [decide_eq_true h_r]
          show AX w M_X12_way 0 0 8 [.ref 87, .int (nI rn), .int (nI in_), .int j] [.int (bI true)] _ _
          refine AX.if_eqB (pc := 8) (tgt := 38) dX12_way_8 (by decide) (fun q => absurd q (by decide)) (fun hc8 => ?_)
          refine AX.aload_n (pc := 11) dX12_way_11 rfl ?_
          refine AX.iload_n (pc := 12) dX12_way_12 rfl ?_
          refine AX.iload_n (pc := 13) dX12_way_13 rfl ?_
          refine AX.callV (pc := 14) (M2 := M_X12_layWay) (As := [.int (nI rn), .int (nI in_)]) (rest := []) (c_layWay w h c l u_r hA) xc_X12_way__X12_layWay gX12_way_X12_layWay (ci := 11) rfl (lt_k c.hn (by omega)) hO rfl (Nat.le_of_ble_eq_true rfl) dX12_way_14 ?_
          rintro _ h1 ⟨rfl, s1, c1, ⟨v2, O2, hv2⟩, f9, y9, q9⟩
          have eO2 : h1.2 87 = .inr (11, [.ref 88, .ref 89, .ref 90, .int (v2 0), .int (v2 1), .ref 91, .ref 92, .ref 93, .ref 94, .ref 95, .ref 96, .ref 97, .ref 98, .ref 99, .ref 100, .ref 101, .int (v2 2), .ref 102, .ref 103, .ref 104, .ref 105, .ref 106, .ref 107, .ref 108, .int (v2 3), .ref 109, .int (nI ((wyK o rn in_).1)), .ref 110, .ref 111, .int (v2 5), .ref 112, .int (v2 6), .int (v2 7), .int (v2 8), .ref 113, .int (v2 9), .ref 114, .ref 115, .ref 116, .ref 117]) := O2
          show AX w M_X12_way 0 0 17 [.ref 87, .int (nI rn), .int (nI in_), .int j] [.int (bI true)] _ _
          refine AX.if_eqB (pc := 17) (tgt := 38) dX12_way_17 (by decide) (fun q => absurd q (by decide)) (fun hc17 => ?_)
          refine AX.iload_n (pc := 20) dX12_way_20 rfl ?_
          refine AX.i2l (pc := 21) dX12_way_21 ?_
          refine AX.ldc2 (pc := 22) (v := (-1)) dX12_way_22 cX12_way_274 ?_
          refine AX.aload_n (pc := 25) dX12_way_25 rfl ?_
          refine AX.getf (pc := 26) fX12_way_265 (lt_k (s1.le c.hn) (by omega)) eO2 rfl dX12_way_26 ?_
          refine AX.iconst (pc := 29) (v := nI 1) dX12_way_29 (by decide) ?_
          refine AX.isubN (pc := 30) (c := (wyK o rn in_).1 - 1) dX12_way_30 (by omega) ?_
          refine AX.i2l (pc := 31) dX12_way_31 ?_
          refine AX.callS (pc := 32) (M2 := M_X12_in) (As := [.long j.toInt64, .long (-1), .long ((nI ((wyK o rn in_).1 - 1)).toInt64)]) (rest := []) (c_in w h1 (j.toInt64) (-1) ((nI ((wyK o rn in_).1 - 1)).toInt64)) xc_X12_way__X12_in gX12_way_X12_in rfl (Nat.le_of_ble_eq_true rfl) dX12_way_32 ?_
          rintro _ h9 ⟨rfl, e9⟩
          have e9 := e9.symm
          subst e9
          rw [decide_eq_true ((in_m1 k1 (by omega)).mpr (Or.inl hj))]
          show AX w M_X12_way 0 0 35 [.ref 87, .int (nI rn), .int (nI in_), .int j] [.int (bI true)] _ _
          refine AX.if_neB (pc := 35) (tgt := 40) dX12_way_35 (by decide) (fun hc35 => ?_) (fun q => absurd q (by decide))
          refine AX.iload_n (pc := 40) dX12_way_40 rfl ?_
          refine AX.iconst (pc := 41) (v := (-1)) dX12_way_41 (by decide) ?_
          refine AX.icmp_ne (pc := 42) (tgt := 52) dX12_way_42 (by decide) (fun q => absurd hj q) (fun hc42 => ?_)
          refine AX.aload_n (pc := 45) dX12_way_45 rfl ?_
          refine AX.getf (pc := 46) fX12_way_265 (lt_k (s1.le c.hn) (by omega)) eO2 rfl dX12_way_46 ?_
          refine AX.goto (pc := 49) (tgt := 58) dX12_way_49 (by decide) ?_
          refine AX.iret (pc := 58) dX12_way_58 rfl rfl (by decide) (by decide) ?_
          exact ⟨by unfold aWay; rw [if_pos h_r, if_pos h_i, nI_nat (show rn < 2147483648 by omega), nI_nat (show in_ < 2147483648 by omega), if_pos hA, if_pos hj]; try rfl, mdS_lt s1 (by decide), c1⟩
        by_cases h_j : inR 0 ((wyK o rn in_).1 - 1) j
        · obtain ⟨jn, rfl, l_j, u_j⟩ := inR_nat (show (wyK o rn in_).1 - 1 < 2147483648 by omega) h_j
          refine CA.of (by decide) rfl (fun _ => Nat.le_of_ble_eq_true rfl) ?_
          show AX w M_X12_way 0 0 0 [.ref 87, .int (nI rn), .int (nI in_), .int (nI jn)] [] h _
          refine AX.aload_n (pc := 0) dX12_way_0 rfl ?_
          refine AX.iload_n (pc := 1) dX12_way_1 rfl ?_
          refine AX.sipush (pc := 2) (v := nI 180) dX12_way_2 (by decide) ?_
          refine AX.callV (pc := 5) (M2 := M_X12_isRest) (As := [.int (nI rn), .int (nI 180)]) (rest := []) (c_mRest w h c l (nI rn) 180 (by decide)) xc_X12_way__X12_isRest gX12_way_X12_isRest (ci := 11) rfl (lt_k c.hn (by omega)) hO rfl (Nat.le_of_ble_eq_true rfl) dX12_way_5 ?_
          rintro _ h9 ⟨rfl, e9⟩
          have e9 := e9.symm
          subst e9
          rw [decide_eq_true h_r]
          show AX w M_X12_way 0 0 8 [.ref 87, .int (nI rn), .int (nI in_), .int (nI jn)] [.int (bI true)] _ _
          refine AX.if_eqB (pc := 8) (tgt := 38) dX12_way_8 (by decide) (fun q => absurd q (by decide)) (fun hc8 => ?_)
          refine AX.aload_n (pc := 11) dX12_way_11 rfl ?_
          refine AX.iload_n (pc := 12) dX12_way_12 rfl ?_
          refine AX.iload_n (pc := 13) dX12_way_13 rfl ?_
          refine AX.callV (pc := 14) (M2 := M_X12_layWay) (As := [.int (nI rn), .int (nI in_)]) (rest := []) (c_layWay w h c l u_r hA) xc_X12_way__X12_layWay gX12_way_X12_layWay (ci := 11) rfl (lt_k c.hn (by omega)) hO rfl (Nat.le_of_ble_eq_true rfl) dX12_way_14 ?_
          rintro _ h1 ⟨rfl, s1, c1, ⟨v2, O2, hv2⟩, f9, y9, q9⟩
          have eO2 : h1.2 87 = .inr (11, [.ref 88, .ref 89, .ref 90, .int (v2 0), .int (v2 1), .ref 91, .ref 92, .ref 93, .ref 94, .ref 95, .ref 96, .ref 97, .ref 98, .ref 99, .ref 100, .ref 101, .int (v2 2), .ref 102, .ref 103, .ref 104, .ref 105, .ref 106, .ref 107, .ref 108, .int (v2 3), .ref 109, .int (nI ((wyK o rn in_).1)), .ref 110, .ref 111, .int (v2 5), .ref 112, .int (v2 6), .int (v2 7), .int (v2 8), .ref 113, .int (v2 9), .ref 114, .ref 115, .ref 116, .ref 117]) := O2
          show AX w M_X12_way 0 0 17 [.ref 87, .int (nI rn), .int (nI in_), .int (nI jn)] [.int (bI true)] _ _
          refine AX.if_eqB (pc := 17) (tgt := 38) dX12_way_17 (by decide) (fun q => absurd q (by decide)) (fun hc17 => ?_)
          refine AX.iload_n (pc := 20) dX12_way_20 rfl ?_
          refine AX.i2l (pc := 21) dX12_way_21 ?_
          refine AX.ldc2 (pc := 22) (v := (-1)) dX12_way_22 cX12_way_274 ?_
          refine AX.aload_n (pc := 25) dX12_way_25 rfl ?_
          refine AX.getf (pc := 26) fX12_way_265 (lt_k (s1.le c.hn) (by omega)) eO2 rfl dX12_way_26 ?_
          refine AX.iconst (pc := 29) (v := nI 1) dX12_way_29 (by decide) ?_
          refine AX.isubN (pc := 30) (c := (wyK o rn in_).1 - 1) dX12_way_30 (by omega) ?_
          refine AX.i2l (pc := 31) dX12_way_31 ?_
          refine AX.callS (pc := 32) (M2 := M_X12_in) (As := [.long ((nI jn).toInt64), .long (-1), .long ((nI ((wyK o rn in_).1 - 1)).toInt64)]) (rest := []) (c_in w h1 ((nI jn).toInt64) (-1) ((nI ((wyK o rn in_).1 - 1)).toInt64)) xc_X12_way__X12_in gX12_way_X12_in rfl (Nat.le_of_ble_eq_true rfl) dX12_way_32 ?_
          rintro _ h9 ⟨rfl, e9⟩
          have e9 := e9.symm
          subst e9
          rw [decide_eq_true ((in_m1 k1 (by omega)).mpr (Or.inr h_j))]
          show AX w M_X12_way 0 0 35 [.ref 87, .int (nI rn), .int (nI in_), .int (nI jn)] [.int (bI true)] _ _
          refine AX.if_neB (pc := 35) (tgt := 40) dX12_way_35 (by decide) (fun hc35 => ?_) (fun q => absurd q (by decide))
          refine AX.iload_n (pc := 40) dX12_way_40 rfl ?_
          refine AX.iconst (pc := 41) (v := (-1)) dX12_way_41 (by decide) ?_
          refine AX.icmp_ne (pc := 42) (tgt := 52) dX12_way_42 (by decide) (fun hc42 => ?_) (fun q => absurd q (neT (iN jn (by omega)) iM1 (by omega)))
          refine AX.aload_n (pc := 52) dX12_way_52 rfl ?_
          refine AX.getf (pc := 53) fX12_way_75 (lt_k (s1.le c.hn) (by omega)) eO2 rfl dX12_way_53 ?_
          refine AX.iload_n (pc := 56) dX12_way_56 rfl ?_
          refine AX.ialdN (pc := 57) (i := jn) (v := (nI (fnS o rn in_ jn))) (lt_k (s1.le c.hn) (by omega)) y9 (by decide) (by omega) (q9 jn (by omega)) dX12_way_57 ?_
          refine AX.iret (pc := 58) dX12_way_58 rfl rfl (by decide) (by decide) ?_
          exact ⟨by unfold aWay; rw [if_pos h_r, if_pos h_i, nI_nat (show rn < 2147483648 by omega), nI_nat (show in_ < 2147483648 by omega), if_pos hA, if_neg hj, if_pos h_j, nI_nat (show jn < 2147483648 by omega)]; try rfl, mdS_lt s1 (by decide), c1⟩
        · refine CA.of (by decide) rfl (fun _ => Nat.le_of_ble_eq_true rfl) ?_
          show AX w M_X12_way 0 0 0 [.ref 87, .int (nI rn), .int (nI in_), .int j] [] h _
          refine AX.aload_n (pc := 0) dX12_way_0 rfl ?_
          refine AX.iload_n (pc := 1) dX12_way_1 rfl ?_
          refine AX.sipush (pc := 2) (v := nI 180) dX12_way_2 (by decide) ?_
          refine AX.callV (pc := 5) (M2 := M_X12_isRest) (As := [.int (nI rn), .int (nI 180)]) (rest := []) (c_mRest w h c l (nI rn) 180 (by decide)) xc_X12_way__X12_isRest gX12_way_X12_isRest (ci := 11) rfl (lt_k c.hn (by omega)) hO rfl (Nat.le_of_ble_eq_true rfl) dX12_way_5 ?_
          rintro _ h9 ⟨rfl, e9⟩
          have e9 := e9.symm
          subst e9
          rw [decide_eq_true h_r]
          show AX w M_X12_way 0 0 8 [.ref 87, .int (nI rn), .int (nI in_), .int j] [.int (bI true)] _ _
          refine AX.if_eqB (pc := 8) (tgt := 38) dX12_way_8 (by decide) (fun q => absurd q (by decide)) (fun hc8 => ?_)
          refine AX.aload_n (pc := 11) dX12_way_11 rfl ?_
          refine AX.iload_n (pc := 12) dX12_way_12 rfl ?_
          refine AX.iload_n (pc := 13) dX12_way_13 rfl ?_
          refine AX.callV (pc := 14) (M2 := M_X12_layWay) (As := [.int (nI rn), .int (nI in_)]) (rest := []) (c_layWay w h c l u_r hA) xc_X12_way__X12_layWay gX12_way_X12_layWay (ci := 11) rfl (lt_k c.hn (by omega)) hO rfl (Nat.le_of_ble_eq_true rfl) dX12_way_14 ?_
          rintro _ h1 ⟨rfl, s1, c1, ⟨v2, O2, hv2⟩, f9, y9, q9⟩
          have eO2 : h1.2 87 = .inr (11, [.ref 88, .ref 89, .ref 90, .int (v2 0), .int (v2 1), .ref 91, .ref 92, .ref 93, .ref 94, .ref 95, .ref 96, .ref 97, .ref 98, .ref 99, .ref 100, .ref 101, .int (v2 2), .ref 102, .ref 103, .ref 104, .ref 105, .ref 106, .ref 107, .ref 108, .int (v2 3), .ref 109, .int (nI ((wyK o rn in_).1)), .ref 110, .ref 111, .int (v2 5), .ref 112, .int (v2 6), .int (v2 7), .int (v2 8), .ref 113, .int (v2 9), .ref 114, .ref 115, .ref 116, .ref 117]) := O2
          show AX w M_X12_way 0 0 17 [.ref 87, .int (nI rn), .int (nI in_), .int j] [.int (bI true)] _ _
          refine AX.if_eqB (pc := 17) (tgt := 38) dX12_way_17 (by decide) (fun q => absurd q (by decide)) (fun hc17 => ?_)
          refine AX.iload_n (pc := 20) dX12_way_20 rfl ?_
          refine AX.i2l (pc := 21) dX12_way_21 ?_
          refine AX.ldc2 (pc := 22) (v := (-1)) dX12_way_22 cX12_way_274 ?_
          refine AX.aload_n (pc := 25) dX12_way_25 rfl ?_
          refine AX.getf (pc := 26) fX12_way_265 (lt_k (s1.le c.hn) (by omega)) eO2 rfl dX12_way_26 ?_
          refine AX.iconst (pc := 29) (v := nI 1) dX12_way_29 (by decide) ?_
          refine AX.isubN (pc := 30) (c := (wyK o rn in_).1 - 1) dX12_way_30 (by omega) ?_
          refine AX.i2l (pc := 31) dX12_way_31 ?_
          refine AX.callS (pc := 32) (M2 := M_X12_in) (As := [.long j.toInt64, .long (-1), .long ((nI ((wyK o rn in_).1 - 1)).toInt64)]) (rest := []) (c_in w h1 (j.toInt64) (-1) ((nI ((wyK o rn in_).1 - 1)).toInt64)) xc_X12_way__X12_in gX12_way_X12_in rfl (Nat.le_of_ble_eq_true rfl) dX12_way_32 ?_
          rintro _ h9 ⟨rfl, e9⟩
          have e9 := e9.symm
          subst e9
          rw [decide_eq_false (fun q => (fun z => z.elim hj h_j) ((in_m1 k1 (by omega)).mp q))]
          show AX w M_X12_way 0 0 35 [.ref 87, .int (nI rn), .int (nI in_), .int j] [.int (bI false)] _ _
          refine AX.if_neB (pc := 35) (tgt := 40) dX12_way_35 (by decide) (fun q => absurd q (by decide)) (fun hc35 => ?_)
          refine AX.iconst (pc := 38) (v := (-1)) dX12_way_38 (by decide) ?_
          refine AX.iret (pc := 39) dX12_way_39 rfl rfl (by decide) (by decide) ?_
          exact ⟨by unfold aWay; rw [if_pos h_r, if_pos h_i, nI_nat (show rn < 2147483648 by omega), nI_nat (show in_ < 2147483648 by omega), if_pos hA, if_neg hj, if_neg h_j]; try rfl, mdS_lt s1 (by decide), c1⟩
      · refine CA.of (by decide) rfl (fun _ => Nat.le_of_ble_eq_true rfl) ?_
        show AX w M_X12_way 0 0 0 [.ref 87, .int (nI rn), .int (nI in_), .int j] [] h _
        refine AX.aload_n (pc := 0) dX12_way_0 rfl ?_
        refine AX.iload_n (pc := 1) dX12_way_1 rfl ?_
        refine AX.sipush (pc := 2) (v := nI 180) dX12_way_2 (by decide) ?_
        refine AX.callV (pc := 5) (M2 := M_X12_isRest) (As := [.int (nI rn), .int (nI 180)]) (rest := []) (c_mRest w h c l (nI rn) 180 (by decide)) xc_X12_way__X12_isRest gX12_way_X12_isRest (ci := 11) rfl (lt_k c.hn (by omega)) hO rfl (Nat.le_of_ble_eq_true rfl) dX12_way_5 ?_
        rintro _ h9 ⟨rfl, e9⟩
        have e9 := e9.symm
        subst e9
        rw [decide_eq_true h_r]
        show AX w M_X12_way 0 0 8 [.ref 87, .int (nI rn), .int (nI in_), .int j] [.int (bI true)] _ _
        refine AX.if_eqB (pc := 8) (tgt := 38) dX12_way_8 (by decide) (fun q => absurd q (by decide)) (fun hc8 => ?_)
        refine AX.aload_n (pc := 11) dX12_way_11 rfl ?_
        refine AX.iload_n (pc := 12) dX12_way_12 rfl ?_
        refine AX.iload_n (pc := 13) dX12_way_13 rfl ?_
        refine AX.callV (pc := 14) (M2 := M_X12_layWay) (As := [.int (nI rn), .int (nI in_)]) (rest := []) (c_layWayO w h c l u_r (i := in_) (by omega) (by omega)) xc_X12_way__X12_layWay gX12_way_X12_layWay (ci := 11) rfl (lt_k c.hn (by omega)) hO rfl (Nat.le_of_ble_eq_true rfl) dX12_way_14 ?_
        rintro _ h1 ⟨rfl, s1, c1⟩
        show AX w M_X12_way 0 0 17 [.ref 87, .int (nI rn), .int (nI in_), .int j] [.int (bI false)] _ _
        refine AX.if_eqB (pc := 17) (tgt := 38) dX12_way_17 (by decide) (fun hc17 => ?_) (fun q => absurd q (by decide))
        refine AX.iconst (pc := 38) (v := (-1)) dX12_way_38 (by decide) ?_
        refine AX.iret (pc := 39) dX12_way_39 rfl rfl (by decide) (by decide) ?_
        exact ⟨by unfold aWay; rw [if_pos h_r, if_pos h_i, nI_nat (show rn < 2147483648 by omega), nI_nat (show in_ < 2147483648 by omega), if_neg hA]; try rfl, mdS_lt s1 (by decide), c1⟩
    · refine CA.of (by decide) rfl (fun _ => Nat.le_of_ble_eq_true rfl) ?_
      show AX w M_X12_way 0 0 0 [.ref 87, .int (nI rn), .int i, .int j] [] h _
      refine AX.aload_n (pc := 0) dX12_way_0 rfl ?_
      refine AX.iload_n (pc := 1) dX12_way_1 rfl ?_
      refine AX.sipush (pc := 2) (v := nI 180) dX12_way_2 (by decide) ?_
      refine AX.callV (pc := 5) (M2 := M_X12_isRest) (As := [.int (nI rn), .int (nI 180)]) (rest := []) (c_mRest w h c l (nI rn) 180 (by decide)) xc_X12_way__X12_isRest gX12_way_X12_isRest (ci := 11) rfl (lt_k c.hn (by omega)) hO rfl (Nat.le_of_ble_eq_true rfl) dX12_way_5 ?_
      rintro _ h9 ⟨rfl, e9⟩
      have e9 := e9.symm
      subst e9
      rw [decide_eq_true h_r]
      show AX w M_X12_way 0 0 8 [.ref 87, .int (nI rn), .int i, .int j] [.int (bI true)] _ _
      refine AX.if_eqB (pc := 8) (tgt := 38) dX12_way_8 (by decide) (fun q => absurd q (by decide)) (fun hc8 => ?_)
      refine AX.aload_n (pc := 11) dX12_way_11 rfl ?_
      refine AX.iload_n (pc := 12) dX12_way_12 rfl ?_
      refine AX.iload_n (pc := 13) dX12_way_13 rfl ?_
      refine AX.callV (pc := 14) (M2 := M_X12_layWay) (As := [.int (nI rn), .int i]) (rest := []) (c_layWayN w h c l u_r (neg_of h_i)) xc_X12_way__X12_layWay gX12_way_X12_layWay (ci := 11) rfl (lt_k c.hn (by omega)) hO rfl (Nat.le_of_ble_eq_true rfl) dX12_way_14 ?_
      rintro _ h1 ⟨rfl, s1, c1⟩
      show AX w M_X12_way 0 0 17 [.ref 87, .int (nI rn), .int i, .int j] [.int (bI false)] _ _
      refine AX.if_eqB (pc := 17) (tgt := 38) dX12_way_17 (by decide) (fun hc17 => ?_) (fun q => absurd q (by decide))
      refine AX.iconst (pc := 38) (v := (-1)) dX12_way_38 (by decide) ?_
      refine AX.iret (pc := 39) dX12_way_39 rfl rfl (by decide) (by decide) ?_
      exact ⟨by unfold aWay; rw [if_pos h_r, if_neg h_i]; try rfl, mdS_lt s1 (by decide), c1⟩
  · refine CA.of (by decide) rfl (fun _ => Nat.le_of_ble_eq_true rfl) ?_
    show AX w M_X12_way 0 0 0 [.ref 87, .int r, .int i, .int j] [] h _
    refine AX.aload_n (pc := 0) dX12_way_0 rfl ?_
    refine AX.iload_n (pc := 1) dX12_way_1 rfl ?_
    refine AX.sipush (pc := 2) (v := nI 180) dX12_way_2 (by decide) ?_
    refine AX.callV (pc := 5) (M2 := M_X12_isRest) (As := [.int r, .int (nI 180)]) (rest := []) (c_mRest w h c l r 180 (by decide)) xc_X12_way__X12_isRest gX12_way_X12_isRest (ci := 11) rfl (lt_k c.hn (by omega)) hO rfl (Nat.le_of_ble_eq_true rfl) dX12_way_5 ?_
    rintro _ h9 ⟨rfl, e9⟩
    have e9 := e9.symm
    subst e9
    rw [decide_eq_false h_r]
    show AX w M_X12_way 0 0 8 [.ref 87, .int r, .int i, .int j] [.int (bI false)] _ _
    refine AX.if_eqB (pc := 8) (tgt := 38) dX12_way_8 (by decide) (fun hc8 => ?_) (fun q => absurd q (by decide))
    refine AX.iconst (pc := 38) (v := (-1)) dX12_way_38 (by decide) ?_
    refine AX.iret (pc := 39) dX12_way_39 rfl rfl (by decide) (by decide) ?_
    exact ⟨by unfold aWay; rw [if_neg h_r]; try rfl, Same.rf, c⟩
/-- what stands on PAPER, in the reference -/
def PP (h : XH) (v : Nat → Int32) (X : List Nat) : Prop := MO h (upd v 5 (nI X.length)) ∧ X.length ≤ 12 ∧ ∃ f : Nat → Int32, h.2 111 = .inl (0, 20, .inl f) ∧ ∀ j, j < X.length → f j = nI (X.getD j 0)
theorem getD_push {X : List Nat} {c : Nat} {f : Nat → Int32} (q : ∀ j, j < X.length → f j = nI (X.getD j 0)) : ∀ j, j < (X ++ [c]).length → upd f X.length (nI c) j = nI ((X ++ [c]).getD j 0) := by
  intro j hj
  rw [List.length_append, List.length_singleton] at hj
  by_cases z : j = X.length
  · subst z
    rw [upd_at, List.getD_eq_getElem?_getD, List.getElem?_append_right (Nat.le_refl _)]
    simp
  · rw [upd_off z, q j (by omega), List.getD_eq_getElem?_getD, List.getD_eq_getElem?_getD, List.getElem?_append_left (by omega)]
theorem c_writes (w : XW) (h : XH) {v : Nat → Int32} {X : List Nat} (c : Nat) (hn : 118 ≤ h.1) (hP : PP h v X) (hl : X.length < 12) : CA w M_X12_writes [.ref 87, .int (nI c)] h (fun v' h' => v' = none ∧ Same [87, 111] h h' ∧ PP h' v (X ++ [c])) := by
  refine CA.of (by decide) rfl (fun _ => Nat.le_of_ble_eq_true rfl) ?_
  obtain ⟨hO, -, f, e111, q⟩ := hP
  show AX w M_X12_writes 0 0 0 [.ref 87, .int (nI c)] [] h _
  refine AX.aload_n (pc := 0) dX12_writes_0 rfl ?_
  refine AX.getf (pc := 1) fX12_writes_81 (lt_k hn (by omega)) hO rfl dX12_writes_1 ?_
  refine AX.aload_n (pc := 4) dX12_writes_4 rfl ?_
  refine AX.getf (pc := 5) fX12_writes_276 (lt_k hn (by omega)) hO rfl dX12_writes_5 ?_
  refine AX.iload_n (pc := 8) dX12_writes_8 rfl ?_
  refine AX.iastN (pc := 9) (i := X.length) (g := upd f X.length (nI c)) (lt_k hn (by omega)) e111 (by decide) (by omega) rfl dX12_writes_9 ?_
  refine AX.aload_n (pc := 10) dX12_writes_10 rfl ?_
  refine AX.dup (pc := 11) dX12_writes_11 rfl ?_
  refine AX.getf (pc := 12) fX12_writes_276 (lt_k hn (by omega)) ((xset_ne (by decide)).trans hO) rfl dX12_writes_12 ?_
  refine AX.iconst (pc := 15) (v := nI 1) dX12_writes_15 (by decide) ?_
  refine AX.iaddN (pc := 16) (c := X.length + 1) dX12_writes_16 rfl ?_
  refine AX.putf (pc := 17) (h := xset h 111 (.inl (0, 20, .inl (upd f X.length (nI c))))) (a := 87) (fs' := [.ref 88, .ref 89, .ref 90, .int (v 0), .int (v 1), .ref 91, .ref 92, .ref 93, .ref 94, .ref 95, .ref 96, .ref 97, .ref 98, .ref 99, .ref 100, .ref 101, .int (v 2), .ref 102, .ref 103, .ref 104, .ref 105, .ref 106, .ref 107, .ref 108, .int (v 3), .ref 109, .int (v 4), .ref 110, .ref 111, .int (nI (X.length + 1)), .ref 112, .int (v 6), .int (v 7), .int (v 8), .ref 113, .int (v 9), .ref 114, .ref 115, .ref 116, .ref 117]) fX12_writes_276 rfl (lt_k hn (by omega)) ((xset_ne (by decide)).trans hO) (Nat.le_of_ble_eq_true rfl) rfl rfl rfl dX12_writes_17 ?_
  refine AX.vret (pc := 20) dX12_writes_20 rfl (by decide) (by decide) ?_
  refine ⟨rfl, Same.set (Same.set Same.rf (by simp)) (by simp), ?_, by rw [List.length_append, List.length_singleton]; omega, _, ((xset_ne (by decide)).trans (xset_same _ _ _)), getD_push q⟩
  rw [List.length_append, List.length_singleton]
  exact xset_same _ _ _
theorem c_writesSpot (w : XW) (h : XH) {v : Nat → Int32} {X : List Nat} (s : Nat) (hn : 118 ≤ h.1) (hP : PP h v X) (h1 : 1 ≤ s) (hs : s < 63) (hl : X.length + 3 ≤ 12) : CA w M_X12_writesSpot [.ref 87, .int (nI s)] h (fun v' h' => v' = none ∧ Same [87, 111] h h' ∧ PP h' v (X ++ spN s)) := by
  refine CA.of (by decide) rfl (fun _ => Nat.le_of_ble_eq_true rfl) ?_
  have hnb := nbN_le s
  show AX w M_X12_writesSpot 0 0 0 [.ref 87, .int (nI s), .null] [] h _
  by_cases hb : 60 < s
  · rcases (show s = 61 ∨ s = 62 by omega) with rfl | rfl
    · have hP : PP h v X := hP
      refine AX.iload_n (pc := 0) dX12_writesSpot_0 rfl ?_
      refine AX.callS (pc := 1) (M2 := M_X12_numberOf) (As := [.int (nI 61)]) (rest := []) (c_mNumber w h 61 hs) xc_X12_writesSpot__X12_numberOf gX12_writesSpot_X12_numberOf rfl (Nat.le_of_ble_eq_true rfl) dX12_writesSpot_1 ?_
      rintro _ h9 ⟨rfl, e9⟩
      have e9 := e9.symm
      subst e9
      show AX w M_X12_writesSpot 0 0 4 [.ref 87, .int (nI 61), .null] [.int (nI (nbN 61))] _ _
      refine AX.istore_n (pc := 4) (L' := [.ref 87, .int (nI 61), .int (nI (nbN 61))]) dX12_writesSpot_4 (by decide) rfl ?_
      refine AX.iload_n (pc := 5) dX12_writesSpot_5 rfl ?_
      refine AX.if_neN (pc := 6) (tgt := 44) dX12_writesSpot_6 (by decide) (by omega) (fun q => absurd q (by decide)) (fun hc6 => ?_)
      refine AX.aload_n (pc := 9) dX12_writesSpot_9 rfl ?_
      refine AX.iload_n (pc := 10) dX12_writesSpot_10 rfl ?_
      refine AX.bipush (pc := 11) (v := nI 61) dX12_writesSpot_11 (by decide) ?_
      refine AX.icmp_neN (pc := 13) (tgt := 21) dX12_writesSpot_13 (by decide) (by decide) (by decide) (fun q => absurd q (by decide)) (fun hc13 => ?_)
      refine AX.bipush (pc := 16) (v := nI 79) dX12_writesSpot_16 (by decide) ?_
      refine AX.goto (pc := 18) (tgt := 23) dX12_writesSpot_18 (by decide) ?_
      refine AX.callV (pc := 23) (M2 := M_X12_writes) (As := [.int (nI 79)]) (rest := []) (c_writes w h 79 hn hP (by skip; omega)) xc_X12_writesSpot__X12_writes gX12_writesSpot_X12_writes (ci := 11) rfl (lt_k hn (by omega)) hP.1 rfl (Nat.le_of_ble_eq_true rfl) dX12_writesSpot_23 ?_
      rintro _ h1 ⟨rfl, s1, P1⟩
      have n1 := s1.le hn
      have eO1 := P1.1
      generalize nI _ = z1 at eO1
      have eO1 : h1.2 87 = .inr (11, [.ref 88, .ref 89, .ref 90, .int (v 0), .int (v 1), .ref 91, .ref 92, .ref 93, .ref 94, .ref 95, .ref 96, .ref 97, .ref 98, .ref 99, .ref 100, .ref 101, .int (v 2), .ref 102, .ref 103, .ref 104, .ref 105, .ref 106, .ref 107, .ref 108, .int (v 3), .ref 109, .int (v 4), .ref 110, .ref 111, .int z1, .ref 112, .int (v 6), .int (v 7), .int (v 8), .ref 113, .int (v 9), .ref 114, .ref 115, .ref 116, .ref 117]) := eO1
      show AX w M_X12_writesSpot 0 0 26 [.ref 87, .int (nI 61), .int (nI (nbN 61))] [] _ _
      refine AX.aload_n (pc := 26) dX12_writesSpot_26 rfl ?_
      refine AX.iload_n (pc := 27) dX12_writesSpot_27 rfl ?_
      refine AX.bipush (pc := 28) (v := nI 61) dX12_writesSpot_28 (by decide) ?_
      refine AX.icmp_neN (pc := 30) (tgt := 38) dX12_writesSpot_30 (by decide) (by decide) (by decide) (fun q => absurd q (by decide)) (fun hc30 => ?_)
      refine AX.bipush (pc := 33) (v := nI 66) dX12_writesSpot_33 (by decide) ?_
      refine AX.goto (pc := 35) (tgt := 40) dX12_writesSpot_35 (by decide) ?_
      refine AX.callV (pc := 40) (M2 := M_X12_writes) (As := [.int (nI 66)]) (rest := []) (c_writes w h1 66 n1 P1 (by simp only [List.length_append, List.length_singleton]; omega)) xc_X12_writesSpot__X12_writes gX12_writesSpot_X12_writes (ci := 11) rfl (lt_k n1 (by omega)) eO1 rfl (Nat.le_of_ble_eq_true rfl) dX12_writesSpot_40 ?_
      rintro _ h2 ⟨rfl, s2, P2⟩
      have n2 := s2.le n1
      have eO2 := P2.1
      generalize nI _ = z2 at eO2
      have eO2 : h2.2 87 = .inr (11, [.ref 88, .ref 89, .ref 90, .int (v 0), .int (v 1), .ref 91, .ref 92, .ref 93, .ref 94, .ref 95, .ref 96, .ref 97, .ref 98, .ref 99, .ref 100, .ref 101, .int (v 2), .ref 102, .ref 103, .ref 104, .ref 105, .ref 106, .ref 107, .ref 108, .int (v 3), .ref 109, .int (v 4), .ref 110, .ref 111, .int z2, .ref 112, .int (v 6), .int (v 7), .int (v 8), .ref 113, .int (v 9), .ref 114, .ref 115, .ref 116, .ref 117]) := eO2
      show AX w M_X12_writesSpot 0 0 43 [.ref 87, .int (nI 61), .int (nI (nbN 61))] [] _ _
      refine AX.vret (pc := 43) dX12_writesSpot_43 rfl (by decide) (by decide) ?_
      exact ⟨rfl, (s1.trans s2), by rw [show spN 61 = [79, 66] from rfl]; simpa only [List.append_assoc, List.singleton_append, List.cons_append, List.nil_append] using P2⟩
    · have hP : PP h v X := hP
      refine AX.iload_n (pc := 0) dX12_writesSpot_0 rfl ?_
      refine AX.callS (pc := 1) (M2 := M_X12_numberOf) (As := [.int (nI 62)]) (rest := []) (c_mNumber w h 62 hs) xc_X12_writesSpot__X12_numberOf gX12_writesSpot_X12_numberOf rfl (Nat.le_of_ble_eq_true rfl) dX12_writesSpot_1 ?_
      rintro _ h9 ⟨rfl, e9⟩
      have e9 := e9.symm
      subst e9
      show AX w M_X12_writesSpot 0 0 4 [.ref 87, .int (nI 62), .null] [.int (nI (nbN 62))] _ _
      refine AX.istore_n (pc := 4) (L' := [.ref 87, .int (nI 62), .int (nI (nbN 62))]) dX12_writesSpot_4 (by decide) rfl ?_
      refine AX.iload_n (pc := 5) dX12_writesSpot_5 rfl ?_
      refine AX.if_neN (pc := 6) (tgt := 44) dX12_writesSpot_6 (by decide) (by omega) (fun q => absurd q (by decide)) (fun hc6 => ?_)
      refine AX.aload_n (pc := 9) dX12_writesSpot_9 rfl ?_
      refine AX.iload_n (pc := 10) dX12_writesSpot_10 rfl ?_
      refine AX.bipush (pc := 11) (v := nI 61) dX12_writesSpot_11 (by decide) ?_
      refine AX.icmp_neN (pc := 13) (tgt := 21) dX12_writesSpot_13 (by decide) (by decide) (by decide) (fun hc13 => ?_) (fun q => absurd q (by decide))
      refine AX.bipush (pc := 21) (v := nI 66) dX12_writesSpot_21 (by decide) ?_
      refine AX.callV (pc := 23) (M2 := M_X12_writes) (As := [.int (nI 66)]) (rest := []) (c_writes w h 66 hn hP (by skip; omega)) xc_X12_writesSpot__X12_writes gX12_writesSpot_X12_writes (ci := 11) rfl (lt_k hn (by omega)) hP.1 rfl (Nat.le_of_ble_eq_true rfl) dX12_writesSpot_23 ?_
      rintro _ h1 ⟨rfl, s1, P1⟩
      have n1 := s1.le hn
      have eO1 := P1.1
      generalize nI _ = z1 at eO1
      have eO1 : h1.2 87 = .inr (11, [.ref 88, .ref 89, .ref 90, .int (v 0), .int (v 1), .ref 91, .ref 92, .ref 93, .ref 94, .ref 95, .ref 96, .ref 97, .ref 98, .ref 99, .ref 100, .ref 101, .int (v 2), .ref 102, .ref 103, .ref 104, .ref 105, .ref 106, .ref 107, .ref 108, .int (v 3), .ref 109, .int (v 4), .ref 110, .ref 111, .int z1, .ref 112, .int (v 6), .int (v 7), .int (v 8), .ref 113, .int (v 9), .ref 114, .ref 115, .ref 116, .ref 117]) := eO1
      show AX w M_X12_writesSpot 0 0 26 [.ref 87, .int (nI 62), .int (nI (nbN 62))] [] _ _
      refine AX.aload_n (pc := 26) dX12_writesSpot_26 rfl ?_
      refine AX.iload_n (pc := 27) dX12_writesSpot_27 rfl ?_
      refine AX.bipush (pc := 28) (v := nI 61) dX12_writesSpot_28 (by decide) ?_
      refine AX.icmp_neN (pc := 30) (tgt := 38) dX12_writesSpot_30 (by decide) (by decide) (by decide) (fun hc30 => ?_) (fun q => absurd q (by decide))
      refine AX.bipush (pc := 38) (v := nI 85) dX12_writesSpot_38 (by decide) ?_
      refine AX.callV (pc := 40) (M2 := M_X12_writes) (As := [.int (nI 85)]) (rest := []) (c_writes w h1 85 n1 P1 (by simp only [List.length_append, List.length_singleton]; omega)) xc_X12_writesSpot__X12_writes gX12_writesSpot_X12_writes (ci := 11) rfl (lt_k n1 (by omega)) eO1 rfl (Nat.le_of_ble_eq_true rfl) dX12_writesSpot_40 ?_
      rintro _ h2 ⟨rfl, s2, P2⟩
      have n2 := s2.le n1
      have eO2 := P2.1
      generalize nI _ = z2 at eO2
      have eO2 : h2.2 87 = .inr (11, [.ref 88, .ref 89, .ref 90, .int (v 0), .int (v 1), .ref 91, .ref 92, .ref 93, .ref 94, .ref 95, .ref 96, .ref 97, .ref 98, .ref 99, .ref 100, .ref 101, .int (v 2), .ref 102, .ref 103, .ref 104, .ref 105, .ref 106, .ref 107, .ref 108, .int (v 3), .ref 109, .int (v 4), .ref 110, .ref 111, .int z2, .ref 112, .int (v 6), .int (v 7), .int (v 8), .ref 113, .int (v 9), .ref 114, .ref 115, .ref 116, .ref 117]) := eO2
      show AX w M_X12_writesSpot 0 0 43 [.ref 87, .int (nI 62), .int (nI (nbN 62))] [] _ _
      refine AX.vret (pc := 43) dX12_writesSpot_43 rfl (by decide) (by decide) ?_
      exact ⟨rfl, (s1.trans s2), by rw [show spN 62 = [66, 85] from rfl]; simpa only [List.append_assoc, List.singleton_append, List.cons_append, List.nil_append] using P2⟩
  have hn0 : nbN s ≠ 0 ∧ nbN s ≤ 20 ∧ nbN s = (if s ≤ 20 then s else if s ≤ 40 then s - 20 else s - 40) := by
    have : ∀ s, s < 61 → 1 ≤ s → (nbN s ≠ 0 ∧ nbN s ≤ 20 ∧ nbN s = (if s ≤ 20 then s else if s ≤ 40 then s - 20 else s - 40)) := by decide
    exact this s (by omega) h1
  obtain ⟨hz, hz2, hz3⟩ := hn0
  by_cases c20 : s ≤ 20
  · have e3 : nbN s = s := by rw [hz3]; simp only [if_pos c20]
    by_cases ct : nbN s < 10
    · have hsp : spN s = [83, 48 + nbN s % 10] := by rw [e3] at ct; rw [e3]; unfold spN dgN; rw [if_neg (show ¬ s = 0 by omega), if_pos c20, if_pos ct]; rw [Nat.mod_eq_of_lt ct]
      have hP : PP h v X := hP
      refine AX.iload_n (pc := 0) dX12_writesSpot_0 rfl ?_
      refine AX.callS (pc := 1) (M2 := M_X12_numberOf) (As := [.int (nI s)]) (rest := []) (c_mNumber w h s hs) xc_X12_writesSpot__X12_numberOf gX12_writesSpot_X12_numberOf rfl (Nat.le_of_ble_eq_true rfl) dX12_writesSpot_1 ?_
      rintro _ h9 ⟨rfl, e9⟩
      have e9 := e9.symm
      subst e9
      show AX w M_X12_writesSpot 0 0 4 [.ref 87, .int (nI s), .null] [.int (nI (nbN s))] _ _
      refine AX.istore_n (pc := 4) (L' := [.ref 87, .int (nI s), .int (nI (nbN s))]) dX12_writesSpot_4 (by decide) rfl ?_
      refine AX.iload_n (pc := 5) dX12_writesSpot_5 rfl ?_
      refine AX.if_neN (pc := 6) (tgt := 44) dX12_writesSpot_6 (by decide) (by omega) (fun hc6 => ?_) (fun q => absurd q (by omega))
      refine AX.aload_n (pc := 44) dX12_writesSpot_44 rfl ?_
      refine AX.iload_n (pc := 45) dX12_writesSpot_45 rfl ?_
      refine AX.bipush (pc := 46) (v := nI 20) dX12_writesSpot_46 (by decide) ?_
      refine AX.icmp_gtN (pc := 48) (tgt := 56) dX12_writesSpot_48 (by decide) (by omega) (by decide) (fun q => absurd q (by omega)) (fun hc48 => ?_)
      refine AX.bipush (pc := 51) (v := nI 83) dX12_writesSpot_51 (by decide) ?_
      refine AX.goto (pc := 53) (tgt := 69) dX12_writesSpot_53 (by decide) ?_
      refine AX.callV (pc := 69) (M2 := M_X12_writes) (As := [.int (nI 83)]) (rest := []) (c_writes w h 83 hn hP (by skip; omega)) xc_X12_writesSpot__X12_writes gX12_writesSpot_X12_writes (ci := 11) rfl (lt_k hn (by omega)) hP.1 rfl (Nat.le_of_ble_eq_true rfl) dX12_writesSpot_69 ?_
      rintro _ h1 ⟨rfl, s1, P1⟩
      have n1 := s1.le hn
      have eO1 := P1.1
      generalize nI _ = z1 at eO1
      have eO1 : h1.2 87 = .inr (11, [.ref 88, .ref 89, .ref 90, .int (v 0), .int (v 1), .ref 91, .ref 92, .ref 93, .ref 94, .ref 95, .ref 96, .ref 97, .ref 98, .ref 99, .ref 100, .ref 101, .int (v 2), .ref 102, .ref 103, .ref 104, .ref 105, .ref 106, .ref 107, .ref 108, .int (v 3), .ref 109, .int (v 4), .ref 110, .ref 111, .int z1, .ref 112, .int (v 6), .int (v 7), .int (v 8), .ref 113, .int (v 9), .ref 114, .ref 115, .ref 116, .ref 117]) := eO1
      show AX w M_X12_writesSpot 0 0 72 [.ref 87, .int (nI s), .int (nI (nbN s))] [] _ _
      refine AX.iload_n (pc := 72) dX12_writesSpot_72 rfl ?_
      refine AX.bipush (pc := 73) (v := nI 9) dX12_writesSpot_73 (by decide) ?_
      refine AX.icmp_leN (pc := 75) (tgt := 89) dX12_writesSpot_75 (by decide) (by omega) (by decide) (fun hc75 => ?_) (fun q => absurd q (by omega))
      refine AX.aload_n (pc := 89) dX12_writesSpot_89 rfl ?_
      refine AX.bipush (pc := 90) (v := nI 48) dX12_writesSpot_90 (by decide) ?_
      refine AX.iload_n (pc := 92) dX12_writesSpot_92 rfl ?_
      refine AX.bipush (pc := 93) (v := nI 10) dX12_writesSpot_93 (by decide) ?_
      refine AX.iremN (pc := 95) (c := (nbN s) % 10) dX12_writesSpot_95 (by omega) (by decide) (by decide) rfl ?_
      refine AX.iaddN (pc := 96) (c := 48 + ((nbN s) % 10)) dX12_writesSpot_96 rfl ?_
      refine AX.callV (pc := 97) (M2 := M_X12_writes) (As := [.int (nI (48 + ((nbN s) % 10)))]) (rest := []) (c_writes w h1 (48 + ((nbN s) % 10)) n1 P1 (by simp only [List.length_append, List.length_singleton]; omega)) xc_X12_writesSpot__X12_writes gX12_writesSpot_X12_writes (ci := 11) rfl (lt_k n1 (by omega)) eO1 rfl (Nat.le_of_ble_eq_true rfl) dX12_writesSpot_97 ?_
      rintro _ h2 ⟨rfl, s2, P2⟩
      have n2 := s2.le n1
      have eO2 := P2.1
      generalize nI _ = z2 at eO2
      have eO2 : h2.2 87 = .inr (11, [.ref 88, .ref 89, .ref 90, .int (v 0), .int (v 1), .ref 91, .ref 92, .ref 93, .ref 94, .ref 95, .ref 96, .ref 97, .ref 98, .ref 99, .ref 100, .ref 101, .int (v 2), .ref 102, .ref 103, .ref 104, .ref 105, .ref 106, .ref 107, .ref 108, .int (v 3), .ref 109, .int (v 4), .ref 110, .ref 111, .int z2, .ref 112, .int (v 6), .int (v 7), .int (v 8), .ref 113, .int (v 9), .ref 114, .ref 115, .ref 116, .ref 117]) := eO2
      show AX w M_X12_writesSpot 0 0 100 [.ref 87, .int (nI s), .int (nI (nbN s))] [] _ _
      refine AX.vret (pc := 100) dX12_writesSpot_100 rfl (by decide) (by decide) ?_
      exact ⟨rfl, (s1.trans s2), by rw [show spN s = [83, 48 + nbN s % 10] from hsp]; simpa only [List.append_assoc, List.singleton_append, List.cons_append, List.nil_append] using P2⟩
    · have hsp : spN s = [83, 48 + nbN s / 10, 48 + nbN s % 10] := by rw [e3] at ct; rw [e3]; unfold spN dgN; rw [if_neg (show ¬ s = 0 by omega), if_pos c20, if_neg ct]
      have hP : PP h v X := hP
      refine AX.iload_n (pc := 0) dX12_writesSpot_0 rfl ?_
      refine AX.callS (pc := 1) (M2 := M_X12_numberOf) (As := [.int (nI s)]) (rest := []) (c_mNumber w h s hs) xc_X12_writesSpot__X12_numberOf gX12_writesSpot_X12_numberOf rfl (Nat.le_of_ble_eq_true rfl) dX12_writesSpot_1 ?_
      rintro _ h9 ⟨rfl, e9⟩
      have e9 := e9.symm
      subst e9
      show AX w M_X12_writesSpot 0 0 4 [.ref 87, .int (nI s), .null] [.int (nI (nbN s))] _ _
      refine AX.istore_n (pc := 4) (L' := [.ref 87, .int (nI s), .int (nI (nbN s))]) dX12_writesSpot_4 (by decide) rfl ?_
      refine AX.iload_n (pc := 5) dX12_writesSpot_5 rfl ?_
      refine AX.if_neN (pc := 6) (tgt := 44) dX12_writesSpot_6 (by decide) (by omega) (fun hc6 => ?_) (fun q => absurd q (by omega))
      refine AX.aload_n (pc := 44) dX12_writesSpot_44 rfl ?_
      refine AX.iload_n (pc := 45) dX12_writesSpot_45 rfl ?_
      refine AX.bipush (pc := 46) (v := nI 20) dX12_writesSpot_46 (by decide) ?_
      refine AX.icmp_gtN (pc := 48) (tgt := 56) dX12_writesSpot_48 (by decide) (by omega) (by decide) (fun q => absurd q (by omega)) (fun hc48 => ?_)
      refine AX.bipush (pc := 51) (v := nI 83) dX12_writesSpot_51 (by decide) ?_
      refine AX.goto (pc := 53) (tgt := 69) dX12_writesSpot_53 (by decide) ?_
      refine AX.callV (pc := 69) (M2 := M_X12_writes) (As := [.int (nI 83)]) (rest := []) (c_writes w h 83 hn hP (by skip; omega)) xc_X12_writesSpot__X12_writes gX12_writesSpot_X12_writes (ci := 11) rfl (lt_k hn (by omega)) hP.1 rfl (Nat.le_of_ble_eq_true rfl) dX12_writesSpot_69 ?_
      rintro _ h1 ⟨rfl, s1, P1⟩
      have n1 := s1.le hn
      have eO1 := P1.1
      generalize nI _ = z1 at eO1
      have eO1 : h1.2 87 = .inr (11, [.ref 88, .ref 89, .ref 90, .int (v 0), .int (v 1), .ref 91, .ref 92, .ref 93, .ref 94, .ref 95, .ref 96, .ref 97, .ref 98, .ref 99, .ref 100, .ref 101, .int (v 2), .ref 102, .ref 103, .ref 104, .ref 105, .ref 106, .ref 107, .ref 108, .int (v 3), .ref 109, .int (v 4), .ref 110, .ref 111, .int z1, .ref 112, .int (v 6), .int (v 7), .int (v 8), .ref 113, .int (v 9), .ref 114, .ref 115, .ref 116, .ref 117]) := eO1
      show AX w M_X12_writesSpot 0 0 72 [.ref 87, .int (nI s), .int (nI (nbN s))] [] _ _
      refine AX.iload_n (pc := 72) dX12_writesSpot_72 rfl ?_
      refine AX.bipush (pc := 73) (v := nI 9) dX12_writesSpot_73 (by decide) ?_
      refine AX.icmp_leN (pc := 75) (tgt := 89) dX12_writesSpot_75 (by decide) (by omega) (by decide) (fun q => absurd q (by omega)) (fun hc75 => ?_)
      refine AX.aload_n (pc := 78) dX12_writesSpot_78 rfl ?_
      refine AX.bipush (pc := 79) (v := nI 48) dX12_writesSpot_79 (by decide) ?_
      refine AX.iload_n (pc := 81) dX12_writesSpot_81 rfl ?_
      refine AX.bipush (pc := 82) (v := nI 10) dX12_writesSpot_82 (by decide) ?_
      refine AX.idivN (pc := 84) (c := (nbN s) / 10) dX12_writesSpot_84 (by omega) (by decide) (by decide) rfl ?_
      refine AX.iaddN (pc := 85) (c := 48 + ((nbN s) / 10)) dX12_writesSpot_85 rfl ?_
      refine AX.callV (pc := 86) (M2 := M_X12_writes) (As := [.int (nI (48 + ((nbN s) / 10)))]) (rest := []) (c_writes w h1 (48 + ((nbN s) / 10)) n1 P1 (by simp only [List.length_append, List.length_singleton]; omega)) xc_X12_writesSpot__X12_writes gX12_writesSpot_X12_writes (ci := 11) rfl (lt_k n1 (by omega)) eO1 rfl (Nat.le_of_ble_eq_true rfl) dX12_writesSpot_86 ?_
      rintro _ h2 ⟨rfl, s2, P2⟩
      have n2 := s2.le n1
      have eO2 := P2.1
      generalize nI _ = z2 at eO2
      have eO2 : h2.2 87 = .inr (11, [.ref 88, .ref 89, .ref 90, .int (v 0), .int (v 1), .ref 91, .ref 92, .ref 93, .ref 94, .ref 95, .ref 96, .ref 97, .ref 98, .ref 99, .ref 100, .ref 101, .int (v 2), .ref 102, .ref 103, .ref 104, .ref 105, .ref 106, .ref 107, .ref 108, .int (v 3), .ref 109, .int (v 4), .ref 110, .ref 111, .int z2, .ref 112, .int (v 6), .int (v 7), .int (v 8), .ref 113, .int (v 9), .ref 114, .ref 115, .ref 116, .ref 117]) := eO2
      show AX w M_X12_writesSpot 0 0 89 [.ref 87, .int (nI s), .int (nI (nbN s))] [] _ _
      refine AX.aload_n (pc := 89) dX12_writesSpot_89 rfl ?_
      refine AX.bipush (pc := 90) (v := nI 48) dX12_writesSpot_90 (by decide) ?_
      refine AX.iload_n (pc := 92) dX12_writesSpot_92 rfl ?_
      refine AX.bipush (pc := 93) (v := nI 10) dX12_writesSpot_93 (by decide) ?_
      refine AX.iremN (pc := 95) (c := (nbN s) % 10) dX12_writesSpot_95 (by omega) (by decide) (by decide) rfl ?_
      refine AX.iaddN (pc := 96) (c := 48 + ((nbN s) % 10)) dX12_writesSpot_96 rfl ?_
      refine AX.callV (pc := 97) (M2 := M_X12_writes) (As := [.int (nI (48 + ((nbN s) % 10)))]) (rest := []) (c_writes w h2 (48 + ((nbN s) % 10)) n2 P2 (by simp only [List.length_append, List.length_singleton]; omega)) xc_X12_writesSpot__X12_writes gX12_writesSpot_X12_writes (ci := 11) rfl (lt_k n2 (by omega)) eO2 rfl (Nat.le_of_ble_eq_true rfl) dX12_writesSpot_97 ?_
      rintro _ h3 ⟨rfl, s3, P3⟩
      have n3 := s3.le n2
      have eO3 := P3.1
      generalize nI _ = z3 at eO3
      have eO3 : h3.2 87 = .inr (11, [.ref 88, .ref 89, .ref 90, .int (v 0), .int (v 1), .ref 91, .ref 92, .ref 93, .ref 94, .ref 95, .ref 96, .ref 97, .ref 98, .ref 99, .ref 100, .ref 101, .int (v 2), .ref 102, .ref 103, .ref 104, .ref 105, .ref 106, .ref 107, .ref 108, .int (v 3), .ref 109, .int (v 4), .ref 110, .ref 111, .int z3, .ref 112, .int (v 6), .int (v 7), .int (v 8), .ref 113, .int (v 9), .ref 114, .ref 115, .ref 116, .ref 117]) := eO3
      show AX w M_X12_writesSpot 0 0 100 [.ref 87, .int (nI s), .int (nI (nbN s))] [] _ _
      refine AX.vret (pc := 100) dX12_writesSpot_100 rfl (by decide) (by decide) ?_
      exact ⟨rfl, (s1.trans (s2.trans s3)), by rw [show spN s = [83, 48 + nbN s / 10, 48 + nbN s % 10] from hsp]; simpa only [List.append_assoc, List.singleton_append, List.cons_append, List.nil_append] using P3⟩
  by_cases c40 : s ≤ 40
  · have e3 : nbN s = s - 20 := by rw [hz3]; simp only [if_neg c20, if_pos c40]
    by_cases ct : nbN s < 10
    · have hsp : spN s = [68, 48 + nbN s % 10] := by rw [e3] at ct; rw [e3]; unfold spN dgN; rw [if_neg (show ¬ s = 0 by omega), if_neg c20, if_pos c40, if_pos ct]; rw [Nat.mod_eq_of_lt ct]
      have hP : PP h v X := hP
      refine AX.iload_n (pc := 0) dX12_writesSpot_0 rfl ?_
      refine AX.callS (pc := 1) (M2 := M_X12_numberOf) (As := [.int (nI s)]) (rest := []) (c_mNumber w h s hs) xc_X12_writesSpot__X12_numberOf gX12_writesSpot_X12_numberOf rfl (Nat.le_of_ble_eq_true rfl) dX12_writesSpot_1 ?_
      rintro _ h9 ⟨rfl, e9⟩
      have e9 := e9.symm
      subst e9
      show AX w M_X12_writesSpot 0 0 4 [.ref 87, .int (nI s), .null] [.int (nI (nbN s))] _ _
      refine AX.istore_n (pc := 4) (L' := [.ref 87, .int (nI s), .int (nI (nbN s))]) dX12_writesSpot_4 (by decide) rfl ?_
      refine AX.iload_n (pc := 5) dX12_writesSpot_5 rfl ?_
      refine AX.if_neN (pc := 6) (tgt := 44) dX12_writesSpot_6 (by decide) (by omega) (fun hc6 => ?_) (fun q => absurd q (by omega))
      refine AX.aload_n (pc := 44) dX12_writesSpot_44 rfl ?_
      refine AX.iload_n (pc := 45) dX12_writesSpot_45 rfl ?_
      refine AX.bipush (pc := 46) (v := nI 20) dX12_writesSpot_46 (by decide) ?_
      refine AX.icmp_gtN (pc := 48) (tgt := 56) dX12_writesSpot_48 (by decide) (by omega) (by decide) (fun hc48 => ?_) (fun q => absurd q (by omega))
      refine AX.iload_n (pc := 56) dX12_writesSpot_56 rfl ?_
      refine AX.bipush (pc := 57) (v := nI 40) dX12_writesSpot_57 (by decide) ?_
      refine AX.icmp_gtN (pc := 59) (tgt := 67) dX12_writesSpot_59 (by decide) (by omega) (by decide) (fun q => absurd q (by omega)) (fun hc59 => ?_)
      refine AX.bipush (pc := 62) (v := nI 68) dX12_writesSpot_62 (by decide) ?_
      refine AX.goto (pc := 64) (tgt := 69) dX12_writesSpot_64 (by decide) ?_
      refine AX.callV (pc := 69) (M2 := M_X12_writes) (As := [.int (nI 68)]) (rest := []) (c_writes w h 68 hn hP (by skip; omega)) xc_X12_writesSpot__X12_writes gX12_writesSpot_X12_writes (ci := 11) rfl (lt_k hn (by omega)) hP.1 rfl (Nat.le_of_ble_eq_true rfl) dX12_writesSpot_69 ?_
      rintro _ h1 ⟨rfl, s1, P1⟩
      have n1 := s1.le hn
      have eO1 := P1.1
      generalize nI _ = z1 at eO1
      have eO1 : h1.2 87 = .inr (11, [.ref 88, .ref 89, .ref 90, .int (v 0), .int (v 1), .ref 91, .ref 92, .ref 93, .ref 94, .ref 95, .ref 96, .ref 97, .ref 98, .ref 99, .ref 100, .ref 101, .int (v 2), .ref 102, .ref 103, .ref 104, .ref 105, .ref 106, .ref 107, .ref 108, .int (v 3), .ref 109, .int (v 4), .ref 110, .ref 111, .int z1, .ref 112, .int (v 6), .int (v 7), .int (v 8), .ref 113, .int (v 9), .ref 114, .ref 115, .ref 116, .ref 117]) := eO1
      show AX w M_X12_writesSpot 0 0 72 [.ref 87, .int (nI s), .int (nI (nbN s))] [] _ _
      refine AX.iload_n (pc := 72) dX12_writesSpot_72 rfl ?_
      refine AX.bipush (pc := 73) (v := nI 9) dX12_writesSpot_73 (by decide) ?_
      refine AX.icmp_leN (pc := 75) (tgt := 89) dX12_writesSpot_75 (by decide) (by omega) (by decide) (fun hc75 => ?_) (fun q => absurd q (by omega))
      refine AX.aload_n (pc := 89) dX12_writesSpot_89 rfl ?_
      refine AX.bipush (pc := 90) (v := nI 48) dX12_writesSpot_90 (by decide) ?_
      refine AX.iload_n (pc := 92) dX12_writesSpot_92 rfl ?_
      refine AX.bipush (pc := 93) (v := nI 10) dX12_writesSpot_93 (by decide) ?_
      refine AX.iremN (pc := 95) (c := (nbN s) % 10) dX12_writesSpot_95 (by omega) (by decide) (by decide) rfl ?_
      refine AX.iaddN (pc := 96) (c := 48 + ((nbN s) % 10)) dX12_writesSpot_96 rfl ?_
      refine AX.callV (pc := 97) (M2 := M_X12_writes) (As := [.int (nI (48 + ((nbN s) % 10)))]) (rest := []) (c_writes w h1 (48 + ((nbN s) % 10)) n1 P1 (by simp only [List.length_append, List.length_singleton]; omega)) xc_X12_writesSpot__X12_writes gX12_writesSpot_X12_writes (ci := 11) rfl (lt_k n1 (by omega)) eO1 rfl (Nat.le_of_ble_eq_true rfl) dX12_writesSpot_97 ?_
      rintro _ h2 ⟨rfl, s2, P2⟩
      have n2 := s2.le n1
      have eO2 := P2.1
      generalize nI _ = z2 at eO2
      have eO2 : h2.2 87 = .inr (11, [.ref 88, .ref 89, .ref 90, .int (v 0), .int (v 1), .ref 91, .ref 92, .ref 93, .ref 94, .ref 95, .ref 96, .ref 97, .ref 98, .ref 99, .ref 100, .ref 101, .int (v 2), .ref 102, .ref 103, .ref 104, .ref 105, .ref 106, .ref 107, .ref 108, .int (v 3), .ref 109, .int (v 4), .ref 110, .ref 111, .int z2, .ref 112, .int (v 6), .int (v 7), .int (v 8), .ref 113, .int (v 9), .ref 114, .ref 115, .ref 116, .ref 117]) := eO2
      show AX w M_X12_writesSpot 0 0 100 [.ref 87, .int (nI s), .int (nI (nbN s))] [] _ _
      refine AX.vret (pc := 100) dX12_writesSpot_100 rfl (by decide) (by decide) ?_
      exact ⟨rfl, (s1.trans s2), by rw [show spN s = [68, 48 + nbN s % 10] from hsp]; simpa only [List.append_assoc, List.singleton_append, List.cons_append, List.nil_append] using P2⟩
    · have hsp : spN s = [68, 48 + nbN s / 10, 48 + nbN s % 10] := by rw [e3] at ct; rw [e3]; unfold spN dgN; rw [if_neg (show ¬ s = 0 by omega), if_neg c20, if_pos c40, if_neg ct]
      have hP : PP h v X := hP
      refine AX.iload_n (pc := 0) dX12_writesSpot_0 rfl ?_
      refine AX.callS (pc := 1) (M2 := M_X12_numberOf) (As := [.int (nI s)]) (rest := []) (c_mNumber w h s hs) xc_X12_writesSpot__X12_numberOf gX12_writesSpot_X12_numberOf rfl (Nat.le_of_ble_eq_true rfl) dX12_writesSpot_1 ?_
      rintro _ h9 ⟨rfl, e9⟩
      have e9 := e9.symm
      subst e9
      show AX w M_X12_writesSpot 0 0 4 [.ref 87, .int (nI s), .null] [.int (nI (nbN s))] _ _
      refine AX.istore_n (pc := 4) (L' := [.ref 87, .int (nI s), .int (nI (nbN s))]) dX12_writesSpot_4 (by decide) rfl ?_
      refine AX.iload_n (pc := 5) dX12_writesSpot_5 rfl ?_
      refine AX.if_neN (pc := 6) (tgt := 44) dX12_writesSpot_6 (by decide) (by omega) (fun hc6 => ?_) (fun q => absurd q (by omega))
      refine AX.aload_n (pc := 44) dX12_writesSpot_44 rfl ?_
      refine AX.iload_n (pc := 45) dX12_writesSpot_45 rfl ?_
      refine AX.bipush (pc := 46) (v := nI 20) dX12_writesSpot_46 (by decide) ?_
      refine AX.icmp_gtN (pc := 48) (tgt := 56) dX12_writesSpot_48 (by decide) (by omega) (by decide) (fun hc48 => ?_) (fun q => absurd q (by omega))
      refine AX.iload_n (pc := 56) dX12_writesSpot_56 rfl ?_
      refine AX.bipush (pc := 57) (v := nI 40) dX12_writesSpot_57 (by decide) ?_
      refine AX.icmp_gtN (pc := 59) (tgt := 67) dX12_writesSpot_59 (by decide) (by omega) (by decide) (fun q => absurd q (by omega)) (fun hc59 => ?_)
      refine AX.bipush (pc := 62) (v := nI 68) dX12_writesSpot_62 (by decide) ?_
      refine AX.goto (pc := 64) (tgt := 69) dX12_writesSpot_64 (by decide) ?_
      refine AX.callV (pc := 69) (M2 := M_X12_writes) (As := [.int (nI 68)]) (rest := []) (c_writes w h 68 hn hP (by skip; omega)) xc_X12_writesSpot__X12_writes gX12_writesSpot_X12_writes (ci := 11) rfl (lt_k hn (by omega)) hP.1 rfl (Nat.le_of_ble_eq_true rfl) dX12_writesSpot_69 ?_
      rintro _ h1 ⟨rfl, s1, P1⟩
      have n1 := s1.le hn
      have eO1 := P1.1
      generalize nI _ = z1 at eO1
      have eO1 : h1.2 87 = .inr (11, [.ref 88, .ref 89, .ref 90, .int (v 0), .int (v 1), .ref 91, .ref 92, .ref 93, .ref 94, .ref 95, .ref 96, .ref 97, .ref 98, .ref 99, .ref 100, .ref 101, .int (v 2), .ref 102, .ref 103, .ref 104, .ref 105, .ref 106, .ref 107, .ref 108, .int (v 3), .ref 109, .int (v 4), .ref 110, .ref 111, .int z1, .ref 112, .int (v 6), .int (v 7), .int (v 8), .ref 113, .int (v 9), .ref 114, .ref 115, .ref 116, .ref 117]) := eO1
      show AX w M_X12_writesSpot 0 0 72 [.ref 87, .int (nI s), .int (nI (nbN s))] [] _ _
      refine AX.iload_n (pc := 72) dX12_writesSpot_72 rfl ?_
      refine AX.bipush (pc := 73) (v := nI 9) dX12_writesSpot_73 (by decide) ?_
      refine AX.icmp_leN (pc := 75) (tgt := 89) dX12_writesSpot_75 (by decide) (by omega) (by decide) (fun q => absurd q (by omega)) (fun hc75 => ?_)
      refine AX.aload_n (pc := 78) dX12_writesSpot_78 rfl ?_
      refine AX.bipush (pc := 79) (v := nI 48) dX12_writesSpot_79 (by decide) ?_
      refine AX.iload_n (pc := 81) dX12_writesSpot_81 rfl ?_
      refine AX.bipush (pc := 82) (v := nI 10) dX12_writesSpot_82 (by decide) ?_
      refine AX.idivN (pc := 84) (c := (nbN s) / 10) dX12_writesSpot_84 (by omega) (by decide) (by decide) rfl ?_
      refine AX.iaddN (pc := 85) (c := 48 + ((nbN s) / 10)) dX12_writesSpot_85 rfl ?_
      refine AX.callV (pc := 86) (M2 := M_X12_writes) (As := [.int (nI (48 + ((nbN s) / 10)))]) (rest := []) (c_writes w h1 (48 + ((nbN s) / 10)) n1 P1 (by simp only [List.length_append, List.length_singleton]; omega)) xc_X12_writesSpot__X12_writes gX12_writesSpot_X12_writes (ci := 11) rfl (lt_k n1 (by omega)) eO1 rfl (Nat.le_of_ble_eq_true rfl) dX12_writesSpot_86 ?_
      rintro _ h2 ⟨rfl, s2, P2⟩
      have n2 := s2.le n1
      have eO2 := P2.1
      generalize nI _ = z2 at eO2
      have eO2 : h2.2 87 = .inr (11, [.ref 88, .ref 89, .ref 90, .int (v 0), .int (v 1), .ref 91, .ref 92, .ref 93, .ref 94, .ref 95, .ref 96, .ref 97, .ref 98, .ref 99, .ref 100, .ref 101, .int (v 2), .ref 102, .ref 103, .ref 104, .ref 105, .ref 106, .ref 107, .ref 108, .int (v 3), .ref 109, .int (v 4), .ref 110, .ref 111, .int z2, .ref 112, .int (v 6), .int (v 7), .int (v 8), .ref 113, .int (v 9), .ref 114, .ref 115, .ref 116, .ref 117]) := eO2
      show AX w M_X12_writesSpot 0 0 89 [.ref 87, .int (nI s), .int (nI (nbN s))] [] _ _
      refine AX.aload_n (pc := 89) dX12_writesSpot_89 rfl ?_
      refine AX.bipush (pc := 90) (v := nI 48) dX12_writesSpot_90 (by decide) ?_
      refine AX.iload_n (pc := 92) dX12_writesSpot_92 rfl ?_
      refine AX.bipush (pc := 93) (v := nI 10) dX12_writesSpot_93 (by decide) ?_
      refine AX.iremN (pc := 95) (c := (nbN s) % 10) dX12_writesSpot_95 (by omega) (by decide) (by decide) rfl ?_
      refine AX.iaddN (pc := 96) (c := 48 + ((nbN s) % 10)) dX12_writesSpot_96 rfl ?_
      refine AX.callV (pc := 97) (M2 := M_X12_writes) (As := [.int (nI (48 + ((nbN s) % 10)))]) (rest := []) (c_writes w h2 (48 + ((nbN s) % 10)) n2 P2 (by simp only [List.length_append, List.length_singleton]; omega)) xc_X12_writesSpot__X12_writes gX12_writesSpot_X12_writes (ci := 11) rfl (lt_k n2 (by omega)) eO2 rfl (Nat.le_of_ble_eq_true rfl) dX12_writesSpot_97 ?_
      rintro _ h3 ⟨rfl, s3, P3⟩
      have n3 := s3.le n2
      have eO3 := P3.1
      generalize nI _ = z3 at eO3
      have eO3 : h3.2 87 = .inr (11, [.ref 88, .ref 89, .ref 90, .int (v 0), .int (v 1), .ref 91, .ref 92, .ref 93, .ref 94, .ref 95, .ref 96, .ref 97, .ref 98, .ref 99, .ref 100, .ref 101, .int (v 2), .ref 102, .ref 103, .ref 104, .ref 105, .ref 106, .ref 107, .ref 108, .int (v 3), .ref 109, .int (v 4), .ref 110, .ref 111, .int z3, .ref 112, .int (v 6), .int (v 7), .int (v 8), .ref 113, .int (v 9), .ref 114, .ref 115, .ref 116, .ref 117]) := eO3
      show AX w M_X12_writesSpot 0 0 100 [.ref 87, .int (nI s), .int (nI (nbN s))] [] _ _
      refine AX.vret (pc := 100) dX12_writesSpot_100 rfl (by decide) (by decide) ?_
      exact ⟨rfl, (s1.trans (s2.trans s3)), by rw [show spN s = [68, 48 + nbN s / 10, 48 + nbN s % 10] from hsp]; simpa only [List.append_assoc, List.singleton_append, List.cons_append, List.nil_append] using P3⟩
  have c60 : s ≤ 60 := by omega
  have e3 : nbN s = s - 40 := by rw [hz3]; simp only [if_neg c20, if_neg c40]
  by_cases ct : nbN s < 10
  · have hsp : spN s = [84, 48 + nbN s % 10] := by rw [e3] at ct; rw [e3]; unfold spN dgN; rw [if_neg (show ¬ s = 0 by omega), if_neg c20, if_neg c40, if_pos c60, if_pos ct]; rw [Nat.mod_eq_of_lt ct]
    have hP : PP h v X := hP
    refine AX.iload_n (pc := 0) dX12_writesSpot_0 rfl ?_
    refine AX.callS (pc := 1) (M2 := M_X12_numberOf) (As := [.int (nI s)]) (rest := []) (c_mNumber w h s hs) xc_X12_writesSpot__X12_numberOf gX12_writesSpot_X12_numberOf rfl (Nat.le_of_ble_eq_true rfl) dX12_writesSpot_1 ?_
    rintro _ h9 ⟨rfl, e9⟩
    have e9 := e9.symm
    subst e9
    show AX w M_X12_writesSpot 0 0 4 [.ref 87, .int (nI s), .null] [.int (nI (nbN s))] _ _
    refine AX.istore_n (pc := 4) (L' := [.ref 87, .int (nI s), .int (nI (nbN s))]) dX12_writesSpot_4 (by decide) rfl ?_
    refine AX.iload_n (pc := 5) dX12_writesSpot_5 rfl ?_
    refine AX.if_neN (pc := 6) (tgt := 44) dX12_writesSpot_6 (by decide) (by omega) (fun hc6 => ?_) (fun q => absurd q (by omega))
    refine AX.aload_n (pc := 44) dX12_writesSpot_44 rfl ?_
    refine AX.iload_n (pc := 45) dX12_writesSpot_45 rfl ?_
    refine AX.bipush (pc := 46) (v := nI 20) dX12_writesSpot_46 (by decide) ?_
    refine AX.icmp_gtN (pc := 48) (tgt := 56) dX12_writesSpot_48 (by decide) (by omega) (by decide) (fun hc48 => ?_) (fun q => absurd q (by omega))
    refine AX.iload_n (pc := 56) dX12_writesSpot_56 rfl ?_
    refine AX.bipush (pc := 57) (v := nI 40) dX12_writesSpot_57 (by decide) ?_
    refine AX.icmp_gtN (pc := 59) (tgt := 67) dX12_writesSpot_59 (by decide) (by omega) (by decide) (fun hc59 => ?_) (fun q => absurd q (by omega))
    refine AX.bipush (pc := 67) (v := nI 84) dX12_writesSpot_67 (by decide) ?_
    refine AX.callV (pc := 69) (M2 := M_X12_writes) (As := [.int (nI 84)]) (rest := []) (c_writes w h 84 hn hP (by skip; omega)) xc_X12_writesSpot__X12_writes gX12_writesSpot_X12_writes (ci := 11) rfl (lt_k hn (by omega)) hP.1 rfl (Nat.le_of_ble_eq_true rfl) dX12_writesSpot_69 ?_
    rintro _ h1 ⟨rfl, s1, P1⟩
    have n1 := s1.le hn
    have eO1 := P1.1
    generalize nI _ = z1 at eO1
    have eO1 : h1.2 87 = .inr (11, [.ref 88, .ref 89, .ref 90, .int (v 0), .int (v 1), .ref 91, .ref 92, .ref 93, .ref 94, .ref 95, .ref 96, .ref 97, .ref 98, .ref 99, .ref 100, .ref 101, .int (v 2), .ref 102, .ref 103, .ref 104, .ref 105, .ref 106, .ref 107, .ref 108, .int (v 3), .ref 109, .int (v 4), .ref 110, .ref 111, .int z1, .ref 112, .int (v 6), .int (v 7), .int (v 8), .ref 113, .int (v 9), .ref 114, .ref 115, .ref 116, .ref 117]) := eO1
    show AX w M_X12_writesSpot 0 0 72 [.ref 87, .int (nI s), .int (nI (nbN s))] [] _ _
    refine AX.iload_n (pc := 72) dX12_writesSpot_72 rfl ?_
    refine AX.bipush (pc := 73) (v := nI 9) dX12_writesSpot_73 (by decide) ?_
    refine AX.icmp_leN (pc := 75) (tgt := 89) dX12_writesSpot_75 (by decide) (by omega) (by decide) (fun hc75 => ?_) (fun q => absurd q (by omega))
    refine AX.aload_n (pc := 89) dX12_writesSpot_89 rfl ?_
    refine AX.bipush (pc := 90) (v := nI 48) dX12_writesSpot_90 (by decide) ?_
    refine AX.iload_n (pc := 92) dX12_writesSpot_92 rfl ?_
    refine AX.bipush (pc := 93) (v := nI 10) dX12_writesSpot_93 (by decide) ?_
    refine AX.iremN (pc := 95) (c := (nbN s) % 10) dX12_writesSpot_95 (by omega) (by decide) (by decide) rfl ?_
    refine AX.iaddN (pc := 96) (c := 48 + ((nbN s) % 10)) dX12_writesSpot_96 rfl ?_
    refine AX.callV (pc := 97) (M2 := M_X12_writes) (As := [.int (nI (48 + ((nbN s) % 10)))]) (rest := []) (c_writes w h1 (48 + ((nbN s) % 10)) n1 P1 (by simp only [List.length_append, List.length_singleton]; omega)) xc_X12_writesSpot__X12_writes gX12_writesSpot_X12_writes (ci := 11) rfl (lt_k n1 (by omega)) eO1 rfl (Nat.le_of_ble_eq_true rfl) dX12_writesSpot_97 ?_
    rintro _ h2 ⟨rfl, s2, P2⟩
    have n2 := s2.le n1
    have eO2 := P2.1
    generalize nI _ = z2 at eO2
    have eO2 : h2.2 87 = .inr (11, [.ref 88, .ref 89, .ref 90, .int (v 0), .int (v 1), .ref 91, .ref 92, .ref 93, .ref 94, .ref 95, .ref 96, .ref 97, .ref 98, .ref 99, .ref 100, .ref 101, .int (v 2), .ref 102, .ref 103, .ref 104, .ref 105, .ref 106, .ref 107, .ref 108, .int (v 3), .ref 109, .int (v 4), .ref 110, .ref 111, .int z2, .ref 112, .int (v 6), .int (v 7), .int (v 8), .ref 113, .int (v 9), .ref 114, .ref 115, .ref 116, .ref 117]) := eO2
    show AX w M_X12_writesSpot 0 0 100 [.ref 87, .int (nI s), .int (nI (nbN s))] [] _ _
    refine AX.vret (pc := 100) dX12_writesSpot_100 rfl (by decide) (by decide) ?_
    exact ⟨rfl, (s1.trans s2), by rw [show spN s = [84, 48 + nbN s % 10] from hsp]; simpa only [List.append_assoc, List.singleton_append, List.cons_append, List.nil_append] using P2⟩
  · have hsp : spN s = [84, 48 + nbN s / 10, 48 + nbN s % 10] := by rw [e3] at ct; rw [e3]; unfold spN dgN; rw [if_neg (show ¬ s = 0 by omega), if_neg c20, if_neg c40, if_pos c60, if_neg ct]
    have hP : PP h v X := hP
    refine AX.iload_n (pc := 0) dX12_writesSpot_0 rfl ?_
    refine AX.callS (pc := 1) (M2 := M_X12_numberOf) (As := [.int (nI s)]) (rest := []) (c_mNumber w h s hs) xc_X12_writesSpot__X12_numberOf gX12_writesSpot_X12_numberOf rfl (Nat.le_of_ble_eq_true rfl) dX12_writesSpot_1 ?_
    rintro _ h9 ⟨rfl, e9⟩
    have e9 := e9.symm
    subst e9
    show AX w M_X12_writesSpot 0 0 4 [.ref 87, .int (nI s), .null] [.int (nI (nbN s))] _ _
    refine AX.istore_n (pc := 4) (L' := [.ref 87, .int (nI s), .int (nI (nbN s))]) dX12_writesSpot_4 (by decide) rfl ?_
    refine AX.iload_n (pc := 5) dX12_writesSpot_5 rfl ?_
    refine AX.if_neN (pc := 6) (tgt := 44) dX12_writesSpot_6 (by decide) (by omega) (fun hc6 => ?_) (fun q => absurd q (by omega))
    refine AX.aload_n (pc := 44) dX12_writesSpot_44 rfl ?_
    refine AX.iload_n (pc := 45) dX12_writesSpot_45 rfl ?_
    refine AX.bipush (pc := 46) (v := nI 20) dX12_writesSpot_46 (by decide) ?_
    refine AX.icmp_gtN (pc := 48) (tgt := 56) dX12_writesSpot_48 (by decide) (by omega) (by decide) (fun hc48 => ?_) (fun q => absurd q (by omega))
    refine AX.iload_n (pc := 56) dX12_writesSpot_56 rfl ?_
    refine AX.bipush (pc := 57) (v := nI 40) dX12_writesSpot_57 (by decide) ?_
    refine AX.icmp_gtN (pc := 59) (tgt := 67) dX12_writesSpot_59 (by decide) (by omega) (by decide) (fun hc59 => ?_) (fun q => absurd q (by omega))
    refine AX.bipush (pc := 67) (v := nI 84) dX12_writesSpot_67 (by decide) ?_
    refine AX.callV (pc := 69) (M2 := M_X12_writes) (As := [.int (nI 84)]) (rest := []) (c_writes w h 84 hn hP (by skip; omega)) xc_X12_writesSpot__X12_writes gX12_writesSpot_X12_writes (ci := 11) rfl (lt_k hn (by omega)) hP.1 rfl (Nat.le_of_ble_eq_true rfl) dX12_writesSpot_69 ?_
    rintro _ h1 ⟨rfl, s1, P1⟩
    have n1 := s1.le hn
    have eO1 := P1.1
    generalize nI _ = z1 at eO1
    have eO1 : h1.2 87 = .inr (11, [.ref 88, .ref 89, .ref 90, .int (v 0), .int (v 1), .ref 91, .ref 92, .ref 93, .ref 94, .ref 95, .ref 96, .ref 97, .ref 98, .ref 99, .ref 100, .ref 101, .int (v 2), .ref 102, .ref 103, .ref 104, .ref 105, .ref 106, .ref 107, .ref 108, .int (v 3), .ref 109, .int (v 4), .ref 110, .ref 111, .int z1, .ref 112, .int (v 6), .int (v 7), .int (v 8), .ref 113, .int (v 9), .ref 114, .ref 115, .ref 116, .ref 117]) := eO1
    show AX w M_X12_writesSpot 0 0 72 [.ref 87, .int (nI s), .int (nI (nbN s))] [] _ _
    refine AX.iload_n (pc := 72) dX12_writesSpot_72 rfl ?_
    refine AX.bipush (pc := 73) (v := nI 9) dX12_writesSpot_73 (by decide) ?_
    refine AX.icmp_leN (pc := 75) (tgt := 89) dX12_writesSpot_75 (by decide) (by omega) (by decide) (fun q => absurd q (by omega)) (fun hc75 => ?_)
    refine AX.aload_n (pc := 78) dX12_writesSpot_78 rfl ?_
    refine AX.bipush (pc := 79) (v := nI 48) dX12_writesSpot_79 (by decide) ?_
    refine AX.iload_n (pc := 81) dX12_writesSpot_81 rfl ?_
    refine AX.bipush (pc := 82) (v := nI 10) dX12_writesSpot_82 (by decide) ?_
    refine AX.idivN (pc := 84) (c := (nbN s) / 10) dX12_writesSpot_84 (by omega) (by decide) (by decide) rfl ?_
    refine AX.iaddN (pc := 85) (c := 48 + ((nbN s) / 10)) dX12_writesSpot_85 rfl ?_
    refine AX.callV (pc := 86) (M2 := M_X12_writes) (As := [.int (nI (48 + ((nbN s) / 10)))]) (rest := []) (c_writes w h1 (48 + ((nbN s) / 10)) n1 P1 (by simp only [List.length_append, List.length_singleton]; omega)) xc_X12_writesSpot__X12_writes gX12_writesSpot_X12_writes (ci := 11) rfl (lt_k n1 (by omega)) eO1 rfl (Nat.le_of_ble_eq_true rfl) dX12_writesSpot_86 ?_
    rintro _ h2 ⟨rfl, s2, P2⟩
    have n2 := s2.le n1
    have eO2 := P2.1
    generalize nI _ = z2 at eO2
    have eO2 : h2.2 87 = .inr (11, [.ref 88, .ref 89, .ref 90, .int (v 0), .int (v 1), .ref 91, .ref 92, .ref 93, .ref 94, .ref 95, .ref 96, .ref 97, .ref 98, .ref 99, .ref 100, .ref 101, .int (v 2), .ref 102, .ref 103, .ref 104, .ref 105, .ref 106, .ref 107, .ref 108, .int (v 3), .ref 109, .int (v 4), .ref 110, .ref 111, .int z2, .ref 112, .int (v 6), .int (v 7), .int (v 8), .ref 113, .int (v 9), .ref 114, .ref 115, .ref 116, .ref 117]) := eO2
    show AX w M_X12_writesSpot 0 0 89 [.ref 87, .int (nI s), .int (nI (nbN s))] [] _ _
    refine AX.aload_n (pc := 89) dX12_writesSpot_89 rfl ?_
    refine AX.bipush (pc := 90) (v := nI 48) dX12_writesSpot_90 (by decide) ?_
    refine AX.iload_n (pc := 92) dX12_writesSpot_92 rfl ?_
    refine AX.bipush (pc := 93) (v := nI 10) dX12_writesSpot_93 (by decide) ?_
    refine AX.iremN (pc := 95) (c := (nbN s) % 10) dX12_writesSpot_95 (by omega) (by decide) (by decide) rfl ?_
    refine AX.iaddN (pc := 96) (c := 48 + ((nbN s) % 10)) dX12_writesSpot_96 rfl ?_
    refine AX.callV (pc := 97) (M2 := M_X12_writes) (As := [.int (nI (48 + ((nbN s) % 10)))]) (rest := []) (c_writes w h2 (48 + ((nbN s) % 10)) n2 P2 (by simp only [List.length_append, List.length_singleton]; omega)) xc_X12_writesSpot__X12_writes gX12_writesSpot_X12_writes (ci := 11) rfl (lt_k n2 (by omega)) eO2 rfl (Nat.le_of_ble_eq_true rfl) dX12_writesSpot_97 ?_
    rintro _ h3 ⟨rfl, s3, P3⟩
    have n3 := s3.le n2
    have eO3 := P3.1
    generalize nI _ = z3 at eO3
    have eO3 : h3.2 87 = .inr (11, [.ref 88, .ref 89, .ref 90, .int (v 0), .int (v 1), .ref 91, .ref 92, .ref 93, .ref 94, .ref 95, .ref 96, .ref 97, .ref 98, .ref 99, .ref 100, .ref 101, .int (v 2), .ref 102, .ref 103, .ref 104, .ref 105, .ref 106, .ref 107, .ref 108, .int (v 3), .ref 109, .int (v 4), .ref 110, .ref 111, .int z3, .ref 112, .int (v 6), .int (v 7), .int (v 8), .ref 113, .int (v 9), .ref 114, .ref 115, .ref 116, .ref 117]) := eO3
    show AX w M_X12_writesSpot 0 0 100 [.ref 87, .int (nI s), .int (nI (nbN s))] [] _ _
    refine AX.vret (pc := 100) dX12_writesSpot_100 rfl (by decide) (by decide) ?_
    exact ⟨rfl, (s1.trans (s2.trans s3)), by rw [show spN s = [84, 48 + nbN s / 10, 48 + nbN s % 10] from hsp]; simpa only [List.append_assoc, List.singleton_append, List.cons_append, List.nil_append] using P3⟩
