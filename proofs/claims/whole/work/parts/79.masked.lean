/-! ===== THE REFERENCE: DARTS, AIMS asked ===== -/
theorem c_mMay (w : XW) (h : XH) {s : SS} {n o : Nat} {a b : Nat × Nat} (c : MS h s) (l : LV (sq s) n o a b) (x r : Int32) : CA w M_X12_mayAsk [.ref 87, .int x, .int r] h (fun v' h'' => v' = some (.int (bI (decide (inR 0 1 x ∧ inD o r)))) ∧ h'' = h) := by
  refine CA.of (by decide) rfl (fun _ => Nat.le_of_ble_eq_true rfl) ?_
  obtain ⟨v, hO, -⟩ := c.ob
  show AX w M_X12_mayAsk 0 0 0 [.ref 87, .int x, .int r] [] h _
  refine AX.iload_n (pc := 0) dX12_mayAsk_0 rfl ?_
  refine AX.callS (pc := 1) (M2 := M_X12_isPlayer) (As := [.int x]) (rest := []) (c_mPlayer w h x) xc_X12_mayAsk__X12_isPlayer gX12_mayAsk_X12_isPlayer rfl (Nat.le_of_ble_eq_true rfl) dX12_mayAsk_1 ?_
  rintro _ h9 ⟨rfl, e9⟩
  have e9 := e9.symm
  subst e9
  show AX w M_X12_mayAsk 0 0 4 [.ref 87, .int x, .int r] [.int (bI (decide (inR 0 1 x)))] _ _
  refine AX.if_eqB (pc := 4) (tgt := 26) dX12_mayAsk_4 (by decide) (fun hc4 => ?_) (fun hc4 => ?_)
  · refine AX.iconst (pc := 26) (v := nI 0) dX12_mayAsk_26 (by decide) ?_
    refine AX.iret (pc := 27) dX12_mayAsk_27 rfl rfl (by decide) (by decide) ?_
    exact ⟨s0 (decide_eq_false (by rintro ⟨q1, q2⟩; first | exact of_decide_eq_false hc4 q1 | (rcases q2 with q2 | q2; exact hc8 q2; exact of_decide_eq_false hc19 q2))), rfl⟩
  · refine AX.iload_n (pc := 7) dX12_mayAsk_7 rfl ?_
    refine AX.if_eq (pc := 8) (tgt := 22) dX12_mayAsk_8 (by decide) (fun hc8 => ?_) (fun hc8 => ?_)
    · refine AX.iconst (pc := 22) (v := nI 1) dX12_mayAsk_22 (by decide) ?_
      refine AX.goto (pc := 23) (tgt := 27) dX12_mayAsk_23 (by decide) ?_
      refine AX.iret (pc := 27) dX12_mayAsk_27 rfl rfl (by decide) (by decide) ?_
      exact ⟨s1 (decide_eq_true ⟨of_decide_eq_true hc4, by first | exact Or.inl (by assumption) | exact Or.inr (of_decide_eq_true hc19)⟩), rfl⟩
    · refine AX.aload_n (pc := 11) dX12_mayAsk_11 rfl ?_
      refine AX.iload_n (pc := 12) dX12_mayAsk_12 rfl ?_
      refine AX.sipush (pc := 13) (v := nI 501) dX12_mayAsk_13 (by decide) ?_
      refine AX.callV (pc := 16) (M2 := M_X12_isRest) (As := [.int r, .int (nI 501)]) (rest := []) (c_mRest w h c l r 501 (by decide)) xc_X12_mayAsk__X12_isRest gX12_mayAsk_X12_isRest (ci := 11) rfl (lt_k c.hn (by omega)) hO rfl (Nat.le_of_ble_eq_true rfl) dX12_mayAsk_16 ?_
      rintro _ h9 ⟨rfl, e9⟩
      have e9 := e9.symm
      subst e9
      show AX w M_X12_mayAsk 0 0 19 [.ref 87, .int x, .int r] [.int (bI (decide (inR (leN o) 501 r)))] _ _
      refine AX.if_eqB (pc := 19) (tgt := 26) dX12_mayAsk_19 (by decide) (fun hc19 => ?_) (fun hc19 => ?_)
      · refine AX.iconst (pc := 26) (v := nI 0) dX12_mayAsk_26 (by decide) ?_
        refine AX.iret (pc := 27) dX12_mayAsk_27 rfl rfl (by decide) (by decide) ?_
        exact ⟨s0 (decide_eq_false (by rintro ⟨q1, q2⟩; first | exact of_decide_eq_false hc4 q1 | (rcases q2 with q2 | q2; exact hc8 q2; exact of_decide_eq_false hc19 q2))), rfl⟩
      · refine AX.iconst (pc := 22) (v := nI 1) dX12_mayAsk_22 (by decide) ?_
        refine AX.goto (pc := 23) (tgt := 27) dX12_mayAsk_23 (by decide) ?_
        refine AX.iret (pc := 27) dX12_mayAsk_27 rfl rfl (by decide) (by decide) ?_
        exact ⟨s1 (decide_eq_true ⟨of_decide_eq_true hc4, by first | exact Or.inl (by assumption) | exact Or.inr (of_decide_eq_true hc19)⟩), rfl⟩
theorem dtab.at {fd : Nat → UInt64} {fa : Nat → Int32} {u o sd rg r : Nat} (H : dtab fd fa u o sd rg) (h1 : r = 0 ∨ leN o ≤ r) (h2 : r ≤ 501) : fd (502 * u + r) = dD o sd rg r := by
  by_cases e : r = 0
  · subst e; exact H.1
  · exact (H.2 r (by omega) h2).1
theorem c_mDartsAt (w : XW) (h : XH) {s : SS} {n o u r : Nat} {a b : Nat × Nat} (c : MS h s) (l : LV (sq s) n o a b) (hu : u ≤ 1) (k1 : r = 0 ∨ leN o ≤ r) (k2 : r ≤ 501) : CA w M_X12_dartsAt [.ref 87, .int (nI u), .int (nI r)] h (fun v' h' => v' = some (.double (dD o (hh a b u).1 (hh a b u).2 r)) ∧ Same [87, 91, 92, 93, 94, 95, 96, 97, 98, 99, 100] h h' ∧ MS h' s) := by
  refine CA.of (by decide) rfl (fun _ => Nat.le_of_ble_eq_true rfl) ?_
  obtain ⟨v, hO, hv⟩ := id c.ob
  obtain ⟨hs1, hr1, hs2, hr2⟩ := l.hq hu
  show AX w M_X12_dartsAt 0 0 0 [.ref 87, .int (nI u), .int (nI r)] [] h _
  refine AX.aload_n (pc := 0) dX12_dartsAt_0 rfl ?_
  refine AX.iload_n (pc := 1) dX12_dartsAt_1 rfl ?_
  refine AX.callV (pc := 2) (M2 := M_X12_layDarts) (As := [.int (nI u)]) (rest := []) (c_layDarts w h c.hn hO c.nw c.rg c.fx c.dt hu hs1 hr1 l.q12 l.ho hs2 hr2) xc_X12_dartsAt__X12_layDarts gX12_dartsAt_X12_layDarts (ci := 11) rfl (lt_k c.hn (by omega)) hO rfl (Nat.le_of_ble_eq_true rfl) dX12_dartsAt_2 ?_
  rintro _ h1 ⟨rfl, s1, ⟨xx, O1⟩, X1, T1, fd, fa, e93, e94, tab⟩
  have c1 : MS h1 s := c.darts s1 (MS.obv hv 1 (by decide) O1) X1 T1
  show AX w M_X12_dartsAt 0 0 5 [.ref 87, .int (nI u), .int (nI r)] [] _ _
  refine AX.aload_n (pc := 5) dX12_dartsAt_5 rfl ?_
  refine AX.getf (pc := 6) fX12_dartsAt_25 (lt_k (s1.le c.hn) (by omega)) O1 rfl dX12_dartsAt_6 ?_
  refine AX.sipush (pc := 9) (v := nI 502) dX12_dartsAt_9 (by decide) ?_
  refine AX.iload_n (pc := 12) dX12_dartsAt_12 rfl ?_
  refine AX.imulN (pc := 13) (c := 502 * u) dX12_dartsAt_13 rfl ?_
  refine AX.iload_n (pc := 14) dX12_dartsAt_14 rfl ?_
  refine AX.iaddN (pc := 15) (c := 502 * u + r) dX12_dartsAt_15 rfl ?_
  refine AX.daldN (pc := 16) (i := 502 * u + r) (v := (dD o (hh a b u).1 (hh a b u).2 r)) (lt_k (s1.le c.hn) (by omega)) e93 (by decide) (by omega) (tab.at k1 k2) dX12_dartsAt_16 ?_
  refine AX.dret (pc := 17) dX12_dartsAt_17 rfl (by decide) (by decide) ?_
  exact ⟨rfl, s1, c1⟩
theorem c_mDarts (w : XW) (h : XH) {s : SS} {n o : Nat} {a b : Nat × Nat} (c : MS h s) (l : LV (sq s) n o a b) (x : Int32) (r : Int32) : CA w M_X12_darts [.ref 87, .int x, .int r] h (fun v' h'' => v' = some (.long (aDarts o a b x r)) ∧ Same mdS h h'' ∧ MS h'' s) := by
  obtain ⟨v, hO, hv⟩ := id c.ob
  obtain ⟨f89, e89, q89⟩ := id c.nw
  by_cases h_x : inR 0 1 x
  · obtain ⟨xn, rfl, l_x, u_x⟩ := inR_nat (by decide) h_x
    by_cases h_r : inD o r
    · obtain ⟨rn, rfl, l_r, u_r⟩ := inD_nat h_r
      obtain ⟨hs1, hr1, hs2, hr2⟩ := l.hq u_x
      have dd := dD_df l.ho hs2 hr2 u_r l_r
      refine CA.of (by decide) rfl (fun _ => Nat.le_of_ble_eq_true rfl) ?_
      show AX w M_X12_darts 0 0 0 [.ref 87, .int (nI xn), .int (nI rn)] [] h _
      refine AX.aload_n (pc := 0) dX12_darts_0 rfl ?_
      refine AX.iload_n (pc := 1) dX12_darts_1 rfl ?_
      refine AX.iload_n (pc := 2) dX12_darts_2 rfl ?_
      refine AX.callV (pc := 3) (M2 := M_X12_mayAsk) (As := [.int (nI xn), .int (nI rn)]) (rest := []) (c_mMay w h c l (nI xn) (nI rn)) xc_X12_darts__X12_mayAsk gX12_darts_X12_mayAsk (ci := 11) rfl (lt_k c.hn (by omega)) hO rfl (Nat.le_of_ble_eq_true rfl) dX12_darts_3 ?_
      rintro _ h9 ⟨rfl, e9⟩
      have e9 := e9.symm
      subst e9
      rw [decide_eq_true ⟨h_x, h_r⟩]
      show AX w M_X12_darts 0 0 6 [.ref 87, .int (nI xn), .int (nI rn)] [.int (bI true)] _ _
      refine AX.if_eqB (pc := 6) (tgt := 21) dX12_darts_6 (by decide) (fun q => absurd q (by decide)) (fun hc6 => ?_)
      refine AX.aload_n (pc := 9) dX12_darts_9 rfl ?_
      refine AX.iload_n (pc := 10) dX12_darts_10 rfl ?_
      refine AX.iload_n (pc := 11) dX12_darts_11 rfl ?_
      refine AX.callV (pc := 12) (M2 := M_X12_dartsAt) (As := [.int (nI xn), .int (nI rn)]) (rest := []) (c_mDartsAt w h c l u_x l_r u_r) xc_X12_darts__X12_dartsAt gX12_darts_X12_dartsAt (ci := 11) rfl (lt_k c.hn (by omega)) hO rfl (Nat.le_of_ble_eq_true rfl) dX12_darts_12 ?_
      rintro _ h1 ⟨rfl, s1, c1⟩
      show AX w M_X12_darts 0 0 15 [.ref 87, .int (nI xn), .int (nI rn)] [.double (dD o (hh a b xn).1 (hh a b xn).2 rn)] _ _
      refine AX.callS (pc := 15) (M2 := M_Jxe99ae_doubleToLongBits_ccdee) (As := [.double (dD o (hh a b xn).1 (hh a b xn).2 rn)]) (rest := []) (c_d2bits w h1 dd.1) xc_X12_darts__Jxe99ae_doubleToLongBits_ccdee gX12_darts_Jxe99ae_doubleToLongBits_ccdee rfl (Nat.le_of_ble_eq_true rfl) dX12_darts_15 ?_
      rintro _ h9 ⟨rfl, e9⟩
      have e9 := e9.symm
      subst e9
      show AX w M_X12_darts 0 0 18 [.ref 87, .int (nI xn), .int (nI rn)] [.long ((dD o (hh a b xn).1 (hh a b xn).2 rn).toInt64)] _ _
      refine AX.goto (pc := 18) (tgt := 24) dX12_darts_18 (by decide) ?_
      refine AX.lret (pc := 24) dX12_darts_24 rfl (by decide) (by decide) ?_
      exact ⟨by unfold aDarts; rw [if_pos h_x, if_pos h_r, show pl a b (nI xn) = hh a b xn from by unfold pl; rw [nI_nat (show xn < 2147483648 by omega)], nI_nat (show rn < 2147483648 by omega)]; try rfl, mdS_lt s1 (by decide), c1⟩
    · refine CA.of (by decide) rfl (fun _ => Nat.le_of_ble_eq_true rfl) ?_
      show AX w M_X12_darts 0 0 0 [.ref 87, .int (nI xn), .int r] [] h _
      refine AX.aload_n (pc := 0) dX12_darts_0 rfl ?_
      refine AX.iload_n (pc := 1) dX12_darts_1 rfl ?_
      refine AX.iload_n (pc := 2) dX12_darts_2 rfl ?_
      refine AX.callV (pc := 3) (M2 := M_X12_mayAsk) (As := [.int (nI xn), .int r]) (rest := []) (c_mMay w h c l (nI xn) r) xc_X12_darts__X12_mayAsk gX12_darts_X12_mayAsk (ci := 11) rfl (lt_k c.hn (by omega)) hO rfl (Nat.le_of_ble_eq_true rfl) dX12_darts_3 ?_
      rintro _ h9 ⟨rfl, e9⟩
      have e9 := e9.symm
      subst e9
      rw [decide_eq_false (fun q => h_r q.2)]
      show AX w M_X12_darts 0 0 6 [.ref 87, .int (nI xn), .int r] [.int (bI false)] _ _
      refine AX.if_eqB (pc := 6) (tgt := 21) dX12_darts_6 (by decide) (fun hc6 => ?_) (fun q => absurd q (by decide))
      refine AX.ldc2 (pc := 21) (v := (-9000000000000000000)) dX12_darts_21 cX12_darts_196 ?_
      refine AX.lret (pc := 24) dX12_darts_24 rfl (by decide) (by decide) ?_
      exact ⟨by unfold aDarts; rw [if_pos h_x, if_neg h_r]; try rfl, Same.rf, c⟩
  · refine CA.of (by decide) rfl (fun _ => Nat.le_of_ble_eq_true rfl) ?_
    show AX w M_X12_darts 0 0 0 [.ref 87, .int x, .int r] [] h _
    refine AX.aload_n (pc := 0) dX12_darts_0 rfl ?_
    refine AX.iload_n (pc := 1) dX12_darts_1 rfl ?_
    refine AX.iload_n (pc := 2) dX12_darts_2 rfl ?_
    refine AX.callV (pc := 3) (M2 := M_X12_mayAsk) (As := [.int x, .int r]) (rest := []) (c_mMay w h c l x r) xc_X12_darts__X12_mayAsk gX12_darts_X12_mayAsk (ci := 11) rfl (lt_k c.hn (by omega)) hO rfl (Nat.le_of_ble_eq_true rfl) dX12_darts_3 ?_
    rintro _ h9 ⟨rfl, e9⟩
    have e9 := e9.symm
    subst e9
    rw [decide_eq_false (fun q => h_x q.1)]
    show AX w M_X12_darts 0 0 6 [.ref 87, .int x, .int r] [.int (bI false)] _ _
    refine AX.if_eqB (pc := 6) (tgt := 21) dX12_darts_6 (by decide) (fun hc6 => ?_) (fun q => absurd q (by decide))
    refine AX.ldc2 (pc := 21) (v := (-9000000000000000000)) dX12_darts_21 cX12_darts_196 ?_
    refine AX.lret (pc := 24) dX12_darts_24 rfl (by decide) (by decide) ?_
    exact ⟨by unfold aDarts; rw [if_neg h_x]; try rfl, Same.rf, c⟩
theorem c_mCut (w : XW) (h : XH) {s : SS} {n o : Nat} {a b : Nat × Nat} (c : MS h s) (l : LV (sq s) n o a b) (x : Int32) (r : Int32) : CA w M_X12_dartsCut [.ref 87, .int x, .int r] h (fun v' h'' => v' = some (.int (aCut o a b x r)) ∧ Same mdS h h'' ∧ MS h'' s) := by
  obtain ⟨v, hO, hv⟩ := id c.ob
  obtain ⟨f89, e89, q89⟩ := id c.nw
  by_cases h_x : inR 0 1 x
  · obtain ⟨xn, rfl, l_x, u_x⟩ := inR_nat (by decide) h_x
    by_cases h_r : inD o r
    · obtain ⟨rn, rfl, l_r, u_r⟩ := inD_nat h_r
      obtain ⟨hs1, hr1, hs2, hr2⟩ := l.hq u_x
      have dc := d2f_dD l.ho hs2 hr2 u_r l_r
      refine CA.of (by decide) rfl (fun _ => Nat.le_of_ble_eq_true rfl) ?_
      show AX w M_X12_dartsCut 0 0 0 [.ref 87, .int (nI xn), .int (nI rn)] [] h _
      refine AX.aload_n (pc := 0) dX12_dartsCut_0 rfl ?_
      refine AX.iload_n (pc := 1) dX12_dartsCut_1 rfl ?_
      refine AX.iload_n (pc := 2) dX12_dartsCut_2 rfl ?_
      refine AX.callV (pc := 3) (M2 := M_X12_mayAsk) (As := [.int (nI xn), .int (nI rn)]) (rest := []) (c_mMay w h c l (nI xn) (nI rn)) xc_X12_dartsCut__X12_mayAsk gX12_dartsCut_X12_mayAsk (ci := 11) rfl (lt_k c.hn (by omega)) hO rfl (Nat.le_of_ble_eq_true rfl) dX12_dartsCut_3 ?_
      rintro _ h9 ⟨rfl, e9⟩
      have e9 := e9.symm
      subst e9
      rw [decide_eq_true ⟨h_x, h_r⟩]
      show AX w M_X12_dartsCut 0 0 6 [.ref 87, .int (nI xn), .int (nI rn)] [.int (bI true)] _ _
      refine AX.if_eqB (pc := 6) (tgt := 22) dX12_dartsCut_6 (by decide) (fun q => absurd q (by decide)) (fun hc6 => ?_)
      refine AX.aload_n (pc := 9) dX12_dartsCut_9 rfl ?_
      refine AX.iload_n (pc := 10) dX12_dartsCut_10 rfl ?_
      refine AX.iload_n (pc := 11) dX12_dartsCut_11 rfl ?_
      refine AX.callV (pc := 12) (M2 := M_X12_dartsAt) (As := [.int (nI xn), .int (nI rn)]) (rest := []) (c_mDartsAt w h c l u_x l_r u_r) xc_X12_dartsCut__X12_dartsAt gX12_dartsCut_X12_dartsAt (ci := 11) rfl (lt_k c.hn (by omega)) hO rfl (Nat.le_of_ble_eq_true rfl) dX12_dartsCut_12 ?_
      rintro _ h1 ⟨rfl, s1, c1⟩
      show AX w M_X12_dartsCut 0 0 15 [.ref 87, .int (nI xn), .int (nI rn)] [.double (dD o (hh a b xn).1 (hh a b xn).2 rn)] _ _
      refine AX.d2f (pc := 15) dX12_dartsCut_15 (n32_of dc.1) ?_
      refine AX.callS (pc := 16) (M2 := M_Jxf58ca_floatToIntBits_5c35a) (As := [.float (FP.d2f (dD o (hh a b xn).1 (hh a b xn).2 rn))]) (rest := []) (c_f2bits w h1 (ft_nn dc.1)) xc_X12_dartsCut__Jxf58ca_floatToIntBits_5c35a gX12_dartsCut_Jxf58ca_floatToIntBits_5c35a rfl (Nat.le_of_ble_eq_true rfl) dX12_dartsCut_16 ?_
      rintro _ h9 ⟨rfl, e9⟩
      have e9 := e9.symm
      subst e9
      show AX w M_X12_dartsCut 0 0 19 [.ref 87, .int (nI xn), .int (nI rn)] [.int ((FP.d2f (dD o (hh a b xn).1 (hh a b xn).2 rn)).toInt32)] _ _
      refine AX.goto (pc := 19) (tgt := 23) dX12_dartsCut_19 (by decide) ?_
      refine AX.iret (pc := 23) dX12_dartsCut_23 rfl rfl (by decide) (by decide) ?_
      exact ⟨by unfold aCut; rw [if_pos h_x, if_pos h_r, show pl a b (nI xn) = hh a b xn from by unfold pl; rw [nI_nat (show xn < 2147483648 by omega)], nI_nat (show rn < 2147483648 by omega)]; try rfl, mdS_lt s1 (by decide), c1⟩
    · refine CA.of (by decide) rfl (fun _ => Nat.le_of_ble_eq_true rfl) ?_
      show AX w M_X12_dartsCut 0 0 0 [.ref 87, .int (nI xn), .int r] [] h _
      refine AX.aload_n (pc := 0) dX12_dartsCut_0 rfl ?_
      refine AX.iload_n (pc := 1) dX12_dartsCut_1 rfl ?_
      refine AX.iload_n (pc := 2) dX12_dartsCut_2 rfl ?_
      refine AX.callV (pc := 3) (M2 := M_X12_mayAsk) (As := [.int (nI xn), .int r]) (rest := []) (c_mMay w h c l (nI xn) r) xc_X12_dartsCut__X12_mayAsk gX12_dartsCut_X12_mayAsk (ci := 11) rfl (lt_k c.hn (by omega)) hO rfl (Nat.le_of_ble_eq_true rfl) dX12_dartsCut_3 ?_
      rintro _ h9 ⟨rfl, e9⟩
      have e9 := e9.symm
      subst e9
      rw [decide_eq_false (fun q => h_r q.2)]
      show AX w M_X12_dartsCut 0 0 6 [.ref 87, .int (nI xn), .int r] [.int (bI false)] _ _
      refine AX.if_eqB (pc := 6) (tgt := 22) dX12_dartsCut_6 (by decide) (fun hc6 => ?_) (fun q => absurd q (by decide))
      refine AX.iconst (pc := 22) (v := (-1)) dX12_dartsCut_22 (by decide) ?_
      refine AX.iret (pc := 23) dX12_dartsCut_23 rfl rfl (by decide) (by decide) ?_
      exact ⟨by unfold aCut; rw [if_pos h_x, if_neg h_r]; try rfl, Same.rf, c⟩
  · refine CA.of (by decide) rfl (fun _ => Nat.le_of_ble_eq_true rfl) ?_
    show AX w M_X12_dartsCut 0 0 0 [.ref 87, .int x, .int r] [] h _
    refine AX.aload_n (pc := 0) dX12_dartsCut_0 rfl ?_
    refine AX.iload_n (pc := 1) dX12_dartsCut_1 rfl ?_
    refine AX.iload_n (pc := 2) dX12_dartsCut_2 rfl ?_
    refine AX.callV (pc := 3) (M2 := M_X12_mayAsk) (As := [.int x, .int r]) (rest := []) (c_mMay w h c l x r) xc_X12_dartsCut__X12_mayAsk gX12_dartsCut_X12_mayAsk (ci := 11) rfl (lt_k c.hn (by omega)) hO rfl (Nat.le_of_ble_eq_true rfl) dX12_dartsCut_3 ?_
    rintro _ h9 ⟨rfl, e9⟩
    have e9 := e9.symm
    subst e9
    rw [decide_eq_false (fun q => h_x q.1)]
    show AX w M_X12_dartsCut 0 0 6 [.ref 87, .int x, .int r] [.int (bI false)] _ _
    refine AX.if_eqB (pc := 6) (tgt := 22) dX12_dartsCut_6 (by decide) (fun hc6 => ?_) (fun q => absurd q (by decide))
    refine AX.iconst (pc := 22) (v := (-1)) dX12_dartsCut_22 (by decide) ?_
    refine AX.iret (pc := 23) dX12_dartsCut_23 rfl rfl (by decide) (by decide) ?_
    exact ⟨by unfold aCut; rw [if_neg h_x]; try rfl, Same.rf, c⟩
theorem c_mThou (w : XW) (h : XH) {s : SS} {n o : Nat} {a b : Nat × Nat} (c : MS h s) (l : LV (sq s) n o a b) (x : Int32) (r : Int32) : CA w M_X12_thousandths [.ref 87, .int x, .int r] h (fun v' h'' => v' = some (.int (aThou o a b x r)) ∧ Same mdS h h'' ∧ MS h'' s) := by
  obtain ⟨v, hO, hv⟩ := id c.ob
  obtain ⟨f89, e89, q89⟩ := id c.nw
  by_cases h_x : inR 0 1 x
  · obtain ⟨xn, rfl, l_x, u_x⟩ := inR_nat (by decide) h_x
    by_cases h_r : inD o r
    · obtain ⟨rn, rfl, l_r, u_r⟩ := inD_nat h_r
      obtain ⟨hs1, hr1, hs2, hr2⟩ := l.hq u_x
      have dd := mul1000 l.ho hs2 hr2 u_r l_r
      refine CA.of (by decide) rfl (fun _ => Nat.le_of_ble_eq_true rfl) ?_
      show AX w M_X12_thousandths 0 0 0 [.ref 87, .int (nI xn), .int (nI rn)] [] h _
      refine AX.aload_n (pc := 0) dX12_thousandths_0 rfl ?_
      refine AX.iload_n (pc := 1) dX12_thousandths_1 rfl ?_
      refine AX.iload_n (pc := 2) dX12_thousandths_2 rfl ?_
      refine AX.callV (pc := 3) (M2 := M_X12_mayAsk) (As := [.int (nI xn), .int (nI rn)]) (rest := []) (c_mMay w h c l (nI xn) (nI rn)) xc_X12_thousandths__X12_mayAsk gX12_thousandths_X12_mayAsk (ci := 11) rfl (lt_k c.hn (by omega)) hO rfl (Nat.le_of_ble_eq_true rfl) dX12_thousandths_3 ?_
      rintro _ h9 ⟨rfl, e9⟩
      have e9 := e9.symm
      subst e9
      rw [decide_eq_true ⟨h_x, h_r⟩]
      show AX w M_X12_thousandths 0 0 6 [.ref 87, .int (nI xn), .int (nI rn)] [.int (bI true)] _ _
      refine AX.if_eqB (pc := 6) (tgt := 23) dX12_thousandths_6 (by decide) (fun q => absurd q (by decide)) (fun hc6 => ?_)
      refine AX.aload_n (pc := 9) dX12_thousandths_9 rfl ?_
      refine AX.iload_n (pc := 10) dX12_thousandths_10 rfl ?_
      refine AX.iload_n (pc := 11) dX12_thousandths_11 rfl ?_
      refine AX.callV (pc := 12) (M2 := M_X12_dartsAt) (As := [.int (nI xn), .int (nI rn)]) (rest := []) (c_mDartsAt w h c l u_x l_r u_r) xc_X12_thousandths__X12_dartsAt gX12_thousandths_X12_dartsAt (ci := 11) rfl (lt_k c.hn (by omega)) hO rfl (Nat.le_of_ble_eq_true rfl) dX12_thousandths_12 ?_
      rintro _ h1 ⟨rfl, s1, c1⟩
      show AX w M_X12_thousandths 0 0 15 [.ref 87, .int (nI xn), .int (nI rn)] [.double (dD o (hh a b xn).1 (hh a b xn).2 rn)] _ _
      refine AX.ldc2d (pc := 15) (v := 4652007308841189376) dX12_thousandths_15 cX12_thousandths_156 ?_
      refine AX.dmul (pc := 18) dX12_thousandths_18 dd ?_
      refine AX.d2i (pc := 19) dX12_thousandths_19 ?_
      refine AX.goto (pc := 20) (tgt := 24) dX12_thousandths_20 (by decide) ?_
      refine AX.iret (pc := 24) dX12_thousandths_24 rfl rfl (by decide) (by decide) ?_
      exact ⟨by unfold aThou; rw [if_pos h_x, if_pos h_r, show pl a b (nI xn) = hh a b xn from by unfold pl; rw [nI_nat (show xn < 2147483648 by omega)], nI_nat (show rn < 2147483648 by omega)]; try rfl, mdS_lt s1 (by decide), c1⟩
    · refine CA.of (by decide) rfl (fun _ => Nat.le_of_ble_eq_true rfl) ?_
      show AX w M_X12_thousandths 0 0 0 [.ref 87, .int (nI xn), .int r] [] h _
      refine AX.aload_n (pc := 0) dX12_thousandths_0 rfl ?_
      refine AX.iload_n (pc := 1) dX12_thousandths_1 rfl ?_
      refine AX.iload_n (pc := 2) dX12_thousandths_2 rfl ?_
      refine AX.callV (pc := 3) (M2 := M_X12_mayAsk) (As := [.int (nI xn), .int r]) (rest := []) (c_mMay w h c l (nI xn) r) xc_X12_thousandths__X12_mayAsk gX12_thousandths_X12_mayAsk (ci := 11) rfl (lt_k c.hn (by omega)) hO rfl (Nat.le_of_ble_eq_true rfl) dX12_thousandths_3 ?_
      rintro _ h9 ⟨rfl, e9⟩
      have e9 := e9.symm
      subst e9
      rw [decide_eq_false (fun q => h_r q.2)]
      show AX w M_X12_thousandths 0 0 6 [.ref 87, .int (nI xn), .int r] [.int (bI false)] _ _
      refine AX.if_eqB (pc := 6) (tgt := 23) dX12_thousandths_6 (by decide) (fun hc6 => ?_) (fun q => absurd q (by decide))
      refine AX.iconst (pc := 23) (v := (-1)) dX12_thousandths_23 (by decide) ?_
      refine AX.iret (pc := 24) dX12_thousandths_24 rfl rfl (by decide) (by decide) ?_
      exact ⟨by unfold aThou; rw [if_pos h_x, if_neg h_r]; try rfl, Same.rf, c⟩
  · refine CA.of (by decide) rfl (fun _ => Nat.le_of_ble_eq_true rfl) ?_
    show AX w M_X12_thousandths 0 0 0 [.ref 87, .int x, .int r] [] h _
    refine AX.aload_n (pc := 0) dX12_thousandths_0 rfl ?_
    refine AX.iload_n (pc := 1) dX12_thousandths_1 rfl ?_
    refine AX.iload_n (pc := 2) dX12_thousandths_2 rfl ?_
    refine AX.callV (pc := 3) (M2 := M_X12_mayAsk) (As := [.int x, .int r]) (rest := []) (c_mMay w h c l x r) xc_X12_thousandths__X12_mayAsk gX12_thousandths_X12_mayAsk (ci := 11) rfl (lt_k c.hn (by omega)) hO rfl (Nat.le_of_ble_eq_true rfl) dX12_thousandths_3 ?_
    rintro _ h9 ⟨rfl, e9⟩
    have e9 := e9.symm
    subst e9
    rw [decide_eq_false (fun q => h_x q.1)]
    show AX w M_X12_thousandths 0 0 6 [.ref 87, .int x, .int r] [.int (bI false)] _ _
    refine AX.if_eqB (pc := 6) (tgt := 23) dX12_thousandths_6 (by decide) (fun hc6 => ?_) (fun q => absurd q (by decide))
    refine AX.iconst (pc := 23) (v := (-1)) dX12_thousandths_23 (by decide) ?_
    refine AX.iret (pc := 24) dX12_thousandths_24 rfl rfl (by decide) (by decide) ?_
    exact ⟨by unfold aThou; rw [if_neg h_x]; try rfl, Same.rf, c⟩
theorem c_mAim (w : XW) (h : XH) {s : SS} {n o : Nat} {a b : Nat × Nat} (c : MS h s) (l : LV (sq s) n o a b) (x : Int32) (r : Int32) : CA w M_X12_aim [.ref 87, .int x, .int r] h (fun v' h'' => v' = some (.int (aAim o a b x r)) ∧ Same mdS h h'' ∧ MS h'' s) := by
  obtain ⟨v, hO, hv⟩ := id c.ob
  obtain ⟨f89, e89, q89⟩ := id c.nw
  by_cases h_x : inR 0 1 x
  · obtain ⟨xn, rfl, l_x, u_x⟩ := inR_nat (by decide) h_x
    by_cases h_r : inR (leN o) 501 r
    · obtain ⟨rn, rfl, l_r, u_r⟩ := inR_nat (by decide) h_r
      have p_r := leN_pos o
      obtain ⟨hs1, hr1, hs2, hr2⟩ := l.hq u_x
      refine CA.of (by decide) rfl (fun _ => Nat.le_of_ble_eq_true rfl) ?_
      show AX w M_X12_aim 0 0 0 [.ref 87, .int (nI xn), .int (nI rn)] [] h _
      refine AX.iload_n (pc := 0) dX12_aim_0 rfl ?_
      refine AX.callS (pc := 1) (M2 := M_X12_isPlayer) (As := [.int (nI xn)]) (rest := []) (c_mPlayer w h (nI xn)) xc_X12_aim__X12_isPlayer gX12_aim_X12_isPlayer rfl (Nat.le_of_ble_eq_true rfl) dX12_aim_1 ?_
      rintro _ h9 ⟨rfl, e9⟩
      have e9 := e9.symm
      subst e9
      rw [decide_eq_true h_x]
      show AX w M_X12_aim 0 0 4 [.ref 87, .int (nI xn), .int (nI rn)] [.int (bI true)] _ _
      refine AX.if_eqB (pc := 4) (tgt := 18) dX12_aim_4 (by decide) (fun q => absurd q (by decide)) (fun hc4 => ?_)
      refine AX.aload_n (pc := 7) dX12_aim_7 rfl ?_
      refine AX.iload_n (pc := 8) dX12_aim_8 rfl ?_
      refine AX.sipush (pc := 9) (v := nI 501) dX12_aim_9 (by decide) ?_
      refine AX.callV (pc := 12) (M2 := M_X12_isRest) (As := [.int (nI rn), .int (nI 501)]) (rest := []) (c_mRest w h c l (nI rn) 501 (by decide)) xc_X12_aim__X12_isRest gX12_aim_X12_isRest (ci := 11) rfl (lt_k c.hn (by omega)) hO rfl (Nat.le_of_ble_eq_true rfl) dX12_aim_12 ?_
      rintro _ h9 ⟨rfl, e9⟩
      have e9 := e9.symm
      subst e9
      rw [decide_eq_true h_r]
      show AX w M_X12_aim 0 0 15 [.ref 87, .int (nI xn), .int (nI rn)] [.int (bI true)] _ _
      refine AX.if_neB (pc := 15) (tgt := 20) dX12_aim_15 (by decide) (fun hc15 => ?_) (fun q => absurd q (by decide))
      refine AX.aload_n (pc := 20) dX12_aim_20 rfl ?_
      refine AX.iload_n (pc := 21) dX12_aim_21 rfl ?_
      refine AX.callV (pc := 22) (M2 := M_X12_layDarts) (As := [.int (nI xn)]) (rest := []) (c_layDarts w h c.hn hO c.nw c.rg c.fx c.dt u_x hs1 hr1 l.q12 l.ho hs2 hr2) xc_X12_aim__X12_layDarts gX12_aim_X12_layDarts (ci := 11) rfl (lt_k c.hn (by omega)) hO rfl (Nat.le_of_ble_eq_true rfl) dX12_aim_22 ?_
      rintro _ h1 ⟨rfl, s1, ⟨xx, O1⟩, X1, T1, fd, fa, e93, e94, tab⟩
      have c1 : MS h1 s := c.darts s1 (MS.obv hv 1 (by decide) O1) X1 T1
      show AX w M_X12_aim 0 0 25 [.ref 87, .int (nI xn), .int (nI rn)] [] _ _
      refine AX.aload_n (pc := 25) dX12_aim_25 rfl ?_
      refine AX.getf (pc := 26) fX12_aim_29 (lt_k (s1.le c.hn) (by omega)) O1 rfl dX12_aim_26 ?_
      refine AX.sipush (pc := 29) (v := nI 502) dX12_aim_29 (by decide) ?_
      refine AX.iload_n (pc := 32) dX12_aim_32 rfl ?_
      refine AX.imulN (pc := 33) (c := 502 * xn) dX12_aim_33 rfl ?_
      refine AX.iload_n (pc := 34) dX12_aim_34 rfl ?_
      refine AX.iaddN (pc := 35) (c := 502 * xn + rn) dX12_aim_35 rfl ?_
      refine AX.ialdN (pc := 36) (i := 502 * xn + rn) (v := (nI (dA_ o (hh a b xn).1 (hh a b xn).2 rn))) (lt_k (s1.le c.hn) (by omega)) e94 (by decide) (by omega) ((tab.2 rn l_r u_r).2) dX12_aim_36 ?_
      refine AX.iret (pc := 37) dX12_aim_37 rfl rfl (by decide) (by decide) ?_
      exact ⟨by unfold aAim; rw [if_pos h_x, if_pos h_r, show pl a b (nI xn) = hh a b xn from by unfold pl; rw [nI_nat (show xn < 2147483648 by omega)], nI_nat (show rn < 2147483648 by omega)]; try rfl, mdS_lt s1 (by decide), c1⟩
    · refine CA.of (by decide) rfl (fun _ => Nat.le_of_ble_eq_true rfl) ?_
      show AX w M_X12_aim 0 0 0 [.ref 87, .int (nI xn), .int r] [] h _
      refine AX.iload_n (pc := 0) dX12_aim_0 rfl ?_
      refine AX.callS (pc := 1) (M2 := M_X12_isPlayer) (As := [.int (nI xn)]) (rest := []) (c_mPlayer w h (nI xn)) xc_X12_aim__X12_isPlayer gX12_aim_X12_isPlayer rfl (Nat.le_of_ble_eq_true rfl) dX12_aim_1 ?_
      rintro _ h9 ⟨rfl, e9⟩
      have e9 := e9.symm
      subst e9
      rw [decide_eq_true h_x]
      show AX w M_X12_aim 0 0 4 [.ref 87, .int (nI xn), .int r] [.int (bI true)] _ _
      refine AX.if_eqB (pc := 4) (tgt := 18) dX12_aim_4 (by decide) (fun q => absurd q (by decide)) (fun hc4 => ?_)
      refine AX.aload_n (pc := 7) dX12_aim_7 rfl ?_
      refine AX.iload_n (pc := 8) dX12_aim_8 rfl ?_
      refine AX.sipush (pc := 9) (v := nI 501) dX12_aim_9 (by decide) ?_
      refine AX.callV (pc := 12) (M2 := M_X12_isRest) (As := [.int r, .int (nI 501)]) (rest := []) (c_mRest w h c l r 501 (by decide)) xc_X12_aim__X12_isRest gX12_aim_X12_isRest (ci := 11) rfl (lt_k c.hn (by omega)) hO rfl (Nat.le_of_ble_eq_true rfl) dX12_aim_12 ?_
      rintro _ h9 ⟨rfl, e9⟩
      have e9 := e9.symm
      subst e9
      rw [decide_eq_false h_r]
      show AX w M_X12_aim 0 0 15 [.ref 87, .int (nI xn), .int r] [.int (bI false)] _ _
      refine AX.if_neB (pc := 15) (tgt := 20) dX12_aim_15 (by decide) (fun q => absurd q (by decide)) (fun hc15 => ?_)
      refine AX.iconst (pc := 18) (v := (-1)) dX12_aim_18 (by decide) ?_
      refine AX.iret (pc := 19) dX12_aim_19 rfl rfl (by decide) (by decide) ?_
      exact ⟨by unfold aAim; rw [if_pos h_x, if_neg h_r]; try rfl, Same.rf, c⟩
  · refine CA.of (by decide) rfl (fun _ => Nat.le_of_ble_eq_true rfl) ?_
    show AX w M_X12_aim 0 0 0 [.ref 87, .int x, .int r] [] h _
    refine AX.iload_n (pc := 0) dX12_aim_0 rfl ?_
    refine AX.callS (pc := 1) (M2 := M_X12_isPlayer) (As := [.int x]) (rest := []) (c_mPlayer w h x) xc_X12_aim__X12_isPlayer gX12_aim_X12_isPlayer rfl (Nat.le_of_ble_eq_true rfl) dX12_aim_1 ?_
    rintro _ h9 ⟨rfl, e9⟩
    have e9 := e9.symm
    subst e9
    rw [decide_eq_false h_x]
    show AX w M_X12_aim 0 0 4 [.ref 87, .int x, .int r] [.int (bI false)] _ _
    refine AX.if_eqB (pc := 4) (tgt := 18) dX12_aim_4 (by decide) (fun hc4 => ?_) (fun q => absurd q (by decide))
    refine AX.iconst (pc := 18) (v := (-1)) dX12_aim_18 (by decide) ?_
    refine AX.iret (pc := 19) dX12_aim_19 rfl rfl (by decide) (by decide) ?_
    exact ⟨by unfold aAim; rw [if_neg h_x]; try rfl, Same.rf, c⟩
