/-! ===== THE REFERENCE: THE RACE asked ===== -/
theorem c_mIsRace (w : XW) (h : XH) {s : SS} {n o : Nat} {a b : Nat × Nat} (c : MS h s) (l : LV (sq s) n o a b) (r q x : Int32) : CA w M_X12_isRace [.ref 87, .int r, .int q, .int x] h (fun v' h'' => v' = some (.int (bI (decide (inR (leN o) 24 r ∧ inR (leN o) 24 q ∧ inR 0 1 x)))) ∧ h'' = h) := by
  refine CA.of (by decide) rfl (fun _ => Nat.le_of_ble_eq_true rfl) ?_
  obtain ⟨v, hO, -⟩ := c.ob
  show AX w M_X12_isRace 0 0 0 [.ref 87, .int r, .int q, .int x] [] h _
  refine AX.aload_n (pc := 0) dX12_isRace_0 rfl ?_
  refine AX.iload_n (pc := 1) dX12_isRace_1 rfl ?_
  refine AX.bipush (pc := 2) (v := nI 24) dX12_isRace_2 (by decide) ?_
  refine AX.callV (pc := 4) (M2 := M_X12_isRest) (As := [.int r, .int (nI 24)]) (rest := []) (c_mRest w h c l r 24 (by decide)) xc_X12_isRace__X12_isRest gX12_isRace_X12_isRest (ci := 11) rfl (lt_k c.hn (by omega)) hO rfl (Nat.le_of_ble_eq_true rfl) dX12_isRace_4 ?_
  rintro _ h9 ⟨rfl, e9⟩
  have e9 := e9.symm
  subst e9
  show AX w M_X12_isRace 0 0 7 [.ref 87, .int r, .int q, .int x] [.int (bI (decide (inR (leN o) 24 r)))] _ _
  refine AX.if_eqB (pc := 7) (tgt := 31) dX12_isRace_7 (by decide) (fun hc7 => ?_) (fun hc7 => ?_)
  · refine AX.iconst (pc := 31) (v := nI 0) dX12_isRace_31 (by decide) ?_
    refine AX.iret (pc := 32) dX12_isRace_32 rfl rfl (by decide) (by decide) ?_
    exact ⟨s0 (decide_eq_false (fun q9 => by first | exact of_decide_eq_false hc7 q9.1 | exact of_decide_eq_false hc17 q9.2.1 | exact of_decide_eq_false hc24 q9.2.2)), rfl⟩
  · refine AX.aload_n (pc := 10) dX12_isRace_10 rfl ?_
    refine AX.iload_n (pc := 11) dX12_isRace_11 rfl ?_
    refine AX.bipush (pc := 12) (v := nI 24) dX12_isRace_12 (by decide) ?_
    refine AX.callV (pc := 14) (M2 := M_X12_isRest) (As := [.int q, .int (nI 24)]) (rest := []) (c_mRest w h c l q 24 (by decide)) xc_X12_isRace__X12_isRest gX12_isRace_X12_isRest (ci := 11) rfl (lt_k c.hn (by omega)) hO rfl (Nat.le_of_ble_eq_true rfl) dX12_isRace_14 ?_
    rintro _ h9 ⟨rfl, e9⟩
    have e9 := e9.symm
    subst e9
    show AX w M_X12_isRace 0 0 17 [.ref 87, .int r, .int q, .int x] [.int (bI (decide (inR (leN o) 24 q)))] _ _
    refine AX.if_eqB (pc := 17) (tgt := 31) dX12_isRace_17 (by decide) (fun hc17 => ?_) (fun hc17 => ?_)
    · refine AX.iconst (pc := 31) (v := nI 0) dX12_isRace_31 (by decide) ?_
      refine AX.iret (pc := 32) dX12_isRace_32 rfl rfl (by decide) (by decide) ?_
      exact ⟨s0 (decide_eq_false (fun q9 => by first | exact of_decide_eq_false hc7 q9.1 | exact of_decide_eq_false hc17 q9.2.1 | exact of_decide_eq_false hc24 q9.2.2)), rfl⟩
    · refine AX.iload_n (pc := 20) dX12_isRace_20 rfl ?_
      refine AX.callS (pc := 21) (M2 := M_X12_isPlayer) (As := [.int x]) (rest := []) (c_mPlayer w h x) xc_X12_isRace__X12_isPlayer gX12_isRace_X12_isPlayer rfl (Nat.le_of_ble_eq_true rfl) dX12_isRace_21 ?_
      rintro _ h9 ⟨rfl, e9⟩
      have e9 := e9.symm
      subst e9
      show AX w M_X12_isRace 0 0 24 [.ref 87, .int r, .int q, .int x] [.int (bI (decide (inR 0 1 x)))] _ _
      refine AX.if_eqB (pc := 24) (tgt := 31) dX12_isRace_24 (by decide) (fun hc24 => ?_) (fun hc24 => ?_)
      · refine AX.iconst (pc := 31) (v := nI 0) dX12_isRace_31 (by decide) ?_
        refine AX.iret (pc := 32) dX12_isRace_32 rfl rfl (by decide) (by decide) ?_
        exact ⟨s0 (decide_eq_false (fun q9 => by first | exact of_decide_eq_false hc7 q9.1 | exact of_decide_eq_false hc17 q9.2.1 | exact of_decide_eq_false hc24 q9.2.2)), rfl⟩
      · refine AX.iconst (pc := 27) (v := nI 1) dX12_isRace_27 (by decide) ?_
        refine AX.goto (pc := 28) (tgt := 32) dX12_isRace_28 (by decide) ?_
        refine AX.iret (pc := 32) dX12_isRace_32 rfl rfl (by decide) (by decide) ?_
        exact ⟨s1 (decide_eq_true ⟨of_decide_eq_true hc7, of_decide_eq_true hc17, of_decide_eq_true hc24⟩), rfl⟩
theorem c_mRace (w : XW) (h : XH) {s : SS} {n o : Nat} {a b : Nat × Nat} (c : MS h s) (l : LV (sq s) n o a b) (r : Int32) (q : Int32) (x : Int32) : CA w M_X12_race [.ref 87, .int r, .int q, .int x] h (fun v' h'' => v' = some (.long (aRace o a b r q x)) ∧ Same mdS h h'' ∧ MS h'' s) := by
  obtain ⟨v, hO, hv⟩ := id c.ob
  obtain ⟨f89, e89, q89⟩ := id c.nw
  by_cases h_r : inR (leN o) 24 r
  · obtain ⟨rn, rfl, l_r, u_r⟩ := inR_nat (by decide) h_r
    have p_r := leN_pos o
    by_cases h_q : inR (leN o) 24 q
    · obtain ⟨qn, rfl, l_q, u_q⟩ := inR_nat (by decide) h_q
      have p_q := leN_pos o
      by_cases h_x : inR 0 1 x
      · obtain ⟨xn, rfl, l_x, u_x⟩ := inR_nat (by decide) h_x
        obtain ⟨d1, d2⟩ := rcV_ok (o := o) l.hok (r := rn) (q := qn) (by omega)
        rcases (show xn = 0 ∨ xn = 1 by omega) with rfl | rfl
        · refine CA.of (by decide) rfl (fun _ => Nat.le_of_ble_eq_true rfl) ?_
          show AX w M_X12_race 0 0 0 [.ref 87, .int (nI rn), .int (nI qn), .int (nI 0)] [] h _
          refine AX.aload_n (pc := 0) dX12_race_0 rfl ?_
          refine AX.iload_n (pc := 1) dX12_race_1 rfl ?_
          refine AX.iload_n (pc := 2) dX12_race_2 rfl ?_
          refine AX.iload_n (pc := 3) dX12_race_3 rfl ?_
          refine AX.callV (pc := 4) (M2 := M_X12_isRace) (As := [.int (nI rn), .int (nI qn), .int (nI 0)]) (rest := []) (c_mIsRace w h c l (nI rn) (nI qn) (nI 0)) xc_X12_race__X12_isRace gX12_race_X12_isRace (ci := 11) rfl (lt_k c.hn (by omega)) hO rfl (Nat.le_of_ble_eq_true rfl) dX12_race_4 ?_
          rintro _ h9 ⟨rfl, e9⟩
          have e9 := e9.symm
          subst e9
          rw [decide_eq_true ⟨h_r, h_q, (show inR 0 1 (nI 0) by decide)⟩]
          show AX w M_X12_race 0 0 7 [.ref 87, .int (nI rn), .int (nI qn), .int (nI 0)] [.int (bI true)] _ _
          refine AX.if_neB (pc := 7) (tgt := 14) dX12_race_7 (by decide) (fun hc7 => ?_) (fun q => absurd q (by decide))
          refine AX.aload_n (pc := 14) dX12_race_14 rfl ?_
          refine AX.callV (pc := 15) (M2 := M_X12_layRace) (As := []) (rest := []) (c_layRace w h c l) xc_X12_race__X12_layRace gX12_race_X12_layRace (ci := 11) rfl (lt_k c.hn (by omega)) hO rfl (Nat.le_of_ble_eq_true rfl) dX12_race_15 ?_
          rintro _ h1 ⟨rfl, s1, c1, g1, g2, gs, w102, w103, w104, X1⟩
          obtain ⟨v1, hO1, hv1⟩ := id c1.ob
          obtain ⟨p1, p2, p3⟩ := X1 rn qn l_r u_r l_q u_q trivial
          show AX w M_X12_race 0 0 18 [.ref 87, .int (nI rn), .int (nI qn), .int (nI 0)] [] _ _
          refine AX.iload_n (pc := 18) dX12_race_18 rfl ?_
          refine AX.if_neN (pc := 19) (tgt := 36) dX12_race_19 (by decide) (by decide) (fun q => absurd q (by decide)) (fun hc19 => ?_)
          refine AX.aload_n (pc := 22) dX12_race_22 rfl ?_
          refine AX.getf (pc := 23) fX12_race_53 (lt_k (s1.le c.hn) (by omega)) hO1 rfl dX12_race_23 ?_
          refine AX.bipush (pc := 26) (v := nI 25) dX12_race_26 (by decide) ?_
          refine AX.iload_n (pc := 28) dX12_race_28 rfl ?_
          refine AX.imulN (pc := 29) (c := 25 * rn) dX12_race_29 rfl ?_
          refine AX.iload_n (pc := 30) dX12_race_30 rfl ?_
          refine AX.iaddN (pc := 31) (c := 25 * rn + qn) dX12_race_31 rfl ?_
          refine AX.daldN (pc := 32) (i := 25 * rn + qn) (v := ((rcV o (hh a b) rn qn).1)) (lt_k (s1.le c.hn) (by omega)) w102 (by decide) (by omega) p1 dX12_race_32 ?_
          refine AX.goto (pc := 33) (tgt := 47) dX12_race_33 (by decide) ?_
          refine AX.callS (pc := 47) (M2 := M_Jxe99ae_doubleToLongBits_ccdee) (As := [.double ((rcV o (hh a b) rn qn).1)]) (rest := []) (c_d2bits w h1 d1.1) xc_X12_race__Jxe99ae_doubleToLongBits_ccdee gX12_race_Jxe99ae_doubleToLongBits_ccdee rfl (Nat.le_of_ble_eq_true rfl) dX12_race_47 ?_
          rintro _ h9 ⟨rfl, e9⟩
          have e9 := e9.symm
          subst e9
          show AX w M_X12_race 0 0 50 [.ref 87, .int (nI rn), .int (nI qn), .int (nI 0)] [.long (((rcV o (hh a b) rn qn).1).toInt64)] _ _
          refine AX.lret (pc := 50) dX12_race_50 rfl (by decide) (by decide) ?_
          exact ⟨by unfold aRace; rw [if_pos h_r, if_pos h_q, if_pos h_x, nI_nat (show rn < 2147483648 by omega), nI_nat (show qn < 2147483648 by omega)]; try rfl, mdS_lt s1 (by decide), c1⟩
        · refine CA.of (by decide) rfl (fun _ => Nat.le_of_ble_eq_true rfl) ?_
          show AX w M_X12_race 0 0 0 [.ref 87, .int (nI rn), .int (nI qn), .int (nI 1)] [] h _
          refine AX.aload_n (pc := 0) dX12_race_0 rfl ?_
          refine AX.iload_n (pc := 1) dX12_race_1 rfl ?_
          refine AX.iload_n (pc := 2) dX12_race_2 rfl ?_
          refine AX.iload_n (pc := 3) dX12_race_3 rfl ?_
          refine AX.callV (pc := 4) (M2 := M_X12_isRace) (As := [.int (nI rn), .int (nI qn), .int (nI 1)]) (rest := []) (c_mIsRace w h c l (nI rn) (nI qn) (nI 1)) xc_X12_race__X12_isRace gX12_race_X12_isRace (ci := 11) rfl (lt_k c.hn (by omega)) hO rfl (Nat.le_of_ble_eq_true rfl) dX12_race_4 ?_
          rintro _ h9 ⟨rfl, e9⟩
          have e9 := e9.symm
          subst e9
          rw [decide_eq_true ⟨h_r, h_q, h_x⟩]
          show AX w M_X12_race 0 0 7 [.ref 87, .int (nI rn), .int (nI qn), .int (nI 1)] [.int (bI true)] _ _
          refine AX.if_neB (pc := 7) (tgt := 14) dX12_race_7 (by decide) (fun hc7 => ?_) (fun q => absurd q (by decide))
          refine AX.aload_n (pc := 14) dX12_race_14 rfl ?_
          refine AX.callV (pc := 15) (M2 := M_X12_layRace) (As := []) (rest := []) (c_layRace w h c l) xc_X12_race__X12_layRace gX12_race_X12_layRace (ci := 11) rfl (lt_k c.hn (by omega)) hO rfl (Nat.le_of_ble_eq_true rfl) dX12_race_15 ?_
          rintro _ h1 ⟨rfl, s1, c1, g1, g2, gs, w102, w103, w104, X1⟩
          obtain ⟨v1, hO1, hv1⟩ := id c1.ob
          obtain ⟨p1, p2, p3⟩ := X1 rn qn l_r u_r l_q u_q trivial
          show AX w M_X12_race 0 0 18 [.ref 87, .int (nI rn), .int (nI qn), .int (nI 1)] [] _ _
          refine AX.iload_n (pc := 18) dX12_race_18 rfl ?_
          refine AX.if_neN (pc := 19) (tgt := 36) dX12_race_19 (by decide) (by decide) (fun hc19 => ?_) (fun q => absurd q (by decide))
          refine AX.aload_n (pc := 36) dX12_race_36 rfl ?_
          refine AX.getf (pc := 37) fX12_race_56 (lt_k (s1.le c.hn) (by omega)) hO1 rfl dX12_race_37 ?_
          refine AX.bipush (pc := 40) (v := nI 25) dX12_race_40 (by decide) ?_
          refine AX.iload_n (pc := 42) dX12_race_42 rfl ?_
          refine AX.imulN (pc := 43) (c := 25 * rn) dX12_race_43 rfl ?_
          refine AX.iload_n (pc := 44) dX12_race_44 rfl ?_
          refine AX.iaddN (pc := 45) (c := 25 * rn + qn) dX12_race_45 rfl ?_
          refine AX.daldN (pc := 46) (i := 25 * rn + qn) (v := ((rcV o (hh a b) rn qn).2.1)) (lt_k (s1.le c.hn) (by omega)) w103 (by decide) (by omega) p2 dX12_race_46 ?_
          refine AX.callS (pc := 47) (M2 := M_Jxe99ae_doubleToLongBits_ccdee) (As := [.double ((rcV o (hh a b) rn qn).2.1)]) (rest := []) (c_d2bits w h1 d2.1) xc_X12_race__Jxe99ae_doubleToLongBits_ccdee gX12_race_Jxe99ae_doubleToLongBits_ccdee rfl (Nat.le_of_ble_eq_true rfl) dX12_race_47 ?_
          rintro _ h9 ⟨rfl, e9⟩
          have e9 := e9.symm
          subst e9
          show AX w M_X12_race 0 0 50 [.ref 87, .int (nI rn), .int (nI qn), .int (nI 1)] [.long (((rcV o (hh a b) rn qn).2.1).toInt64)] _ _
          refine AX.lret (pc := 50) dX12_race_50 rfl (by decide) (by decide) ?_
          exact ⟨by unfold aRace; rw [if_pos h_r, if_pos h_q, if_pos h_x, nI_nat (show rn < 2147483648 by omega), nI_nat (show qn < 2147483648 by omega)]; try rfl, mdS_lt s1 (by decide), c1⟩
      · refine CA.of (by decide) rfl (fun _ => Nat.le_of_ble_eq_true rfl) ?_
        show AX w M_X12_race 0 0 0 [.ref 87, .int (nI rn), .int (nI qn), .int x] [] h _
        refine AX.aload_n (pc := 0) dX12_race_0 rfl ?_
        refine AX.iload_n (pc := 1) dX12_race_1 rfl ?_
        refine AX.iload_n (pc := 2) dX12_race_2 rfl ?_
        refine AX.iload_n (pc := 3) dX12_race_3 rfl ?_
        refine AX.callV (pc := 4) (M2 := M_X12_isRace) (As := [.int (nI rn), .int (nI qn), .int x]) (rest := []) (c_mIsRace w h c l (nI rn) (nI qn) x) xc_X12_race__X12_isRace gX12_race_X12_isRace (ci := 11) rfl (lt_k c.hn (by omega)) hO rfl (Nat.le_of_ble_eq_true rfl) dX12_race_4 ?_
        rintro _ h9 ⟨rfl, e9⟩
        have e9 := e9.symm
        subst e9
        rw [decide_eq_false (fun q9 => h_x q9.2.2)]
        show AX w M_X12_race 0 0 7 [.ref 87, .int (nI rn), .int (nI qn), .int x] [.int (bI false)] _ _
        refine AX.if_neB (pc := 7) (tgt := 14) dX12_race_7 (by decide) (fun q => absurd q (by decide)) (fun hc7 => ?_)
        refine AX.ldc2 (pc := 10) (v := (-9000000000000000000)) dX12_race_10 cX12_race_196 ?_
        refine AX.lret (pc := 13) dX12_race_13 rfl (by decide) (by decide) ?_
        exact ⟨by unfold aRace; rw [if_pos h_r, if_pos h_q, if_neg h_x]; try rfl, Same.rf, c⟩
    · refine CA.of (by decide) rfl (fun _ => Nat.le_of_ble_eq_true rfl) ?_
      show AX w M_X12_race 0 0 0 [.ref 87, .int (nI rn), .int q, .int x] [] h _
      refine AX.aload_n (pc := 0) dX12_race_0 rfl ?_
      refine AX.iload_n (pc := 1) dX12_race_1 rfl ?_
      refine AX.iload_n (pc := 2) dX12_race_2 rfl ?_
      refine AX.iload_n (pc := 3) dX12_race_3 rfl ?_
      refine AX.callV (pc := 4) (M2 := M_X12_isRace) (As := [.int (nI rn), .int q, .int x]) (rest := []) (c_mIsRace w h c l (nI rn) q x) xc_X12_race__X12_isRace gX12_race_X12_isRace (ci := 11) rfl (lt_k c.hn (by omega)) hO rfl (Nat.le_of_ble_eq_true rfl) dX12_race_4 ?_
      rintro _ h9 ⟨rfl, e9⟩
      have e9 := e9.symm
      subst e9
      rw [decide_eq_false (fun q9 => h_q q9.2.1)]
      show AX w M_X12_race 0 0 7 [.ref 87, .int (nI rn), .int q, .int x] [.int (bI false)] _ _
      refine AX.if_neB (pc := 7) (tgt := 14) dX12_race_7 (by decide) (fun q => absurd q (by decide)) (fun hc7 => ?_)
      refine AX.ldc2 (pc := 10) (v := (-9000000000000000000)) dX12_race_10 cX12_race_196 ?_
      refine AX.lret (pc := 13) dX12_race_13 rfl (by decide) (by decide) ?_
      exact ⟨by unfold aRace; rw [if_pos h_r, if_neg h_q]; try rfl, Same.rf, c⟩
  · refine CA.of (by decide) rfl (fun _ => Nat.le_of_ble_eq_true rfl) ?_
    show AX w M_X12_race 0 0 0 [.ref 87, .int r, .int q, .int x] [] h _
    refine AX.aload_n (pc := 0) dX12_race_0 rfl ?_
    refine AX.iload_n (pc := 1) dX12_race_1 rfl ?_
    refine AX.iload_n (pc := 2) dX12_race_2 rfl ?_
    refine AX.iload_n (pc := 3) dX12_race_3 rfl ?_
    refine AX.callV (pc := 4) (M2 := M_X12_isRace) (As := [.int r, .int q, .int x]) (rest := []) (c_mIsRace w h c l r q x) xc_X12_race__X12_isRace gX12_race_X12_isRace (ci := 11) rfl (lt_k c.hn (by omega)) hO rfl (Nat.le_of_ble_eq_true rfl) dX12_race_4 ?_
    rintro _ h9 ⟨rfl, e9⟩
    have e9 := e9.symm
    subst e9
    rw [decide_eq_false (fun q9 => h_r q9.1)]
    show AX w M_X12_race 0 0 7 [.ref 87, .int r, .int q, .int x] [.int (bI false)] _ _
    refine AX.if_neB (pc := 7) (tgt := 14) dX12_race_7 (by decide) (fun q => absurd q (by decide)) (fun hc7 => ?_)
    refine AX.ldc2 (pc := 10) (v := (-9000000000000000000)) dX12_race_10 cX12_race_196 ?_
    refine AX.lret (pc := 13) dX12_race_13 rfl (by decide) (by decide) ?_
    exact ⟨by unfold aRace; rw [if_neg h_r]; try rfl, Same.rf, c⟩
theorem c_mStill (w : XW) (h : XH) {s : SS} {n o : Nat} {a b : Nat × Nat} (c : MS h s) (l : LV (sq s) n o a b) (r : Int32) (q : Int32) : CA w M_X12_settled [.ref 87, .int r, .int q] h (fun v' h'' => v' = some (.int (aStill o a b r q)) ∧ Same mdS h h'' ∧ MS h'' s) := by
  obtain ⟨v, hO, hv⟩ := id c.ob
  obtain ⟨f89, e89, q89⟩ := id c.nw
  by_cases h_r : inR (leN o) 24 r
  · obtain ⟨rn, rfl, l_r, u_r⟩ := inR_nat (by decide) h_r
    have p_r := leN_pos o
    by_cases h_q : inR (leN o) 24 q
    · obtain ⟨qn, rfl, l_q, u_q⟩ := inR_nat (by decide) h_q
      have p_q := leN_pos o
      refine CA.of (by decide) rfl (fun _ => Nat.le_of_ble_eq_true rfl) ?_
      show AX w M_X12_settled 0 0 0 [.ref 87, .int (nI rn), .int (nI qn)] [] h _
      refine AX.aload_n (pc := 0) dX12_settled_0 rfl ?_
      refine AX.iload_n (pc := 1) dX12_settled_1 rfl ?_
      refine AX.iload_n (pc := 2) dX12_settled_2 rfl ?_
      refine AX.iconst (pc := 3) (v := nI 0) dX12_settled_3 (by decide) ?_
      refine AX.callV (pc := 4) (M2 := M_X12_isRace) (As := [.int (nI rn), .int (nI qn), .int (nI 0)]) (rest := []) (c_mIsRace w h c l (nI rn) (nI qn) (nI 0)) xc_X12_settled__X12_isRace gX12_settled_X12_isRace (ci := 11) rfl (lt_k c.hn (by omega)) hO rfl (Nat.le_of_ble_eq_true rfl) dX12_settled_4 ?_
      rintro _ h9 ⟨rfl, e9⟩
      have e9 := e9.symm
      subst e9
      rw [decide_eq_true ⟨h_r, h_q, (show inR 0 1 (nI 0) by decide)⟩]
      show AX w M_X12_settled 0 0 7 [.ref 87, .int (nI rn), .int (nI qn)] [.int (bI true)] _ _
      refine AX.if_neB (pc := 7) (tgt := 12) dX12_settled_7 (by decide) (fun hc7 => ?_) (fun q => absurd q (by decide))
      refine AX.aload_n (pc := 12) dX12_settled_12 rfl ?_
      refine AX.callV (pc := 13) (M2 := M_X12_layRace) (As := []) (rest := []) (c_layRace w h c l) xc_X12_settled__X12_layRace gX12_settled_X12_layRace (ci := 11) rfl (lt_k c.hn (by omega)) hO rfl (Nat.le_of_ble_eq_true rfl) dX12_settled_13 ?_
      rintro _ h1 ⟨rfl, s1, c1, g1, g2, gs, w102, w103, w104, X1⟩
      obtain ⟨v1, hO1, hv1⟩ := id c1.ob
      obtain ⟨p1, p2, p3⟩ := X1 rn qn l_r u_r l_q u_q trivial
      show AX w M_X12_settled 0 0 16 [.ref 87, .int (nI rn), .int (nI qn)] [] _ _
      refine AX.aload_n (pc := 16) dX12_settled_16 rfl ?_
      refine AX.getf (pc := 17) fX12_settled_59 (lt_k (s1.le c.hn) (by omega)) hO1 rfl dX12_settled_17 ?_
      refine AX.bipush (pc := 20) (v := nI 25) dX12_settled_20 (by decide) ?_
      refine AX.iload_n (pc := 22) dX12_settled_22 rfl ?_
      refine AX.imulN (pc := 23) (c := 25 * rn) dX12_settled_23 rfl ?_
      refine AX.iload_n (pc := 24) dX12_settled_24 rfl ?_
      refine AX.iaddN (pc := 25) (c := 25 * rn + qn) dX12_settled_25 rfl ?_
      refine AX.zaldN (pc := 26) (i := 25 * rn + qn) (v := (bI ((rcV o (hh a b) rn qn).2.2.2.2))) (lt_k (s1.le c.hn) (by omega)) w104 (by decide) (by omega) p3 dX12_settled_26 ?_
      refine AX.if_eqB (pc := 27) (tgt := 34) dX12_settled_27 (by decide) (fun hc27 => ?_) (fun hc27 => ?_)
      · refine AX.iconst (pc := 34) (v := nI 0) dX12_settled_34 (by decide) ?_
        refine AX.iret (pc := 35) dX12_settled_35 rfl rfl (by decide) (by decide) ?_
        exact ⟨by unfold aStill; rw [if_pos h_r, if_pos h_q, nI_nat (show rn < 2147483648 by omega), nI_nat (show qn < 2147483648 by omega), hc27]; rfl, mdS_lt s1 (by decide), c1⟩
      · refine AX.iconst (pc := 30) (v := nI 1) dX12_settled_30 (by decide) ?_
        refine AX.goto (pc := 31) (tgt := 35) dX12_settled_31 (by decide) ?_
        refine AX.iret (pc := 35) dX12_settled_35 rfl rfl (by decide) (by decide) ?_
        exact ⟨by unfold aStill; rw [if_pos h_r, if_pos h_q, nI_nat (show rn < 2147483648 by omega), nI_nat (show qn < 2147483648 by omega), hc27]; rfl, mdS_lt s1 (by decide), c1⟩
    · refine CA.of (by decide) rfl (fun _ => Nat.le_of_ble_eq_true rfl) ?_
      show AX w M_X12_settled 0 0 0 [.ref 87, .int (nI rn), .int q] [] h _
      refine AX.aload_n (pc := 0) dX12_settled_0 rfl ?_
      refine AX.iload_n (pc := 1) dX12_settled_1 rfl ?_
      refine AX.iload_n (pc := 2) dX12_settled_2 rfl ?_
      refine AX.iconst (pc := 3) (v := nI 0) dX12_settled_3 (by decide) ?_
      refine AX.callV (pc := 4) (M2 := M_X12_isRace) (As := [.int (nI rn), .int q, .int (nI 0)]) (rest := []) (c_mIsRace w h c l (nI rn) q (nI 0)) xc_X12_settled__X12_isRace gX12_settled_X12_isRace (ci := 11) rfl (lt_k c.hn (by omega)) hO rfl (Nat.le_of_ble_eq_true rfl) dX12_settled_4 ?_
      rintro _ h9 ⟨rfl, e9⟩
      have e9 := e9.symm
      subst e9
      rw [decide_eq_false (fun q9 => h_q q9.2.1)]
      show AX w M_X12_settled 0 0 7 [.ref 87, .int (nI rn), .int q] [.int (bI false)] _ _
      refine AX.if_neB (pc := 7) (tgt := 12) dX12_settled_7 (by decide) (fun q => absurd q (by decide)) (fun hc7 => ?_)
      refine AX.iconst (pc := 10) (v := (-1)) dX12_settled_10 (by decide) ?_
      refine AX.iret (pc := 11) dX12_settled_11 rfl rfl (by decide) (by decide) ?_
      exact ⟨by unfold aStill; rw [if_pos h_r, if_neg h_q]; try rfl, Same.rf, c⟩
  · refine CA.of (by decide) rfl (fun _ => Nat.le_of_ble_eq_true rfl) ?_
    show AX w M_X12_settled 0 0 0 [.ref 87, .int r, .int q] [] h _
    refine AX.aload_n (pc := 0) dX12_settled_0 rfl ?_
    refine AX.iload_n (pc := 1) dX12_settled_1 rfl ?_
    refine AX.iload_n (pc := 2) dX12_settled_2 rfl ?_
    refine AX.iconst (pc := 3) (v := nI 0) dX12_settled_3 (by decide) ?_
    refine AX.callV (pc := 4) (M2 := M_X12_isRace) (As := [.int r, .int q, .int (nI 0)]) (rest := []) (c_mIsRace w h c l r q (nI 0)) xc_X12_settled__X12_isRace gX12_settled_X12_isRace (ci := 11) rfl (lt_k c.hn (by omega)) hO rfl (Nat.le_of_ble_eq_true rfl) dX12_settled_4 ?_
    rintro _ h9 ⟨rfl, e9⟩
    have e9 := e9.symm
    subst e9
    rw [decide_eq_false (fun q9 => h_r q9.1)]
    show AX w M_X12_settled 0 0 7 [.ref 87, .int r, .int q] [.int (bI false)] _ _
    refine AX.if_neB (pc := 7) (tgt := 12) dX12_settled_7 (by decide) (fun q => absurd q (by decide)) (fun hc7 => ?_)
    refine AX.iconst (pc := 10) (v := (-1)) dX12_settled_10 (by decide) ?_
    refine AX.iret (pc := 11) dX12_settled_11 rfl rfl (by decide) (by decide) ?_
    exact ⟨by unfold aStill; rw [if_neg h_r]; try rfl, Same.rf, c⟩
theorem c_mPerc (w : XW) (h : XH) {s : SS} {n o : Nat} {a b : Nat × Nat} (c : MS h s) (l : LV (sq s) n o a b) (r : Int32) (q : Int32) : CA w M_X12_percent [.ref 87, .int r, .int q] h (fun v' h'' => v' = some (.int (aPerc o a b r q)) ∧ Same mdS h h'' ∧ MS h'' s) := by
  obtain ⟨v, hO, hv⟩ := id c.ob
  obtain ⟨f89, e89, q89⟩ := id c.nw
  by_cases h_r : inR (leN o) 24 r
  · obtain ⟨rn, rfl, l_r, u_r⟩ := inR_nat (by decide) h_r
    have p_r := leN_pos o
    by_cases h_q : inR (leN o) 24 q
    · obtain ⟨qn, rfl, l_q, u_q⟩ := inR_nat (by decide) h_q
      have p_q := leN_pos o
      have dd := mul100 (rcV_ok (o := o) l.hok (r := rn) (q := qn) (by omega)).1 (by omega)
      refine CA.of (by decide) rfl (fun _ => Nat.le_of_ble_eq_true rfl) ?_
      show AX w M_X12_percent 0 0 0 [.ref 87, .int (nI rn), .int (nI qn)] [] h _
      refine AX.aload_n (pc := 0) dX12_percent_0 rfl ?_
      refine AX.iload_n (pc := 1) dX12_percent_1 rfl ?_
      refine AX.iload_n (pc := 2) dX12_percent_2 rfl ?_
      refine AX.iconst (pc := 3) (v := nI 0) dX12_percent_3 (by decide) ?_
      refine AX.callV (pc := 4) (M2 := M_X12_isRace) (As := [.int (nI rn), .int (nI qn), .int (nI 0)]) (rest := []) (c_mIsRace w h c l (nI rn) (nI qn) (nI 0)) xc_X12_percent__X12_isRace gX12_percent_X12_isRace (ci := 11) rfl (lt_k c.hn (by omega)) hO rfl (Nat.le_of_ble_eq_true rfl) dX12_percent_4 ?_
      rintro _ h9 ⟨rfl, e9⟩
      have e9 := e9.symm
      subst e9
      rw [decide_eq_true ⟨h_r, h_q, (show inR 0 1 (nI 0) by decide)⟩]
      show AX w M_X12_percent 0 0 7 [.ref 87, .int (nI rn), .int (nI qn)] [.int (bI true)] _ _
      refine AX.if_neB (pc := 7) (tgt := 12) dX12_percent_7 (by decide) (fun hc7 => ?_) (fun q => absurd q (by decide))
      refine AX.aload_n (pc := 12) dX12_percent_12 rfl ?_
      refine AX.callV (pc := 13) (M2 := M_X12_layRace) (As := []) (rest := []) (c_layRace w h c l) xc_X12_percent__X12_layRace gX12_percent_X12_layRace (ci := 11) rfl (lt_k c.hn (by omega)) hO rfl (Nat.le_of_ble_eq_true rfl) dX12_percent_13 ?_
      rintro _ h1 ⟨rfl, s1, c1, g1, g2, gs, w102, w103, w104, X1⟩
      obtain ⟨v1, hO1, hv1⟩ := id c1.ob
      obtain ⟨p1, p2, p3⟩ := X1 rn qn l_r u_r l_q u_q trivial
      show AX w M_X12_percent 0 0 16 [.ref 87, .int (nI rn), .int (nI qn)] [] _ _
      refine AX.aload_n (pc := 16) dX12_percent_16 rfl ?_
      refine AX.getf (pc := 17) fX12_percent_53 (lt_k (s1.le c.hn) (by omega)) hO1 rfl dX12_percent_17 ?_
      refine AX.bipush (pc := 20) (v := nI 25) dX12_percent_20 (by decide) ?_
      refine AX.iload_n (pc := 22) dX12_percent_22 rfl ?_
      refine AX.imulN (pc := 23) (c := 25 * rn) dX12_percent_23 rfl ?_
      refine AX.iload_n (pc := 24) dX12_percent_24 rfl ?_
      refine AX.iaddN (pc := 25) (c := 25 * rn + qn) dX12_percent_25 rfl ?_
      refine AX.daldN (pc := 26) (i := 25 * rn + qn) (v := ((rcV o (hh a b) rn qn).1)) (lt_k (s1.le c.hn) (by omega)) w102 (by decide) (by omega) p1 dX12_percent_26 ?_
      refine AX.ldc2d (pc := 27) (v := 4636737291354636288) dX12_percent_27 cX12_percent_245 ?_
      refine AX.dmul (pc := 30) dX12_percent_30 dd.1 ?_
      refine AX.d2f (pc := 31) dX12_percent_31 (d2f_n32 dd.2) ?_
      refine AX.f2i (pc := 32) dX12_percent_32 ?_
      refine AX.iret (pc := 33) dX12_percent_33 rfl rfl (by decide) (by decide) ?_
      exact ⟨by unfold aPerc; rw [if_pos h_r, if_pos h_q, nI_nat (show rn < 2147483648 by omega), nI_nat (show qn < 2147483648 by omega)]; try rfl, mdS_lt s1 (by decide), c1⟩
    · refine CA.of (by decide) rfl (fun _ => Nat.le_of_ble_eq_true rfl) ?_
      show AX w M_X12_percent 0 0 0 [.ref 87, .int (nI rn), .int q] [] h _
      refine AX.aload_n (pc := 0) dX12_percent_0 rfl ?_
      refine AX.iload_n (pc := 1) dX12_percent_1 rfl ?_
      refine AX.iload_n (pc := 2) dX12_percent_2 rfl ?_
      refine AX.iconst (pc := 3) (v := nI 0) dX12_percent_3 (by decide) ?_
      refine AX.callV (pc := 4) (M2 := M_X12_isRace) (As := [.int (nI rn), .int q, .int (nI 0)]) (rest := []) (c_mIsRace w h c l (nI rn) q (nI 0)) xc_X12_percent__X12_isRace gX12_percent_X12_isRace (ci := 11) rfl (lt_k c.hn (by omega)) hO rfl (Nat.le_of_ble_eq_true rfl) dX12_percent_4 ?_
      rintro _ h9 ⟨rfl, e9⟩
      have e9 := e9.symm
      subst e9
      rw [decide_eq_false (fun q9 => h_q q9.2.1)]
      show AX w M_X12_percent 0 0 7 [.ref 87, .int (nI rn), .int q] [.int (bI false)] _ _
      refine AX.if_neB (pc := 7) (tgt := 12) dX12_percent_7 (by decide) (fun q => absurd q (by decide)) (fun hc7 => ?_)
      refine AX.iconst (pc := 10) (v := (-1)) dX12_percent_10 (by decide) ?_
      refine AX.iret (pc := 11) dX12_percent_11 rfl rfl (by decide) (by decide) ?_
      exact ⟨by unfold aPerc; rw [if_pos h_r, if_neg h_q]; try rfl, Same.rf, c⟩
  · refine CA.of (by decide) rfl (fun _ => Nat.le_of_ble_eq_true rfl) ?_
    show AX w M_X12_percent 0 0 0 [.ref 87, .int r, .int q] [] h _
    refine AX.aload_n (pc := 0) dX12_percent_0 rfl ?_
    refine AX.iload_n (pc := 1) dX12_percent_1 rfl ?_
    refine AX.iload_n (pc := 2) dX12_percent_2 rfl ?_
    refine AX.iconst (pc := 3) (v := nI 0) dX12_percent_3 (by decide) ?_
    refine AX.callV (pc := 4) (M2 := M_X12_isRace) (As := [.int r, .int q, .int (nI 0)]) (rest := []) (c_mIsRace w h c l r q (nI 0)) xc_X12_percent__X12_isRace gX12_percent_X12_isRace (ci := 11) rfl (lt_k c.hn (by omega)) hO rfl (Nat.le_of_ble_eq_true rfl) dX12_percent_4 ?_
    rintro _ h9 ⟨rfl, e9⟩
    have e9 := e9.symm
    subst e9
    rw [decide_eq_false (fun q9 => h_r q9.1)]
    show AX w M_X12_percent 0 0 7 [.ref 87, .int r, .int q] [.int (bI false)] _ _
    refine AX.if_neB (pc := 7) (tgt := 12) dX12_percent_7 (by decide) (fun q => absurd q (by decide)) (fun hc7 => ?_)
    refine AX.iconst (pc := 10) (v := (-1)) dX12_percent_10 (by decide) ?_
    refine AX.iret (pc := 11) dX12_percent_11 rfl rfl (by decide) (by decide) ?_
    exact ⟨by unfold aPerc; rw [if_neg h_r]; try rfl, Same.rf, c⟩
theorem c_mRAim (w : XW) (h : XH) {s : SS} {n o : Nat} {a b : Nat × Nat} (c : MS h s) (l : LV (sq s) n o a b) (r : Int32) (q : Int32) (x : Int32) : CA w M_X12_raceAim [.ref 87, .int r, .int q, .int x] h (fun v' h'' => v' = some (.int (aRAim o a b r q x)) ∧ Same mdS h h'' ∧ MS h'' s) := by
  obtain ⟨v, hO, hv⟩ := id c.ob
  obtain ⟨f89, e89, q89⟩ := id c.nw
  by_cases h_r : inR (leN o) 24 r
  · obtain ⟨rn, rfl, l_r, u_r⟩ := inR_nat (by decide) h_r
    have p_r := leN_pos o
    by_cases h_q : inR (leN o) 24 q
    · obtain ⟨qn, rfl, l_q, u_q⟩ := inR_nat (by decide) h_q
      have p_q := leN_pos o
      by_cases h_x : inR 0 1 x
      · obtain ⟨xn, rfl, l_x, u_x⟩ := inR_nat (by decide) h_x
        obtain ⟨d1, d2⟩ := rcV_ok (o := o) l.hok (r := rn) (q := qn) (by omega)
        rcases (show xn = 0 ∨ xn = 1 by omega) with rfl | rfl
        · refine CA.of (by decide) rfl (fun _ => Nat.le_of_ble_eq_true rfl) ?_
          show AX w M_X12_raceAim 0 0 0 [.ref 87, .int (nI rn), .int (nI qn), .int (nI 0)] [] h _
          refine AX.aload_n (pc := 0) dX12_raceAim_0 rfl ?_
          refine AX.iload_n (pc := 1) dX12_raceAim_1 rfl ?_
          refine AX.iload_n (pc := 2) dX12_raceAim_2 rfl ?_
          refine AX.iload_n (pc := 3) dX12_raceAim_3 rfl ?_
          refine AX.callV (pc := 4) (M2 := M_X12_isRace) (As := [.int (nI rn), .int (nI qn), .int (nI 0)]) (rest := []) (c_mIsRace w h c l (nI rn) (nI qn) (nI 0)) xc_X12_raceAim__X12_isRace gX12_raceAim_X12_isRace (ci := 11) rfl (lt_k c.hn (by omega)) hO rfl (Nat.le_of_ble_eq_true rfl) dX12_raceAim_4 ?_
          rintro _ h9 ⟨rfl, e9⟩
          have e9 := e9.symm
          subst e9
          rw [decide_eq_true ⟨h_r, h_q, (show inR 0 1 (nI 0) by decide)⟩]
          show AX w M_X12_raceAim 0 0 7 [.ref 87, .int (nI rn), .int (nI qn), .int (nI 0)] [.int (bI true)] _ _
          refine AX.if_neB (pc := 7) (tgt := 12) dX12_raceAim_7 (by decide) (fun hc7 => ?_) (fun q => absurd q (by decide))
          refine AX.aload_n (pc := 12) dX12_raceAim_12 rfl ?_
          refine AX.callV (pc := 13) (M2 := M_X12_layRace) (As := []) (rest := []) (c_layRace w h c l) xc_X12_raceAim__X12_layRace gX12_raceAim_X12_layRace (ci := 11) rfl (lt_k c.hn (by omega)) hO rfl (Nat.le_of_ble_eq_true rfl) dX12_raceAim_13 ?_
          rintro _ h1 ⟨rfl, s1, c1, g1, g2, gs, w102, w103, w104, X1⟩
          obtain ⟨v1, hO1, hv1⟩ := id c1.ob
          obtain ⟨p1, p2, p3⟩ := X1 rn qn l_r u_r l_q u_q trivial
          obtain ⟨m106, z106⟩ := c1.b1
          obtain ⟨m107, z107⟩ := c1.b2
          obtain ⟨m108, z108⟩ := c1.b3
          show AX w M_X12_raceAim 0 0 16 [.ref 87, .int (nI rn), .int (nI qn), .int (nI 0)] [] _ _
          refine AX.aload_n (pc := 16) dX12_raceAim_16 rfl ?_
          refine AX.callV (pc := 17) (M2 := M_X12_keepBoth) (As := []) (rest := []) (c_keepBoth w h1 (H := hh a b) (s1.le c.hn) hO1 c1.nw c1.rg c1.fx z106 z107 z108 (fun u hu => l.hq hu)) xc_X12_raceAim__X12_keepBoth gX12_raceAim_X12_keepBoth (ci := 11) rfl (lt_k (s1.le c.hn) (by omega)) hO1 rfl (Nat.le_of_ble_eq_true rfl) dX12_raceAim_17 ?_
          rintro _ h2 ⟨rfl, s2, ⟨y, O2⟩, F2, B2⟩
          have eO2 : h2.2 87 = .inr (11, [.ref 88, .ref 89, .ref 90, .int (v1 0), .int y, .ref 91, .ref 92, .ref 93, .ref 94, .ref 95, .ref 96, .ref 97, .ref 98, .ref 99, .ref 100, .ref 101, .int (v1 2), .ref 102, .ref 103, .ref 104, .ref 105, .ref 106, .ref 107, .ref 108, .int (v1 3), .ref 109, .int (v1 4), .ref 110, .ref 111, .int (v1 5), .ref 112, .int (v1 6), .int (v1 7), .int (v1 8), .ref 113, .int (v1 9), .ref 114, .ref 115, .ref 116, .ref 117]) := O2
          obtain ⟨V0, W0⟩ := X1.v0 l.hok u_r l_q u_q (fun _ _ _ => trivial)
          have hw : (swA (fun a_ => rcS o (hh a b 0).1 (hh a b 0).2 (fun d => g2 (25 * d + qn)) rn a_ (fC a_)) (g2 (25 * rn + qn))).1 = (rcV o (hh a b) rn qn).2.2.1 := by rw [(W0 _).2, p2, rcV_r]
          show AX w M_X12_raceAim 0 0 20 [.ref 87, .int (nI rn), .int (nI qn), .int (nI 0)] [] _ _
          refine AX.aload_n (pc := 20) dX12_raceAim_20 rfl ?_
          refine AX.iload_n (pc := 21) dX12_raceAim_21 rfl ?_
          refine AX.iload_n (pc := 22) dX12_raceAim_22 rfl ?_
          refine AX.iload_n (pc := 23) dX12_raceAim_23 rfl ?_
          refine AX.callV (pc := 24) (M2 := M_X12_bestRace) (As := [.int (nI 0), .int (nI rn), .int (nI qn)]) (rest := []) (c_best0 w h2 (v := upd v1 1 y) (s2.le (s1.le c.hn)) (c1.nw.same s2 (by simp)) l.q12 l.ho B2 (s2.at (by simp) w103) (l.hok 0).1 (l.hok 0).2 (n := 1600) (by decide) V0 (by rw [p2]; exact rB_mono (by omega) d2) (by omega) u_r (by omega) u_q O2) xc_X12_raceAim__X12_bestRace gX12_raceAim_X12_bestRace (ci := 11) rfl (lt_k (s2.le (s1.le c.hn)) (by omega)) eO2 rfl (Nat.le_of_ble_eq_true rfl) dX12_raceAim_24 ?_
          rintro _ h3 ⟨rfl, s3, O3⟩
          rw [hw] at O3
          generalize swV _ _ = RES9
          have eO3 : h3.2 87 = .inr (11, [.ref 88, .ref 89, .ref 90, .int ((upd v1 1 y) 0), .int ((upd v1 1 y) 1), .ref 91, .ref 92, .ref 93, .ref 94, .ref 95, .ref 96, .ref 97, .ref 98, .ref 99, .ref 100, .ref 101, .int ((upd v1 1 y) 2), .ref 102, .ref 103, .ref 104, .ref 105, .ref 106, .ref 107, .ref 108, .int (nI ((rcV o (hh a b) rn qn).2.2.1)), .ref 109, .int ((upd v1 1 y) 4), .ref 110, .ref 111, .int ((upd v1 1 y) 5), .ref 112, .int ((upd v1 1 y) 6), .int ((upd v1 1 y) 7), .int ((upd v1 1 y) 8), .ref 113, .int ((upd v1 1 y) 9), .ref 114, .ref 115, .ref 116, .ref 117]) := O3
          have t3 : Same [87, 91, 92, 98, 99, 100, 102, 103, 104, 105, 106, 107, 108] h1 h3 := (s2.wide (by decide)).trans (s3.wide (by decide))
          obtain ⟨m_, sx_, x_, b1_, b2_, b3_, -⟩ := B2.same s3 (by simp) (by simp) (by simp)
          have t4 : Same [87, 91, 92, 98, 99, 100, 106, 107, 108] h1 h3 := s2.trans (s3.wide (by decide))
          have c3 : MS h3 s := c1.race t3 (MS.obv (v := upd v1 1 y) hv1 3 (by decide) O3) (F2.same s3 (by simp) (by simp) (by simp) (by simp) (by simp)) (c1.rt.same t4 (by simp) (by simp) (by simp) (by simp)) ⟨m_, b1_⟩ ⟨sx_, b2_⟩ ⟨x_, b3_⟩
          have s4 : Same [87, 91, 92, 98, 99, 100, 102, 103, 104, 105, 106, 107, 108] h h3 := s1.trans t3
          show AX w M_X12_raceAim 0 0 27 [.ref 87, .int (nI rn), .int (nI qn), .int (nI 0)] [.double RES9] _ _
          refine AX.pop2 (pc := 27) dX12_raceAim_27 rfl ?_
          refine AX.aload_n (pc := 28) dX12_raceAim_28 rfl ?_
          refine AX.getf (pc := 29) fX12_raceAim_224 (lt_k (s3.le (s2.le (s1.le c.hn))) (by omega)) eO3 rfl dX12_raceAim_29 ?_
          refine AX.iret (pc := 32) dX12_raceAim_32 rfl rfl (by decide) (by decide) ?_
          exact ⟨by unfold aRAim; rw [if_pos h_r, if_pos h_q, if_pos h_x, nI_nat (show rn < 2147483648 by omega), nI_nat (show qn < 2147483648 by omega)]; try rfl, mdS_lt s4 (by decide), c3⟩
        · refine CA.of (by decide) rfl (fun _ => Nat.le_of_ble_eq_true rfl) ?_
          show AX w M_X12_raceAim 0 0 0 [.ref 87, .int (nI rn), .int (nI qn), .int (nI 1)] [] h _
          refine AX.aload_n (pc := 0) dX12_raceAim_0 rfl ?_
          refine AX.iload_n (pc := 1) dX12_raceAim_1 rfl ?_
          refine AX.iload_n (pc := 2) dX12_raceAim_2 rfl ?_
          refine AX.iload_n (pc := 3) dX12_raceAim_3 rfl ?_
          refine AX.callV (pc := 4) (M2 := M_X12_isRace) (As := [.int (nI rn), .int (nI qn), .int (nI 1)]) (rest := []) (c_mIsRace w h c l (nI rn) (nI qn) (nI 1)) xc_X12_raceAim__X12_isRace gX12_raceAim_X12_isRace (ci := 11) rfl (lt_k c.hn (by omega)) hO rfl (Nat.le_of_ble_eq_true rfl) dX12_raceAim_4 ?_
          rintro _ h9 ⟨rfl, e9⟩
          have e9 := e9.symm
          subst e9
          rw [decide_eq_true ⟨h_r, h_q, h_x⟩]
          show AX w M_X12_raceAim 0 0 7 [.ref 87, .int (nI rn), .int (nI qn), .int (nI 1)] [.int (bI true)] _ _
          refine AX.if_neB (pc := 7) (tgt := 12) dX12_raceAim_7 (by decide) (fun hc7 => ?_) (fun q => absurd q (by decide))
          refine AX.aload_n (pc := 12) dX12_raceAim_12 rfl ?_
          refine AX.callV (pc := 13) (M2 := M_X12_layRace) (As := []) (rest := []) (c_layRace w h c l) xc_X12_raceAim__X12_layRace gX12_raceAim_X12_layRace (ci := 11) rfl (lt_k c.hn (by omega)) hO rfl (Nat.le_of_ble_eq_true rfl) dX12_raceAim_13 ?_
          rintro _ h1 ⟨rfl, s1, c1, g1, g2, gs, w102, w103, w104, X1⟩
          obtain ⟨v1, hO1, hv1⟩ := id c1.ob
          obtain ⟨p1, p2, p3⟩ := X1 rn qn l_r u_r l_q u_q trivial
          obtain ⟨m106, z106⟩ := c1.b1
          obtain ⟨m107, z107⟩ := c1.b2
          obtain ⟨m108, z108⟩ := c1.b3
          show AX w M_X12_raceAim 0 0 16 [.ref 87, .int (nI rn), .int (nI qn), .int (nI 1)] [] _ _
          refine AX.aload_n (pc := 16) dX12_raceAim_16 rfl ?_
          refine AX.callV (pc := 17) (M2 := M_X12_keepBoth) (As := []) (rest := []) (c_keepBoth w h1 (H := hh a b) (s1.le c.hn) hO1 c1.nw c1.rg c1.fx z106 z107 z108 (fun u hu => l.hq hu)) xc_X12_raceAim__X12_keepBoth gX12_raceAim_X12_keepBoth (ci := 11) rfl (lt_k (s1.le c.hn) (by omega)) hO1 rfl (Nat.le_of_ble_eq_true rfl) dX12_raceAim_17 ?_
          rintro _ h2 ⟨rfl, s2, ⟨y, O2⟩, F2, B2⟩
          have eO2 : h2.2 87 = .inr (11, [.ref 88, .ref 89, .ref 90, .int (v1 0), .int y, .ref 91, .ref 92, .ref 93, .ref 94, .ref 95, .ref 96, .ref 97, .ref 98, .ref 99, .ref 100, .ref 101, .int (v1 2), .ref 102, .ref 103, .ref 104, .ref 105, .ref 106, .ref 107, .ref 108, .int (v1 3), .ref 109, .int (v1 4), .ref 110, .ref 111, .int (v1 5), .ref 112, .int (v1 6), .int (v1 7), .int (v1 8), .ref 113, .int (v1 9), .ref 114, .ref 115, .ref 116, .ref 117]) := O2
          obtain ⟨V1, W1⟩ := X1.v1 l.hok l_r u_r u_q (fun _ _ _ => trivial)
          have hw : (swA (fun a_ => rcS o (hh a b 1).1 (hh a b 1).2 (fun d => g1 (25 * rn + d)) qn a_ (fC a_)) (g1 (25 * rn + qn))).1 = (rcV o (hh a b) rn qn).2.2.2.1 := by rw [(W1 _).2, p1, rcV_r]
          show AX w M_X12_raceAim 0 0 20 [.ref 87, .int (nI rn), .int (nI qn), .int (nI 1)] [] _ _
          refine AX.aload_n (pc := 20) dX12_raceAim_20 rfl ?_
          refine AX.iload_n (pc := 21) dX12_raceAim_21 rfl ?_
          refine AX.iload_n (pc := 22) dX12_raceAim_22 rfl ?_
          refine AX.iload_n (pc := 23) dX12_raceAim_23 rfl ?_
          refine AX.callV (pc := 24) (M2 := M_X12_bestRace) (As := [.int (nI 1), .int (nI rn), .int (nI qn)]) (rest := []) (c_best1 w h2 (v := upd v1 1 y) (s2.le (s1.le c.hn)) (c1.nw.same s2 (by simp)) l.q12 l.ho B2 (s2.at (by simp) w102) (l.hok 1).1 (l.hok 1).2 (n := 1600) (by decide) V1 (by rw [p1]; exact rB_mono (by omega) d1) (by omega) u_r (by omega) u_q O2) xc_X12_raceAim__X12_bestRace gX12_raceAim_X12_bestRace (ci := 11) rfl (lt_k (s2.le (s1.le c.hn)) (by omega)) eO2 rfl (Nat.le_of_ble_eq_true rfl) dX12_raceAim_24 ?_
          rintro _ h3 ⟨rfl, s3, O3⟩
          rw [hw] at O3
          generalize swV _ _ = RES9
          have eO3 : h3.2 87 = .inr (11, [.ref 88, .ref 89, .ref 90, .int ((upd v1 1 y) 0), .int ((upd v1 1 y) 1), .ref 91, .ref 92, .ref 93, .ref 94, .ref 95, .ref 96, .ref 97, .ref 98, .ref 99, .ref 100, .ref 101, .int ((upd v1 1 y) 2), .ref 102, .ref 103, .ref 104, .ref 105, .ref 106, .ref 107, .ref 108, .int (nI ((rcV o (hh a b) rn qn).2.2.2.1)), .ref 109, .int ((upd v1 1 y) 4), .ref 110, .ref 111, .int ((upd v1 1 y) 5), .ref 112, .int ((upd v1 1 y) 6), .int ((upd v1 1 y) 7), .int ((upd v1 1 y) 8), .ref 113, .int ((upd v1 1 y) 9), .ref 114, .ref 115, .ref 116, .ref 117]) := O3
          have t3 : Same [87, 91, 92, 98, 99, 100, 102, 103, 104, 105, 106, 107, 108] h1 h3 := (s2.wide (by decide)).trans (s3.wide (by decide))
          obtain ⟨m_, sx_, x_, b1_, b2_, b3_, -⟩ := B2.same s3 (by simp) (by simp) (by simp)
          have t4 : Same [87, 91, 92, 98, 99, 100, 106, 107, 108] h1 h3 := s2.trans (s3.wide (by decide))
          have c3 : MS h3 s := c1.race t3 (MS.obv (v := upd v1 1 y) hv1 3 (by decide) O3) (F2.same s3 (by simp) (by simp) (by simp) (by simp) (by simp)) (c1.rt.same t4 (by simp) (by simp) (by simp) (by simp)) ⟨m_, b1_⟩ ⟨sx_, b2_⟩ ⟨x_, b3_⟩
          have s4 : Same [87, 91, 92, 98, 99, 100, 102, 103, 104, 105, 106, 107, 108] h h3 := s1.trans t3
          show AX w M_X12_raceAim 0 0 27 [.ref 87, .int (nI rn), .int (nI qn), .int (nI 1)] [.double RES9] _ _
          refine AX.pop2 (pc := 27) dX12_raceAim_27 rfl ?_
          refine AX.aload_n (pc := 28) dX12_raceAim_28 rfl ?_
          refine AX.getf (pc := 29) fX12_raceAim_224 (lt_k (s3.le (s2.le (s1.le c.hn))) (by omega)) eO3 rfl dX12_raceAim_29 ?_
          refine AX.iret (pc := 32) dX12_raceAim_32 rfl rfl (by decide) (by decide) ?_
          exact ⟨by unfold aRAim; rw [if_pos h_r, if_pos h_q, if_pos h_x, nI_nat (show rn < 2147483648 by omega), nI_nat (show qn < 2147483648 by omega)]; try rfl, mdS_lt s4 (by decide), c3⟩
      · refine CA.of (by decide) rfl (fun _ => Nat.le_of_ble_eq_true rfl) ?_
        show AX w M_X12_raceAim 0 0 0 [.ref 87, .int (nI rn), .int (nI qn), .int x] [] h _
        refine AX.aload_n (pc := 0) dX12_raceAim_0 rfl ?_
        refine AX.iload_n (pc := 1) dX12_raceAim_1 rfl ?_
        refine AX.iload_n (pc := 2) dX12_raceAim_2 rfl ?_
        refine AX.iload_n (pc := 3) dX12_raceAim_3 rfl ?_
        refine AX.callV (pc := 4) (M2 := M_X12_isRace) (As := [.int (nI rn), .int (nI qn), .int x]) (rest := []) (c_mIsRace w h c l (nI rn) (nI qn) x) xc_X12_raceAim__X12_isRace gX12_raceAim_X12_isRace (ci := 11) rfl (lt_k c.hn (by omega)) hO rfl (Nat.le_of_ble_eq_true rfl) dX12_raceAim_4 ?_
        rintro _ h9 ⟨rfl, e9⟩
        have e9 := e9.symm
        subst e9
        rw [decide_eq_false (fun q9 => h_x q9.2.2)]
        show AX w M_X12_raceAim 0 0 7 [.ref 87, .int (nI rn), .int (nI qn), .int x] [.int (bI false)] _ _
        refine AX.if_neB (pc := 7) (tgt := 12) dX12_raceAim_7 (by decide) (fun q => absurd q (by decide)) (fun hc7 => ?_)
        refine AX.iconst (pc := 10) (v := (-1)) dX12_raceAim_10 (by decide) ?_
        refine AX.iret (pc := 11) dX12_raceAim_11 rfl rfl (by decide) (by decide) ?_
        exact ⟨by unfold aRAim; rw [if_pos h_r, if_pos h_q, if_neg h_x]; try rfl, Same.rf, c⟩
    · refine CA.of (by decide) rfl (fun _ => Nat.le_of_ble_eq_true rfl) ?_
      show AX w M_X12_raceAim 0 0 0 [.ref 87, .int (nI rn), .int q, .int x] [] h _
      refine AX.aload_n (pc := 0) dX12_raceAim_0 rfl ?_
      refine AX.iload_n (pc := 1) dX12_raceAim_1 rfl ?_
      refine AX.iload_n (pc := 2) dX12_raceAim_2 rfl ?_
      refine AX.iload_n (pc := 3) dX12_raceAim_3 rfl ?_
      refine AX.callV (pc := 4) (M2 := M_X12_isRace) (As := [.int (nI rn), .int q, .int x]) (rest := []) (c_mIsRace w h c l (nI rn) q x) xc_X12_raceAim__X12_isRace gX12_raceAim_X12_isRace (ci := 11) rfl (lt_k c.hn (by omega)) hO rfl (Nat.le_of_ble_eq_true rfl) dX12_raceAim_4 ?_
      rintro _ h9 ⟨rfl, e9⟩
      have e9 := e9.symm
      subst e9
      rw [decide_eq_false (fun q9 => h_q q9.2.1)]
      show AX w M_X12_raceAim 0 0 7 [.ref 87, .int (nI rn), .int q, .int x] [.int (bI false)] _ _
      refine AX.if_neB (pc := 7) (tgt := 12) dX12_raceAim_7 (by decide) (fun q => absurd q (by decide)) (fun hc7 => ?_)
      refine AX.iconst (pc := 10) (v := (-1)) dX12_raceAim_10 (by decide) ?_
      refine AX.iret (pc := 11) dX12_raceAim_11 rfl rfl (by decide) (by decide) ?_
      exact ⟨by unfold aRAim; rw [if_pos h_r, if_neg h_q]; try rfl, Same.rf, c⟩
  · refine CA.of (by decide) rfl (fun _ => Nat.le_of_ble_eq_true rfl) ?_
    show AX w M_X12_raceAim 0 0 0 [.ref 87, .int r, .int q, .int x] [] h _
    refine AX.aload_n (pc := 0) dX12_raceAim_0 rfl ?_
    refine AX.iload_n (pc := 1) dX12_raceAim_1 rfl ?_
    refine AX.iload_n (pc := 2) dX12_raceAim_2 rfl ?_
    refine AX.iload_n (pc := 3) dX12_raceAim_3 rfl ?_
    refine AX.callV (pc := 4) (M2 := M_X12_isRace) (As := [.int r, .int q, .int x]) (rest := []) (c_mIsRace w h c l r q x) xc_X12_raceAim__X12_isRace gX12_raceAim_X12_isRace (ci := 11) rfl (lt_k c.hn (by omega)) hO rfl (Nat.le_of_ble_eq_true rfl) dX12_raceAim_4 ?_
    rintro _ h9 ⟨rfl, e9⟩
    have e9 := e9.symm
    subst e9
    rw [decide_eq_false (fun q9 => h_r q9.1)]
    show AX w M_X12_raceAim 0 0 7 [.ref 87, .int r, .int q, .int x] [.int (bI false)] _ _
    refine AX.if_neB (pc := 7) (tgt := 12) dX12_raceAim_7 (by decide) (fun q => absurd q (by decide)) (fun hc7 => ?_)
    refine AX.iconst (pc := 10) (v := (-1)) dX12_raceAim_10 (by decide) ?_
    refine AX.iret (pc := 11) dX12_raceAim_11 rfl rfl (by decide) (by decide) ?_
    exact ⟨by unfold aRAim; rw [if_neg h_r]; try rfl, Same.rf, c⟩
