/-! ===== THE REFERENCE: SPOT, UNDER, HAND, FALL, OUT, FALLS ===== -/
theorem LV.hq {q : Nat → Int32} {n o u : Nat} {a b : Nat × Nat} (l : LV q n o a b) (hu : u ≤ 1) : q u = nI (hh a b u).1 ∧ q (2 + u) = nI (hh a b u).2 ∧ (hh a b u).1 ≤ 200 ∧ (hh a b u).2 ≤ 200 := by
  rcases (show u = 0 ∨ u = 1 by omega) with rfl | rfl
  · exact ⟨l.q0, l.q2, l.ha⟩
  · exact ⟨l.q1, l.q3, l.hb⟩
theorem mdS_lt {S : List Nat} {h h' : XH} (hs : Same S h h') (hS : S.all (fun k => Nat.ble 87 k && Nat.blt k 118) = true) : Same mdS h h' := mdS_in hs (fun k hk => by
  have := List.all_eq_true.mp hS k hk
  rw [Bool.and_eq_true, Nat.ble_eq, Nat.blt_eq] at this
  exact this)
theorem c_mSpot (w : XW) (h : XH) {s : SS} {n o : Nat} {a b : Nat × Nat} (c : MS h s) (l : LV (sq s) n o a b) (x : Int32) (k : Int32) : CA w M_X12_spot [.ref 87, .int x, .int k] h (fun v' h'' => v' = some (.int (aSpot x k)) ∧ h'' = h) := by
  obtain ⟨v, hO, hv⟩ := id c.ob
  obtain ⟨f89, e89, q89⟩ := id c.nw
  by_cases h_x : inR 0 62 x
  · obtain ⟨xn, rfl, l_x, u_x⟩ := inR_nat (by decide) h_x
    by_cases h_k : inR 0 3 k
    · obtain ⟨kn, rfl, l_k, u_k⟩ := inR_nat (by decide) h_k
      have hnb := nbN_le xn
      rcases (show kn = 0 ∨ kn = 1 ∨ kn = 2 ∨ kn = 3 by omega) with rfl | rfl | rfl | rfl
      · refine CA.of (by decide) rfl (fun _ => Nat.le_of_ble_eq_true rfl) ?_
        show AX w M_X12_spot 0 0 0 [.ref 87, .int (nI xn), .int (nI 0)] [] h _
        refine AX.iload_n (pc := 0) dX12_spot_0 rfl ?_
        refine AX.i2l (pc := 1) dX12_spot_1 ?_
        refine AX.lconst (pc := 2) (v := 0) dX12_spot_2 (by decide) ?_
        refine AX.ldc2 (pc := 3) (v := 62) dX12_spot_3 cX12_spot_112 ?_
        refine AX.callS (pc := 6) (M2 := M_X12_in) (As := [.long ((nI xn).toInt64), .long 0, .long 62]) (rest := []) (c_in w h ((nI xn).toInt64) (0) (62)) xc_X12_spot__X12_in gX12_spot_X12_in rfl (Nat.le_of_ble_eq_true rfl) dX12_spot_6 ?_
        rintro _ h9 ⟨rfl, e9⟩
        have e9 := e9.symm
        subst e9
        rw [decide_eq_true ((in_iff (by decide) (by decide)).mpr h_x)]
        show AX w M_X12_spot 0 0 9 [.ref 87, .int (nI xn), .int (nI 0)] [.int (bI true)] _ _
        refine AX.if_eqB (pc := 9) (tgt := 24) dX12_spot_9 (by decide) (fun q => absurd q (by decide)) (fun hc9 => ?_)
        refine AX.iload_n (pc := 12) dX12_spot_12 rfl ?_
        refine AX.i2l (pc := 13) dX12_spot_13 ?_
        refine AX.lconst (pc := 14) (v := 0) dX12_spot_14 (by decide) ?_
        refine AX.ldc2 (pc := 15) (v := 3) dX12_spot_15 cX12_spot_114 ?_
        refine AX.callS (pc := 18) (M2 := M_X12_in) (As := [.long ((nI 0).toInt64), .long 0, .long 3]) (rest := []) (c_in w h ((nI 0).toInt64) (0) (3)) xc_X12_spot__X12_in gX12_spot_X12_in rfl (Nat.le_of_ble_eq_true rfl) dX12_spot_18 ?_
        rintro _ h9 ⟨rfl, e9⟩
        have e9 := e9.symm
        subst e9
        rw [decide_eq_true ((in_iff (by decide) (by decide)).mpr h_k)]
        show AX w M_X12_spot 0 0 21 [.ref 87, .int (nI xn), .int (nI 0)] [.int (bI true)] _ _
        refine AX.if_neB (pc := 21) (tgt := 26) dX12_spot_21 (by decide) (fun hc21 => ?_) (fun q => absurd q (by decide))
        refine AX.iload_n (pc := 26) dX12_spot_26 rfl ?_
        refine AX.lookup (pc := 27) (off := 25) (tgt := 52) dX12_spot_27 (by decide) (by decide) (by decide) ?_
        refine AX.iload_n (pc := 52) dX12_spot_52 rfl ?_
        refine AX.callS (pc := 53) (M2 := M_X12_scoreOf) (As := [.int (nI xn)]) (rest := []) (c_mScore w h xn (by omega)) xc_X12_spot__X12_scoreOf gX12_spot_X12_scoreOf rfl (Nat.le_of_ble_eq_true rfl) dX12_spot_53 ?_
        rintro _ h9 ⟨rfl, e9⟩
        have e9 := e9.symm
        subst e9
        show AX w M_X12_spot 0 0 56 [.ref 87, .int (nI xn), .int (nI 0)] [.int (nI (scN xn))] _ _
        refine AX.iret (pc := 56) dX12_spot_56 rfl rfl (by decide) (by decide) ?_
        exact ⟨by unfold aSpot; rw [if_pos h_x, if_pos h_k, nI_nat (show xn < 2147483648 by omega)]; try rfl, rfl⟩
      · refine CA.of (by decide) rfl (fun _ => Nat.le_of_ble_eq_true rfl) ?_
        show AX w M_X12_spot 0 0 0 [.ref 87, .int (nI xn), .int (nI 1)] [] h _
        refine AX.iload_n (pc := 0) dX12_spot_0 rfl ?_
        refine AX.i2l (pc := 1) dX12_spot_1 ?_
        refine AX.lconst (pc := 2) (v := 0) dX12_spot_2 (by decide) ?_
        refine AX.ldc2 (pc := 3) (v := 62) dX12_spot_3 cX12_spot_112 ?_
        refine AX.callS (pc := 6) (M2 := M_X12_in) (As := [.long ((nI xn).toInt64), .long 0, .long 62]) (rest := []) (c_in w h ((nI xn).toInt64) (0) (62)) xc_X12_spot__X12_in gX12_spot_X12_in rfl (Nat.le_of_ble_eq_true rfl) dX12_spot_6 ?_
        rintro _ h9 ⟨rfl, e9⟩
        have e9 := e9.symm
        subst e9
        rw [decide_eq_true ((in_iff (by decide) (by decide)).mpr h_x)]
        show AX w M_X12_spot 0 0 9 [.ref 87, .int (nI xn), .int (nI 1)] [.int (bI true)] _ _
        refine AX.if_eqB (pc := 9) (tgt := 24) dX12_spot_9 (by decide) (fun q => absurd q (by decide)) (fun hc9 => ?_)
        refine AX.iload_n (pc := 12) dX12_spot_12 rfl ?_
        refine AX.i2l (pc := 13) dX12_spot_13 ?_
        refine AX.lconst (pc := 14) (v := 0) dX12_spot_14 (by decide) ?_
        refine AX.ldc2 (pc := 15) (v := 3) dX12_spot_15 cX12_spot_114 ?_
        refine AX.callS (pc := 18) (M2 := M_X12_in) (As := [.long ((nI 1).toInt64), .long 0, .long 3]) (rest := []) (c_in w h ((nI 1).toInt64) (0) (3)) xc_X12_spot__X12_in gX12_spot_X12_in rfl (Nat.le_of_ble_eq_true rfl) dX12_spot_18 ?_
        rintro _ h9 ⟨rfl, e9⟩
        have e9 := e9.symm
        subst e9
        rw [decide_eq_true ((in_iff (by decide) (by decide)).mpr h_k)]
        show AX w M_X12_spot 0 0 21 [.ref 87, .int (nI xn), .int (nI 1)] [.int (bI true)] _ _
        refine AX.if_neB (pc := 21) (tgt := 26) dX12_spot_21 (by decide) (fun hc21 => ?_) (fun q => absurd q (by decide))
        refine AX.iload_n (pc := 26) dX12_spot_26 rfl ?_
        refine AX.lookup (pc := 27) (off := 30) (tgt := 57) dX12_spot_27 (by decide) (by decide) (by decide) ?_
        refine AX.iload_n (pc := 57) dX12_spot_57 rfl ?_
        refine AX.callS (pc := 58) (M2 := M_X12_kindOf) (As := [.int (nI xn)]) (rest := []) (c_mKind w h xn (by omega)) xc_X12_spot__X12_kindOf gX12_spot_X12_kindOf rfl (Nat.le_of_ble_eq_true rfl) dX12_spot_58 ?_
        rintro _ h9 ⟨rfl, e9⟩
        have e9 := e9.symm
        subst e9
        show AX w M_X12_spot 0 0 61 [.ref 87, .int (nI xn), .int (nI 1)] [.int (nI (kdN xn))] _ _
        refine AX.iret (pc := 61) dX12_spot_61 rfl rfl (by decide) (by decide) ?_
        exact ⟨by unfold aSpot; rw [if_pos h_x, if_pos h_k, nI_nat (show xn < 2147483648 by omega)]; try rfl, rfl⟩
      · refine CA.of (by decide) rfl (fun _ => Nat.le_of_ble_eq_true rfl) ?_
        show AX w M_X12_spot 0 0 0 [.ref 87, .int (nI xn), .int (nI 2)] [] h _
        refine AX.iload_n (pc := 0) dX12_spot_0 rfl ?_
        refine AX.i2l (pc := 1) dX12_spot_1 ?_
        refine AX.lconst (pc := 2) (v := 0) dX12_spot_2 (by decide) ?_
        refine AX.ldc2 (pc := 3) (v := 62) dX12_spot_3 cX12_spot_112 ?_
        refine AX.callS (pc := 6) (M2 := M_X12_in) (As := [.long ((nI xn).toInt64), .long 0, .long 62]) (rest := []) (c_in w h ((nI xn).toInt64) (0) (62)) xc_X12_spot__X12_in gX12_spot_X12_in rfl (Nat.le_of_ble_eq_true rfl) dX12_spot_6 ?_
        rintro _ h9 ⟨rfl, e9⟩
        have e9 := e9.symm
        subst e9
        rw [decide_eq_true ((in_iff (by decide) (by decide)).mpr h_x)]
        show AX w M_X12_spot 0 0 9 [.ref 87, .int (nI xn), .int (nI 2)] [.int (bI true)] _ _
        refine AX.if_eqB (pc := 9) (tgt := 24) dX12_spot_9 (by decide) (fun q => absurd q (by decide)) (fun hc9 => ?_)
        refine AX.iload_n (pc := 12) dX12_spot_12 rfl ?_
        refine AX.i2l (pc := 13) dX12_spot_13 ?_
        refine AX.lconst (pc := 14) (v := 0) dX12_spot_14 (by decide) ?_
        refine AX.ldc2 (pc := 15) (v := 3) dX12_spot_15 cX12_spot_114 ?_
        refine AX.callS (pc := 18) (M2 := M_X12_in) (As := [.long ((nI 2).toInt64), .long 0, .long 3]) (rest := []) (c_in w h ((nI 2).toInt64) (0) (3)) xc_X12_spot__X12_in gX12_spot_X12_in rfl (Nat.le_of_ble_eq_true rfl) dX12_spot_18 ?_
        rintro _ h9 ⟨rfl, e9⟩
        have e9 := e9.symm
        subst e9
        rw [decide_eq_true ((in_iff (by decide) (by decide)).mpr h_k)]
        show AX w M_X12_spot 0 0 21 [.ref 87, .int (nI xn), .int (nI 2)] [.int (bI true)] _ _
        refine AX.if_neB (pc := 21) (tgt := 26) dX12_spot_21 (by decide) (fun hc21 => ?_) (fun q => absurd q (by decide))
        refine AX.iload_n (pc := 26) dX12_spot_26 rfl ?_
        refine AX.lookup (pc := 27) (off := 35) (tgt := 62) dX12_spot_27 (by decide) (by decide) (by decide) ?_
        refine AX.iload_n (pc := 62) dX12_spot_62 rfl ?_
        refine AX.callS (pc := 63) (M2 := M_X12_numberOf) (As := [.int (nI xn)]) (rest := []) (c_mNumber w h xn (by omega)) xc_X12_spot__X12_numberOf gX12_spot_X12_numberOf rfl (Nat.le_of_ble_eq_true rfl) dX12_spot_63 ?_
        rintro _ h9 ⟨rfl, e9⟩
        have e9 := e9.symm
        subst e9
        show AX w M_X12_spot 0 0 66 [.ref 87, .int (nI xn), .int (nI 2)] [.int (nI (nbN xn))] _ _
        refine AX.if_neN (pc := 66) (tgt := 73) dX12_spot_66 (by decide) (by omega) (fun hc66 => ?_) (fun hc66 => ?_)
        · refine AX.aload_n (pc := 73) dX12_spot_73 rfl ?_
          refine AX.iload_n (pc := 74) dX12_spot_74 rfl ?_
          refine AX.callS (pc := 75) (M2 := M_X12_numberOf) (As := [.int (nI xn)]) (rest := [.ref 87]) (c_mNumber w h xn (by omega)) xc_X12_spot__X12_numberOf gX12_spot_X12_numberOf rfl (Nat.le_of_ble_eq_true rfl) dX12_spot_75 ?_
          rintro _ h9 ⟨rfl, e9⟩
          have e9 := e9.symm
          subst e9
          show AX w M_X12_spot 0 0 78 [.ref 87, .int (nI xn), .int (nI 2)] [.int (nI (nbN xn)), .ref 87] _ _
          refine AX.iload_n (pc := 78) dX12_spot_78 rfl ?_
          refine AX.iconst (pc := 79) (v := nI 2) dX12_spot_79 (by decide) ?_
          refine AX.icmp_neN (pc := 80) (tgt := 87) dX12_spot_80 (by decide) (by decide) (by decide) (fun q => absurd q (by decide)) (fun hc80 => ?_)
          refine AX.iconst (pc := 83) (v := nI 1) dX12_spot_83 (by decide) ?_
          refine AX.goto (pc := 84) (tgt := 89) dX12_spot_84 (by decide) ?_
          refine AX.callV (pc := 89) (M2 := M_X12_besides) (As := [.int (nI (nbN xn)), .int (nI 1)]) (rest := []) (c_mBesides w h c.hn hO c.rg hnb (by decide)) xc_X12_spot__X12_besides gX12_spot_X12_besides (ci := 11) rfl (lt_k c.hn (by omega)) hO rfl (Nat.le_of_ble_eq_true rfl) dX12_spot_89 ?_
          rintro _ h9 ⟨rfl, e9⟩
          have e9 := e9.symm
          subst e9
          show AX w M_X12_spot 0 0 92 [.ref 87, .int (nI xn), .int (nI 2)] [.int (nI (bsN (nbN xn) 1))] _ _
          refine AX.iret (pc := 92) dX12_spot_92 rfl rfl (by decide) (by decide) ?_
          exact ⟨by unfold aSpot; rw [if_pos h_x, if_pos h_k, nI_nat (show xn < 2147483648 by omega)]; try rfl, rfl⟩
        · refine AX.iconst (pc := 69) (v := nI 0) dX12_spot_69 (by decide) ?_
          refine AX.goto (pc := 70) (tgt := 92) dX12_spot_70 (by decide) ?_
          refine AX.iret (pc := 92) dX12_spot_92 rfl rfl (by decide) (by decide) ?_
          exact ⟨by unfold aSpot; rw [if_pos h_x, if_pos h_k, nI_nat (show xn < 2147483648 by omega)]; show _ = some (Value.int (nI (bsN (nbN xn) 1))); rw [hc66]; rfl, rfl⟩
      · refine CA.of (by decide) rfl (fun _ => Nat.le_of_ble_eq_true rfl) ?_
        show AX w M_X12_spot 0 0 0 [.ref 87, .int (nI xn), .int (nI 3)] [] h _
        refine AX.iload_n (pc := 0) dX12_spot_0 rfl ?_
        refine AX.i2l (pc := 1) dX12_spot_1 ?_
        refine AX.lconst (pc := 2) (v := 0) dX12_spot_2 (by decide) ?_
        refine AX.ldc2 (pc := 3) (v := 62) dX12_spot_3 cX12_spot_112 ?_
        refine AX.callS (pc := 6) (M2 := M_X12_in) (As := [.long ((nI xn).toInt64), .long 0, .long 62]) (rest := []) (c_in w h ((nI xn).toInt64) (0) (62)) xc_X12_spot__X12_in gX12_spot_X12_in rfl (Nat.le_of_ble_eq_true rfl) dX12_spot_6 ?_
        rintro _ h9 ⟨rfl, e9⟩
        have e9 := e9.symm
        subst e9
        rw [decide_eq_true ((in_iff (by decide) (by decide)).mpr h_x)]
        show AX w M_X12_spot 0 0 9 [.ref 87, .int (nI xn), .int (nI 3)] [.int (bI true)] _ _
        refine AX.if_eqB (pc := 9) (tgt := 24) dX12_spot_9 (by decide) (fun q => absurd q (by decide)) (fun hc9 => ?_)
        refine AX.iload_n (pc := 12) dX12_spot_12 rfl ?_
        refine AX.i2l (pc := 13) dX12_spot_13 ?_
        refine AX.lconst (pc := 14) (v := 0) dX12_spot_14 (by decide) ?_
        refine AX.ldc2 (pc := 15) (v := 3) dX12_spot_15 cX12_spot_114 ?_
        refine AX.callS (pc := 18) (M2 := M_X12_in) (As := [.long ((nI 3).toInt64), .long 0, .long 3]) (rest := []) (c_in w h ((nI 3).toInt64) (0) (3)) xc_X12_spot__X12_in gX12_spot_X12_in rfl (Nat.le_of_ble_eq_true rfl) dX12_spot_18 ?_
        rintro _ h9 ⟨rfl, e9⟩
        have e9 := e9.symm
        subst e9
        rw [decide_eq_true ((in_iff (by decide) (by decide)).mpr h_k)]
        show AX w M_X12_spot 0 0 21 [.ref 87, .int (nI xn), .int (nI 3)] [.int (bI true)] _ _
        refine AX.if_neB (pc := 21) (tgt := 26) dX12_spot_21 (by decide) (fun hc21 => ?_) (fun q => absurd q (by decide))
        refine AX.iload_n (pc := 26) dX12_spot_26 rfl ?_
        refine AX.lookup (pc := 27) (off := 35) (tgt := 62) dX12_spot_27 (by decide) (by decide) (by decide) ?_
        refine AX.iload_n (pc := 62) dX12_spot_62 rfl ?_
        refine AX.callS (pc := 63) (M2 := M_X12_numberOf) (As := [.int (nI xn)]) (rest := []) (c_mNumber w h xn (by omega)) xc_X12_spot__X12_numberOf gX12_spot_X12_numberOf rfl (Nat.le_of_ble_eq_true rfl) dX12_spot_63 ?_
        rintro _ h9 ⟨rfl, e9⟩
        have e9 := e9.symm
        subst e9
        show AX w M_X12_spot 0 0 66 [.ref 87, .int (nI xn), .int (nI 3)] [.int (nI (nbN xn))] _ _
        refine AX.if_neN (pc := 66) (tgt := 73) dX12_spot_66 (by decide) (by omega) (fun hc66 => ?_) (fun hc66 => ?_)
        · refine AX.aload_n (pc := 73) dX12_spot_73 rfl ?_
          refine AX.iload_n (pc := 74) dX12_spot_74 rfl ?_
          refine AX.callS (pc := 75) (M2 := M_X12_numberOf) (As := [.int (nI xn)]) (rest := [.ref 87]) (c_mNumber w h xn (by omega)) xc_X12_spot__X12_numberOf gX12_spot_X12_numberOf rfl (Nat.le_of_ble_eq_true rfl) dX12_spot_75 ?_
          rintro _ h9 ⟨rfl, e9⟩
          have e9 := e9.symm
          subst e9
          show AX w M_X12_spot 0 0 78 [.ref 87, .int (nI xn), .int (nI 3)] [.int (nI (nbN xn)), .ref 87] _ _
          refine AX.iload_n (pc := 78) dX12_spot_78 rfl ?_
          refine AX.iconst (pc := 79) (v := nI 2) dX12_spot_79 (by decide) ?_
          refine AX.icmp_neN (pc := 80) (tgt := 87) dX12_spot_80 (by decide) (by decide) (by decide) (fun hc80 => ?_) (fun q => absurd q (by decide))
          refine AX.bipush (pc := 87) (v := nI 19) dX12_spot_87 (by decide) ?_
          refine AX.callV (pc := 89) (M2 := M_X12_besides) (As := [.int (nI (nbN xn)), .int (nI 19)]) (rest := []) (c_mBesides w h c.hn hO c.rg hnb (by decide)) xc_X12_spot__X12_besides gX12_spot_X12_besides (ci := 11) rfl (lt_k c.hn (by omega)) hO rfl (Nat.le_of_ble_eq_true rfl) dX12_spot_89 ?_
          rintro _ h9 ⟨rfl, e9⟩
          have e9 := e9.symm
          subst e9
          show AX w M_X12_spot 0 0 92 [.ref 87, .int (nI xn), .int (nI 3)] [.int (nI (bsN (nbN xn) 19))] _ _
          refine AX.iret (pc := 92) dX12_spot_92 rfl rfl (by decide) (by decide) ?_
          exact ⟨by unfold aSpot; rw [if_pos h_x, if_pos h_k, nI_nat (show xn < 2147483648 by omega)]; try rfl, rfl⟩
        · refine AX.iconst (pc := 69) (v := nI 0) dX12_spot_69 (by decide) ?_
          refine AX.goto (pc := 70) (tgt := 92) dX12_spot_70 (by decide) ?_
          refine AX.iret (pc := 92) dX12_spot_92 rfl rfl (by decide) (by decide) ?_
          exact ⟨by unfold aSpot; rw [if_pos h_x, if_pos h_k, nI_nat (show xn < 2147483648 by omega)]; show _ = some (Value.int (nI (bsN (nbN xn) 19))); rw [hc66]; rfl, rfl⟩
    · refine CA.of (by decide) rfl (fun _ => Nat.le_of_ble_eq_true rfl) ?_
      show AX w M_X12_spot 0 0 0 [.ref 87, .int (nI xn), .int k] [] h _
      refine AX.iload_n (pc := 0) dX12_spot_0 rfl ?_
      refine AX.i2l (pc := 1) dX12_spot_1 ?_
      refine AX.lconst (pc := 2) (v := 0) dX12_spot_2 (by decide) ?_
      refine AX.ldc2 (pc := 3) (v := 62) dX12_spot_3 cX12_spot_112 ?_
      refine AX.callS (pc := 6) (M2 := M_X12_in) (As := [.long ((nI xn).toInt64), .long 0, .long 62]) (rest := []) (c_in w h ((nI xn).toInt64) (0) (62)) xc_X12_spot__X12_in gX12_spot_X12_in rfl (Nat.le_of_ble_eq_true rfl) dX12_spot_6 ?_
      rintro _ h9 ⟨rfl, e9⟩
      have e9 := e9.symm
      subst e9
      rw [decide_eq_true ((in_iff (by decide) (by decide)).mpr h_x)]
      show AX w M_X12_spot 0 0 9 [.ref 87, .int (nI xn), .int k] [.int (bI true)] _ _
      refine AX.if_eqB (pc := 9) (tgt := 24) dX12_spot_9 (by decide) (fun q => absurd q (by decide)) (fun hc9 => ?_)
      refine AX.iload_n (pc := 12) dX12_spot_12 rfl ?_
      refine AX.i2l (pc := 13) dX12_spot_13 ?_
      refine AX.lconst (pc := 14) (v := 0) dX12_spot_14 (by decide) ?_
      refine AX.ldc2 (pc := 15) (v := 3) dX12_spot_15 cX12_spot_114 ?_
      refine AX.callS (pc := 18) (M2 := M_X12_in) (As := [.long k.toInt64, .long 0, .long 3]) (rest := []) (c_in w h (k.toInt64) (0) (3)) xc_X12_spot__X12_in gX12_spot_X12_in rfl (Nat.le_of_ble_eq_true rfl) dX12_spot_18 ?_
      rintro _ h9 ⟨rfl, e9⟩
      have e9 := e9.symm
      subst e9
      rw [decide_eq_false (fun q => h_k ((in_iff (by decide) (by decide)).mp q))]
      show AX w M_X12_spot 0 0 21 [.ref 87, .int (nI xn), .int k] [.int (bI false)] _ _
      refine AX.if_neB (pc := 21) (tgt := 26) dX12_spot_21 (by decide) (fun q => absurd q (by decide)) (fun hc21 => ?_)
      refine AX.iconst (pc := 24) (v := (-1)) dX12_spot_24 (by decide) ?_
      refine AX.iret (pc := 25) dX12_spot_25 rfl rfl (by decide) (by decide) ?_
      exact ⟨by unfold aSpot; rw [if_pos h_x, if_neg h_k]; try rfl, rfl⟩
  · refine CA.of (by decide) rfl (fun _ => Nat.le_of_ble_eq_true rfl) ?_
    show AX w M_X12_spot 0 0 0 [.ref 87, .int x, .int k] [] h _
    refine AX.iload_n (pc := 0) dX12_spot_0 rfl ?_
    refine AX.i2l (pc := 1) dX12_spot_1 ?_
    refine AX.lconst (pc := 2) (v := 0) dX12_spot_2 (by decide) ?_
    refine AX.ldc2 (pc := 3) (v := 62) dX12_spot_3 cX12_spot_112 ?_
    refine AX.callS (pc := 6) (M2 := M_X12_in) (As := [.long x.toInt64, .long 0, .long 62]) (rest := []) (c_in w h (x.toInt64) (0) (62)) xc_X12_spot__X12_in gX12_spot_X12_in rfl (Nat.le_of_ble_eq_true rfl) dX12_spot_6 ?_
    rintro _ h9 ⟨rfl, e9⟩
    have e9 := e9.symm
    subst e9
    rw [decide_eq_false (fun q => h_x ((in_iff (by decide) (by decide)).mp q))]
    show AX w M_X12_spot 0 0 9 [.ref 87, .int x, .int k] [.int (bI false)] _ _
    refine AX.if_eqB (pc := 9) (tgt := 24) dX12_spot_9 (by decide) (fun hc9 => ?_) (fun q => absurd q (by decide))
    refine AX.iconst (pc := 24) (v := (-1)) dX12_spot_24 (by decide) ?_
    refine AX.iret (pc := 25) dX12_spot_25 rfl rfl (by decide) (by decide) ?_
    exact ⟨by unfold aSpot; rw [if_neg h_x]; try rfl, rfl⟩
theorem c_mUnder2 (w : XW) (h : XH) {s : SS} {n o : Nat} {a b : Nat × Nat} (c : MS h s) (l : LV (sq s) n o a b) (x : Int32) (k : Int32) : CA w M_X12_under [.ref 87, .int x, .int k] h (fun v' h'' => v' = some (.int (aUnder x k)) ∧ h'' = h) := by
  obtain ⟨v, hO, hv⟩ := id c.ob
  obtain ⟨f89, e89, q89⟩ := id c.nw
  by_cases h_x : inR 0 62 x
  · obtain ⟨xn, rfl, l_x, u_x⟩ := inR_nat (by decide) h_x
    by_cases h_k : inR 0 5 k
    · obtain ⟨kn, rfl, l_k, u_k⟩ := inR_nat (by decide) h_k
      refine CA.of (by decide) rfl (fun _ => Nat.le_of_ble_eq_true rfl) ?_
      show AX w M_X12_under 0 0 0 [.ref 87, .int (nI xn), .int (nI kn)] [] h _
      refine AX.iload_n (pc := 0) dX12_under_0 rfl ?_
      refine AX.i2l (pc := 1) dX12_under_1 ?_
      refine AX.lconst (pc := 2) (v := 0) dX12_under_2 (by decide) ?_
      refine AX.ldc2 (pc := 3) (v := 62) dX12_under_3 cX12_under_112 ?_
      refine AX.callS (pc := 6) (M2 := M_X12_in) (As := [.long ((nI xn).toInt64), .long 0, .long 62]) (rest := []) (c_in w h ((nI xn).toInt64) (0) (62)) xc_X12_under__X12_in gX12_under_X12_in rfl (Nat.le_of_ble_eq_true rfl) dX12_under_6 ?_
      rintro _ h9 ⟨rfl, e9⟩
      have e9 := e9.symm
      subst e9
      rw [decide_eq_true ((in_iff (by decide) (by decide)).mpr h_x)]
      show AX w M_X12_under 0 0 9 [.ref 87, .int (nI xn), .int (nI kn)] [.int (bI true)] _ _
      refine AX.if_eqB (pc := 9) (tgt := 24) dX12_under_9 (by decide) (fun q => absurd q (by decide)) (fun hc9 => ?_)
      refine AX.iload_n (pc := 12) dX12_under_12 rfl ?_
      refine AX.i2l (pc := 13) dX12_under_13 ?_
      refine AX.lconst (pc := 14) (v := 0) dX12_under_14 (by decide) ?_
      refine AX.ldc2 (pc := 15) (v := 5) dX12_under_15 cX12_under_126 ?_
      refine AX.callS (pc := 18) (M2 := M_X12_in) (As := [.long ((nI kn).toInt64), .long 0, .long 5]) (rest := []) (c_in w h ((nI kn).toInt64) (0) (5)) xc_X12_under__X12_in gX12_under_X12_in rfl (Nat.le_of_ble_eq_true rfl) dX12_under_18 ?_
      rintro _ h9 ⟨rfl, e9⟩
      have e9 := e9.symm
      subst e9
      rw [decide_eq_true ((in_iff (by decide) (by decide)).mpr h_k)]
      show AX w M_X12_under 0 0 21 [.ref 87, .int (nI xn), .int (nI kn)] [.int (bI true)] _ _
      refine AX.if_neB (pc := 21) (tgt := 26) dX12_under_21 (by decide) (fun hc21 => ?_) (fun q => absurd q (by decide))
      refine AX.iload_n (pc := 26) dX12_under_26 rfl ?_
      refine AX.iload_n (pc := 27) dX12_under_27 rfl ?_
      refine AX.callS (pc := 28) (M2 := M_X12_isUnder) (As := [.int (nI xn), .int (nI kn)]) (rest := []) (c_mUnder w h xn kn (by omega) (by omega)) xc_X12_under__X12_isUnder gX12_under_X12_isUnder rfl (Nat.le_of_ble_eq_true rfl) dX12_under_28 ?_
      rintro _ h9 ⟨rfl, e9⟩
      have e9 := e9.symm
      subst e9
      show AX w M_X12_under 0 0 31 [.ref 87, .int (nI xn), .int (nI kn)] [.int (bI (unN xn kn))] _ _
      refine AX.if_eqB (pc := 31) (tgt := 38) dX12_under_31 (by decide) (fun hc31 => ?_) (fun hc31 => ?_)
      · refine AX.iconst (pc := 38) (v := nI 0) dX12_under_38 (by decide) ?_
        refine AX.iret (pc := 39) dX12_under_39 rfl rfl (by decide) (by decide) ?_
        exact ⟨by unfold aUnder; rw [if_pos h_x, if_pos h_k, nI_nat (show xn < 2147483648 by omega), nI_nat (show kn < 2147483648 by omega), hc31]; try rfl, rfl⟩
      · refine AX.iconst (pc := 34) (v := nI 1) dX12_under_34 (by decide) ?_
        refine AX.goto (pc := 35) (tgt := 39) dX12_under_35 (by decide) ?_
        refine AX.iret (pc := 39) dX12_under_39 rfl rfl (by decide) (by decide) ?_
        exact ⟨by unfold aUnder; rw [if_pos h_x, if_pos h_k, nI_nat (show xn < 2147483648 by omega), nI_nat (show kn < 2147483648 by omega), hc31]; try rfl, rfl⟩
    · refine CA.of (by decide) rfl (fun _ => Nat.le_of_ble_eq_true rfl) ?_
      show AX w M_X12_under 0 0 0 [.ref 87, .int (nI xn), .int k] [] h _
      refine AX.iload_n (pc := 0) dX12_under_0 rfl ?_
      refine AX.i2l (pc := 1) dX12_under_1 ?_
      refine AX.lconst (pc := 2) (v := 0) dX12_under_2 (by decide) ?_
      refine AX.ldc2 (pc := 3) (v := 62) dX12_under_3 cX12_under_112 ?_
      refine AX.callS (pc := 6) (M2 := M_X12_in) (As := [.long ((nI xn).toInt64), .long 0, .long 62]) (rest := []) (c_in w h ((nI xn).toInt64) (0) (62)) xc_X12_under__X12_in gX12_under_X12_in rfl (Nat.le_of_ble_eq_true rfl) dX12_under_6 ?_
      rintro _ h9 ⟨rfl, e9⟩
      have e9 := e9.symm
      subst e9
      rw [decide_eq_true ((in_iff (by decide) (by decide)).mpr h_x)]
      show AX w M_X12_under 0 0 9 [.ref 87, .int (nI xn), .int k] [.int (bI true)] _ _
      refine AX.if_eqB (pc := 9) (tgt := 24) dX12_under_9 (by decide) (fun q => absurd q (by decide)) (fun hc9 => ?_)
      refine AX.iload_n (pc := 12) dX12_under_12 rfl ?_
      refine AX.i2l (pc := 13) dX12_under_13 ?_
      refine AX.lconst (pc := 14) (v := 0) dX12_under_14 (by decide) ?_
      refine AX.ldc2 (pc := 15) (v := 5) dX12_under_15 cX12_under_126 ?_
      refine AX.callS (pc := 18) (M2 := M_X12_in) (As := [.long k.toInt64, .long 0, .long 5]) (rest := []) (c_in w h (k.toInt64) (0) (5)) xc_X12_under__X12_in gX12_under_X12_in rfl (Nat.le_of_ble_eq_true rfl) dX12_under_18 ?_
      rintro _ h9 ⟨rfl, e9⟩
      have e9 := e9.symm
      subst e9
      rw [decide_eq_false (fun q => h_k ((in_iff (by decide) (by decide)).mp q))]
      show AX w M_X12_under 0 0 21 [.ref 87, .int (nI xn), .int k] [.int (bI false)] _ _
      refine AX.if_neB (pc := 21) (tgt := 26) dX12_under_21 (by decide) (fun q => absurd q (by decide)) (fun hc21 => ?_)
      refine AX.iconst (pc := 24) (v := (-1)) dX12_under_24 (by decide) ?_
      refine AX.iret (pc := 25) dX12_under_25 rfl rfl (by decide) (by decide) ?_
      exact ⟨by unfold aUnder; rw [if_pos h_x, if_neg h_k]; try rfl, rfl⟩
  · refine CA.of (by decide) rfl (fun _ => Nat.le_of_ble_eq_true rfl) ?_
    show AX w M_X12_under 0 0 0 [.ref 87, .int x, .int k] [] h _
    refine AX.iload_n (pc := 0) dX12_under_0 rfl ?_
    refine AX.i2l (pc := 1) dX12_under_1 ?_
    refine AX.lconst (pc := 2) (v := 0) dX12_under_2 (by decide) ?_
    refine AX.ldc2 (pc := 3) (v := 62) dX12_under_3 cX12_under_112 ?_
    refine AX.callS (pc := 6) (M2 := M_X12_in) (As := [.long x.toInt64, .long 0, .long 62]) (rest := []) (c_in w h (x.toInt64) (0) (62)) xc_X12_under__X12_in gX12_under_X12_in rfl (Nat.le_of_ble_eq_true rfl) dX12_under_6 ?_
    rintro _ h9 ⟨rfl, e9⟩
    have e9 := e9.symm
    subst e9
    rw [decide_eq_false (fun q => h_x ((in_iff (by decide) (by decide)).mp q))]
    show AX w M_X12_under 0 0 9 [.ref 87, .int x, .int k] [.int (bI false)] _ _
    refine AX.if_eqB (pc := 9) (tgt := 24) dX12_under_9 (by decide) (fun hc9 => ?_) (fun q => absurd q (by decide))
    refine AX.iconst (pc := 24) (v := (-1)) dX12_under_24 (by decide) ?_
    refine AX.iret (pc := 25) dX12_under_25 rfl rfl (by decide) (by decide) ?_
    exact ⟨by unfold aUnder; rw [if_neg h_x]; try rfl, rfl⟩
theorem c_mHand (w : XW) (h : XH) {s : SS} {n o : Nat} {a b : Nat × Nat} (c : MS h s) (l : LV (sq s) n o a b) (x : Int32) (k : Int32) (v : Int32) : CA w M_X12_hand [.ref 87, .int x, .int k, .int v] h (fun v' h'' => v' = some (.int (aHand (sq s) x k v)) ∧ Same mdS h h'' ∧ MS h'' (wq s (nHand (sq s) x k v))) := by
  obtain ⟨vv, hO, hv⟩ := id c.ob
  obtain ⟨f89, e89, q89⟩ := id c.nw
  by_cases h_x : inR 0 1 x
  · obtain ⟨xn, rfl, l_x, u_x⟩ := inR_nat (by decide) h_x
    by_cases h_k : inR 0 1 k
    · obtain ⟨kn, rfl, l_k, u_k⟩ := inR_nat (by decide) h_k
      by_cases h_v : inR 0 200 v
      · obtain ⟨vn, rfl, l_v, u_v⟩ := inR_nat (by decide) h_v
        have en : nHand (sq s) (nI xn) (nI kn) (nI vn) = upd (sq s) (2 * kn + xn) (nI vn) := by unfold nHand; rw [if_pos h_x, if_pos h_k, if_pos h_v, nI_nat (show xn < 2147483648 by omega), nI_nat (show kn < 2147483648 by omega)]
        rw [en]
        refine CA.of (by decide) rfl (fun _ => Nat.le_of_ble_eq_true rfl) ?_
        show AX w M_X12_hand 0 0 0 [.ref 87, .int (nI xn), .int (nI kn), .int (nI vn), .null] [] h _
        refine AX.iload_n (pc := 0) dX12_hand_0 rfl ?_
        refine AX.callS (pc := 1) (M2 := M_X12_isPlayer) (As := [.int (nI xn)]) (rest := []) (c_mPlayer w h (nI xn)) xc_X12_hand__X12_isPlayer gX12_hand_X12_isPlayer rfl (Nat.le_of_ble_eq_true rfl) dX12_hand_1 ?_
        rintro _ h9 ⟨rfl, e9⟩
        have e9 := e9.symm
        subst e9
        rw [decide_eq_true h_x]
        show AX w M_X12_hand 0 0 4 [.ref 87, .int (nI xn), .int (nI kn), .int (nI vn), .null] [.int (bI true)] _ _
        refine AX.if_eqB (pc := 4) (tgt := 17) dX12_hand_4 (by decide) (fun q => absurd q (by decide)) (fun hc4 => ?_)
        refine AX.iload_n (pc := 7) dX12_hand_7 rfl ?_
        refine AX.i2l (pc := 8) dX12_hand_8 ?_
        refine AX.lconst (pc := 9) (v := 0) dX12_hand_9 (by decide) ?_
        refine AX.lconst (pc := 10) (v := 1) dX12_hand_10 (by decide) ?_
        refine AX.callS (pc := 11) (M2 := M_X12_in) (As := [.long ((nI kn).toInt64), .long 0, .long 1]) (rest := []) (c_in w h ((nI kn).toInt64) (0) (1)) xc_X12_hand__X12_in gX12_hand_X12_in rfl (Nat.le_of_ble_eq_true rfl) dX12_hand_11 ?_
        rintro _ h9 ⟨rfl, e9⟩
        have e9 := e9.symm
        subst e9
        rw [decide_eq_true ((in_iff (by decide) (by decide)).mpr h_k)]
        show AX w M_X12_hand 0 0 14 [.ref 87, .int (nI xn), .int (nI kn), .int (nI vn), .null] [.int (bI true)] _ _
        refine AX.if_neB (pc := 14) (tgt := 19) dX12_hand_14 (by decide) (fun hc14 => ?_) (fun q => absurd q (by decide))
        refine AX.iload_n (pc := 19) dX12_hand_19 rfl ?_
        refine AX.i2l (pc := 20) dX12_hand_20 ?_
        refine AX.lconst (pc := 21) (v := 0) dX12_hand_21 (by decide) ?_
        refine AX.ldc2 (pc := 22) (v := 200) dX12_hand_22 cX12_hand_144 ?_
        refine AX.callS (pc := 25) (M2 := M_X12_in) (As := [.long ((nI vn).toInt64), .long 0, .long 200]) (rest := []) (c_in w h ((nI vn).toInt64) (0) (200)) xc_X12_hand__X12_in gX12_hand_X12_in rfl (Nat.le_of_ble_eq_true rfl) dX12_hand_25 ?_
        rintro _ h9 ⟨rfl, e9⟩
        have e9 := e9.symm
        subst e9
        rw [decide_eq_true ((in_iff (by decide) (by decide)).mpr h_v)]
        show AX w M_X12_hand 0 0 28 [.ref 87, .int (nI xn), .int (nI kn), .int (nI vn), .null] [.int (bI true)] _ _
        refine AX.if_neB (pc := 28) (tgt := 34) dX12_hand_28 (by decide) (fun hc28 => ?_) (fun q => absurd q (by decide))
        refine AX.aload_n (pc := 34) dX12_hand_34 rfl ?_
        refine AX.getf (pc := 35) fX12_hand_13 (lt_k c.hn (by omega)) hO rfl dX12_hand_35 ?_
        refine AX.iconst (pc := 38) (v := nI 2) dX12_hand_38 (by decide) ?_
        refine AX.iload_n (pc := 39) dX12_hand_39 rfl ?_
        refine AX.imulN (pc := 40) (c := 2 * kn) dX12_hand_40 rfl ?_
        refine AX.iload_n (pc := 41) dX12_hand_41 rfl ?_
        refine AX.iaddN (pc := 42) (c := 2 * kn + xn) dX12_hand_42 rfl ?_
        refine AX.ialdN (pc := 43) (i := 2 * kn + xn) (v := (sq s (2 * kn + xn))) (lt_k c.hn (by omega)) e89 (by decide) (by omega) (q89 _ (by omega)) dX12_hand_43 ?_
        refine AX.istore (pc := 44) (L' := [.ref 87, .int (nI xn), .int (nI kn), .int (nI vn), .int (sq s (2 * kn + xn))]) dX12_hand_44 (by decide) rfl ?_
        refine AX.aload_n (pc := 46) dX12_hand_46 rfl ?_
        refine AX.getf (pc := 47) fX12_hand_13 (lt_k c.hn (by omega)) hO rfl dX12_hand_47 ?_
        refine AX.iconst (pc := 50) (v := nI 2) dX12_hand_50 (by decide) ?_
        refine AX.iload_n (pc := 51) dX12_hand_51 rfl ?_
        refine AX.imulN (pc := 52) (c := 2 * kn) dX12_hand_52 rfl ?_
        refine AX.iload_n (pc := 53) dX12_hand_53 rfl ?_
        refine AX.iaddN (pc := 54) (c := 2 * kn + xn) dX12_hand_54 rfl ?_
        refine AX.iload_n (pc := 55) dX12_hand_55 rfl ?_
        refine AX.iastN (pc := 56) (i := 2 * kn + xn) (g := upd f89 (2 * kn + xn) (nI vn)) (lt_k c.hn (by omega)) e89 (by decide) (by omega) rfl dX12_hand_56 ?_
        refine AX.iload (pc := 57) dX12_hand_57 rfl ?_
        refine AX.iret (pc := 59) dX12_hand_59 rfl rfl (by decide) (by decide) ?_
        have sx : Same [89] h (xset h 89 (.inl (0, 19, .inl (upd f89 (2 * kn + xn) (nI vn))))) := Same.rest
        exact ⟨by unfold aHand; rw [if_pos h_x, if_pos h_k, if_pos h_v, nI_nat (show xn < 2147483648 by omega), nI_nat (show kn < 2147483648 by omega)], mdS_lt sx (by decide), c.now sx ⟨_, xset_same _ _ _, upd_agree q89⟩⟩
      · refine CA.of (by decide) rfl (fun _ => Nat.le_of_ble_eq_true rfl) ?_
        show AX w M_X12_hand 0 0 0 [.ref 87, .int (nI xn), .int (nI kn), .int v, .null] [] h _
        refine AX.iload_n (pc := 0) dX12_hand_0 rfl ?_
        refine AX.callS (pc := 1) (M2 := M_X12_isPlayer) (As := [.int (nI xn)]) (rest := []) (c_mPlayer w h (nI xn)) xc_X12_hand__X12_isPlayer gX12_hand_X12_isPlayer rfl (Nat.le_of_ble_eq_true rfl) dX12_hand_1 ?_
        rintro _ h9 ⟨rfl, e9⟩
        have e9 := e9.symm
        subst e9
        rw [decide_eq_true h_x]
        show AX w M_X12_hand 0 0 4 [.ref 87, .int (nI xn), .int (nI kn), .int v, .null] [.int (bI true)] _ _
        refine AX.if_eqB (pc := 4) (tgt := 17) dX12_hand_4 (by decide) (fun q => absurd q (by decide)) (fun hc4 => ?_)
        refine AX.iload_n (pc := 7) dX12_hand_7 rfl ?_
        refine AX.i2l (pc := 8) dX12_hand_8 ?_
        refine AX.lconst (pc := 9) (v := 0) dX12_hand_9 (by decide) ?_
        refine AX.lconst (pc := 10) (v := 1) dX12_hand_10 (by decide) ?_
        refine AX.callS (pc := 11) (M2 := M_X12_in) (As := [.long ((nI kn).toInt64), .long 0, .long 1]) (rest := []) (c_in w h ((nI kn).toInt64) (0) (1)) xc_X12_hand__X12_in gX12_hand_X12_in rfl (Nat.le_of_ble_eq_true rfl) dX12_hand_11 ?_
        rintro _ h9 ⟨rfl, e9⟩
        have e9 := e9.symm
        subst e9
        rw [decide_eq_true ((in_iff (by decide) (by decide)).mpr h_k)]
        show AX w M_X12_hand 0 0 14 [.ref 87, .int (nI xn), .int (nI kn), .int v, .null] [.int (bI true)] _ _
        refine AX.if_neB (pc := 14) (tgt := 19) dX12_hand_14 (by decide) (fun hc14 => ?_) (fun q => absurd q (by decide))
        refine AX.iload_n (pc := 19) dX12_hand_19 rfl ?_
        refine AX.i2l (pc := 20) dX12_hand_20 ?_
        refine AX.lconst (pc := 21) (v := 0) dX12_hand_21 (by decide) ?_
        refine AX.ldc2 (pc := 22) (v := 200) dX12_hand_22 cX12_hand_144 ?_
        refine AX.callS (pc := 25) (M2 := M_X12_in) (As := [.long v.toInt64, .long 0, .long 200]) (rest := []) (c_in w h (v.toInt64) (0) (200)) xc_X12_hand__X12_in gX12_hand_X12_in rfl (Nat.le_of_ble_eq_true rfl) dX12_hand_25 ?_
        rintro _ h9 ⟨rfl, e9⟩
        have e9 := e9.symm
        subst e9
        rw [decide_eq_false (fun q => h_v ((in_iff (by decide) (by decide)).mp q))]
        show AX w M_X12_hand 0 0 28 [.ref 87, .int (nI xn), .int (nI kn), .int v, .null] [.int (bI false)] _ _
        refine AX.if_neB (pc := 28) (tgt := 34) dX12_hand_28 (by decide) (fun q => absurd q (by decide)) (fun hc28 => ?_)
        refine AX.bipush (pc := 31) (v := (-2)) dX12_hand_31 (by decide) ?_
        refine AX.iret (pc := 33) dX12_hand_33 rfl rfl (by decide) (by decide) ?_
        have en : nHand (sq s) (nI xn) (nI kn) v = sq s := by unfold nHand; rw [if_pos h_x, if_pos h_k, if_neg h_v]
        rw [en]
        exact ⟨by unfold aHand; rw [if_pos h_x, if_pos h_k, if_neg h_v]; try rfl, Same.rf, c⟩
    · refine CA.of (by decide) rfl (fun _ => Nat.le_of_ble_eq_true rfl) ?_
      show AX w M_X12_hand 0 0 0 [.ref 87, .int (nI xn), .int k, .int v, .null] [] h _
      refine AX.iload_n (pc := 0) dX12_hand_0 rfl ?_
      refine AX.callS (pc := 1) (M2 := M_X12_isPlayer) (As := [.int (nI xn)]) (rest := []) (c_mPlayer w h (nI xn)) xc_X12_hand__X12_isPlayer gX12_hand_X12_isPlayer rfl (Nat.le_of_ble_eq_true rfl) dX12_hand_1 ?_
      rintro _ h9 ⟨rfl, e9⟩
      have e9 := e9.symm
      subst e9
      rw [decide_eq_true h_x]
      show AX w M_X12_hand 0 0 4 [.ref 87, .int (nI xn), .int k, .int v, .null] [.int (bI true)] _ _
      refine AX.if_eqB (pc := 4) (tgt := 17) dX12_hand_4 (by decide) (fun q => absurd q (by decide)) (fun hc4 => ?_)
      refine AX.iload_n (pc := 7) dX12_hand_7 rfl ?_
      refine AX.i2l (pc := 8) dX12_hand_8 ?_
      refine AX.lconst (pc := 9) (v := 0) dX12_hand_9 (by decide) ?_
      refine AX.lconst (pc := 10) (v := 1) dX12_hand_10 (by decide) ?_
      refine AX.callS (pc := 11) (M2 := M_X12_in) (As := [.long k.toInt64, .long 0, .long 1]) (rest := []) (c_in w h (k.toInt64) (0) (1)) xc_X12_hand__X12_in gX12_hand_X12_in rfl (Nat.le_of_ble_eq_true rfl) dX12_hand_11 ?_
      rintro _ h9 ⟨rfl, e9⟩
      have e9 := e9.symm
      subst e9
      rw [decide_eq_false (fun q => h_k ((in_iff (by decide) (by decide)).mp q))]
      show AX w M_X12_hand 0 0 14 [.ref 87, .int (nI xn), .int k, .int v, .null] [.int (bI false)] _ _
      refine AX.if_neB (pc := 14) (tgt := 19) dX12_hand_14 (by decide) (fun q => absurd q (by decide)) (fun hc14 => ?_)
      refine AX.iconst (pc := 17) (v := (-1)) dX12_hand_17 (by decide) ?_
      refine AX.iret (pc := 18) dX12_hand_18 rfl rfl (by decide) (by decide) ?_
      have en : nHand (sq s) (nI xn) k v = sq s := by unfold nHand; rw [if_pos h_x, if_neg h_k]
      rw [en]
      exact ⟨by unfold aHand; rw [if_pos h_x, if_neg h_k]; try rfl, Same.rf, c⟩
  · refine CA.of (by decide) rfl (fun _ => Nat.le_of_ble_eq_true rfl) ?_
    show AX w M_X12_hand 0 0 0 [.ref 87, .int x, .int k, .int v, .null] [] h _
    refine AX.iload_n (pc := 0) dX12_hand_0 rfl ?_
    refine AX.callS (pc := 1) (M2 := M_X12_isPlayer) (As := [.int x]) (rest := []) (c_mPlayer w h x) xc_X12_hand__X12_isPlayer gX12_hand_X12_isPlayer rfl (Nat.le_of_ble_eq_true rfl) dX12_hand_1 ?_
    rintro _ h9 ⟨rfl, e9⟩
    have e9 := e9.symm
    subst e9
    rw [decide_eq_false h_x]
    show AX w M_X12_hand 0 0 4 [.ref 87, .int x, .int k, .int v, .null] [.int (bI false)] _ _
    refine AX.if_eqB (pc := 4) (tgt := 17) dX12_hand_4 (by decide) (fun hc4 => ?_) (fun q => absurd q (by decide))
    refine AX.iconst (pc := 17) (v := (-1)) dX12_hand_17 (by decide) ?_
    refine AX.iret (pc := 18) dX12_hand_18 rfl rfl (by decide) (by decide) ?_
    have en : nHand (sq s) x k v = sq s := by unfold nHand; rw [if_neg h_x]
    rw [en]
    exact ⟨by unfold aHand; rw [if_neg h_x]; try rfl, Same.rf, c⟩
theorem c_mFall (w : XW) (h : XH) {s : SS} {n o : Nat} {a b : Nat × Nat} (c : MS h s) (l : LV (sq s) n o a b) (x : Int32) (m : Int32) (i : Int32) (k : Int32) : CA w M_X12_fall [.ref 87, .int x, .int m, .int i, .int k] h (fun v' h'' => v' = some (.int (aFall a b x m i k)) ∧ Same mdS h h'' ∧ MS h'' s) := by
  obtain ⟨v, hO, hv⟩ := id c.ob
  obtain ⟨f89, e89, q89⟩ := id c.nw
  obtain ⟨⟨g91, e91⟩, ⟨g92, e92⟩, -⟩ := id c.fx
  by_cases h_x : inR 0 1 x
  · obtain ⟨xn, rfl, l_x, u_x⟩ := inR_nat (by decide) h_x
    by_cases h_m : inR 1 62 m
    · obtain ⟨mn, rfl, l_m, u_m⟩ := inR_nat (by decide) h_m
      obtain ⟨hs1, hr1, hs2, hr2⟩ := l.hq u_x
      have hc : 2 ≤ fC mn ∧ fC mn ≤ 5 := fC_in (by omega) (by omega)
      by_cases hi : i = -1
      · subst hi
        refine CA.of (by decide) rfl (fun _ => Nat.le_of_ble_eq_true rfl) ?_
        show AX w M_X12_fall 0 0 0 [.ref 87, .int (nI xn), .int (nI mn), .int (-1), .int k] [] h _
        refine AX.iload_n (pc := 0) dX12_fall_0 rfl ?_
        refine AX.callS (pc := 1) (M2 := M_X12_isPlayer) (As := [.int (nI xn)]) (rest := []) (c_mPlayer w h (nI xn)) xc_X12_fall__X12_isPlayer gX12_fall_X12_isPlayer rfl (Nat.le_of_ble_eq_true rfl) dX12_fall_1 ?_
        rintro _ h9 ⟨rfl, e9⟩
        have e9 := e9.symm
        subst e9
        rw [decide_eq_true h_x]
        show AX w M_X12_fall 0 0 4 [.ref 87, .int (nI xn), .int (nI mn), .int (-1), .int k] [.int (bI true)] _ _
        refine AX.if_eqB (pc := 4) (tgt := 19) dX12_fall_4 (by decide) (fun q => absurd q (by decide)) (fun hc4 => ?_)
        refine AX.iload_n (pc := 7) dX12_fall_7 rfl ?_
        refine AX.i2l (pc := 8) dX12_fall_8 ?_
        refine AX.lconst (pc := 9) (v := 1) dX12_fall_9 (by decide) ?_
        refine AX.ldc2 (pc := 10) (v := 62) dX12_fall_10 cX12_fall_112 ?_
        refine AX.callS (pc := 13) (M2 := M_X12_in) (As := [.long ((nI mn).toInt64), .long 1, .long 62]) (rest := []) (c_in w h ((nI mn).toInt64) (1) (62)) xc_X12_fall__X12_in gX12_fall_X12_in rfl (Nat.le_of_ble_eq_true rfl) dX12_fall_13 ?_
        rintro _ h9 ⟨rfl, e9⟩
        have e9 := e9.symm
        subst e9
        rw [decide_eq_true ((in_iff (by decide) (by decide)).mpr h_m)]
        show AX w M_X12_fall 0 0 16 [.ref 87, .int (nI xn), .int (nI mn), .int (-1), .int k] [.int (bI true)] _ _
        refine AX.if_neB (pc := 16) (tgt := 21) dX12_fall_16 (by decide) (fun hc16 => ?_) (fun q => absurd q (by decide))
        refine AX.aload_n (pc := 21) dX12_fall_21 rfl ?_
        refine AX.iload_n (pc := 22) dX12_fall_22 rfl ?_
        refine AX.iload_n (pc := 23) dX12_fall_23 rfl ?_
        refine AX.callV (pc := 24) (M2 := M_X12_layFalls) (As := [.int (nI xn), .int (nI mn)]) (rest := []) (c_layFalls w h c.hn hO c.nw c.rg e91 e92 u_x hs1 hr1 hs2 hr2 l_m u_m) xc_X12_fall__X12_layFalls gX12_fall_X12_layFalls (ci := 11) rfl (lt_k c.hn (by omega)) hO rfl (Nat.le_of_ble_eq_true rfl) dX12_fall_24 ?_
        rintro _ h1 ⟨rfl, s1, F1, O1⟩
        have c1 : MS h1 s := c.fall s1 (MS.obv hv 1 (by decide) O1) ⟨⟨_, F1.arr.choose_spec.choose_spec.1⟩, ⟨_, F1.arr.choose_spec.choose_spec.2⟩, c.fx.2.2.1.imp (fun _ z => s1.at (by simp) z), c.fx.2.2.2.1.imp (fun _ z => s1.at (by simp) z), c.fx.2.2.2.2.imp (fun _ z => s1.at (by simp) z)⟩
        obtain ⟨⟨f1, y91, q91⟩, ⟨f2, y92, q92⟩⟩ := id F1
        show AX w M_X12_fall 0 0 27 [.ref 87, .int (nI xn), .int (nI mn), .int (-1), .int k] [] _ _
        refine AX.iload_n (pc := 27) dX12_fall_27 rfl ?_
        refine AX.iconst (pc := 28) (v := (-1)) dX12_fall_28 (by decide) ?_
        refine AX.icmp_ne (pc := 29) (tgt := 37) dX12_fall_29 (by decide) (fun q => absurd rfl q) (fun hc29 => ?_)
        refine AX.aload_n (pc := 32) dX12_fall_32 rfl ?_
        refine AX.getf (pc := 33) fX12_fall_132 (lt_k (s1.le c.hn) (by omega)) O1 rfl dX12_fall_33 ?_
        refine AX.iret (pc := 36) dX12_fall_36 rfl rfl (by decide) (by decide) ?_
        exact ⟨by unfold aFall; rw [if_pos h_x, if_pos h_m, if_pos rfl, nI_nat (show mn < 2147483648 by omega)]; try rfl, mdS_lt s1 (by decide), c1⟩
      by_cases h_i : inR 0 (fC mn - 1) i
      · obtain ⟨in_, rfl, l_i, u_i⟩ := inR_nat (show fC mn - 1 < 2147483648 by omega) h_i
        by_cases h_k : inR 0 1 k
        · obtain ⟨kn, rfl, l_k, u_k⟩ := inR_nat (by decide) h_k
          rcases (show kn = 0 ∨ kn = 1 by omega) with rfl | rfl
          · refine CA.of (by decide) rfl (fun _ => Nat.le_of_ble_eq_true rfl) ?_
            show AX w M_X12_fall 0 0 0 [.ref 87, .int (nI xn), .int (nI mn), .int (nI in_), .int (nI 0)] [] h _
            refine AX.iload_n (pc := 0) dX12_fall_0 rfl ?_
            refine AX.callS (pc := 1) (M2 := M_X12_isPlayer) (As := [.int (nI xn)]) (rest := []) (c_mPlayer w h (nI xn)) xc_X12_fall__X12_isPlayer gX12_fall_X12_isPlayer rfl (Nat.le_of_ble_eq_true rfl) dX12_fall_1 ?_
            rintro _ h9 ⟨rfl, e9⟩
            have e9 := e9.symm
            subst e9
            rw [decide_eq_true h_x]
            show AX w M_X12_fall 0 0 4 [.ref 87, .int (nI xn), .int (nI mn), .int (nI in_), .int (nI 0)] [.int (bI true)] _ _
            refine AX.if_eqB (pc := 4) (tgt := 19) dX12_fall_4 (by decide) (fun q => absurd q (by decide)) (fun hc4 => ?_)
            refine AX.iload_n (pc := 7) dX12_fall_7 rfl ?_
            refine AX.i2l (pc := 8) dX12_fall_8 ?_
            refine AX.lconst (pc := 9) (v := 1) dX12_fall_9 (by decide) ?_
            refine AX.ldc2 (pc := 10) (v := 62) dX12_fall_10 cX12_fall_112 ?_
            refine AX.callS (pc := 13) (M2 := M_X12_in) (As := [.long ((nI mn).toInt64), .long 1, .long 62]) (rest := []) (c_in w h ((nI mn).toInt64) (1) (62)) xc_X12_fall__X12_in gX12_fall_X12_in rfl (Nat.le_of_ble_eq_true rfl) dX12_fall_13 ?_
            rintro _ h9 ⟨rfl, e9⟩
            have e9 := e9.symm
            subst e9
            rw [decide_eq_true ((in_iff (by decide) (by decide)).mpr h_m)]
            show AX w M_X12_fall 0 0 16 [.ref 87, .int (nI xn), .int (nI mn), .int (nI in_), .int (nI 0)] [.int (bI true)] _ _
            refine AX.if_neB (pc := 16) (tgt := 21) dX12_fall_16 (by decide) (fun hc16 => ?_) (fun q => absurd q (by decide))
            refine AX.aload_n (pc := 21) dX12_fall_21 rfl ?_
            refine AX.iload_n (pc := 22) dX12_fall_22 rfl ?_
            refine AX.iload_n (pc := 23) dX12_fall_23 rfl ?_
            refine AX.callV (pc := 24) (M2 := M_X12_layFalls) (As := [.int (nI xn), .int (nI mn)]) (rest := []) (c_layFalls w h c.hn hO c.nw c.rg e91 e92 u_x hs1 hr1 hs2 hr2 l_m u_m) xc_X12_fall__X12_layFalls gX12_fall_X12_layFalls (ci := 11) rfl (lt_k c.hn (by omega)) hO rfl (Nat.le_of_ble_eq_true rfl) dX12_fall_24 ?_
            rintro _ h1 ⟨rfl, s1, F1, O1⟩
            have c1 : MS h1 s := c.fall s1 (MS.obv hv 1 (by decide) O1) ⟨⟨_, F1.arr.choose_spec.choose_spec.1⟩, ⟨_, F1.arr.choose_spec.choose_spec.2⟩, c.fx.2.2.1.imp (fun _ z => s1.at (by simp) z), c.fx.2.2.2.1.imp (fun _ z => s1.at (by simp) z), c.fx.2.2.2.2.imp (fun _ z => s1.at (by simp) z)⟩
            obtain ⟨⟨f1, y91, q91⟩, ⟨f2, y92, q92⟩⟩ := id F1
            show AX w M_X12_fall 0 0 27 [.ref 87, .int (nI xn), .int (nI mn), .int (nI in_), .int (nI 0)] [] _ _
            refine AX.iload_n (pc := 27) dX12_fall_27 rfl ?_
            refine AX.iconst (pc := 28) (v := (-1)) dX12_fall_28 (by decide) ?_
            refine AX.icmp_ne (pc := 29) (tgt := 37) dX12_fall_29 (by decide) (fun hc29 => ?_) (fun q => absurd q (fun q => hi q))
            refine AX.iload_n (pc := 37) dX12_fall_37 rfl ?_
            refine AX.i2l (pc := 38) dX12_fall_38 ?_
            refine AX.lconst (pc := 39) (v := 0) dX12_fall_39 (by decide) ?_
            refine AX.aload_n (pc := 40) dX12_fall_40 rfl ?_
            refine AX.getf (pc := 41) fX12_fall_132 (lt_k (s1.le c.hn) (by omega)) O1 rfl dX12_fall_41 ?_
            refine AX.iconst (pc := 44) (v := nI 1) dX12_fall_44 (by decide) ?_
            refine AX.isubN (pc := 45) (c := fC mn - 1) dX12_fall_45 (by omega) ?_
            refine AX.i2l (pc := 46) dX12_fall_46 ?_
            refine AX.callS (pc := 47) (M2 := M_X12_in) (As := [.long ((nI in_).toInt64), .long 0, .long ((nI (fC mn - 1)).toInt64)]) (rest := []) (c_in w h1 ((nI in_).toInt64) (0) ((nI (fC mn - 1)).toInt64)) xc_X12_fall__X12_in gX12_fall_X12_in rfl (Nat.le_of_ble_eq_true rfl) dX12_fall_47 ?_
            rintro _ h9 ⟨rfl, e9⟩
            have e9 := e9.symm
            subst e9
            rw [decide_eq_true ((in_iff (by decide) (n64 (fC mn - 1) (by omega))).mpr h_i)]
            show AX w M_X12_fall 0 0 50 [.ref 87, .int (nI xn), .int (nI mn), .int (nI in_), .int (nI 0)] [.int (bI true)] _ _
            refine AX.if_eqB (pc := 50) (tgt := 64) dX12_fall_50 (by decide) (fun q => absurd q (by decide)) (fun hc50 => ?_)
            refine AX.iload (pc := 53) dX12_fall_53 rfl ?_
            refine AX.i2l (pc := 55) dX12_fall_55 ?_
            refine AX.lconst (pc := 56) (v := 0) dX12_fall_56 (by decide) ?_
            refine AX.lconst (pc := 57) (v := 1) dX12_fall_57 (by decide) ?_
            refine AX.callS (pc := 58) (M2 := M_X12_in) (As := [.long ((nI 0).toInt64), .long 0, .long 1]) (rest := []) (c_in w h1 ((nI 0).toInt64) (0) (1)) xc_X12_fall__X12_in gX12_fall_X12_in rfl (Nat.le_of_ble_eq_true rfl) dX12_fall_58 ?_
            rintro _ h9 ⟨rfl, e9⟩
            have e9 := e9.symm
            subst e9
            rw [decide_eq_true ((in_iff (by decide) (by decide)).mpr h_k)]
            show AX w M_X12_fall 0 0 61 [.ref 87, .int (nI xn), .int (nI mn), .int (nI in_), .int (nI 0)] [.int (bI true)] _ _
            refine AX.if_neB (pc := 61) (tgt := 66) dX12_fall_61 (by decide) (fun hc61 => ?_) (fun q => absurd q (by decide))
            refine AX.iload (pc := 66) dX12_fall_66 rfl ?_
            refine AX.if_neN (pc := 68) (tgt := 80) dX12_fall_68 (by decide) (by decide) (fun q => absurd q (by decide)) (fun hc68 => ?_)
            refine AX.aload_n (pc := 71) dX12_fall_71 rfl ?_
            refine AX.getf (pc := 72) fX12_fall_19 (lt_k (s1.le c.hn) (by omega)) O1 rfl dX12_fall_72 ?_
            refine AX.iload_n (pc := 75) dX12_fall_75 rfl ?_
            refine AX.ialdN (pc := 76) (i := in_) (v := (nI (fS (5 * mn + in_)))) (lt_k (s1.le c.hn) (by omega)) y91 (by decide) (by omega) (q91 in_ (by omega)) dX12_fall_76 ?_
            refine AX.goto (pc := 77) (tgt := 86) dX12_fall_77 (by decide) ?_
            refine AX.iret (pc := 86) dX12_fall_86 rfl rfl (by decide) (by decide) ?_
            exact ⟨by unfold aFall; rw [if_pos h_x, if_pos h_m, if_neg hi, nI_nat (show mn < 2147483648 by omega), if_pos h_i, if_pos h_k, nI_nat (show in_ < 2147483648 by omega), Nat.mul_comm mn 5]; try rfl, mdS_lt s1 (by decide), c1⟩
          · refine CA.of (by decide) rfl (fun _ => Nat.le_of_ble_eq_true rfl) ?_
            show AX w M_X12_fall 0 0 0 [.ref 87, .int (nI xn), .int (nI mn), .int (nI in_), .int (nI 1)] [] h _
            refine AX.iload_n (pc := 0) dX12_fall_0 rfl ?_
            refine AX.callS (pc := 1) (M2 := M_X12_isPlayer) (As := [.int (nI xn)]) (rest := []) (c_mPlayer w h (nI xn)) xc_X12_fall__X12_isPlayer gX12_fall_X12_isPlayer rfl (Nat.le_of_ble_eq_true rfl) dX12_fall_1 ?_
            rintro _ h9 ⟨rfl, e9⟩
            have e9 := e9.symm
            subst e9
            rw [decide_eq_true h_x]
            show AX w M_X12_fall 0 0 4 [.ref 87, .int (nI xn), .int (nI mn), .int (nI in_), .int (nI 1)] [.int (bI true)] _ _
            refine AX.if_eqB (pc := 4) (tgt := 19) dX12_fall_4 (by decide) (fun q => absurd q (by decide)) (fun hc4 => ?_)
            refine AX.iload_n (pc := 7) dX12_fall_7 rfl ?_
            refine AX.i2l (pc := 8) dX12_fall_8 ?_
            refine AX.lconst (pc := 9) (v := 1) dX12_fall_9 (by decide) ?_
            refine AX.ldc2 (pc := 10) (v := 62) dX12_fall_10 cX12_fall_112 ?_
            refine AX.callS (pc := 13) (M2 := M_X12_in) (As := [.long ((nI mn).toInt64), .long 1, .long 62]) (rest := []) (c_in w h ((nI mn).toInt64) (1) (62)) xc_X12_fall__X12_in gX12_fall_X12_in rfl (Nat.le_of_ble_eq_true rfl) dX12_fall_13 ?_
            rintro _ h9 ⟨rfl, e9⟩
            have e9 := e9.symm
            subst e9
            rw [decide_eq_true ((in_iff (by decide) (by decide)).mpr h_m)]
            show AX w M_X12_fall 0 0 16 [.ref 87, .int (nI xn), .int (nI mn), .int (nI in_), .int (nI 1)] [.int (bI true)] _ _
            refine AX.if_neB (pc := 16) (tgt := 21) dX12_fall_16 (by decide) (fun hc16 => ?_) (fun q => absurd q (by decide))
            refine AX.aload_n (pc := 21) dX12_fall_21 rfl ?_
            refine AX.iload_n (pc := 22) dX12_fall_22 rfl ?_
            refine AX.iload_n (pc := 23) dX12_fall_23 rfl ?_
            refine AX.callV (pc := 24) (M2 := M_X12_layFalls) (As := [.int (nI xn), .int (nI mn)]) (rest := []) (c_layFalls w h c.hn hO c.nw c.rg e91 e92 u_x hs1 hr1 hs2 hr2 l_m u_m) xc_X12_fall__X12_layFalls gX12_fall_X12_layFalls (ci := 11) rfl (lt_k c.hn (by omega)) hO rfl (Nat.le_of_ble_eq_true rfl) dX12_fall_24 ?_
            rintro _ h1 ⟨rfl, s1, F1, O1⟩
            have c1 : MS h1 s := c.fall s1 (MS.obv hv 1 (by decide) O1) ⟨⟨_, F1.arr.choose_spec.choose_spec.1⟩, ⟨_, F1.arr.choose_spec.choose_spec.2⟩, c.fx.2.2.1.imp (fun _ z => s1.at (by simp) z), c.fx.2.2.2.1.imp (fun _ z => s1.at (by simp) z), c.fx.2.2.2.2.imp (fun _ z => s1.at (by simp) z)⟩
            obtain ⟨⟨f1, y91, q91⟩, ⟨f2, y92, q92⟩⟩ := id F1
            show AX w M_X12_fall 0 0 27 [.ref 87, .int (nI xn), .int (nI mn), .int (nI in_), .int (nI 1)] [] _ _
            refine AX.iload_n (pc := 27) dX12_fall_27 rfl ?_
            refine AX.iconst (pc := 28) (v := (-1)) dX12_fall_28 (by decide) ?_
            refine AX.icmp_ne (pc := 29) (tgt := 37) dX12_fall_29 (by decide) (fun hc29 => ?_) (fun q => absurd q (fun q => hi q))
            refine AX.iload_n (pc := 37) dX12_fall_37 rfl ?_
            refine AX.i2l (pc := 38) dX12_fall_38 ?_
            refine AX.lconst (pc := 39) (v := 0) dX12_fall_39 (by decide) ?_
            refine AX.aload_n (pc := 40) dX12_fall_40 rfl ?_
            refine AX.getf (pc := 41) fX12_fall_132 (lt_k (s1.le c.hn) (by omega)) O1 rfl dX12_fall_41 ?_
            refine AX.iconst (pc := 44) (v := nI 1) dX12_fall_44 (by decide) ?_
            refine AX.isubN (pc := 45) (c := fC mn - 1) dX12_fall_45 (by omega) ?_
            refine AX.i2l (pc := 46) dX12_fall_46 ?_
            refine AX.callS (pc := 47) (M2 := M_X12_in) (As := [.long ((nI in_).toInt64), .long 0, .long ((nI (fC mn - 1)).toInt64)]) (rest := []) (c_in w h1 ((nI in_).toInt64) (0) ((nI (fC mn - 1)).toInt64)) xc_X12_fall__X12_in gX12_fall_X12_in rfl (Nat.le_of_ble_eq_true rfl) dX12_fall_47 ?_
            rintro _ h9 ⟨rfl, e9⟩
            have e9 := e9.symm
            subst e9
            rw [decide_eq_true ((in_iff (by decide) (n64 (fC mn - 1) (by omega))).mpr h_i)]
            show AX w M_X12_fall 0 0 50 [.ref 87, .int (nI xn), .int (nI mn), .int (nI in_), .int (nI 1)] [.int (bI true)] _ _
            refine AX.if_eqB (pc := 50) (tgt := 64) dX12_fall_50 (by decide) (fun q => absurd q (by decide)) (fun hc50 => ?_)
            refine AX.iload (pc := 53) dX12_fall_53 rfl ?_
            refine AX.i2l (pc := 55) dX12_fall_55 ?_
            refine AX.lconst (pc := 56) (v := 0) dX12_fall_56 (by decide) ?_
            refine AX.lconst (pc := 57) (v := 1) dX12_fall_57 (by decide) ?_
            refine AX.callS (pc := 58) (M2 := M_X12_in) (As := [.long ((nI 1).toInt64), .long 0, .long 1]) (rest := []) (c_in w h1 ((nI 1).toInt64) (0) (1)) xc_X12_fall__X12_in gX12_fall_X12_in rfl (Nat.le_of_ble_eq_true rfl) dX12_fall_58 ?_
            rintro _ h9 ⟨rfl, e9⟩
            have e9 := e9.symm
            subst e9
            rw [decide_eq_true ((in_iff (by decide) (by decide)).mpr h_k)]
            show AX w M_X12_fall 0 0 61 [.ref 87, .int (nI xn), .int (nI mn), .int (nI in_), .int (nI 1)] [.int (bI true)] _ _
            refine AX.if_neB (pc := 61) (tgt := 66) dX12_fall_61 (by decide) (fun hc61 => ?_) (fun q => absurd q (by decide))
            refine AX.iload (pc := 66) dX12_fall_66 rfl ?_
            refine AX.if_neN (pc := 68) (tgt := 80) dX12_fall_68 (by decide) (by decide) (fun hc68 => ?_) (fun q => absurd q (by decide))
            refine AX.aload_n (pc := 80) dX12_fall_80 rfl ?_
            refine AX.getf (pc := 81) fX12_fall_22 (lt_k (s1.le c.hn) (by omega)) O1 rfl dX12_fall_81 ?_
            refine AX.iload_n (pc := 84) dX12_fall_84 rfl ?_
            refine AX.ialdN (pc := 85) (i := in_) (v := (nI (wtN (hh a b xn).1 (hh a b xn).2 (5 * mn + in_)))) (lt_k (s1.le c.hn) (by omega)) y92 (by decide) (by omega) (q92 in_ (by omega)) dX12_fall_85 ?_
            refine AX.iret (pc := 86) dX12_fall_86 rfl rfl (by decide) (by decide) ?_
            exact ⟨by unfold aFall; rw [if_pos h_x, if_pos h_m, if_neg hi, nI_nat (show mn < 2147483648 by omega), if_pos h_i, if_pos h_k, nI_nat (show in_ < 2147483648 by omega), Nat.mul_comm mn 5, show pl a b (nI xn) = hh a b xn from by unfold pl; rw [nI_nat (show xn < 2147483648 by omega)]]; try rfl, mdS_lt s1 (by decide), c1⟩
        · refine CA.of (by decide) rfl (fun _ => Nat.le_of_ble_eq_true rfl) ?_
          show AX w M_X12_fall 0 0 0 [.ref 87, .int (nI xn), .int (nI mn), .int (nI in_), .int k] [] h _
          refine AX.iload_n (pc := 0) dX12_fall_0 rfl ?_
          refine AX.callS (pc := 1) (M2 := M_X12_isPlayer) (As := [.int (nI xn)]) (rest := []) (c_mPlayer w h (nI xn)) xc_X12_fall__X12_isPlayer gX12_fall_X12_isPlayer rfl (Nat.le_of_ble_eq_true rfl) dX12_fall_1 ?_
          rintro _ h9 ⟨rfl, e9⟩
          have e9 := e9.symm
          subst e9
          rw [decide_eq_true h_x]
          show AX w M_X12_fall 0 0 4 [.ref 87, .int (nI xn), .int (nI mn), .int (nI in_), .int k] [.int (bI true)] _ _
          refine AX.if_eqB (pc := 4) (tgt := 19) dX12_fall_4 (by decide) (fun q => absurd q (by decide)) (fun hc4 => ?_)
          refine AX.iload_n (pc := 7) dX12_fall_7 rfl ?_
          refine AX.i2l (pc := 8) dX12_fall_8 ?_
          refine AX.lconst (pc := 9) (v := 1) dX12_fall_9 (by decide) ?_
          refine AX.ldc2 (pc := 10) (v := 62) dX12_fall_10 cX12_fall_112 ?_
          refine AX.callS (pc := 13) (M2 := M_X12_in) (As := [.long ((nI mn).toInt64), .long 1, .long 62]) (rest := []) (c_in w h ((nI mn).toInt64) (1) (62)) xc_X12_fall__X12_in gX12_fall_X12_in rfl (Nat.le_of_ble_eq_true rfl) dX12_fall_13 ?_
          rintro _ h9 ⟨rfl, e9⟩
          have e9 := e9.symm
          subst e9
          rw [decide_eq_true ((in_iff (by decide) (by decide)).mpr h_m)]
          show AX w M_X12_fall 0 0 16 [.ref 87, .int (nI xn), .int (nI mn), .int (nI in_), .int k] [.int (bI true)] _ _
          refine AX.if_neB (pc := 16) (tgt := 21) dX12_fall_16 (by decide) (fun hc16 => ?_) (fun q => absurd q (by decide))
          refine AX.aload_n (pc := 21) dX12_fall_21 rfl ?_
          refine AX.iload_n (pc := 22) dX12_fall_22 rfl ?_
          refine AX.iload_n (pc := 23) dX12_fall_23 rfl ?_
          refine AX.callV (pc := 24) (M2 := M_X12_layFalls) (As := [.int (nI xn), .int (nI mn)]) (rest := []) (c_layFalls w h c.hn hO c.nw c.rg e91 e92 u_x hs1 hr1 hs2 hr2 l_m u_m) xc_X12_fall__X12_layFalls gX12_fall_X12_layFalls (ci := 11) rfl (lt_k c.hn (by omega)) hO rfl (Nat.le_of_ble_eq_true rfl) dX12_fall_24 ?_
          rintro _ h1 ⟨rfl, s1, F1, O1⟩
          have c1 : MS h1 s := c.fall s1 (MS.obv hv 1 (by decide) O1) ⟨⟨_, F1.arr.choose_spec.choose_spec.1⟩, ⟨_, F1.arr.choose_spec.choose_spec.2⟩, c.fx.2.2.1.imp (fun _ z => s1.at (by simp) z), c.fx.2.2.2.1.imp (fun _ z => s1.at (by simp) z), c.fx.2.2.2.2.imp (fun _ z => s1.at (by simp) z)⟩
          obtain ⟨⟨f1, y91, q91⟩, ⟨f2, y92, q92⟩⟩ := id F1
          show AX w M_X12_fall 0 0 27 [.ref 87, .int (nI xn), .int (nI mn), .int (nI in_), .int k] [] _ _
          refine AX.iload_n (pc := 27) dX12_fall_27 rfl ?_
          refine AX.iconst (pc := 28) (v := (-1)) dX12_fall_28 (by decide) ?_
          refine AX.icmp_ne (pc := 29) (tgt := 37) dX12_fall_29 (by decide) (fun hc29 => ?_) (fun q => absurd q (fun q => hi q))
          refine AX.iload_n (pc := 37) dX12_fall_37 rfl ?_
          refine AX.i2l (pc := 38) dX12_fall_38 ?_
          refine AX.lconst (pc := 39) (v := 0) dX12_fall_39 (by decide) ?_
          refine AX.aload_n (pc := 40) dX12_fall_40 rfl ?_
          refine AX.getf (pc := 41) fX12_fall_132 (lt_k (s1.le c.hn) (by omega)) O1 rfl dX12_fall_41 ?_
          refine AX.iconst (pc := 44) (v := nI 1) dX12_fall_44 (by decide) ?_
          refine AX.isubN (pc := 45) (c := fC mn - 1) dX12_fall_45 (by omega) ?_
          refine AX.i2l (pc := 46) dX12_fall_46 ?_
          refine AX.callS (pc := 47) (M2 := M_X12_in) (As := [.long ((nI in_).toInt64), .long 0, .long ((nI (fC mn - 1)).toInt64)]) (rest := []) (c_in w h1 ((nI in_).toInt64) (0) ((nI (fC mn - 1)).toInt64)) xc_X12_fall__X12_in gX12_fall_X12_in rfl (Nat.le_of_ble_eq_true rfl) dX12_fall_47 ?_
          rintro _ h9 ⟨rfl, e9⟩
          have e9 := e9.symm
          subst e9
          rw [decide_eq_true ((in_iff (by decide) (n64 (fC mn - 1) (by omega))).mpr h_i)]
          show AX w M_X12_fall 0 0 50 [.ref 87, .int (nI xn), .int (nI mn), .int (nI in_), .int k] [.int (bI true)] _ _
          refine AX.if_eqB (pc := 50) (tgt := 64) dX12_fall_50 (by decide) (fun q => absurd q (by decide)) (fun hc50 => ?_)
          refine AX.iload (pc := 53) dX12_fall_53 rfl ?_
          refine AX.i2l (pc := 55) dX12_fall_55 ?_
          refine AX.lconst (pc := 56) (v := 0) dX12_fall_56 (by decide) ?_
          refine AX.lconst (pc := 57) (v := 1) dX12_fall_57 (by decide) ?_
          refine AX.callS (pc := 58) (M2 := M_X12_in) (As := [.long k.toInt64, .long 0, .long 1]) (rest := []) (c_in w h1 (k.toInt64) (0) (1)) xc_X12_fall__X12_in gX12_fall_X12_in rfl (Nat.le_of_ble_eq_true rfl) dX12_fall_58 ?_
          rintro _ h9 ⟨rfl, e9⟩
          have e9 := e9.symm
          subst e9
          rw [decide_eq_false (fun q => h_k ((in_iff (by decide) (by decide)).mp q))]
          show AX w M_X12_fall 0 0 61 [.ref 87, .int (nI xn), .int (nI mn), .int (nI in_), .int k] [.int (bI false)] _ _
          refine AX.if_neB (pc := 61) (tgt := 66) dX12_fall_61 (by decide) (fun q => absurd q (by decide)) (fun hc61 => ?_)
          refine AX.iconst (pc := 64) (v := (-1)) dX12_fall_64 (by decide) ?_
          refine AX.iret (pc := 65) dX12_fall_65 rfl rfl (by decide) (by decide) ?_
          exact ⟨by unfold aFall; rw [if_pos h_x, if_pos h_m, if_neg hi, nI_nat (show mn < 2147483648 by omega), if_pos h_i, if_neg h_k]; try rfl, mdS_lt s1 (by decide), c1⟩
      · refine CA.of (by decide) rfl (fun _ => Nat.le_of_ble_eq_true rfl) ?_
        show AX w M_X12_fall 0 0 0 [.ref 87, .int (nI xn), .int (nI mn), .int i, .int k] [] h _
        refine AX.iload_n (pc := 0) dX12_fall_0 rfl ?_
        refine AX.callS (pc := 1) (M2 := M_X12_isPlayer) (As := [.int (nI xn)]) (rest := []) (c_mPlayer w h (nI xn)) xc_X12_fall__X12_isPlayer gX12_fall_X12_isPlayer rfl (Nat.le_of_ble_eq_true rfl) dX12_fall_1 ?_
        rintro _ h9 ⟨rfl, e9⟩
        have e9 := e9.symm
        subst e9
        rw [decide_eq_true h_x]
        show AX w M_X12_fall 0 0 4 [.ref 87, .int (nI xn), .int (nI mn), .int i, .int k] [.int (bI true)] _ _
        refine AX.if_eqB (pc := 4) (tgt := 19) dX12_fall_4 (by decide) (fun q => absurd q (by decide)) (fun hc4 => ?_)
        refine AX.iload_n (pc := 7) dX12_fall_7 rfl ?_
        refine AX.i2l (pc := 8) dX12_fall_8 ?_
        refine AX.lconst (pc := 9) (v := 1) dX12_fall_9 (by decide) ?_
        refine AX.ldc2 (pc := 10) (v := 62) dX12_fall_10 cX12_fall_112 ?_
        refine AX.callS (pc := 13) (M2 := M_X12_in) (As := [.long ((nI mn).toInt64), .long 1, .long 62]) (rest := []) (c_in w h ((nI mn).toInt64) (1) (62)) xc_X12_fall__X12_in gX12_fall_X12_in rfl (Nat.le_of_ble_eq_true rfl) dX12_fall_13 ?_
        rintro _ h9 ⟨rfl, e9⟩
        have e9 := e9.symm
        subst e9
        rw [decide_eq_true ((in_iff (by decide) (by decide)).mpr h_m)]
        show AX w M_X12_fall 0 0 16 [.ref 87, .int (nI xn), .int (nI mn), .int i, .int k] [.int (bI true)] _ _
        refine AX.if_neB (pc := 16) (tgt := 21) dX12_fall_16 (by decide) (fun hc16 => ?_) (fun q => absurd q (by decide))
        refine AX.aload_n (pc := 21) dX12_fall_21 rfl ?_
        refine AX.iload_n (pc := 22) dX12_fall_22 rfl ?_
        refine AX.iload_n (pc := 23) dX12_fall_23 rfl ?_
        refine AX.callV (pc := 24) (M2 := M_X12_layFalls) (As := [.int (nI xn), .int (nI mn)]) (rest := []) (c_layFalls w h c.hn hO c.nw c.rg e91 e92 u_x hs1 hr1 hs2 hr2 l_m u_m) xc_X12_fall__X12_layFalls gX12_fall_X12_layFalls (ci := 11) rfl (lt_k c.hn (by omega)) hO rfl (Nat.le_of_ble_eq_true rfl) dX12_fall_24 ?_
        rintro _ h1 ⟨rfl, s1, F1, O1⟩
        have c1 : MS h1 s := c.fall s1 (MS.obv hv 1 (by decide) O1) ⟨⟨_, F1.arr.choose_spec.choose_spec.1⟩, ⟨_, F1.arr.choose_spec.choose_spec.2⟩, c.fx.2.2.1.imp (fun _ z => s1.at (by simp) z), c.fx.2.2.2.1.imp (fun _ z => s1.at (by simp) z), c.fx.2.2.2.2.imp (fun _ z => s1.at (by simp) z)⟩
        obtain ⟨⟨f1, y91, q91⟩, ⟨f2, y92, q92⟩⟩ := id F1
        show AX w M_X12_fall 0 0 27 [.ref 87, .int (nI xn), .int (nI mn), .int i, .int k] [] _ _
        refine AX.iload_n (pc := 27) dX12_fall_27 rfl ?_
        refine AX.iconst (pc := 28) (v := (-1)) dX12_fall_28 (by decide) ?_
        refine AX.icmp_ne (pc := 29) (tgt := 37) dX12_fall_29 (by decide) (fun hc29 => ?_) (fun q => absurd q (fun q => hi q))
        refine AX.iload_n (pc := 37) dX12_fall_37 rfl ?_
        refine AX.i2l (pc := 38) dX12_fall_38 ?_
        refine AX.lconst (pc := 39) (v := 0) dX12_fall_39 (by decide) ?_
        refine AX.aload_n (pc := 40) dX12_fall_40 rfl ?_
        refine AX.getf (pc := 41) fX12_fall_132 (lt_k (s1.le c.hn) (by omega)) O1 rfl dX12_fall_41 ?_
        refine AX.iconst (pc := 44) (v := nI 1) dX12_fall_44 (by decide) ?_
        refine AX.isubN (pc := 45) (c := fC mn - 1) dX12_fall_45 (by omega) ?_
        refine AX.i2l (pc := 46) dX12_fall_46 ?_
        refine AX.callS (pc := 47) (M2 := M_X12_in) (As := [.long i.toInt64, .long 0, .long ((nI (fC mn - 1)).toInt64)]) (rest := []) (c_in w h1 (i.toInt64) (0) ((nI (fC mn - 1)).toInt64)) xc_X12_fall__X12_in gX12_fall_X12_in rfl (Nat.le_of_ble_eq_true rfl) dX12_fall_47 ?_
        rintro _ h9 ⟨rfl, e9⟩
        have e9 := e9.symm
        subst e9
        rw [decide_eq_false (fun q => h_i ((in_iff (by decide) (n64 (fC mn - 1) (by omega))).mp q))]
        show AX w M_X12_fall 0 0 50 [.ref 87, .int (nI xn), .int (nI mn), .int i, .int k] [.int (bI false)] _ _
        refine AX.if_eqB (pc := 50) (tgt := 64) dX12_fall_50 (by decide) (fun hc50 => ?_) (fun q => absurd q (by decide))
        refine AX.iconst (pc := 64) (v := (-1)) dX12_fall_64 (by decide) ?_
        refine AX.iret (pc := 65) dX12_fall_65 rfl rfl (by decide) (by decide) ?_
        exact ⟨by unfold aFall; rw [if_pos h_x, if_pos h_m, if_neg hi, nI_nat (show mn < 2147483648 by omega), if_neg h_i]; try rfl, mdS_lt s1 (by decide), c1⟩
    · refine CA.of (by decide) rfl (fun _ => Nat.le_of_ble_eq_true rfl) ?_
      show AX w M_X12_fall 0 0 0 [.ref 87, .int (nI xn), .int m, .int i, .int k] [] h _
      refine AX.iload_n (pc := 0) dX12_fall_0 rfl ?_
      refine AX.callS (pc := 1) (M2 := M_X12_isPlayer) (As := [.int (nI xn)]) (rest := []) (c_mPlayer w h (nI xn)) xc_X12_fall__X12_isPlayer gX12_fall_X12_isPlayer rfl (Nat.le_of_ble_eq_true rfl) dX12_fall_1 ?_
      rintro _ h9 ⟨rfl, e9⟩
      have e9 := e9.symm
      subst e9
      rw [decide_eq_true h_x]
      show AX w M_X12_fall 0 0 4 [.ref 87, .int (nI xn), .int m, .int i, .int k] [.int (bI true)] _ _
      refine AX.if_eqB (pc := 4) (tgt := 19) dX12_fall_4 (by decide) (fun q => absurd q (by decide)) (fun hc4 => ?_)
      refine AX.iload_n (pc := 7) dX12_fall_7 rfl ?_
      refine AX.i2l (pc := 8) dX12_fall_8 ?_
      refine AX.lconst (pc := 9) (v := 1) dX12_fall_9 (by decide) ?_
      refine AX.ldc2 (pc := 10) (v := 62) dX12_fall_10 cX12_fall_112 ?_
      refine AX.callS (pc := 13) (M2 := M_X12_in) (As := [.long m.toInt64, .long 1, .long 62]) (rest := []) (c_in w h (m.toInt64) (1) (62)) xc_X12_fall__X12_in gX12_fall_X12_in rfl (Nat.le_of_ble_eq_true rfl) dX12_fall_13 ?_
      rintro _ h9 ⟨rfl, e9⟩
      have e9 := e9.symm
      subst e9
      rw [decide_eq_false (fun q => h_m ((in_iff (by decide) (by decide)).mp q))]
      show AX w M_X12_fall 0 0 16 [.ref 87, .int (nI xn), .int m, .int i, .int k] [.int (bI false)] _ _
      refine AX.if_neB (pc := 16) (tgt := 21) dX12_fall_16 (by decide) (fun q => absurd q (by decide)) (fun hc16 => ?_)
      refine AX.iconst (pc := 19) (v := (-1)) dX12_fall_19 (by decide) ?_
      refine AX.iret (pc := 20) dX12_fall_20 rfl rfl (by decide) (by decide) ?_
      exact ⟨by unfold aFall; rw [if_pos h_x, if_neg h_m]; try rfl, Same.rf, c⟩
  · refine CA.of (by decide) rfl (fun _ => Nat.le_of_ble_eq_true rfl) ?_
    show AX w M_X12_fall 0 0 0 [.ref 87, .int x, .int m, .int i, .int k] [] h _
    refine AX.iload_n (pc := 0) dX12_fall_0 rfl ?_
    refine AX.callS (pc := 1) (M2 := M_X12_isPlayer) (As := [.int x]) (rest := []) (c_mPlayer w h x) xc_X12_fall__X12_isPlayer gX12_fall_X12_isPlayer rfl (Nat.le_of_ble_eq_true rfl) dX12_fall_1 ?_
    rintro _ h9 ⟨rfl, e9⟩
    have e9 := e9.symm
    subst e9
    rw [decide_eq_false h_x]
    show AX w M_X12_fall 0 0 4 [.ref 87, .int x, .int m, .int i, .int k] [.int (bI false)] _ _
    refine AX.if_eqB (pc := 4) (tgt := 19) dX12_fall_4 (by decide) (fun hc4 => ?_) (fun q => absurd q (by decide))
    refine AX.iconst (pc := 19) (v := (-1)) dX12_fall_19 (by decide) ?_
    refine AX.iret (pc := 20) dX12_fall_20 rfl rfl (by decide) (by decide) ?_
    exact ⟨by unfold aFall; rw [if_neg h_x]; try rfl, Same.rf, c⟩
theorem c_mOut (w : XW) (h : XH) {s : SS} {n o : Nat} {a b : Nat × Nat} (c : MS h s) (l : LV (sq s) n o a b) (x : Int32) : CA w M_X12_out [.ref 87, .int x] h (fun v' h'' => v' = some (.int (aOut (sq s) x)) ∧ Same mdS h h'' ∧ MS h'' (wq s (nOut (sq s) x))) := by
  obtain ⟨v, hO, hv⟩ := id c.ob
  obtain ⟨f89, e89, q89⟩ := id c.nw
  by_cases h_x : inR 0 2 x
  · obtain ⟨xn, rfl, l_x, u_x⟩ := inR_nat (by decide) h_x
    by_cases hz : xn = 0
    · subst hz
      have en : nOut (sq s) (nI 0) = upd (sq s) 12 (nI 0) := by unfold nOut; rw [if_pos h_x, if_neg (fun q => q.1 rfl)]
      rw [en]
      refine CA.of (by decide) rfl (fun _ => Nat.le_of_ble_eq_true rfl) ?_
      show AX w M_X12_out 0 0 0 [.ref 87, .int (nI 0), .null] [] h _
      refine AX.iload_n (pc := 0) dX12_out_0 rfl ?_
      refine AX.i2l (pc := 1) dX12_out_1 ?_
      refine AX.lconst (pc := 2) (v := 0) dX12_out_2 (by decide) ?_
      refine AX.ldc2 (pc := 3) (v := 2) dX12_out_3 cX12_out_149 ?_
      refine AX.callS (pc := 6) (M2 := M_X12_in) (As := [.long ((nI 0).toInt64), .long 0, .long 2]) (rest := []) (c_in w h ((nI 0).toInt64) (0) (2)) xc_X12_out__X12_in gX12_out_X12_in rfl (Nat.le_of_ble_eq_true rfl) dX12_out_6 ?_
      rintro _ h9 ⟨rfl, e9⟩
      have e9 := e9.symm
      subst e9
      rw [decide_eq_true ((in_iff (by decide) (by decide)).mpr h_x)]
      show AX w M_X12_out 0 0 9 [.ref 87, .int (nI 0), .null] [.int (bI true)] _ _
      refine AX.if_neB (pc := 9) (tgt := 14) dX12_out_9 (by decide) (fun hc9 => ?_) (fun q => absurd q (by decide))
      refine AX.iload_n (pc := 14) dX12_out_14 rfl ?_
      refine AX.if_eqN (pc := 15) (tgt := 52) dX12_out_15 (by decide) (by decide) (fun hc15 => ?_) (fun q => absurd q (by decide))
      refine AX.aload_n (pc := 52) dX12_out_52 rfl ?_
      refine AX.getf (pc := 53) fX12_out_13 (lt_k c.hn (by omega)) hO rfl dX12_out_53 ?_
      refine AX.bipush (pc := 56) (v := nI 12) dX12_out_56 (by decide) ?_
      refine AX.ialdN (pc := 58) (i := 12) (v := (sq s 12)) (lt_k c.hn (by omega)) e89 (by decide) (by decide) (q89 12 (by decide)) dX12_out_58 ?_
      refine AX.istore_n (pc := 59) (L' := [.ref 87, .int (nI 0), .int (sq s 12)]) dX12_out_59 (by decide) rfl ?_
      refine AX.aload_n (pc := 60) dX12_out_60 rfl ?_
      refine AX.getf (pc := 61) fX12_out_13 (lt_k c.hn (by omega)) hO rfl dX12_out_61 ?_
      refine AX.bipush (pc := 64) (v := nI 12) dX12_out_64 (by decide) ?_
      refine AX.iload_n (pc := 66) dX12_out_66 rfl ?_
      refine AX.iastN (pc := 67) (i := 12) (g := upd f89 12 (nI 0)) (lt_k c.hn (by omega)) e89 (by decide) (by decide) rfl dX12_out_67 ?_
      refine AX.iload_n (pc := 68) dX12_out_68 rfl ?_
      refine AX.iret (pc := 69) dX12_out_69 rfl rfl (by decide) (by decide) ?_
      have sx : Same [89] h (xset h 89 (.inl (0, 19, .inl (upd f89 12 (nI 0))))) := Same.rest
      exact ⟨by unfold aOut; rw [if_pos h_x, if_neg (fun q => q.1 rfl)], mdS_lt sx (by decide), c.now sx ⟨_, xset_same _ _ _, upd_agree q89⟩⟩
    have hz2 : nI xn ≠ nI 0 := fun q => hz (nI_inj (by omega) (by omega) q)
    by_cases hd : sq s 4 = nI 1 ∨ sq s 5 = nI 1 ∨ sq s 17 = nI 1
    · have en : nOut (sq s) (nI xn) = sq s := by unfold nOut; rw [if_pos h_x, if_pos ⟨hz2, hd⟩]
      rw [en]
      have ea : aOut (sq s) (nI xn) = -3 := by unfold aOut; rw [if_pos h_x, if_pos ⟨hz2, hd⟩]
      rw [ea]
      by_cases d1 : sq s 4 = nI 1
      · refine CA.of (by decide) rfl (fun _ => Nat.le_of_ble_eq_true rfl) ?_
        show AX w M_X12_out 0 0 0 [.ref 87, .int (nI xn), .null] [] h _
        refine AX.iload_n (pc := 0) dX12_out_0 rfl ?_
        refine AX.i2l (pc := 1) dX12_out_1 ?_
        refine AX.lconst (pc := 2) (v := 0) dX12_out_2 (by decide) ?_
        refine AX.ldc2 (pc := 3) (v := 2) dX12_out_3 cX12_out_149 ?_
        refine AX.callS (pc := 6) (M2 := M_X12_in) (As := [.long ((nI xn).toInt64), .long 0, .long 2]) (rest := []) (c_in w h ((nI xn).toInt64) (0) (2)) xc_X12_out__X12_in gX12_out_X12_in rfl (Nat.le_of_ble_eq_true rfl) dX12_out_6 ?_
        rintro _ h9 ⟨rfl, e9⟩
        have e9 := e9.symm
        subst e9
        rw [decide_eq_true ((in_iff (by decide) (by decide)).mpr h_x)]
        show AX w M_X12_out 0 0 9 [.ref 87, .int (nI xn), .null] [.int (bI true)] _ _
        refine AX.if_neB (pc := 9) (tgt := 14) dX12_out_9 (by decide) (fun hc9 => ?_) (fun q => absurd q (by decide))
        refine AX.iload_n (pc := 14) dX12_out_14 rfl ?_
        refine AX.if_eqN (pc := 15) (tgt := 52) dX12_out_15 (by decide) (by omega) (fun q => absurd q (by omega)) (fun hc15 => ?_)
        refine AX.aload_n (pc := 18) dX12_out_18 rfl ?_
        refine AX.getf (pc := 19) fX12_out_13 (lt_k c.hn (by omega)) hO rfl dX12_out_19 ?_
        refine AX.iconst (pc := 22) (v := nI 4) dX12_out_22 (by decide) ?_
        refine AX.ialdN (pc := 23) (i := 4) (v := (sq s 4)) (lt_k c.hn (by omega)) e89 (by decide) (by decide) (q89 4 (by decide)) dX12_out_23 ?_
        refine AX.iconst (pc := 24) (v := nI 1) dX12_out_24 (by decide) ?_
        refine AX.icmp_eq (pc := 25) (tgt := 49) dX12_out_25 (by decide) (fun hc25 => ?_) (fun q => absurd d1 q)
        refine AX.bipush (pc := 49) (v := (-3)) dX12_out_49 (by decide) ?_
        refine AX.iret (pc := 51) dX12_out_51 rfl rfl (by decide) (by decide) ?_
        exact ⟨rfl, Same.rf, c⟩
      by_cases d2 : sq s 5 = nI 1
      · refine CA.of (by decide) rfl (fun _ => Nat.le_of_ble_eq_true rfl) ?_
        show AX w M_X12_out 0 0 0 [.ref 87, .int (nI xn), .null] [] h _
        refine AX.iload_n (pc := 0) dX12_out_0 rfl ?_
        refine AX.i2l (pc := 1) dX12_out_1 ?_
        refine AX.lconst (pc := 2) (v := 0) dX12_out_2 (by decide) ?_
        refine AX.ldc2 (pc := 3) (v := 2) dX12_out_3 cX12_out_149 ?_
        refine AX.callS (pc := 6) (M2 := M_X12_in) (As := [.long ((nI xn).toInt64), .long 0, .long 2]) (rest := []) (c_in w h ((nI xn).toInt64) (0) (2)) xc_X12_out__X12_in gX12_out_X12_in rfl (Nat.le_of_ble_eq_true rfl) dX12_out_6 ?_
        rintro _ h9 ⟨rfl, e9⟩
        have e9 := e9.symm
        subst e9
        rw [decide_eq_true ((in_iff (by decide) (by decide)).mpr h_x)]
        show AX w M_X12_out 0 0 9 [.ref 87, .int (nI xn), .null] [.int (bI true)] _ _
        refine AX.if_neB (pc := 9) (tgt := 14) dX12_out_9 (by decide) (fun hc9 => ?_) (fun q => absurd q (by decide))
        refine AX.iload_n (pc := 14) dX12_out_14 rfl ?_
        refine AX.if_eqN (pc := 15) (tgt := 52) dX12_out_15 (by decide) (by omega) (fun q => absurd q (by omega)) (fun hc15 => ?_)
        refine AX.aload_n (pc := 18) dX12_out_18 rfl ?_
        refine AX.getf (pc := 19) fX12_out_13 (lt_k c.hn (by omega)) hO rfl dX12_out_19 ?_
        refine AX.iconst (pc := 22) (v := nI 4) dX12_out_22 (by decide) ?_
        refine AX.ialdN (pc := 23) (i := 4) (v := (sq s 4)) (lt_k c.hn (by omega)) e89 (by decide) (by decide) (q89 4 (by decide)) dX12_out_23 ?_
        refine AX.iconst (pc := 24) (v := nI 1) dX12_out_24 (by decide) ?_
        refine AX.icmp_eq (pc := 25) (tgt := 49) dX12_out_25 (by decide) (fun q => absurd q d1) (fun hc25 => ?_)
        refine AX.aload_n (pc := 28) dX12_out_28 rfl ?_
        refine AX.getf (pc := 29) fX12_out_13 (lt_k c.hn (by omega)) hO rfl dX12_out_29 ?_
        refine AX.iconst (pc := 32) (v := nI 5) dX12_out_32 (by decide) ?_
        refine AX.ialdN (pc := 33) (i := 5) (v := (sq s 5)) (lt_k c.hn (by omega)) e89 (by decide) (by decide) (q89 5 (by decide)) dX12_out_33 ?_
        refine AX.iconst (pc := 34) (v := nI 1) dX12_out_34 (by decide) ?_
        refine AX.icmp_eq (pc := 35) (tgt := 49) dX12_out_35 (by decide) (fun hc35 => ?_) (fun q => absurd d2 q)
        refine AX.bipush (pc := 49) (v := (-3)) dX12_out_49 (by decide) ?_
        refine AX.iret (pc := 51) dX12_out_51 rfl rfl (by decide) (by decide) ?_
        exact ⟨rfl, Same.rf, c⟩
      refine CA.of (by decide) rfl (fun _ => Nat.le_of_ble_eq_true rfl) ?_
      show AX w M_X12_out 0 0 0 [.ref 87, .int (nI xn), .null] [] h _
      refine AX.iload_n (pc := 0) dX12_out_0 rfl ?_
      refine AX.i2l (pc := 1) dX12_out_1 ?_
      refine AX.lconst (pc := 2) (v := 0) dX12_out_2 (by decide) ?_
      refine AX.ldc2 (pc := 3) (v := 2) dX12_out_3 cX12_out_149 ?_
      refine AX.callS (pc := 6) (M2 := M_X12_in) (As := [.long ((nI xn).toInt64), .long 0, .long 2]) (rest := []) (c_in w h ((nI xn).toInt64) (0) (2)) xc_X12_out__X12_in gX12_out_X12_in rfl (Nat.le_of_ble_eq_true rfl) dX12_out_6 ?_
      rintro _ h9 ⟨rfl, e9⟩
      have e9 := e9.symm
      subst e9
      rw [decide_eq_true ((in_iff (by decide) (by decide)).mpr h_x)]
      show AX w M_X12_out 0 0 9 [.ref 87, .int (nI xn), .null] [.int (bI true)] _ _
      refine AX.if_neB (pc := 9) (tgt := 14) dX12_out_9 (by decide) (fun hc9 => ?_) (fun q => absurd q (by decide))
      refine AX.iload_n (pc := 14) dX12_out_14 rfl ?_
      refine AX.if_eqN (pc := 15) (tgt := 52) dX12_out_15 (by decide) (by omega) (fun q => absurd q (by omega)) (fun hc15 => ?_)
      refine AX.aload_n (pc := 18) dX12_out_18 rfl ?_
      refine AX.getf (pc := 19) fX12_out_13 (lt_k c.hn (by omega)) hO rfl dX12_out_19 ?_
      refine AX.iconst (pc := 22) (v := nI 4) dX12_out_22 (by decide) ?_
      refine AX.ialdN (pc := 23) (i := 4) (v := (sq s 4)) (lt_k c.hn (by omega)) e89 (by decide) (by decide) (q89 4 (by decide)) dX12_out_23 ?_
      refine AX.iconst (pc := 24) (v := nI 1) dX12_out_24 (by decide) ?_
      refine AX.icmp_eq (pc := 25) (tgt := 49) dX12_out_25 (by decide) (fun q => absurd q d1) (fun hc25 => ?_)
      refine AX.aload_n (pc := 28) dX12_out_28 rfl ?_
      refine AX.getf (pc := 29) fX12_out_13 (lt_k c.hn (by omega)) hO rfl dX12_out_29 ?_
      refine AX.iconst (pc := 32) (v := nI 5) dX12_out_32 (by decide) ?_
      refine AX.ialdN (pc := 33) (i := 5) (v := (sq s 5)) (lt_k c.hn (by omega)) e89 (by decide) (by decide) (q89 5 (by decide)) dX12_out_33 ?_
      refine AX.iconst (pc := 34) (v := nI 1) dX12_out_34 (by decide) ?_
      refine AX.icmp_eq (pc := 35) (tgt := 49) dX12_out_35 (by decide) (fun q => absurd q d2) (fun hc35 => ?_)
      refine AX.aload_n (pc := 38) dX12_out_38 rfl ?_
      refine AX.getf (pc := 39) fX12_out_13 (lt_k c.hn (by omega)) hO rfl dX12_out_39 ?_
      refine AX.bipush (pc := 42) (v := nI 17) dX12_out_42 (by decide) ?_
      refine AX.ialdN (pc := 44) (i := 17) (v := (sq s 17)) (lt_k c.hn (by omega)) e89 (by decide) (by decide) (q89 17 (by decide)) dX12_out_44 ?_
      refine AX.iconst (pc := 45) (v := nI 1) dX12_out_45 (by decide) ?_
      refine AX.icmp_ne (pc := 46) (tgt := 52) dX12_out_46 (by decide) (fun q => absurd ((hd.resolve_left d1).resolve_left d2) q) (fun hc46 => ?_)
      refine AX.bipush (pc := 49) (v := (-3)) dX12_out_49 (by decide) ?_
      refine AX.iret (pc := 51) dX12_out_51 rfl rfl (by decide) (by decide) ?_
      exact ⟨rfl, Same.rf, c⟩
    · have en : nOut (sq s) (nI xn) = upd (sq s) 12 (nI xn) := by unfold nOut; rw [if_pos h_x, if_neg (fun q => hd q.2)]
      rw [en]
      refine CA.of (by decide) rfl (fun _ => Nat.le_of_ble_eq_true rfl) ?_
      show AX w M_X12_out 0 0 0 [.ref 87, .int (nI xn), .null] [] h _
      refine AX.iload_n (pc := 0) dX12_out_0 rfl ?_
      refine AX.i2l (pc := 1) dX12_out_1 ?_
      refine AX.lconst (pc := 2) (v := 0) dX12_out_2 (by decide) ?_
      refine AX.ldc2 (pc := 3) (v := 2) dX12_out_3 cX12_out_149 ?_
      refine AX.callS (pc := 6) (M2 := M_X12_in) (As := [.long ((nI xn).toInt64), .long 0, .long 2]) (rest := []) (c_in w h ((nI xn).toInt64) (0) (2)) xc_X12_out__X12_in gX12_out_X12_in rfl (Nat.le_of_ble_eq_true rfl) dX12_out_6 ?_
      rintro _ h9 ⟨rfl, e9⟩
      have e9 := e9.symm
      subst e9
      rw [decide_eq_true ((in_iff (by decide) (by decide)).mpr h_x)]
      show AX w M_X12_out 0 0 9 [.ref 87, .int (nI xn), .null] [.int (bI true)] _ _
      refine AX.if_neB (pc := 9) (tgt := 14) dX12_out_9 (by decide) (fun hc9 => ?_) (fun q => absurd q (by decide))
      refine AX.iload_n (pc := 14) dX12_out_14 rfl ?_
      refine AX.if_eqN (pc := 15) (tgt := 52) dX12_out_15 (by decide) (by omega) (fun q => absurd q (by omega)) (fun hc15 => ?_)
      refine AX.aload_n (pc := 18) dX12_out_18 rfl ?_
      refine AX.getf (pc := 19) fX12_out_13 (lt_k c.hn (by omega)) hO rfl dX12_out_19 ?_
      refine AX.iconst (pc := 22) (v := nI 4) dX12_out_22 (by decide) ?_
      refine AX.ialdN (pc := 23) (i := 4) (v := (sq s 4)) (lt_k c.hn (by omega)) e89 (by decide) (by decide) (q89 4 (by decide)) dX12_out_23 ?_
      refine AX.iconst (pc := 24) (v := nI 1) dX12_out_24 (by decide) ?_
      refine AX.icmp_eq (pc := 25) (tgt := 49) dX12_out_25 (by decide) (fun q => absurd q (fun q => hd (Or.inl q))) (fun hc25 => ?_)
      refine AX.aload_n (pc := 28) dX12_out_28 rfl ?_
      refine AX.getf (pc := 29) fX12_out_13 (lt_k c.hn (by omega)) hO rfl dX12_out_29 ?_
      refine AX.iconst (pc := 32) (v := nI 5) dX12_out_32 (by decide) ?_
      refine AX.ialdN (pc := 33) (i := 5) (v := (sq s 5)) (lt_k c.hn (by omega)) e89 (by decide) (by decide) (q89 5 (by decide)) dX12_out_33 ?_
      refine AX.iconst (pc := 34) (v := nI 1) dX12_out_34 (by decide) ?_
      refine AX.icmp_eq (pc := 35) (tgt := 49) dX12_out_35 (by decide) (fun q => absurd q (fun q => hd (Or.inr (Or.inl q)))) (fun hc35 => ?_)
      refine AX.aload_n (pc := 38) dX12_out_38 rfl ?_
      refine AX.getf (pc := 39) fX12_out_13 (lt_k c.hn (by omega)) hO rfl dX12_out_39 ?_
      refine AX.bipush (pc := 42) (v := nI 17) dX12_out_42 (by decide) ?_
      refine AX.ialdN (pc := 44) (i := 17) (v := (sq s 17)) (lt_k c.hn (by omega)) e89 (by decide) (by decide) (q89 17 (by decide)) dX12_out_44 ?_
      refine AX.iconst (pc := 45) (v := nI 1) dX12_out_45 (by decide) ?_
      refine AX.icmp_ne (pc := 46) (tgt := 52) dX12_out_46 (by decide) (fun hc46 => ?_) (fun q => absurd q (fun q => hd (Or.inr (Or.inr q))))
      refine AX.aload_n (pc := 52) dX12_out_52 rfl ?_
      refine AX.getf (pc := 53) fX12_out_13 (lt_k c.hn (by omega)) hO rfl dX12_out_53 ?_
      refine AX.bipush (pc := 56) (v := nI 12) dX12_out_56 (by decide) ?_
      refine AX.ialdN (pc := 58) (i := 12) (v := (sq s 12)) (lt_k c.hn (by omega)) e89 (by decide) (by decide) (q89 12 (by decide)) dX12_out_58 ?_
      refine AX.istore_n (pc := 59) (L' := [.ref 87, .int (nI xn), .int (sq s 12)]) dX12_out_59 (by decide) rfl ?_
      refine AX.aload_n (pc := 60) dX12_out_60 rfl ?_
      refine AX.getf (pc := 61) fX12_out_13 (lt_k c.hn (by omega)) hO rfl dX12_out_61 ?_
      refine AX.bipush (pc := 64) (v := nI 12) dX12_out_64 (by decide) ?_
      refine AX.iload_n (pc := 66) dX12_out_66 rfl ?_
      refine AX.iastN (pc := 67) (i := 12) (g := upd f89 12 (nI xn)) (lt_k c.hn (by omega)) e89 (by decide) (by decide) rfl dX12_out_67 ?_
      refine AX.iload_n (pc := 68) dX12_out_68 rfl ?_
      refine AX.iret (pc := 69) dX12_out_69 rfl rfl (by decide) (by decide) ?_
      have sx : Same [89] h (xset h 89 (.inl (0, 19, .inl (upd f89 12 (nI xn))))) := Same.rest
      exact ⟨by unfold aOut; rw [if_pos h_x, if_neg (fun q => hd q.2)], mdS_lt sx (by decide), c.now sx ⟨_, xset_same _ _ _, upd_agree q89⟩⟩
  · refine CA.of (by decide) rfl (fun _ => Nat.le_of_ble_eq_true rfl) ?_
    show AX w M_X12_out 0 0 0 [.ref 87, .int x, .null] [] h _
    refine AX.iload_n (pc := 0) dX12_out_0 rfl ?_
    refine AX.i2l (pc := 1) dX12_out_1 ?_
    refine AX.lconst (pc := 2) (v := 0) dX12_out_2 (by decide) ?_
    refine AX.ldc2 (pc := 3) (v := 2) dX12_out_3 cX12_out_149 ?_
    refine AX.callS (pc := 6) (M2 := M_X12_in) (As := [.long x.toInt64, .long 0, .long 2]) (rest := []) (c_in w h (x.toInt64) (0) (2)) xc_X12_out__X12_in gX12_out_X12_in rfl (Nat.le_of_ble_eq_true rfl) dX12_out_6 ?_
    rintro _ h9 ⟨rfl, e9⟩
    have e9 := e9.symm
    subst e9
    rw [decide_eq_false (fun q => h_x ((in_iff (by decide) (by decide)).mp q))]
    show AX w M_X12_out 0 0 9 [.ref 87, .int x, .null] [.int (bI false)] _ _
    refine AX.if_neB (pc := 9) (tgt := 14) dX12_out_9 (by decide) (fun q => absurd q (by decide)) (fun hc9 => ?_)
    refine AX.iconst (pc := 12) (v := (-1)) dX12_out_12 (by decide) ?_
    refine AX.iret (pc := 13) dX12_out_13 rfl rfl (by decide) (by decide) ?_
    have en : nOut (sq s) x = sq s := by unfold nOut; rw [if_neg h_x]
    rw [en]
    exact ⟨by unfold aOut; rw [if_neg h_x]; try rfl, Same.rf, c⟩
theorem c_mFalls (w : XW) (h : XH) {s : SS} {n o : Nat} {a b : Nat × Nat} (c : MS h s) (l : LV (sq s) n o a b) (x : Int32) (k : Int32) : CA w M_X12_falls [.ref 87, .int x, .int k] h (fun v' h'' => v' = some (.int (aFalls o x k)) ∧ h'' = h) := by
  obtain ⟨v, hO, hv⟩ := id c.ob
  obtain ⟨f89, e89, q89⟩ := id c.nw
  by_cases h_k : inR 0 62 k
  · obtain ⟨kn, rfl, l_k, u_k⟩ := inR_nat (by decide) h_k
    by_cases h_x : inR 1 501 x
    · obtain ⟨xn, rfl, l_x, u_x⟩ := inR_nat (by decide) h_x
      refine CA.of (by decide) rfl (fun _ => Nat.le_of_ble_eq_true rfl) ?_
      show AX w M_X12_falls 0 0 0 [.ref 87, .int (nI xn), .int (nI kn)] [] h _
      refine AX.iload_n (pc := 0) dX12_falls_0 rfl ?_
      refine AX.i2l (pc := 1) dX12_falls_1 ?_
      refine AX.lconst (pc := 2) (v := 0) dX12_falls_2 (by decide) ?_
      refine AX.ldc2 (pc := 3) (v := 62) dX12_falls_3 cX12_falls_112 ?_
      refine AX.callS (pc := 6) (M2 := M_X12_in) (As := [.long ((nI kn).toInt64), .long 0, .long 62]) (rest := []) (c_in w h ((nI kn).toInt64) (0) (62)) xc_X12_falls__X12_in gX12_falls_X12_in rfl (Nat.le_of_ble_eq_true rfl) dX12_falls_6 ?_
      rintro _ h9 ⟨rfl, e9⟩
      have e9 := e9.symm
      subst e9
      rw [decide_eq_true ((in_iff (by decide) (by decide)).mpr h_k)]
      show AX w M_X12_falls 0 0 9 [.ref 87, .int (nI xn), .int (nI kn)] [.int (bI true)] _ _
      refine AX.if_neB (pc := 9) (tgt := 14) dX12_falls_9 (by decide) (fun hc9 => ?_) (fun q => absurd q (by decide))
      refine AX.iload_n (pc := 14) dX12_falls_14 rfl ?_
      refine AX.i2l (pc := 15) dX12_falls_15 ?_
      refine AX.lconst (pc := 16) (v := 1) dX12_falls_16 (by decide) ?_
      refine AX.ldc2 (pc := 17) (v := 501) dX12_falls_17 cX12_falls_151 ?_
      refine AX.callS (pc := 20) (M2 := M_X12_in) (As := [.long ((nI xn).toInt64), .long 1, .long 501]) (rest := []) (c_in w h ((nI xn).toInt64) (1) (501)) xc_X12_falls__X12_in gX12_falls_X12_in rfl (Nat.le_of_ble_eq_true rfl) dX12_falls_20 ?_
      rintro _ h9 ⟨rfl, e9⟩
      have e9 := e9.symm
      subst e9
      rw [decide_eq_true ((in_iff (by decide) (by decide)).mpr h_x)]
      show AX w M_X12_falls 0 0 23 [.ref 87, .int (nI xn), .int (nI kn)] [.int (bI true)] _ _
      refine AX.if_eqB (pc := 23) (tgt := 35) dX12_falls_23 (by decide) (fun q => absurd q (by decide)) (fun hc23 => ?_)
      refine AX.aload_n (pc := 26) dX12_falls_26 rfl ?_
      refine AX.iload_n (pc := 27) dX12_falls_27 rfl ?_
      refine AX.iload_n (pc := 28) dX12_falls_28 rfl ?_
      refine AX.callV (pc := 29) (M2 := M_X12_nextRest) (As := [.int (nI xn), .int (nI kn)]) (rest := []) (c_nextRest w h c.hn hO c.nw l.q12 l.ho xn kn (by omega) (by omega)) xc_X12_falls__X12_nextRest gX12_falls_X12_nextRest (ci := 11) rfl (lt_k c.hn (by omega)) hO rfl (Nat.le_of_ble_eq_true rfl) dX12_falls_29 ?_
      rintro _ h9 ⟨rfl, e9⟩
      have e9 := e9.symm
      subst e9
      show AX w M_X12_falls 0 0 32 [.ref 87, .int (nI xn), .int (nI kn)] [.int (oI (nxN o xn kn))] _ _
      refine AX.goto (pc := 32) (tgt := 37) dX12_falls_32 (by decide) ?_
      refine AX.iret (pc := 37) dX12_falls_37 rfl rfl (by decide) (by decide) ?_
      exact ⟨by unfold aFalls; rw [if_pos h_k, if_pos h_x, nI_nat (show xn < 2147483648 by omega), nI_nat (show kn < 2147483648 by omega)]; try rfl, rfl⟩
    · refine CA.of (by decide) rfl (fun _ => Nat.le_of_ble_eq_true rfl) ?_
      show AX w M_X12_falls 0 0 0 [.ref 87, .int x, .int (nI kn)] [] h _
      refine AX.iload_n (pc := 0) dX12_falls_0 rfl ?_
      refine AX.i2l (pc := 1) dX12_falls_1 ?_
      refine AX.lconst (pc := 2) (v := 0) dX12_falls_2 (by decide) ?_
      refine AX.ldc2 (pc := 3) (v := 62) dX12_falls_3 cX12_falls_112 ?_
      refine AX.callS (pc := 6) (M2 := M_X12_in) (As := [.long ((nI kn).toInt64), .long 0, .long 62]) (rest := []) (c_in w h ((nI kn).toInt64) (0) (62)) xc_X12_falls__X12_in gX12_falls_X12_in rfl (Nat.le_of_ble_eq_true rfl) dX12_falls_6 ?_
      rintro _ h9 ⟨rfl, e9⟩
      have e9 := e9.symm
      subst e9
      rw [decide_eq_true ((in_iff (by decide) (by decide)).mpr h_k)]
      show AX w M_X12_falls 0 0 9 [.ref 87, .int x, .int (nI kn)] [.int (bI true)] _ _
      refine AX.if_neB (pc := 9) (tgt := 14) dX12_falls_9 (by decide) (fun hc9 => ?_) (fun q => absurd q (by decide))
      refine AX.iload_n (pc := 14) dX12_falls_14 rfl ?_
      refine AX.i2l (pc := 15) dX12_falls_15 ?_
      refine AX.lconst (pc := 16) (v := 1) dX12_falls_16 (by decide) ?_
      refine AX.ldc2 (pc := 17) (v := 501) dX12_falls_17 cX12_falls_151 ?_
      refine AX.callS (pc := 20) (M2 := M_X12_in) (As := [.long x.toInt64, .long 1, .long 501]) (rest := []) (c_in w h (x.toInt64) (1) (501)) xc_X12_falls__X12_in gX12_falls_X12_in rfl (Nat.le_of_ble_eq_true rfl) dX12_falls_20 ?_
      rintro _ h9 ⟨rfl, e9⟩
      have e9 := e9.symm
      subst e9
      rw [decide_eq_false (fun q => h_x ((in_iff (by decide) (by decide)).mp q))]
      show AX w M_X12_falls 0 0 23 [.ref 87, .int x, .int (nI kn)] [.int (bI false)] _ _
      refine AX.if_eqB (pc := 23) (tgt := 35) dX12_falls_23 (by decide) (fun hc23 => ?_) (fun q => absurd q (by decide))
      refine AX.bipush (pc := 35) (v := (-2)) dX12_falls_35 (by decide) ?_
      refine AX.iret (pc := 37) dX12_falls_37 rfl rfl (by decide) (by decide) ?_
      exact ⟨by unfold aFalls; rw [if_pos h_k, if_neg h_x]; try rfl, rfl⟩
  · refine CA.of (by decide) rfl (fun _ => Nat.le_of_ble_eq_true rfl) ?_
    show AX w M_X12_falls 0 0 0 [.ref 87, .int x, .int k] [] h _
    refine AX.iload_n (pc := 0) dX12_falls_0 rfl ?_
    refine AX.i2l (pc := 1) dX12_falls_1 ?_
    refine AX.lconst (pc := 2) (v := 0) dX12_falls_2 (by decide) ?_
    refine AX.ldc2 (pc := 3) (v := 62) dX12_falls_3 cX12_falls_112 ?_
    refine AX.callS (pc := 6) (M2 := M_X12_in) (As := [.long k.toInt64, .long 0, .long 62]) (rest := []) (c_in w h (k.toInt64) (0) (62)) xc_X12_falls__X12_in gX12_falls_X12_in rfl (Nat.le_of_ble_eq_true rfl) dX12_falls_6 ?_
    rintro _ h9 ⟨rfl, e9⟩
    have e9 := e9.symm
    subst e9
    rw [decide_eq_false (fun q => h_k ((in_iff (by decide) (by decide)).mp q))]
    show AX w M_X12_falls 0 0 9 [.ref 87, .int x, .int k] [.int (bI false)] _ _
    refine AX.if_neB (pc := 9) (tgt := 14) dX12_falls_9 (by decide) (fun q => absurd q (by decide)) (fun hc9 => ?_)
    refine AX.iconst (pc := 12) (v := (-1)) dX12_falls_12 (by decide) ?_
    refine AX.iret (pc := 13) dX12_falls_13 rfl rfl (by decide) (by decide) ?_
    exact ⟨by unfold aFalls; rw [if_neg h_k]; try rfl, rfl⟩
