/-! ===== THE LAW: its loop ===== -/
theorem and63 (x : Int32) : ∃ j, j < 64 ∧ x &&& nI 63 = nI j := by
  refine ⟨(x.toBitVec &&& (63#32)).toNat, ?_, ?_⟩
  · rw [BitVec.toNat_and]
    have h1 : x.toBitVec.toNat &&& (63#32).toNat ≤ (63#32).toNat := Nat.and_le_right
    have h2 : (63#32).toNat = 63 := rfl
    omega
  · refine Int32.toBitVec_inj.mp ?_
    rw [Int32.toBitVec_and]
    refine BitVec.eq_of_toNat_eq ?_
    show (x.toBitVec &&& (63#32)).toNat = (BitVec.ofNat 32 (x.toBitVec &&& (63#32)).toNat).toNat
    rw [BitVec.toNat_ofNat, Nat.mod_eq_of_lt (BitVec.isLt _)]
theorem INV.skip {c : Nat} {h : XH} (H : INV c h) : INV (c + 1) h := by
  obtain ⟨hn, s, o, a, b, C, M0, Lv, Tr, Im⟩ := H
  exact ⟨hn, s, o, a, b, C, M0, Lv.more (by omega), Tr, fun q => (Im q).imp fun _ z => z.imp fun _ z => z.imp fun _ z => z.more (by omega)⟩
theorem sub5 {L0 c : Nat} (h : L0 < 5) (hc : c ≤ 700) : nI L0 - nI 5 < nI (5 * c) := by
  rw [lt_i, iN (5 * c) (by omega)]
  rcases (show L0 = 0 ∨ L0 = 1 ∨ L0 = 2 ∨ L0 = 3 ∨ L0 = 4 by omega) with rfl | rfl | rfl | rfl | rfl
  · rw [show (nI 0 - nI 5).toInt = -5 by decide]; omega
  · rw [show (nI 1 - nI 5).toInt = -4 by decide]; omega
  · rw [show (nI 2 - nI 5).toInt = -3 by decide]; omega
  · rw [show (nI 3 - nI 5).toInt = -2 by decide]; omega
  · rw [show (nI 4 - nI 5).toInt = -1 by decide]; omega
theorem l_law (w : XW) {L0 : Nat} {xs : Nat → Int32} (hL0 : L0 ≤ 2560) (P : Option Value → XH → Prop) (hP : ∀ h, P (some (.int (nI 1))) h) : ∀ (g c : Nat) (h : XH), c + g = 700 → INV c h → AZ (ZL w L0 xs) w M_L_law 118 19112 18 [.retAddr 0, .ref 0, .ref 87, .int (nI (5 * c))] [] h P
  | 0, c, h, hg, hi => by
    by_cases h5 : L0 < 5
    · refine AZ.iload_n (pc := 18) dL_law_18 rfl ?_
      refine AZ.sload (pc := 19) dL_law_19 rfl ?_
      refine AZ.slen (pc := 20) dL_law_20 ?_
      refine AZ.iconst (pc := 21) (v := nI 5) dL_law_21 (by decide) ?_
      refine AZ.isub (pc := 22) dL_law_22 ?_
      refine AZ.icmp_gt (pc := 23) (tgt := 1383) dL_law_23 (by decide) (fun hc23 => ?_) (fun q => absurd (sub5 h5 (by omega)) q)
      refine AZ.iconst (pc := 1383) (v := nI 1) dL_law_1383 (by decide) ?_
      refine AZ.iret (pc := 1384) dL_law_1384 rfl rfl (by decide) (by decide) ?_
      exact hP h
    · refine AZ.iload_n (pc := 18) dL_law_18 rfl ?_
      refine AZ.sload (pc := 19) dL_law_19 rfl ?_
      refine AZ.slen (pc := 20) dL_law_20 ?_
      refine AZ.iconst (pc := 21) (v := nI 5) dL_law_21 (by decide) ?_
      refine AZ.isubN (pc := 22) (c := L0 - 5) dL_law_22 (by omega) ?_
      refine AZ.icmp_gtN (pc := 23) (tgt := 1383) dL_law_23 (by decide) (by omega) (by omega) (fun hc23 => ?_) (fun q => absurd q (by omega))
      refine AZ.iconst (pc := 1383) (v := nI 1) dL_law_1383 (by decide) ?_
      refine AZ.iret (pc := 1384) dL_law_1384 rfl rfl (by decide) (by decide) ?_
      exact hP h
  | g + 1, c, h, hg, hi => by
    by_cases hx : 5 * c + 5 ≤ L0
    · have kk : ∀ h', INV (c + 1) h' → AZ (ZL w L0 xs) w M_L_law 118 19112 1377 [.retAddr 0, .ref 0, .ref 87, .int (nI (5 * c))] [] h' P := fun h' hi' => by
        refine AZ.iincN (c := 5 * c + 5) (pc := 1377) (L' := [.retAddr 0, .ref 0, .ref 87, .int (nI (5 * c + 5))]) dL_law_1377 rfl (show nI (5 * c) + nI 5 = _ from nI_add _ _) (by decide) rfl ?_
        refine AZ.goto (pc := 1380) (tgt := 18) dL_law_1380 (by decide) ?_
        have e := l_law w (xs := xs) hL0 P hP g (c + 1) h' (by omega) hi'
        rw [show 5 * (c + 1) = 5 * c + 5 by omega] at e
        exact e
      refine AZ.iload_n (pc := 18) dL_law_18 rfl ?_
      refine AZ.sload (pc := 19) dL_law_19 rfl ?_
      refine AZ.slen (pc := 20) dL_law_20 ?_
      refine AZ.iconst (pc := 21) (v := nI 5) dL_law_21 (by decide) ?_
      refine AZ.isubN (pc := 22) (c := L0 - 5) dL_law_22 (by omega) ?_
      refine AZ.icmp_gtN (pc := 23) (tgt := 1383) dL_law_23 (by decide) (by omega) (by omega) (fun q => absurd q (by omega)) (fun hc23 => ?_)
      refine AZ.sload (pc := 26) dL_law_26 rfl ?_
      refine AZ.iload_n (pc := 27) dL_law_27 rfl ?_
      refine AZ.sld (pc := 28) (i := 5 * c) (by omega) hL0 dL_law_28 ?_
      refine AZ.bipush (pc := 29) (v := nI 63) dL_law_29 (by decide) ?_
      refine AZ.iand (pc := 31) dL_law_31 ?_
      obtain ⟨j, hj, ej⟩ := and63 (xs (5 * c))
      refine AZ.topi (y := nI j) (by first | exact ej | (rw [← ej])) ?_
      by_cases hj2 : j < 38
      · rcases (show j = 0 ∨ j = 1 ∨ j = 2 ∨ j = 3 ∨ j = 4 ∨ j = 5 ∨ j = 6 ∨ j = 7 ∨ j = 8 ∨ j = 9 ∨ j = 10 ∨ j = 11 ∨ j = 12 ∨ j = 13 ∨ j = 14 ∨ j = 15 ∨ j = 16 ∨ j = 17 ∨ j = 18 ∨ j = 19 ∨ j = 20 ∨ j = 21 ∨ j = 22 ∨ j = 23 ∨ j = 24 ∨ j = 25 ∨ j = 26 ∨ j = 27 ∨ j = 28 ∨ j = 29 ∨ j = 30 ∨ j = 31 ∨ j = 32 ∨ j = 33 ∨ j = 34 ∨ j = 35 ∨ j = 36 ∨ j = 37 by omega) with rfl | rfl | rfl | rfl | rfl | rfl | rfl | rfl | rfl | rfl | rfl | rfl | rfl | rfl | rfl | rfl | rfl | rfl | rfl | rfl | rfl | rfl | rfl | rfl | rfl | rfl | rfl | rfl | rfl | rfl | rfl | rfl | rfl | rfl | rfl | rfl | rfl | rfl
        · refine AZ.tableIn (pc := 32) (off := 168) (tgt := 200) dL_law_32 (by decide) (by decide) (by decide) (by decide) ?_
          exact l_case0 w hL0 P hi hx kk
        · refine AZ.tableIn (pc := 32) (off := 201) (tgt := 233) dL_law_32 (by decide) (by decide) (by decide) (by decide) ?_
          exact l_case1 w hL0 P hi hx kk
        · refine AZ.tableIn (pc := 32) (off := 234) (tgt := 266) dL_law_32 (by decide) (by decide) (by decide) (by decide) ?_
          exact l_case2 w hL0 P hi hx kk
        · refine AZ.tableIn (pc := 32) (off := 277) (tgt := 309) dL_law_32 (by decide) (by decide) (by decide) (by decide) ?_
          exact l_case3 w hL0 P hi hx kk
        · refine AZ.tableIn (pc := 32) (off := 330) (tgt := 362) dL_law_32 (by decide) (by decide) (by decide) (by decide) ?_
          exact l_case4 w hL0 P hi hx kk
        · refine AZ.tableIn (pc := 32) (off := 353) (tgt := 385) dL_law_32 (by decide) (by decide) (by decide) (by decide) ?_
          exact l_case5 w hL0 P hi hx kk
        · refine AZ.tableIn (pc := 32) (off := 386) (tgt := 418) dL_law_32 (by decide) (by decide) (by decide) (by decide) ?_
          exact l_case6 w hL0 P hi hx kk
        · refine AZ.tableIn (pc := 32) (off := 420) (tgt := 452) dL_law_32 (by decide) (by decide) (by decide) (by decide) ?_
          exact l_case7 w hL0 P hi hx kk
        · refine AZ.tableIn (pc := 32) (off := 453) (tgt := 485) dL_law_32 (by decide) (by decide) (by decide) (by decide) ?_
          exact l_case8 w hL0 P hi hx kk
        · refine AZ.tableIn (pc := 32) (off := 486) (tgt := 518) dL_law_32 (by decide) (by decide) (by decide) (by decide) ?_
          exact l_case9 w hL0 P hi hx kk
        · refine AZ.tableIn (pc := 32) (off := 519) (tgt := 551) dL_law_32 (by decide) (by decide) (by decide) (by decide) ?_
          exact l_case10 w hL0 P hi hx kk
        · refine AZ.tableIn (pc := 32) (off := 563) (tgt := 595) dL_law_32 (by decide) (by decide) (by decide) (by decide) ?_
          exact l_case11 w hL0 P hi hx kk
        · refine AZ.tableIn (pc := 32) (off := 606) (tgt := 638) dL_law_32 (by decide) (by decide) (by decide) (by decide) ?_
          exact l_case12 w hL0 P hi hx kk
        · refine AZ.tableIn (pc := 32) (off := 650) (tgt := 682) dL_law_32 (by decide) (by decide) (by decide) (by decide) ?_
          exact l_case13 w hL0 P hi hx kk
        · refine AZ.tableIn (pc := 32) (off := 693) (tgt := 725) dL_law_32 (by decide) (by decide) (by decide) (by decide) ?_
          exact l_case14 w hL0 P hi hx kk
        · refine AZ.tableIn (pc := 32) (off := 726) (tgt := 758) dL_law_32 (by decide) (by decide) (by decide) (by decide) ?_
          exact l_case15 w hL0 P hi hx kk
        · refine AZ.tableIn (pc := 32) (off := 759) (tgt := 791) dL_law_32 (by decide) (by decide) (by decide) (by decide) ?_
          exact l_case16 w hL0 P hi hx kk
        · refine AZ.tableIn (pc := 32) (off := 792) (tgt := 824) dL_law_32 (by decide) (by decide) (by decide) (by decide) ?_
          exact l_case17 w hL0 P hi hx kk
        · refine AZ.tableIn (pc := 32) (off := 835) (tgt := 867) dL_law_32 (by decide) (by decide) (by decide) (by decide) ?_
          exact l_case18 w hL0 P hi hx kk
        · refine AZ.tableIn (pc := 32) (off := 868) (tgt := 900) dL_law_32 (by decide) (by decide) (by decide) (by decide) ?_
          exact l_case19 w hL0 P hi hx kk
        · refine AZ.tableIn (pc := 32) (off := 891) (tgt := 923) dL_law_32 (by decide) (by decide) (by decide) (by decide) ?_
          exact l_case20 w hL0 P hi hx kk
        · refine AZ.tableIn (pc := 32) (off := 914) (tgt := 946) dL_law_32 (by decide) (by decide) (by decide) (by decide) ?_
          exact l_case21 w hL0 P hi hx kk
        · refine AZ.tableIn (pc := 32) (off := 937) (tgt := 969) dL_law_32 (by decide) (by decide) (by decide) (by decide) ?_
          exact l_case22 w hL0 P hi hx kk
        · refine AZ.tableIn (pc := 32) (off := 960) (tgt := 992) dL_law_32 (by decide) (by decide) (by decide) (by decide) ?_
          exact l_case23 w hL0 P hi hx kk
        · refine AZ.tableIn (pc := 32) (off := 983) (tgt := 1015) dL_law_32 (by decide) (by decide) (by decide) (by decide) ?_
          exact l_case24 w hL0 P hi hx kk
        · refine AZ.tableIn (pc := 32) (off := 1006) (tgt := 1038) dL_law_32 (by decide) (by decide) (by decide) (by decide) ?_
          exact l_case25 w hL0 P hi hx kk
        · refine AZ.tableIn (pc := 32) (off := 1029) (tgt := 1061) dL_law_32 (by decide) (by decide) (by decide) (by decide) ?_
          exact l_case26 w hL0 P hi hx kk
        · refine AZ.tableIn (pc := 32) (off := 1052) (tgt := 1084) dL_law_32 (by decide) (by decide) (by decide) (by decide) ?_
          exact l_case27 w hL0 P hi hx kk
        · refine AZ.tableIn (pc := 32) (off := 1065) (tgt := 1097) dL_law_32 (by decide) (by decide) (by decide) (by decide) ?_
          exact l_case28 w hL0 P hi hx kk
        · refine AZ.tableIn (pc := 32) (off := 1088) (tgt := 1120) dL_law_32 (by decide) (by decide) (by decide) (by decide) ?_
          exact l_case29 w hL0 P hi hx kk
        · refine AZ.tableIn (pc := 32) (off := 1101) (tgt := 1133) dL_law_32 (by decide) (by decide) (by decide) (by decide) ?_
          exact l_case30 w hL0 P hi hx kk
        · refine AZ.tableIn (pc := 32) (off := 1124) (tgt := 1156) dL_law_32 (by decide) (by decide) (by decide) (by decide) ?_
          exact l_case31 w hL0 P hi hx kk
        · refine AZ.tableIn (pc := 32) (off := 1167) (tgt := 1199) dL_law_32 (by decide) (by decide) (by decide) (by decide) ?_
          exact l_case32 w hL0 P hi hx kk
        · refine AZ.tableIn (pc := 32) (off := 1210) (tgt := 1242) dL_law_32 (by decide) (by decide) (by decide) (by decide) ?_
          exact l_case33 w hL0 P hi hx kk
        · refine AZ.tableIn (pc := 32) (off := 1243) (tgt := 1275) dL_law_32 (by decide) (by decide) (by decide) (by decide) ?_
          exact l_case34 w hL0 P hi hx kk
        · refine AZ.tableIn (pc := 32) (off := 1276) (tgt := 1308) dL_law_32 (by decide) (by decide) (by decide) (by decide) ?_
          exact l_case35 w hL0 P hi hx kk
        · refine AZ.tableIn (pc := 32) (off := 1319) (tgt := 1351) dL_law_32 (by decide) (by decide) (by decide) (by decide) ?_
          exact l_case36 w hL0 P hi hx kk
        · refine AZ.tableIn (pc := 32) (off := 1332) (tgt := 1364) dL_law_32 (by decide) (by decide) (by decide) (by decide) ?_
          exact l_case37 w hL0 P hi hx kk
      · refine AZ.tableOut (pc := 32) (tgt := 1377) dL_law_32 (Or.inr (by rw [iN j (by omega)]; omega)) (by decide) ?_
        exact kk h hi.skip
    by_cases h5 : L0 < 5
    · refine AZ.iload_n (pc := 18) dL_law_18 rfl ?_
      refine AZ.sload (pc := 19) dL_law_19 rfl ?_
      refine AZ.slen (pc := 20) dL_law_20 ?_
      refine AZ.iconst (pc := 21) (v := nI 5) dL_law_21 (by decide) ?_
      refine AZ.isub (pc := 22) dL_law_22 ?_
      refine AZ.icmp_gt (pc := 23) (tgt := 1383) dL_law_23 (by decide) (fun hc23 => ?_) (fun q => absurd (sub5 h5 (by omega)) q)
      refine AZ.iconst (pc := 1383) (v := nI 1) dL_law_1383 (by decide) ?_
      refine AZ.iret (pc := 1384) dL_law_1384 rfl rfl (by decide) (by decide) ?_
      exact hP h
    · refine AZ.iload_n (pc := 18) dL_law_18 rfl ?_
      refine AZ.sload (pc := 19) dL_law_19 rfl ?_
      refine AZ.slen (pc := 20) dL_law_20 ?_
      refine AZ.iconst (pc := 21) (v := nI 5) dL_law_21 (by decide) ?_
      refine AZ.isubN (pc := 22) (c := L0 - 5) dL_law_22 (by omega) ?_
      refine AZ.icmp_gtN (pc := 23) (tgt := 1383) dL_law_23 (by decide) (by omega) (by omega) (fun hc23 => ?_) (fun q => absurd q (by omega))
      refine AZ.iconst (pc := 1383) (v := nI 1) dL_law_1383 (by decide) ?_
      refine AZ.iret (pc := 1384) dL_law_1384 rfl rfl (by decide) (by decide) ?_
      exact hP h
