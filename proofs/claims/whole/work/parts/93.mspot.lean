/-! ===== THE REFERENCE: a SPOT of the TAPE ===== -/
def rsR (h' : XH) (v : Nat → Int32) (l a k : Nat) (x : Option Value) (r : Nat ⊕ (Nat × Nat)) : Prop := match r with
  | .inl p => (∃ u : Int32, x = some (.int u)) ∧ TM h' v l p (nI 1) k
  | .inr (n, s) => x = some (.int (nI s)) ∧ TM h' v l (a + n) (nI 0) k
set_option maxHeartbeats 16000000 in
theorem c_readSpot (w : XW) (h : XH) {v : Nat → Int32} {y : Nat → Nat} {l a k : Nat} {z : Int32} (hl60 : l ≤ 60) (ha : a ≤ l) (hn : 118 ≤ h.1) (hO : TM h v l a z k) (hT : HT h y l) : CA w M_X12_readSpot [.ref 87] h (fun v' h' => Same [87] h h' ∧ rsR h' v l a k v' (psN y l a)) := by
  refine CA.of (by decide) rfl (fun _ => Nat.le_of_ble_eq_true rfl) ?_
  obtain ⟨ft, e112, qt_⟩ := id hT
  show AX w M_X12_readSpot 0 0 0 [.ref 87, .null] [] h _
  by_cases hla : l ≤ a
  · have e : a = l := by omega
    subst e
    rw [show psN y a a = .inl a from by unfold psN; rw [if_pos hla]]
    refine AX.aload_n (pc := 0) dX12_readSpot_0 rfl ?_
    refine AX.callV (pc := 1) (M2 := M_X12_here) (As := []) (rest := []) (c_hereOut w h (y := y) hn hO hT (by omega) hl60 (by omega)) xc_X12_readSpot__X12_here gX12_readSpot_X12_here (ci := 11) rfl (lt_k hn (by decide)) hO rfl (Nat.le_of_ble_eq_true rfl) dX12_readSpot_1 ?_
    rintro _ h9 ⟨rfl, e9⟩
    have e9 := e9.symm
    subst e9
    show AX w M_X12_readSpot 0 0 4 [.ref 87, .null] [.int (-1)] _ _
    refine AX.istore_n (pc := 4) (L' := [.ref 87, .int (-1)]) dX12_readSpot_4 (by decide) rfl ?_
    refine AX.aload_n (pc := 5) dX12_readSpot_5 rfl ?_
    refine AX.iload_n (pc := 6) dX12_readSpot_6 rfl ?_
    refine AX.bipush (pc := 7) (v := nI 83) dX12_readSpot_7 (by decide) ?_
    refine AX.icmp_eq (pc := 9) (tgt := 46) dX12_readSpot_9 (by decide) (fun q => absurd q (neT iM1 (iN 83 (by omega)) (by omega))) (fun hc9 => ?_)
    refine AX.iload_n (pc := 12) dX12_readSpot_12 rfl ?_
    refine AX.bipush (pc := 13) (v := nI 68) dX12_readSpot_13 (by decide) ?_
    refine AX.icmp_eq (pc := 15) (tgt := 46) dX12_readSpot_15 (by decide) (fun q => absurd q (neT iM1 (iN 68 (by omega)) (by omega))) (fun hc15 => ?_)
    refine AX.iload_n (pc := 18) dX12_readSpot_18 rfl ?_
    refine AX.bipush (pc := 19) (v := nI 84) dX12_readSpot_19 (by decide) ?_
    refine AX.icmp_eq (pc := 21) (tgt := 46) dX12_readSpot_21 (by decide) (fun q => absurd q (neT iM1 (iN 84 (by omega)) (by omega))) (fun hc21 => ?_)
    refine AX.iload_n (pc := 24) dX12_readSpot_24 rfl ?_
    refine AX.bipush (pc := 25) (v := nI 79) dX12_readSpot_25 (by decide) ?_
    refine AX.icmp_eq (pc := 27) (tgt := 46) dX12_readSpot_27 (by decide) (fun q => absurd q (neT iM1 (iN 79 (by omega)) (by omega))) (fun hc27 => ?_)
    refine AX.iload_n (pc := 30) dX12_readSpot_30 rfl ?_
    refine AX.bipush (pc := 31) (v := nI 66) dX12_readSpot_31 (by decide) ?_
    refine AX.icmp_eq (pc := 33) (tgt := 46) dX12_readSpot_33 (by decide) (fun q => absurd q (neT iM1 (iN 66 (by omega)) (by omega))) (fun hc33 => ?_)
    refine AX.iload_n (pc := 36) dX12_readSpot_36 rfl ?_
    refine AX.bipush (pc := 37) (v := nI 45) dX12_readSpot_37 (by decide) ?_
    refine AX.icmp_eq (pc := 39) (tgt := 46) dX12_readSpot_39 (by decide) (fun q => absurd q (neT iM1 (iN 45 (by omega)) (by omega))) (fun hc39 => ?_)
    refine AX.iconst (pc := 42) (v := nI 1) dX12_readSpot_42 (by decide) ?_
    refine AX.goto (pc := 43) (tgt := 47) dX12_readSpot_43 (by decide) ?_
    refine AX.putf (pc := 47) (fs' := [.ref 88, .ref 89, .ref 90, .int (v 0), .int (v 1), .ref 91, .ref 92, .ref 93, .ref 94, .ref 95, .ref 96, .ref 97, .ref 98, .ref 99, .ref 100, .ref 101, .int (v 2), .ref 102, .ref 103, .ref 104, .ref 105, .ref 106, .ref 107, .ref 108, .int (v 3), .ref 109, .int (v 4), .ref 110, .ref 111, .int (v 5), .ref 112, .int (nI a), .int (nI a), .int (nI 1), .ref 113, .int (nI k), .ref 114, .ref 115, .ref 116, .ref 117]) fX12_readSpot_313 rfl (lt_k hn (by decide)) hO (Nat.le_of_ble_eq_true rfl) rfl rfl rfl dX12_readSpot_47 ?_
    refine AX.aload_n (pc := 50) dX12_readSpot_50 rfl ?_
    refine AX.dup (pc := 51) dX12_readSpot_51 rfl ?_
    refine AX.getf (pc := 52) fX12_readSpot_310 (lt_k hn (by decide)) (xset_same _ _ _) rfl dX12_readSpot_52 ?_
    refine AX.aload_n (pc := 55) dX12_readSpot_55 rfl ?_
    refine AX.getf (pc := 56) fX12_readSpot_313 (lt_k hn (by decide)) (xset_same _ _ _) rfl dX12_readSpot_56 ?_
    refine AX.if_eqN (pc := 59) (tgt := 66) dX12_readSpot_59 (by decide) (by decide) (fun q => absurd q (by decide)) (fun hc59 => ?_)
    refine AX.iconst (pc := 62) (v := nI 0) dX12_readSpot_62 (by decide) ?_
    refine AX.goto (pc := 63) (tgt := 67) dX12_readSpot_63 (by decide) ?_
    refine AX.iaddN (pc := 67) (c := a) dX12_readSpot_67 rfl ?_
    refine AX.putf (pc := 68) (h := xset h 87 (.inr (11, [.ref 88, .ref 89, .ref 90, .int (v 0), .int (v 1), .ref 91, .ref 92, .ref 93, .ref 94, .ref 95, .ref 96, .ref 97, .ref 98, .ref 99, .ref 100, .ref 101, .int (v 2), .ref 102, .ref 103, .ref 104, .ref 105, .ref 106, .ref 107, .ref 108, .int (v 3), .ref 109, .int (v 4), .ref 110, .ref 111, .int (v 5), .ref 112, .int (nI a), .int (nI a), .int (nI 1), .ref 113, .int (nI k), .ref 114, .ref 115, .ref 116, .ref 117]))) (a := 87) (fs' := [.ref 88, .ref 89, .ref 90, .int (v 0), .int (v 1), .ref 91, .ref 92, .ref 93, .ref 94, .ref 95, .ref 96, .ref 97, .ref 98, .ref 99, .ref 100, .ref 101, .int (v 2), .ref 102, .ref 103, .ref 104, .ref 105, .ref 106, .ref 107, .ref 108, .int (v 3), .ref 109, .int (v 4), .ref 110, .ref 111, .int (v 5), .ref 112, .int (nI a), .int (nI a), .int (nI 1), .ref 113, .int (nI k), .ref 114, .ref 115, .ref 116, .ref 117]) fX12_readSpot_310 rfl (lt_k hn (by decide)) (xset_same _ _ _) (Nat.le_of_ble_eq_true rfl) rfl rfl rfl dX12_readSpot_68 ?_
    refine AX.aload_n (pc := 71) dX12_readSpot_71 rfl ?_
    refine AX.getf (pc := 72) fX12_readSpot_313 (lt_k hn (by decide)) (xset_same _ _ _) rfl dX12_readSpot_72 ?_
    refine AX.if_neN (pc := 75) (tgt := 84) dX12_readSpot_75 (by decide) (by decide) (fun hc75 => ?_) (fun q => absurd q (by decide))
    refine AX.iconst (pc := 84) (v := nI 0) dX12_readSpot_84 (by decide) ?_
    refine AX.iret (pc := 85) dX12_readSpot_85 rfl rfl (by decide) (by decide) ?_
    have sx : Same [87] h (xset (xset h 87 (.inr (11, [.ref 88, .ref 89, .ref 90, .int (v 0), .int (v 1), .ref 91, .ref 92, .ref 93, .ref 94, .ref 95, .ref 96, .ref 97, .ref 98, .ref 99, .ref 100, .ref 101, .int (v 2), .ref 102, .ref 103, .ref 104, .ref 105, .ref 106, .ref 107, .ref 108, .int (v 3), .ref 109, .int (v 4), .ref 110, .ref 111, .int (v 5), .ref 112, .int (nI a), .int (nI a), .int (nI 1), .ref 113, .int (nI k), .ref 114, .ref 115, .ref 116, .ref 117]))) 87 (.inr (11, [.ref 88, .ref 89, .ref 90, .int (v 0), .int (v 1), .ref 91, .ref 92, .ref 93, .ref 94, .ref 95, .ref 96, .ref 97, .ref 98, .ref 99, .ref 100, .ref 101, .int (v 2), .ref 102, .ref 103, .ref 104, .ref 105, .ref 106, .ref 107, .ref 108, .int (v 3), .ref 109, .int (v 4), .ref 110, .ref 111, .int (v 5), .ref 112, .int (nI a), .int (nI a), .int (nI 1), .ref 113, .int (nI k), .ref 114, .ref 115, .ref 116, .ref 117]))) := Same.set (Same.set (Same.rf) (by simp)) (by simp)
    exact ⟨sx, ⟨_, rfl⟩, xset_same _ _ _⟩
  have hy1 := (qt_ a (by omega)).2.1
  by_cases hy : y a = 45
  · rw [show psN y l a = .inr (1, 0) from by unfold psN; rw [if_neg hla, if_pos hy]]
    refine AX.aload_n (pc := 0) dX12_readSpot_0 rfl ?_
    refine AX.callV (pc := 1) (M2 := M_X12_here) (As := []) (rest := []) (c_hereIn w h (y := y) hn hO hT (by omega)) xc_X12_readSpot__X12_here gX12_readSpot_X12_here (ci := 11) rfl (lt_k hn (by decide)) hO rfl (Nat.le_of_ble_eq_true rfl) dX12_readSpot_1 ?_
    rintro _ h9 ⟨rfl, e9⟩
    have e9 := e9.symm
    subst e9
    rw [hy]
    show AX w M_X12_readSpot 0 0 4 [.ref 87, .null] [.int (nI 45)] _ _
    refine AX.istore_n (pc := 4) (L' := [.ref 87, .int (nI 45)]) dX12_readSpot_4 (by decide) rfl ?_
    refine AX.aload_n (pc := 5) dX12_readSpot_5 rfl ?_
    refine AX.iload_n (pc := 6) dX12_readSpot_6 rfl ?_
    refine AX.bipush (pc := 7) (v := nI 83) dX12_readSpot_7 (by decide) ?_
    refine AX.icmp_eqN (pc := 9) (tgt := 46) dX12_readSpot_9 (by decide) (by decide) (by decide) (fun q => absurd q (by decide)) (fun hc9 => ?_)
    refine AX.iload_n (pc := 12) dX12_readSpot_12 rfl ?_
    refine AX.bipush (pc := 13) (v := nI 68) dX12_readSpot_13 (by decide) ?_
    refine AX.icmp_eqN (pc := 15) (tgt := 46) dX12_readSpot_15 (by decide) (by decide) (by decide) (fun q => absurd q (by decide)) (fun hc15 => ?_)
    refine AX.iload_n (pc := 18) dX12_readSpot_18 rfl ?_
    refine AX.bipush (pc := 19) (v := nI 84) dX12_readSpot_19 (by decide) ?_
    refine AX.icmp_eqN (pc := 21) (tgt := 46) dX12_readSpot_21 (by decide) (by decide) (by decide) (fun q => absurd q (by decide)) (fun hc21 => ?_)
    refine AX.iload_n (pc := 24) dX12_readSpot_24 rfl ?_
    refine AX.bipush (pc := 25) (v := nI 79) dX12_readSpot_25 (by decide) ?_
    refine AX.icmp_eqN (pc := 27) (tgt := 46) dX12_readSpot_27 (by decide) (by decide) (by decide) (fun q => absurd q (by decide)) (fun hc27 => ?_)
    refine AX.iload_n (pc := 30) dX12_readSpot_30 rfl ?_
    refine AX.bipush (pc := 31) (v := nI 66) dX12_readSpot_31 (by decide) ?_
    refine AX.icmp_eqN (pc := 33) (tgt := 46) dX12_readSpot_33 (by decide) (by decide) (by decide) (fun q => absurd q (by decide)) (fun hc33 => ?_)
    refine AX.iload_n (pc := 36) dX12_readSpot_36 rfl ?_
    refine AX.bipush (pc := 37) (v := nI 45) dX12_readSpot_37 (by decide) ?_
    refine AX.icmp_eqN (pc := 39) (tgt := 46) dX12_readSpot_39 (by decide) (by decide) (by decide) (fun hc39 => ?_) (fun q => absurd q (by decide))
    refine AX.iconst (pc := 46) (v := nI 0) dX12_readSpot_46 (by decide) ?_
    refine AX.putf (pc := 47) (fs' := [.ref 88, .ref 89, .ref 90, .int (v 0), .int (v 1), .ref 91, .ref 92, .ref 93, .ref 94, .ref 95, .ref 96, .ref 97, .ref 98, .ref 99, .ref 100, .ref 101, .int (v 2), .ref 102, .ref 103, .ref 104, .ref 105, .ref 106, .ref 107, .ref 108, .int (v 3), .ref 109, .int (v 4), .ref 110, .ref 111, .int (v 5), .ref 112, .int (nI l), .int (nI a), .int (nI 0), .ref 113, .int (nI k), .ref 114, .ref 115, .ref 116, .ref 117]) fX12_readSpot_313 rfl (lt_k hn (by decide)) hO (Nat.le_of_ble_eq_true rfl) rfl rfl rfl dX12_readSpot_47 ?_
    refine AX.aload_n (pc := 50) dX12_readSpot_50 rfl ?_
    refine AX.dup (pc := 51) dX12_readSpot_51 rfl ?_
    refine AX.getf (pc := 52) fX12_readSpot_310 (lt_k hn (by decide)) (xset_same _ _ _) rfl dX12_readSpot_52 ?_
    refine AX.aload_n (pc := 55) dX12_readSpot_55 rfl ?_
    refine AX.getf (pc := 56) fX12_readSpot_313 (lt_k hn (by decide)) (xset_same _ _ _) rfl dX12_readSpot_56 ?_
    refine AX.if_eqN (pc := 59) (tgt := 66) dX12_readSpot_59 (by decide) (by decide) (fun hc59 => ?_) (fun q => absurd q (by decide))
    refine AX.iconst (pc := 66) (v := nI 1) dX12_readSpot_66 (by decide) ?_
    refine AX.iaddN (pc := 67) (c := a + 1) dX12_readSpot_67 rfl ?_
    refine AX.putf (pc := 68) (h := xset h 87 (.inr (11, [.ref 88, .ref 89, .ref 90, .int (v 0), .int (v 1), .ref 91, .ref 92, .ref 93, .ref 94, .ref 95, .ref 96, .ref 97, .ref 98, .ref 99, .ref 100, .ref 101, .int (v 2), .ref 102, .ref 103, .ref 104, .ref 105, .ref 106, .ref 107, .ref 108, .int (v 3), .ref 109, .int (v 4), .ref 110, .ref 111, .int (v 5), .ref 112, .int (nI l), .int (nI a), .int (nI 0), .ref 113, .int (nI k), .ref 114, .ref 115, .ref 116, .ref 117]))) (a := 87) (fs' := [.ref 88, .ref 89, .ref 90, .int (v 0), .int (v 1), .ref 91, .ref 92, .ref 93, .ref 94, .ref 95, .ref 96, .ref 97, .ref 98, .ref 99, .ref 100, .ref 101, .int (v 2), .ref 102, .ref 103, .ref 104, .ref 105, .ref 106, .ref 107, .ref 108, .int (v 3), .ref 109, .int (v 4), .ref 110, .ref 111, .int (v 5), .ref 112, .int (nI l), .int (nI (a + 1)), .int (nI 0), .ref 113, .int (nI k), .ref 114, .ref 115, .ref 116, .ref 117]) fX12_readSpot_310 rfl (lt_k hn (by decide)) (xset_same _ _ _) (Nat.le_of_ble_eq_true rfl) rfl rfl rfl dX12_readSpot_68 ?_
    refine AX.aload_n (pc := 71) dX12_readSpot_71 rfl ?_
    refine AX.getf (pc := 72) fX12_readSpot_313 (lt_k hn (by decide)) (xset_same _ _ _) rfl dX12_readSpot_72 ?_
    refine AX.if_neN (pc := 75) (tgt := 84) dX12_readSpot_75 (by decide) (by decide) (fun q => absurd q (by decide)) (fun hc75 => ?_)
    refine AX.iload_n (pc := 78) dX12_readSpot_78 rfl ?_
    refine AX.bipush (pc := 79) (v := nI 45) dX12_readSpot_79 (by decide) ?_
    refine AX.icmp_neN (pc := 81) (tgt := 86) dX12_readSpot_81 (by decide) (by decide) (by decide) (fun q => absurd q (by decide)) (fun hc81 => ?_)
    refine AX.iconst (pc := 84) (v := nI 0) dX12_readSpot_84 (by decide) ?_
    refine AX.iret (pc := 85) dX12_readSpot_85 rfl rfl (by decide) (by decide) ?_
    have sx : Same [87] h (xset (xset h 87 (.inr (11, [.ref 88, .ref 89, .ref 90, .int (v 0), .int (v 1), .ref 91, .ref 92, .ref 93, .ref 94, .ref 95, .ref 96, .ref 97, .ref 98, .ref 99, .ref 100, .ref 101, .int (v 2), .ref 102, .ref 103, .ref 104, .ref 105, .ref 106, .ref 107, .ref 108, .int (v 3), .ref 109, .int (v 4), .ref 110, .ref 111, .int (v 5), .ref 112, .int (nI l), .int (nI a), .int (nI 0), .ref 113, .int (nI k), .ref 114, .ref 115, .ref 116, .ref 117]))) 87 (.inr (11, [.ref 88, .ref 89, .ref 90, .int (v 0), .int (v 1), .ref 91, .ref 92, .ref 93, .ref 94, .ref 95, .ref 96, .ref 97, .ref 98, .ref 99, .ref 100, .ref 101, .int (v 2), .ref 102, .ref 103, .ref 104, .ref 105, .ref 106, .ref 107, .ref 108, .int (v 3), .ref 109, .int (v 4), .ref 110, .ref 111, .int (v 5), .ref 112, .int (nI l), .int (nI (a + 1)), .int (nI 0), .ref 113, .int (nI k), .ref 114, .ref 115, .ref 116, .ref 117]))) := Same.set (Same.set (Same.rf) (by simp)) (by simp)
    exact ⟨sx, rfl, xset_same _ _ _⟩
  by_cases hy : y a = 79
  · by_cases pY : a + 1 < l ∧ y (a + 1) = 66
    · rw [show psN y l a = .inr (2, 61) from by unfold psN; rw [if_neg hla, if_neg (show ¬ y a = 45 by omega), if_pos hy]; unfold paN; rw [if_pos pY]]
      refine AX.aload_n (pc := 0) dX12_readSpot_0 rfl ?_
      refine AX.callV (pc := 1) (M2 := M_X12_here) (As := []) (rest := []) (c_hereIn w h (y := y) hn hO hT (by omega)) xc_X12_readSpot__X12_here gX12_readSpot_X12_here (ci := 11) rfl (lt_k hn (by decide)) hO rfl (Nat.le_of_ble_eq_true rfl) dX12_readSpot_1 ?_
      rintro _ h9 ⟨rfl, e9⟩
      have e9 := e9.symm
      subst e9
      rw [hy]
      show AX w M_X12_readSpot 0 0 4 [.ref 87, .null] [.int (nI 79)] _ _
      refine AX.istore_n (pc := 4) (L' := [.ref 87, .int (nI 79)]) dX12_readSpot_4 (by decide) rfl ?_
      refine AX.aload_n (pc := 5) dX12_readSpot_5 rfl ?_
      refine AX.iload_n (pc := 6) dX12_readSpot_6 rfl ?_
      refine AX.bipush (pc := 7) (v := nI 83) dX12_readSpot_7 (by decide) ?_
      refine AX.icmp_eqN (pc := 9) (tgt := 46) dX12_readSpot_9 (by decide) (by decide) (by decide) (fun q => absurd q (by decide)) (fun hc9 => ?_)
      refine AX.iload_n (pc := 12) dX12_readSpot_12 rfl ?_
      refine AX.bipush (pc := 13) (v := nI 68) dX12_readSpot_13 (by decide) ?_
      refine AX.icmp_eqN (pc := 15) (tgt := 46) dX12_readSpot_15 (by decide) (by decide) (by decide) (fun q => absurd q (by decide)) (fun hc15 => ?_)
      refine AX.iload_n (pc := 18) dX12_readSpot_18 rfl ?_
      refine AX.bipush (pc := 19) (v := nI 84) dX12_readSpot_19 (by decide) ?_
      refine AX.icmp_eqN (pc := 21) (tgt := 46) dX12_readSpot_21 (by decide) (by decide) (by decide) (fun q => absurd q (by decide)) (fun hc21 => ?_)
      refine AX.iload_n (pc := 24) dX12_readSpot_24 rfl ?_
      refine AX.bipush (pc := 25) (v := nI 79) dX12_readSpot_25 (by decide) ?_
      refine AX.icmp_eqN (pc := 27) (tgt := 46) dX12_readSpot_27 (by decide) (by decide) (by decide) (fun hc27 => ?_) (fun q => absurd q (by decide))
      refine AX.iconst (pc := 46) (v := nI 0) dX12_readSpot_46 (by decide) ?_
      refine AX.putf (pc := 47) (fs' := [.ref 88, .ref 89, .ref 90, .int (v 0), .int (v 1), .ref 91, .ref 92, .ref 93, .ref 94, .ref 95, .ref 96, .ref 97, .ref 98, .ref 99, .ref 100, .ref 101, .int (v 2), .ref 102, .ref 103, .ref 104, .ref 105, .ref 106, .ref 107, .ref 108, .int (v 3), .ref 109, .int (v 4), .ref 110, .ref 111, .int (v 5), .ref 112, .int (nI l), .int (nI a), .int (nI 0), .ref 113, .int (nI k), .ref 114, .ref 115, .ref 116, .ref 117]) fX12_readSpot_313 rfl (lt_k hn (by decide)) hO (Nat.le_of_ble_eq_true rfl) rfl rfl rfl dX12_readSpot_47 ?_
      refine AX.aload_n (pc := 50) dX12_readSpot_50 rfl ?_
      refine AX.dup (pc := 51) dX12_readSpot_51 rfl ?_
      refine AX.getf (pc := 52) fX12_readSpot_310 (lt_k hn (by decide)) (xset_same _ _ _) rfl dX12_readSpot_52 ?_
      refine AX.aload_n (pc := 55) dX12_readSpot_55 rfl ?_
      refine AX.getf (pc := 56) fX12_readSpot_313 (lt_k hn (by decide)) (xset_same _ _ _) rfl dX12_readSpot_56 ?_
      refine AX.if_eqN (pc := 59) (tgt := 66) dX12_readSpot_59 (by decide) (by decide) (fun hc59 => ?_) (fun q => absurd q (by decide))
      refine AX.iconst (pc := 66) (v := nI 1) dX12_readSpot_66 (by decide) ?_
      refine AX.iaddN (pc := 67) (c := a + 1) dX12_readSpot_67 rfl ?_
      refine AX.putf (pc := 68) (h := xset h 87 (.inr (11, [.ref 88, .ref 89, .ref 90, .int (v 0), .int (v 1), .ref 91, .ref 92, .ref 93, .ref 94, .ref 95, .ref 96, .ref 97, .ref 98, .ref 99, .ref 100, .ref 101, .int (v 2), .ref 102, .ref 103, .ref 104, .ref 105, .ref 106, .ref 107, .ref 108, .int (v 3), .ref 109, .int (v 4), .ref 110, .ref 111, .int (v 5), .ref 112, .int (nI l), .int (nI a), .int (nI 0), .ref 113, .int (nI k), .ref 114, .ref 115, .ref 116, .ref 117]))) (a := 87) (fs' := [.ref 88, .ref 89, .ref 90, .int (v 0), .int (v 1), .ref 91, .ref 92, .ref 93, .ref 94, .ref 95, .ref 96, .ref 97, .ref 98, .ref 99, .ref 100, .ref 101, .int (v 2), .ref 102, .ref 103, .ref 104, .ref 105, .ref 106, .ref 107, .ref 108, .int (v 3), .ref 109, .int (v 4), .ref 110, .ref 111, .int (v 5), .ref 112, .int (nI l), .int (nI (a + 1)), .int (nI 0), .ref 113, .int (nI k), .ref 114, .ref 115, .ref 116, .ref 117]) fX12_readSpot_310 rfl (lt_k hn (by decide)) (xset_same _ _ _) (Nat.le_of_ble_eq_true rfl) rfl rfl rfl dX12_readSpot_68 ?_
      have sx : Same [87] h (xset (xset h 87 (.inr (11, [.ref 88, .ref 89, .ref 90, .int (v 0), .int (v 1), .ref 91, .ref 92, .ref 93, .ref 94, .ref 95, .ref 96, .ref 97, .ref 98, .ref 99, .ref 100, .ref 101, .int (v 2), .ref 102, .ref 103, .ref 104, .ref 105, .ref 106, .ref 107, .ref 108, .int (v 3), .ref 109, .int (v 4), .ref 110, .ref 111, .int (v 5), .ref 112, .int (nI l), .int (nI a), .int (nI 0), .ref 113, .int (nI k), .ref 114, .ref 115, .ref 116, .ref 117]))) 87 (.inr (11, [.ref 88, .ref 89, .ref 90, .int (v 0), .int (v 1), .ref 91, .ref 92, .ref 93, .ref 94, .ref 95, .ref 96, .ref 97, .ref 98, .ref 99, .ref 100, .ref 101, .int (v 2), .ref 102, .ref 103, .ref 104, .ref 105, .ref 106, .ref 107, .ref 108, .int (v 3), .ref 109, .int (v 4), .ref 110, .ref 111, .int (v 5), .ref 112, .int (nI l), .int (nI (a + 1)), .int (nI 0), .ref 113, .int (nI k), .ref 114, .ref 115, .ref 116, .ref 117]))) := Same.set (Same.set (Same.rf) (by simp)) (by simp)
      have Ox : TM (xset (xset h 87 (.inr (11, [.ref 88, .ref 89, .ref 90, .int (v 0), .int (v 1), .ref 91, .ref 92, .ref 93, .ref 94, .ref 95, .ref 96, .ref 97, .ref 98, .ref 99, .ref 100, .ref 101, .int (v 2), .ref 102, .ref 103, .ref 104, .ref 105, .ref 106, .ref 107, .ref 108, .int (v 3), .ref 109, .int (v 4), .ref 110, .ref 111, .int (v 5), .ref 112, .int (nI l), .int (nI a), .int (nI 0), .ref 113, .int (nI k), .ref 114, .ref 115, .ref 116, .ref 117]))) 87 (.inr (11, [.ref 88, .ref 89, .ref 90, .int (v 0), .int (v 1), .ref 91, .ref 92, .ref 93, .ref 94, .ref 95, .ref 96, .ref 97, .ref 98, .ref 99, .ref 100, .ref 101, .int (v 2), .ref 102, .ref 103, .ref 104, .ref 105, .ref 106, .ref 107, .ref 108, .int (v 3), .ref 109, .int (v 4), .ref 110, .ref 111, .int (v 5), .ref 112, .int (nI l), .int (nI (a + 1)), .int (nI 0), .ref 113, .int (nI k), .ref 114, .ref 115, .ref 116, .ref 117]))) v l (a + 1) (nI 0) k := (xset_same _ _ _)
      refine AX.aload_n (pc := 71) dX12_readSpot_71 rfl ?_
      refine AX.getf (pc := 72) fX12_readSpot_313 (lt_k hn (by decide)) (xset_same _ _ _) rfl dX12_readSpot_72 ?_
      refine AX.if_neN (pc := 75) (tgt := 84) dX12_readSpot_75 (by decide) (by decide) (fun q => absurd q (by decide)) (fun hc75 => ?_)
      refine AX.iload_n (pc := 78) dX12_readSpot_78 rfl ?_
      refine AX.bipush (pc := 79) (v := nI 45) dX12_readSpot_79 (by decide) ?_
      refine AX.icmp_neN (pc := 81) (tgt := 86) dX12_readSpot_81 (by decide) (by decide) (by decide) (fun hc81 => ?_) (fun q => absurd q (by decide))
      refine AX.iload_n (pc := 86) dX12_readSpot_86 rfl ?_
      refine AX.bipush (pc := 87) (v := nI 79) dX12_readSpot_87 (by decide) ?_
      refine AX.icmp_neN (pc := 89) (tgt := 101) dX12_readSpot_89 (by decide) (by decide) (by decide) (fun q => absurd q (by decide)) (fun hc89 => ?_)
      refine AX.aload_n (pc := 92) dX12_readSpot_92 rfl ?_
      refine AX.bipush (pc := 93) (v := nI 66) dX12_readSpot_93 (by decide) ?_
      refine AX.callV (pc := 95) (M2 := M_X12_wants) (As := [.int (nI 66)]) (rest := []) (c_wantsY w (xset (xset h 87 (.inr (11, [.ref 88, .ref 89, .ref 90, .int (v 0), .int (v 1), .ref 91, .ref 92, .ref 93, .ref 94, .ref 95, .ref 96, .ref 97, .ref 98, .ref 99, .ref 100, .ref 101, .int (v 2), .ref 102, .ref 103, .ref 104, .ref 105, .ref 106, .ref 107, .ref 108, .int (v 3), .ref 109, .int (v 4), .ref 110, .ref 111, .int (v 5), .ref 112, .int (nI l), .int (nI a), .int (nI 0), .ref 113, .int (nI k), .ref 114, .ref 115, .ref 116, .ref 117]))) 87 (.inr (11, [.ref 88, .ref 89, .ref 90, .int (v 0), .int (v 1), .ref 91, .ref 92, .ref 93, .ref 94, .ref 95, .ref 96, .ref 97, .ref 98, .ref 99, .ref 100, .ref 101, .int (v 2), .ref 102, .ref 103, .ref 104, .ref 105, .ref 106, .ref 107, .ref 108, .int (v 3), .ref 109, .int (v 4), .ref 110, .ref 111, .int (v 5), .ref 112, .int (nI l), .int (nI (a + 1)), .int (nI 0), .ref 113, .int (nI k), .ref 114, .ref 115, .ref 116, .ref 117]))) (y := y) 66 (by decide) hl60 (by omega) (sx.le hn) Ox (hT.same sx (by simp)) pY.1 pY.2) xc_X12_readSpot__X12_wants gX12_readSpot_X12_wants (ci := 11) rfl (lt_k hn (by decide)) (xset_same _ _ _) rfl (Nat.le_of_ble_eq_true rfl) dX12_readSpot_95 ?_
      rintro _ h1 ⟨rfl, s1, O1⟩
      show AX w M_X12_readSpot 0 0 98 [.ref 87, .int (nI 79)] [] _ _
      refine AX.bipush (pc := 98) (v := nI 61) dX12_readSpot_98 (by decide) ?_
      refine AX.iret (pc := 100) dX12_readSpot_100 rfl rfl (by decide) (by decide) ?_
      exact ⟨sx.trans s1, rfl, O1⟩
    by_cases pN : a + 1 < l
    · rw [show psN y l a = .inl (a + 1) from by unfold psN; rw [if_neg hla, if_neg (show ¬ y a = 45 by omega), if_pos hy]; unfold paN; rw [if_neg pY]]
      refine AX.aload_n (pc := 0) dX12_readSpot_0 rfl ?_
      refine AX.callV (pc := 1) (M2 := M_X12_here) (As := []) (rest := []) (c_hereIn w h (y := y) hn hO hT (by omega)) xc_X12_readSpot__X12_here gX12_readSpot_X12_here (ci := 11) rfl (lt_k hn (by decide)) hO rfl (Nat.le_of_ble_eq_true rfl) dX12_readSpot_1 ?_
      rintro _ h9 ⟨rfl, e9⟩
      have e9 := e9.symm
      subst e9
      rw [hy]
      show AX w M_X12_readSpot 0 0 4 [.ref 87, .null] [.int (nI 79)] _ _
      refine AX.istore_n (pc := 4) (L' := [.ref 87, .int (nI 79)]) dX12_readSpot_4 (by decide) rfl ?_
      refine AX.aload_n (pc := 5) dX12_readSpot_5 rfl ?_
      refine AX.iload_n (pc := 6) dX12_readSpot_6 rfl ?_
      refine AX.bipush (pc := 7) (v := nI 83) dX12_readSpot_7 (by decide) ?_
      refine AX.icmp_eqN (pc := 9) (tgt := 46) dX12_readSpot_9 (by decide) (by decide) (by decide) (fun q => absurd q (by decide)) (fun hc9 => ?_)
      refine AX.iload_n (pc := 12) dX12_readSpot_12 rfl ?_
      refine AX.bipush (pc := 13) (v := nI 68) dX12_readSpot_13 (by decide) ?_
      refine AX.icmp_eqN (pc := 15) (tgt := 46) dX12_readSpot_15 (by decide) (by decide) (by decide) (fun q => absurd q (by decide)) (fun hc15 => ?_)
      refine AX.iload_n (pc := 18) dX12_readSpot_18 rfl ?_
      refine AX.bipush (pc := 19) (v := nI 84) dX12_readSpot_19 (by decide) ?_
      refine AX.icmp_eqN (pc := 21) (tgt := 46) dX12_readSpot_21 (by decide) (by decide) (by decide) (fun q => absurd q (by decide)) (fun hc21 => ?_)
      refine AX.iload_n (pc := 24) dX12_readSpot_24 rfl ?_
      refine AX.bipush (pc := 25) (v := nI 79) dX12_readSpot_25 (by decide) ?_
      refine AX.icmp_eqN (pc := 27) (tgt := 46) dX12_readSpot_27 (by decide) (by decide) (by decide) (fun hc27 => ?_) (fun q => absurd q (by decide))
      refine AX.iconst (pc := 46) (v := nI 0) dX12_readSpot_46 (by decide) ?_
      refine AX.putf (pc := 47) (fs' := [.ref 88, .ref 89, .ref 90, .int (v 0), .int (v 1), .ref 91, .ref 92, .ref 93, .ref 94, .ref 95, .ref 96, .ref 97, .ref 98, .ref 99, .ref 100, .ref 101, .int (v 2), .ref 102, .ref 103, .ref 104, .ref 105, .ref 106, .ref 107, .ref 108, .int (v 3), .ref 109, .int (v 4), .ref 110, .ref 111, .int (v 5), .ref 112, .int (nI l), .int (nI a), .int (nI 0), .ref 113, .int (nI k), .ref 114, .ref 115, .ref 116, .ref 117]) fX12_readSpot_313 rfl (lt_k hn (by decide)) hO (Nat.le_of_ble_eq_true rfl) rfl rfl rfl dX12_readSpot_47 ?_
      refine AX.aload_n (pc := 50) dX12_readSpot_50 rfl ?_
      refine AX.dup (pc := 51) dX12_readSpot_51 rfl ?_
      refine AX.getf (pc := 52) fX12_readSpot_310 (lt_k hn (by decide)) (xset_same _ _ _) rfl dX12_readSpot_52 ?_
      refine AX.aload_n (pc := 55) dX12_readSpot_55 rfl ?_
      refine AX.getf (pc := 56) fX12_readSpot_313 (lt_k hn (by decide)) (xset_same _ _ _) rfl dX12_readSpot_56 ?_
      refine AX.if_eqN (pc := 59) (tgt := 66) dX12_readSpot_59 (by decide) (by decide) (fun hc59 => ?_) (fun q => absurd q (by decide))
      refine AX.iconst (pc := 66) (v := nI 1) dX12_readSpot_66 (by decide) ?_
      refine AX.iaddN (pc := 67) (c := a + 1) dX12_readSpot_67 rfl ?_
      refine AX.putf (pc := 68) (h := xset h 87 (.inr (11, [.ref 88, .ref 89, .ref 90, .int (v 0), .int (v 1), .ref 91, .ref 92, .ref 93, .ref 94, .ref 95, .ref 96, .ref 97, .ref 98, .ref 99, .ref 100, .ref 101, .int (v 2), .ref 102, .ref 103, .ref 104, .ref 105, .ref 106, .ref 107, .ref 108, .int (v 3), .ref 109, .int (v 4), .ref 110, .ref 111, .int (v 5), .ref 112, .int (nI l), .int (nI a), .int (nI 0), .ref 113, .int (nI k), .ref 114, .ref 115, .ref 116, .ref 117]))) (a := 87) (fs' := [.ref 88, .ref 89, .ref 90, .int (v 0), .int (v 1), .ref 91, .ref 92, .ref 93, .ref 94, .ref 95, .ref 96, .ref 97, .ref 98, .ref 99, .ref 100, .ref 101, .int (v 2), .ref 102, .ref 103, .ref 104, .ref 105, .ref 106, .ref 107, .ref 108, .int (v 3), .ref 109, .int (v 4), .ref 110, .ref 111, .int (v 5), .ref 112, .int (nI l), .int (nI (a + 1)), .int (nI 0), .ref 113, .int (nI k), .ref 114, .ref 115, .ref 116, .ref 117]) fX12_readSpot_310 rfl (lt_k hn (by decide)) (xset_same _ _ _) (Nat.le_of_ble_eq_true rfl) rfl rfl rfl dX12_readSpot_68 ?_
      have sx : Same [87] h (xset (xset h 87 (.inr (11, [.ref 88, .ref 89, .ref 90, .int (v 0), .int (v 1), .ref 91, .ref 92, .ref 93, .ref 94, .ref 95, .ref 96, .ref 97, .ref 98, .ref 99, .ref 100, .ref 101, .int (v 2), .ref 102, .ref 103, .ref 104, .ref 105, .ref 106, .ref 107, .ref 108, .int (v 3), .ref 109, .int (v 4), .ref 110, .ref 111, .int (v 5), .ref 112, .int (nI l), .int (nI a), .int (nI 0), .ref 113, .int (nI k), .ref 114, .ref 115, .ref 116, .ref 117]))) 87 (.inr (11, [.ref 88, .ref 89, .ref 90, .int (v 0), .int (v 1), .ref 91, .ref 92, .ref 93, .ref 94, .ref 95, .ref 96, .ref 97, .ref 98, .ref 99, .ref 100, .ref 101, .int (v 2), .ref 102, .ref 103, .ref 104, .ref 105, .ref 106, .ref 107, .ref 108, .int (v 3), .ref 109, .int (v 4), .ref 110, .ref 111, .int (v 5), .ref 112, .int (nI l), .int (nI (a + 1)), .int (nI 0), .ref 113, .int (nI k), .ref 114, .ref 115, .ref 116, .ref 117]))) := Same.set (Same.set (Same.rf) (by simp)) (by simp)
      have Ox : TM (xset (xset h 87 (.inr (11, [.ref 88, .ref 89, .ref 90, .int (v 0), .int (v 1), .ref 91, .ref 92, .ref 93, .ref 94, .ref 95, .ref 96, .ref 97, .ref 98, .ref 99, .ref 100, .ref 101, .int (v 2), .ref 102, .ref 103, .ref 104, .ref 105, .ref 106, .ref 107, .ref 108, .int (v 3), .ref 109, .int (v 4), .ref 110, .ref 111, .int (v 5), .ref 112, .int (nI l), .int (nI a), .int (nI 0), .ref 113, .int (nI k), .ref 114, .ref 115, .ref 116, .ref 117]))) 87 (.inr (11, [.ref 88, .ref 89, .ref 90, .int (v 0), .int (v 1), .ref 91, .ref 92, .ref 93, .ref 94, .ref 95, .ref 96, .ref 97, .ref 98, .ref 99, .ref 100, .ref 101, .int (v 2), .ref 102, .ref 103, .ref 104, .ref 105, .ref 106, .ref 107, .ref 108, .int (v 3), .ref 109, .int (v 4), .ref 110, .ref 111, .int (v 5), .ref 112, .int (nI l), .int (nI (a + 1)), .int (nI 0), .ref 113, .int (nI k), .ref 114, .ref 115, .ref 116, .ref 117]))) v l (a + 1) (nI 0) k := (xset_same _ _ _)
      refine AX.aload_n (pc := 71) dX12_readSpot_71 rfl ?_
      refine AX.getf (pc := 72) fX12_readSpot_313 (lt_k hn (by decide)) (xset_same _ _ _) rfl dX12_readSpot_72 ?_
      refine AX.if_neN (pc := 75) (tgt := 84) dX12_readSpot_75 (by decide) (by decide) (fun q => absurd q (by decide)) (fun hc75 => ?_)
      refine AX.iload_n (pc := 78) dX12_readSpot_78 rfl ?_
      refine AX.bipush (pc := 79) (v := nI 45) dX12_readSpot_79 (by decide) ?_
      refine AX.icmp_neN (pc := 81) (tgt := 86) dX12_readSpot_81 (by decide) (by decide) (by decide) (fun hc81 => ?_) (fun q => absurd q (by decide))
      refine AX.iload_n (pc := 86) dX12_readSpot_86 rfl ?_
      refine AX.bipush (pc := 87) (v := nI 79) dX12_readSpot_87 (by decide) ?_
      refine AX.icmp_neN (pc := 89) (tgt := 101) dX12_readSpot_89 (by decide) (by decide) (by decide) (fun q => absurd q (by decide)) (fun hc89 => ?_)
      refine AX.aload_n (pc := 92) dX12_readSpot_92 rfl ?_
      refine AX.bipush (pc := 93) (v := nI 66) dX12_readSpot_93 (by decide) ?_
      refine AX.callV (pc := 95) (M2 := M_X12_wants) (As := [.int (nI 66)]) (rest := []) (c_wantsN w (xset (xset h 87 (.inr (11, [.ref 88, .ref 89, .ref 90, .int (v 0), .int (v 1), .ref 91, .ref 92, .ref 93, .ref 94, .ref 95, .ref 96, .ref 97, .ref 98, .ref 99, .ref 100, .ref 101, .int (v 2), .ref 102, .ref 103, .ref 104, .ref 105, .ref 106, .ref 107, .ref 108, .int (v 3), .ref 109, .int (v 4), .ref 110, .ref 111, .int (v 5), .ref 112, .int (nI l), .int (nI a), .int (nI 0), .ref 113, .int (nI k), .ref 114, .ref 115, .ref 116, .ref 117]))) 87 (.inr (11, [.ref 88, .ref 89, .ref 90, .int (v 0), .int (v 1), .ref 91, .ref 92, .ref 93, .ref 94, .ref 95, .ref 96, .ref 97, .ref 98, .ref 99, .ref 100, .ref 101, .int (v 2), .ref 102, .ref 103, .ref 104, .ref 105, .ref 106, .ref 107, .ref 108, .int (v 3), .ref 109, .int (v 4), .ref 110, .ref 111, .int (v 5), .ref 112, .int (nI l), .int (nI (a + 1)), .int (nI 0), .ref 113, .int (nI k), .ref 114, .ref 115, .ref 116, .ref 117]))) (y := y) 66 (by decide) hl60 (by omega) (sx.le hn) Ox (hT.same sx (by simp)) pN (fun q => pY ⟨pN, q⟩)) xc_X12_readSpot__X12_wants gX12_readSpot_X12_wants (ci := 11) rfl (lt_k hn (by decide)) (xset_same _ _ _) rfl (Nat.le_of_ble_eq_true rfl) dX12_readSpot_95 ?_
      rintro _ h1 ⟨rfl, s1, O1⟩
      show AX w M_X12_readSpot 0 0 98 [.ref 87, .int (nI 79)] [] _ _
      refine AX.bipush (pc := 98) (v := nI 61) dX12_readSpot_98 (by decide) ?_
      refine AX.iret (pc := 100) dX12_readSpot_100 rfl rfl (by decide) (by decide) ?_
      exact ⟨sx.trans s1, ⟨_, rfl⟩, O1⟩
    rw [show psN y l a = .inl (a + 1) from by unfold psN; rw [if_neg hla, if_neg (show ¬ y a = 45 by omega), if_pos hy]; unfold paN; rw [if_neg pY]]
    refine AX.aload_n (pc := 0) dX12_readSpot_0 rfl ?_
    refine AX.callV (pc := 1) (M2 := M_X12_here) (As := []) (rest := []) (c_hereIn w h (y := y) hn hO hT (by omega)) xc_X12_readSpot__X12_here gX12_readSpot_X12_here (ci := 11) rfl (lt_k hn (by decide)) hO rfl (Nat.le_of_ble_eq_true rfl) dX12_readSpot_1 ?_
    rintro _ h9 ⟨rfl, e9⟩
    have e9 := e9.symm
    subst e9
    rw [hy]
    show AX w M_X12_readSpot 0 0 4 [.ref 87, .null] [.int (nI 79)] _ _
    refine AX.istore_n (pc := 4) (L' := [.ref 87, .int (nI 79)]) dX12_readSpot_4 (by decide) rfl ?_
    refine AX.aload_n (pc := 5) dX12_readSpot_5 rfl ?_
    refine AX.iload_n (pc := 6) dX12_readSpot_6 rfl ?_
    refine AX.bipush (pc := 7) (v := nI 83) dX12_readSpot_7 (by decide) ?_
    refine AX.icmp_eqN (pc := 9) (tgt := 46) dX12_readSpot_9 (by decide) (by decide) (by decide) (fun q => absurd q (by decide)) (fun hc9 => ?_)
    refine AX.iload_n (pc := 12) dX12_readSpot_12 rfl ?_
    refine AX.bipush (pc := 13) (v := nI 68) dX12_readSpot_13 (by decide) ?_
    refine AX.icmp_eqN (pc := 15) (tgt := 46) dX12_readSpot_15 (by decide) (by decide) (by decide) (fun q => absurd q (by decide)) (fun hc15 => ?_)
    refine AX.iload_n (pc := 18) dX12_readSpot_18 rfl ?_
    refine AX.bipush (pc := 19) (v := nI 84) dX12_readSpot_19 (by decide) ?_
    refine AX.icmp_eqN (pc := 21) (tgt := 46) dX12_readSpot_21 (by decide) (by decide) (by decide) (fun q => absurd q (by decide)) (fun hc21 => ?_)
    refine AX.iload_n (pc := 24) dX12_readSpot_24 rfl ?_
    refine AX.bipush (pc := 25) (v := nI 79) dX12_readSpot_25 (by decide) ?_
    refine AX.icmp_eqN (pc := 27) (tgt := 46) dX12_readSpot_27 (by decide) (by decide) (by decide) (fun hc27 => ?_) (fun q => absurd q (by decide))
    refine AX.iconst (pc := 46) (v := nI 0) dX12_readSpot_46 (by decide) ?_
    refine AX.putf (pc := 47) (fs' := [.ref 88, .ref 89, .ref 90, .int (v 0), .int (v 1), .ref 91, .ref 92, .ref 93, .ref 94, .ref 95, .ref 96, .ref 97, .ref 98, .ref 99, .ref 100, .ref 101, .int (v 2), .ref 102, .ref 103, .ref 104, .ref 105, .ref 106, .ref 107, .ref 108, .int (v 3), .ref 109, .int (v 4), .ref 110, .ref 111, .int (v 5), .ref 112, .int (nI l), .int (nI a), .int (nI 0), .ref 113, .int (nI k), .ref 114, .ref 115, .ref 116, .ref 117]) fX12_readSpot_313 rfl (lt_k hn (by decide)) hO (Nat.le_of_ble_eq_true rfl) rfl rfl rfl dX12_readSpot_47 ?_
    refine AX.aload_n (pc := 50) dX12_readSpot_50 rfl ?_
    refine AX.dup (pc := 51) dX12_readSpot_51 rfl ?_
    refine AX.getf (pc := 52) fX12_readSpot_310 (lt_k hn (by decide)) (xset_same _ _ _) rfl dX12_readSpot_52 ?_
    refine AX.aload_n (pc := 55) dX12_readSpot_55 rfl ?_
    refine AX.getf (pc := 56) fX12_readSpot_313 (lt_k hn (by decide)) (xset_same _ _ _) rfl dX12_readSpot_56 ?_
    refine AX.if_eqN (pc := 59) (tgt := 66) dX12_readSpot_59 (by decide) (by decide) (fun hc59 => ?_) (fun q => absurd q (by decide))
    refine AX.iconst (pc := 66) (v := nI 1) dX12_readSpot_66 (by decide) ?_
    refine AX.iaddN (pc := 67) (c := a + 1) dX12_readSpot_67 rfl ?_
    refine AX.putf (pc := 68) (h := xset h 87 (.inr (11, [.ref 88, .ref 89, .ref 90, .int (v 0), .int (v 1), .ref 91, .ref 92, .ref 93, .ref 94, .ref 95, .ref 96, .ref 97, .ref 98, .ref 99, .ref 100, .ref 101, .int (v 2), .ref 102, .ref 103, .ref 104, .ref 105, .ref 106, .ref 107, .ref 108, .int (v 3), .ref 109, .int (v 4), .ref 110, .ref 111, .int (v 5), .ref 112, .int (nI l), .int (nI a), .int (nI 0), .ref 113, .int (nI k), .ref 114, .ref 115, .ref 116, .ref 117]))) (a := 87) (fs' := [.ref 88, .ref 89, .ref 90, .int (v 0), .int (v 1), .ref 91, .ref 92, .ref 93, .ref 94, .ref 95, .ref 96, .ref 97, .ref 98, .ref 99, .ref 100, .ref 101, .int (v 2), .ref 102, .ref 103, .ref 104, .ref 105, .ref 106, .ref 107, .ref 108, .int (v 3), .ref 109, .int (v 4), .ref 110, .ref 111, .int (v 5), .ref 112, .int (nI l), .int (nI (a + 1)), .int (nI 0), .ref 113, .int (nI k), .ref 114, .ref 115, .ref 116, .ref 117]) fX12_readSpot_310 rfl (lt_k hn (by decide)) (xset_same _ _ _) (Nat.le_of_ble_eq_true rfl) rfl rfl rfl dX12_readSpot_68 ?_
    have sx : Same [87] h (xset (xset h 87 (.inr (11, [.ref 88, .ref 89, .ref 90, .int (v 0), .int (v 1), .ref 91, .ref 92, .ref 93, .ref 94, .ref 95, .ref 96, .ref 97, .ref 98, .ref 99, .ref 100, .ref 101, .int (v 2), .ref 102, .ref 103, .ref 104, .ref 105, .ref 106, .ref 107, .ref 108, .int (v 3), .ref 109, .int (v 4), .ref 110, .ref 111, .int (v 5), .ref 112, .int (nI l), .int (nI a), .int (nI 0), .ref 113, .int (nI k), .ref 114, .ref 115, .ref 116, .ref 117]))) 87 (.inr (11, [.ref 88, .ref 89, .ref 90, .int (v 0), .int (v 1), .ref 91, .ref 92, .ref 93, .ref 94, .ref 95, .ref 96, .ref 97, .ref 98, .ref 99, .ref 100, .ref 101, .int (v 2), .ref 102, .ref 103, .ref 104, .ref 105, .ref 106, .ref 107, .ref 108, .int (v 3), .ref 109, .int (v 4), .ref 110, .ref 111, .int (v 5), .ref 112, .int (nI l), .int (nI (a + 1)), .int (nI 0), .ref 113, .int (nI k), .ref 114, .ref 115, .ref 116, .ref 117]))) := Same.set (Same.set (Same.rf) (by simp)) (by simp)
    have Ox : TM (xset (xset h 87 (.inr (11, [.ref 88, .ref 89, .ref 90, .int (v 0), .int (v 1), .ref 91, .ref 92, .ref 93, .ref 94, .ref 95, .ref 96, .ref 97, .ref 98, .ref 99, .ref 100, .ref 101, .int (v 2), .ref 102, .ref 103, .ref 104, .ref 105, .ref 106, .ref 107, .ref 108, .int (v 3), .ref 109, .int (v 4), .ref 110, .ref 111, .int (v 5), .ref 112, .int (nI l), .int (nI a), .int (nI 0), .ref 113, .int (nI k), .ref 114, .ref 115, .ref 116, .ref 117]))) 87 (.inr (11, [.ref 88, .ref 89, .ref 90, .int (v 0), .int (v 1), .ref 91, .ref 92, .ref 93, .ref 94, .ref 95, .ref 96, .ref 97, .ref 98, .ref 99, .ref 100, .ref 101, .int (v 2), .ref 102, .ref 103, .ref 104, .ref 105, .ref 106, .ref 107, .ref 108, .int (v 3), .ref 109, .int (v 4), .ref 110, .ref 111, .int (v 5), .ref 112, .int (nI l), .int (nI (a + 1)), .int (nI 0), .ref 113, .int (nI k), .ref 114, .ref 115, .ref 116, .ref 117]))) v l (a + 1) (nI 0) k := (xset_same _ _ _)
    refine AX.aload_n (pc := 71) dX12_readSpot_71 rfl ?_
    refine AX.getf (pc := 72) fX12_readSpot_313 (lt_k hn (by decide)) (xset_same _ _ _) rfl dX12_readSpot_72 ?_
    refine AX.if_neN (pc := 75) (tgt := 84) dX12_readSpot_75 (by decide) (by decide) (fun q => absurd q (by decide)) (fun hc75 => ?_)
    refine AX.iload_n (pc := 78) dX12_readSpot_78 rfl ?_
    refine AX.bipush (pc := 79) (v := nI 45) dX12_readSpot_79 (by decide) ?_
    refine AX.icmp_neN (pc := 81) (tgt := 86) dX12_readSpot_81 (by decide) (by decide) (by decide) (fun hc81 => ?_) (fun q => absurd q (by decide))
    refine AX.iload_n (pc := 86) dX12_readSpot_86 rfl ?_
    refine AX.bipush (pc := 87) (v := nI 79) dX12_readSpot_87 (by decide) ?_
    refine AX.icmp_neN (pc := 89) (tgt := 101) dX12_readSpot_89 (by decide) (by decide) (by decide) (fun q => absurd q (by decide)) (fun hc89 => ?_)
    refine AX.aload_n (pc := 92) dX12_readSpot_92 rfl ?_
    refine AX.bipush (pc := 93) (v := nI 66) dX12_readSpot_93 (by decide) ?_
    refine AX.callV (pc := 95) (M2 := M_X12_wants) (As := [.int (nI 66)]) (rest := []) (c_wantsO w (xset (xset h 87 (.inr (11, [.ref 88, .ref 89, .ref 90, .int (v 0), .int (v 1), .ref 91, .ref 92, .ref 93, .ref 94, .ref 95, .ref 96, .ref 97, .ref 98, .ref 99, .ref 100, .ref 101, .int (v 2), .ref 102, .ref 103, .ref 104, .ref 105, .ref 106, .ref 107, .ref 108, .int (v 3), .ref 109, .int (v 4), .ref 110, .ref 111, .int (v 5), .ref 112, .int (nI l), .int (nI a), .int (nI 0), .ref 113, .int (nI k), .ref 114, .ref 115, .ref 116, .ref 117]))) 87 (.inr (11, [.ref 88, .ref 89, .ref 90, .int (v 0), .int (v 1), .ref 91, .ref 92, .ref 93, .ref 94, .ref 95, .ref 96, .ref 97, .ref 98, .ref 99, .ref 100, .ref 101, .int (v 2), .ref 102, .ref 103, .ref 104, .ref 105, .ref 106, .ref 107, .ref 108, .int (v 3), .ref 109, .int (v 4), .ref 110, .ref 111, .int (v 5), .ref 112, .int (nI l), .int (nI (a + 1)), .int (nI 0), .ref 113, .int (nI k), .ref 114, .ref 115, .ref 116, .ref 117]))) (y := y) 66 (by decide) hl60 (by omega) (sx.le hn) Ox (hT.same sx (by simp)) (by omega)) xc_X12_readSpot__X12_wants gX12_readSpot_X12_wants (ci := 11) rfl (lt_k hn (by decide)) (xset_same _ _ _) rfl (Nat.le_of_ble_eq_true rfl) dX12_readSpot_95 ?_
    rintro _ h1 ⟨rfl, s1, O1⟩
    show AX w M_X12_readSpot 0 0 98 [.ref 87, .int (nI 79)] [] _ _
    refine AX.bipush (pc := 98) (v := nI 61) dX12_readSpot_98 (by decide) ?_
    refine AX.iret (pc := 100) dX12_readSpot_100 rfl rfl (by decide) (by decide) ?_
    exact ⟨sx.trans s1, ⟨_, rfl⟩, O1⟩
  by_cases hy : y a = 66
  · by_cases pY : a + 1 < l ∧ y (a + 1) = 85
    · rw [show psN y l a = .inr (2, 62) from by unfold psN; rw [if_neg hla, if_neg (show ¬ y a = 45 by omega), if_neg (show ¬ y a = 79 by omega), if_pos hy]; unfold paN; rw [if_pos pY]]
      refine AX.aload_n (pc := 0) dX12_readSpot_0 rfl ?_
      refine AX.callV (pc := 1) (M2 := M_X12_here) (As := []) (rest := []) (c_hereIn w h (y := y) hn hO hT (by omega)) xc_X12_readSpot__X12_here gX12_readSpot_X12_here (ci := 11) rfl (lt_k hn (by decide)) hO rfl (Nat.le_of_ble_eq_true rfl) dX12_readSpot_1 ?_
      rintro _ h9 ⟨rfl, e9⟩
      have e9 := e9.symm
      subst e9
      rw [hy]
      show AX w M_X12_readSpot 0 0 4 [.ref 87, .null] [.int (nI 66)] _ _
      refine AX.istore_n (pc := 4) (L' := [.ref 87, .int (nI 66)]) dX12_readSpot_4 (by decide) rfl ?_
      refine AX.aload_n (pc := 5) dX12_readSpot_5 rfl ?_
      refine AX.iload_n (pc := 6) dX12_readSpot_6 rfl ?_
      refine AX.bipush (pc := 7) (v := nI 83) dX12_readSpot_7 (by decide) ?_
      refine AX.icmp_eqN (pc := 9) (tgt := 46) dX12_readSpot_9 (by decide) (by decide) (by decide) (fun q => absurd q (by decide)) (fun hc9 => ?_)
      refine AX.iload_n (pc := 12) dX12_readSpot_12 rfl ?_
      refine AX.bipush (pc := 13) (v := nI 68) dX12_readSpot_13 (by decide) ?_
      refine AX.icmp_eqN (pc := 15) (tgt := 46) dX12_readSpot_15 (by decide) (by decide) (by decide) (fun q => absurd q (by decide)) (fun hc15 => ?_)
      refine AX.iload_n (pc := 18) dX12_readSpot_18 rfl ?_
      refine AX.bipush (pc := 19) (v := nI 84) dX12_readSpot_19 (by decide) ?_
      refine AX.icmp_eqN (pc := 21) (tgt := 46) dX12_readSpot_21 (by decide) (by decide) (by decide) (fun q => absurd q (by decide)) (fun hc21 => ?_)
      refine AX.iload_n (pc := 24) dX12_readSpot_24 rfl ?_
      refine AX.bipush (pc := 25) (v := nI 79) dX12_readSpot_25 (by decide) ?_
      refine AX.icmp_eqN (pc := 27) (tgt := 46) dX12_readSpot_27 (by decide) (by decide) (by decide) (fun q => absurd q (by decide)) (fun hc27 => ?_)
      refine AX.iload_n (pc := 30) dX12_readSpot_30 rfl ?_
      refine AX.bipush (pc := 31) (v := nI 66) dX12_readSpot_31 (by decide) ?_
      refine AX.icmp_eqN (pc := 33) (tgt := 46) dX12_readSpot_33 (by decide) (by decide) (by decide) (fun hc33 => ?_) (fun q => absurd q (by decide))
      refine AX.iconst (pc := 46) (v := nI 0) dX12_readSpot_46 (by decide) ?_
      refine AX.putf (pc := 47) (fs' := [.ref 88, .ref 89, .ref 90, .int (v 0), .int (v 1), .ref 91, .ref 92, .ref 93, .ref 94, .ref 95, .ref 96, .ref 97, .ref 98, .ref 99, .ref 100, .ref 101, .int (v 2), .ref 102, .ref 103, .ref 104, .ref 105, .ref 106, .ref 107, .ref 108, .int (v 3), .ref 109, .int (v 4), .ref 110, .ref 111, .int (v 5), .ref 112, .int (nI l), .int (nI a), .int (nI 0), .ref 113, .int (nI k), .ref 114, .ref 115, .ref 116, .ref 117]) fX12_readSpot_313 rfl (lt_k hn (by decide)) hO (Nat.le_of_ble_eq_true rfl) rfl rfl rfl dX12_readSpot_47 ?_
      refine AX.aload_n (pc := 50) dX12_readSpot_50 rfl ?_
      refine AX.dup (pc := 51) dX12_readSpot_51 rfl ?_
      refine AX.getf (pc := 52) fX12_readSpot_310 (lt_k hn (by decide)) (xset_same _ _ _) rfl dX12_readSpot_52 ?_
      refine AX.aload_n (pc := 55) dX12_readSpot_55 rfl ?_
      refine AX.getf (pc := 56) fX12_readSpot_313 (lt_k hn (by decide)) (xset_same _ _ _) rfl dX12_readSpot_56 ?_
      refine AX.if_eqN (pc := 59) (tgt := 66) dX12_readSpot_59 (by decide) (by decide) (fun hc59 => ?_) (fun q => absurd q (by decide))
      refine AX.iconst (pc := 66) (v := nI 1) dX12_readSpot_66 (by decide) ?_
      refine AX.iaddN (pc := 67) (c := a + 1) dX12_readSpot_67 rfl ?_
      refine AX.putf (pc := 68) (h := xset h 87 (.inr (11, [.ref 88, .ref 89, .ref 90, .int (v 0), .int (v 1), .ref 91, .ref 92, .ref 93, .ref 94, .ref 95, .ref 96, .ref 97, .ref 98, .ref 99, .ref 100, .ref 101, .int (v 2), .ref 102, .ref 103, .ref 104, .ref 105, .ref 106, .ref 107, .ref 108, .int (v 3), .ref 109, .int (v 4), .ref 110, .ref 111, .int (v 5), .ref 112, .int (nI l), .int (nI a), .int (nI 0), .ref 113, .int (nI k), .ref 114, .ref 115, .ref 116, .ref 117]))) (a := 87) (fs' := [.ref 88, .ref 89, .ref 90, .int (v 0), .int (v 1), .ref 91, .ref 92, .ref 93, .ref 94, .ref 95, .ref 96, .ref 97, .ref 98, .ref 99, .ref 100, .ref 101, .int (v 2), .ref 102, .ref 103, .ref 104, .ref 105, .ref 106, .ref 107, .ref 108, .int (v 3), .ref 109, .int (v 4), .ref 110, .ref 111, .int (v 5), .ref 112, .int (nI l), .int (nI (a + 1)), .int (nI 0), .ref 113, .int (nI k), .ref 114, .ref 115, .ref 116, .ref 117]) fX12_readSpot_310 rfl (lt_k hn (by decide)) (xset_same _ _ _) (Nat.le_of_ble_eq_true rfl) rfl rfl rfl dX12_readSpot_68 ?_
      have sx : Same [87] h (xset (xset h 87 (.inr (11, [.ref 88, .ref 89, .ref 90, .int (v 0), .int (v 1), .ref 91, .ref 92, .ref 93, .ref 94, .ref 95, .ref 96, .ref 97, .ref 98, .ref 99, .ref 100, .ref 101, .int (v 2), .ref 102, .ref 103, .ref 104, .ref 105, .ref 106, .ref 107, .ref 108, .int (v 3), .ref 109, .int (v 4), .ref 110, .ref 111, .int (v 5), .ref 112, .int (nI l), .int (nI a), .int (nI 0), .ref 113, .int (nI k), .ref 114, .ref 115, .ref 116, .ref 117]))) 87 (.inr (11, [.ref 88, .ref 89, .ref 90, .int (v 0), .int (v 1), .ref 91, .ref 92, .ref 93, .ref 94, .ref 95, .ref 96, .ref 97, .ref 98, .ref 99, .ref 100, .ref 101, .int (v 2), .ref 102, .ref 103, .ref 104, .ref 105, .ref 106, .ref 107, .ref 108, .int (v 3), .ref 109, .int (v 4), .ref 110, .ref 111, .int (v 5), .ref 112, .int (nI l), .int (nI (a + 1)), .int (nI 0), .ref 113, .int (nI k), .ref 114, .ref 115, .ref 116, .ref 117]))) := Same.set (Same.set (Same.rf) (by simp)) (by simp)
      have Ox : TM (xset (xset h 87 (.inr (11, [.ref 88, .ref 89, .ref 90, .int (v 0), .int (v 1), .ref 91, .ref 92, .ref 93, .ref 94, .ref 95, .ref 96, .ref 97, .ref 98, .ref 99, .ref 100, .ref 101, .int (v 2), .ref 102, .ref 103, .ref 104, .ref 105, .ref 106, .ref 107, .ref 108, .int (v 3), .ref 109, .int (v 4), .ref 110, .ref 111, .int (v 5), .ref 112, .int (nI l), .int (nI a), .int (nI 0), .ref 113, .int (nI k), .ref 114, .ref 115, .ref 116, .ref 117]))) 87 (.inr (11, [.ref 88, .ref 89, .ref 90, .int (v 0), .int (v 1), .ref 91, .ref 92, .ref 93, .ref 94, .ref 95, .ref 96, .ref 97, .ref 98, .ref 99, .ref 100, .ref 101, .int (v 2), .ref 102, .ref 103, .ref 104, .ref 105, .ref 106, .ref 107, .ref 108, .int (v 3), .ref 109, .int (v 4), .ref 110, .ref 111, .int (v 5), .ref 112, .int (nI l), .int (nI (a + 1)), .int (nI 0), .ref 113, .int (nI k), .ref 114, .ref 115, .ref 116, .ref 117]))) v l (a + 1) (nI 0) k := (xset_same _ _ _)
      refine AX.aload_n (pc := 71) dX12_readSpot_71 rfl ?_
      refine AX.getf (pc := 72) fX12_readSpot_313 (lt_k hn (by decide)) (xset_same _ _ _) rfl dX12_readSpot_72 ?_
      refine AX.if_neN (pc := 75) (tgt := 84) dX12_readSpot_75 (by decide) (by decide) (fun q => absurd q (by decide)) (fun hc75 => ?_)
      refine AX.iload_n (pc := 78) dX12_readSpot_78 rfl ?_
      refine AX.bipush (pc := 79) (v := nI 45) dX12_readSpot_79 (by decide) ?_
      refine AX.icmp_neN (pc := 81) (tgt := 86) dX12_readSpot_81 (by decide) (by decide) (by decide) (fun hc81 => ?_) (fun q => absurd q (by decide))
      refine AX.iload_n (pc := 86) dX12_readSpot_86 rfl ?_
      refine AX.bipush (pc := 87) (v := nI 79) dX12_readSpot_87 (by decide) ?_
      refine AX.icmp_neN (pc := 89) (tgt := 101) dX12_readSpot_89 (by decide) (by decide) (by decide) (fun hc89 => ?_) (fun q => absurd q (by decide))
      refine AX.iload_n (pc := 101) dX12_readSpot_101 rfl ?_
      refine AX.bipush (pc := 102) (v := nI 66) dX12_readSpot_102 (by decide) ?_
      refine AX.icmp_neN (pc := 104) (tgt := 116) dX12_readSpot_104 (by decide) (by decide) (by decide) (fun q => absurd q (by decide)) (fun hc104 => ?_)
      refine AX.aload_n (pc := 107) dX12_readSpot_107 rfl ?_
      refine AX.bipush (pc := 108) (v := nI 85) dX12_readSpot_108 (by decide) ?_
      refine AX.callV (pc := 110) (M2 := M_X12_wants) (As := [.int (nI 85)]) (rest := []) (c_wantsY w (xset (xset h 87 (.inr (11, [.ref 88, .ref 89, .ref 90, .int (v 0), .int (v 1), .ref 91, .ref 92, .ref 93, .ref 94, .ref 95, .ref 96, .ref 97, .ref 98, .ref 99, .ref 100, .ref 101, .int (v 2), .ref 102, .ref 103, .ref 104, .ref 105, .ref 106, .ref 107, .ref 108, .int (v 3), .ref 109, .int (v 4), .ref 110, .ref 111, .int (v 5), .ref 112, .int (nI l), .int (nI a), .int (nI 0), .ref 113, .int (nI k), .ref 114, .ref 115, .ref 116, .ref 117]))) 87 (.inr (11, [.ref 88, .ref 89, .ref 90, .int (v 0), .int (v 1), .ref 91, .ref 92, .ref 93, .ref 94, .ref 95, .ref 96, .ref 97, .ref 98, .ref 99, .ref 100, .ref 101, .int (v 2), .ref 102, .ref 103, .ref 104, .ref 105, .ref 106, .ref 107, .ref 108, .int (v 3), .ref 109, .int (v 4), .ref 110, .ref 111, .int (v 5), .ref 112, .int (nI l), .int (nI (a + 1)), .int (nI 0), .ref 113, .int (nI k), .ref 114, .ref 115, .ref 116, .ref 117]))) (y := y) 85 (by decide) hl60 (by omega) (sx.le hn) Ox (hT.same sx (by simp)) pY.1 pY.2) xc_X12_readSpot__X12_wants gX12_readSpot_X12_wants (ci := 11) rfl (lt_k hn (by decide)) (xset_same _ _ _) rfl (Nat.le_of_ble_eq_true rfl) dX12_readSpot_110 ?_
      rintro _ h1 ⟨rfl, s1, O1⟩
      show AX w M_X12_readSpot 0 0 113 [.ref 87, .int (nI 66)] [] _ _
      refine AX.bipush (pc := 113) (v := nI 62) dX12_readSpot_113 (by decide) ?_
      refine AX.iret (pc := 115) dX12_readSpot_115 rfl rfl (by decide) (by decide) ?_
      exact ⟨sx.trans s1, rfl, O1⟩
    by_cases pN : a + 1 < l
    · rw [show psN y l a = .inl (a + 1) from by unfold psN; rw [if_neg hla, if_neg (show ¬ y a = 45 by omega), if_neg (show ¬ y a = 79 by omega), if_pos hy]; unfold paN; rw [if_neg pY]]
      refine AX.aload_n (pc := 0) dX12_readSpot_0 rfl ?_
      refine AX.callV (pc := 1) (M2 := M_X12_here) (As := []) (rest := []) (c_hereIn w h (y := y) hn hO hT (by omega)) xc_X12_readSpot__X12_here gX12_readSpot_X12_here (ci := 11) rfl (lt_k hn (by decide)) hO rfl (Nat.le_of_ble_eq_true rfl) dX12_readSpot_1 ?_
      rintro _ h9 ⟨rfl, e9⟩
      have e9 := e9.symm
      subst e9
      rw [hy]
      show AX w M_X12_readSpot 0 0 4 [.ref 87, .null] [.int (nI 66)] _ _
      refine AX.istore_n (pc := 4) (L' := [.ref 87, .int (nI 66)]) dX12_readSpot_4 (by decide) rfl ?_
      refine AX.aload_n (pc := 5) dX12_readSpot_5 rfl ?_
      refine AX.iload_n (pc := 6) dX12_readSpot_6 rfl ?_
      refine AX.bipush (pc := 7) (v := nI 83) dX12_readSpot_7 (by decide) ?_
      refine AX.icmp_eqN (pc := 9) (tgt := 46) dX12_readSpot_9 (by decide) (by decide) (by decide) (fun q => absurd q (by decide)) (fun hc9 => ?_)
      refine AX.iload_n (pc := 12) dX12_readSpot_12 rfl ?_
      refine AX.bipush (pc := 13) (v := nI 68) dX12_readSpot_13 (by decide) ?_
      refine AX.icmp_eqN (pc := 15) (tgt := 46) dX12_readSpot_15 (by decide) (by decide) (by decide) (fun q => absurd q (by decide)) (fun hc15 => ?_)
      refine AX.iload_n (pc := 18) dX12_readSpot_18 rfl ?_
      refine AX.bipush (pc := 19) (v := nI 84) dX12_readSpot_19 (by decide) ?_
      refine AX.icmp_eqN (pc := 21) (tgt := 46) dX12_readSpot_21 (by decide) (by decide) (by decide) (fun q => absurd q (by decide)) (fun hc21 => ?_)
      refine AX.iload_n (pc := 24) dX12_readSpot_24 rfl ?_
      refine AX.bipush (pc := 25) (v := nI 79) dX12_readSpot_25 (by decide) ?_
      refine AX.icmp_eqN (pc := 27) (tgt := 46) dX12_readSpot_27 (by decide) (by decide) (by decide) (fun q => absurd q (by decide)) (fun hc27 => ?_)
      refine AX.iload_n (pc := 30) dX12_readSpot_30 rfl ?_
      refine AX.bipush (pc := 31) (v := nI 66) dX12_readSpot_31 (by decide) ?_
      refine AX.icmp_eqN (pc := 33) (tgt := 46) dX12_readSpot_33 (by decide) (by decide) (by decide) (fun hc33 => ?_) (fun q => absurd q (by decide))
      refine AX.iconst (pc := 46) (v := nI 0) dX12_readSpot_46 (by decide) ?_
      refine AX.putf (pc := 47) (fs' := [.ref 88, .ref 89, .ref 90, .int (v 0), .int (v 1), .ref 91, .ref 92, .ref 93, .ref 94, .ref 95, .ref 96, .ref 97, .ref 98, .ref 99, .ref 100, .ref 101, .int (v 2), .ref 102, .ref 103, .ref 104, .ref 105, .ref 106, .ref 107, .ref 108, .int (v 3), .ref 109, .int (v 4), .ref 110, .ref 111, .int (v 5), .ref 112, .int (nI l), .int (nI a), .int (nI 0), .ref 113, .int (nI k), .ref 114, .ref 115, .ref 116, .ref 117]) fX12_readSpot_313 rfl (lt_k hn (by decide)) hO (Nat.le_of_ble_eq_true rfl) rfl rfl rfl dX12_readSpot_47 ?_
      refine AX.aload_n (pc := 50) dX12_readSpot_50 rfl ?_
      refine AX.dup (pc := 51) dX12_readSpot_51 rfl ?_
      refine AX.getf (pc := 52) fX12_readSpot_310 (lt_k hn (by decide)) (xset_same _ _ _) rfl dX12_readSpot_52 ?_
      refine AX.aload_n (pc := 55) dX12_readSpot_55 rfl ?_
      refine AX.getf (pc := 56) fX12_readSpot_313 (lt_k hn (by decide)) (xset_same _ _ _) rfl dX12_readSpot_56 ?_
      refine AX.if_eqN (pc := 59) (tgt := 66) dX12_readSpot_59 (by decide) (by decide) (fun hc59 => ?_) (fun q => absurd q (by decide))
      refine AX.iconst (pc := 66) (v := nI 1) dX12_readSpot_66 (by decide) ?_
      refine AX.iaddN (pc := 67) (c := a + 1) dX12_readSpot_67 rfl ?_
      refine AX.putf (pc := 68) (h := xset h 87 (.inr (11, [.ref 88, .ref 89, .ref 90, .int (v 0), .int (v 1), .ref 91, .ref 92, .ref 93, .ref 94, .ref 95, .ref 96, .ref 97, .ref 98, .ref 99, .ref 100, .ref 101, .int (v 2), .ref 102, .ref 103, .ref 104, .ref 105, .ref 106, .ref 107, .ref 108, .int (v 3), .ref 109, .int (v 4), .ref 110, .ref 111, .int (v 5), .ref 112, .int (nI l), .int (nI a), .int (nI 0), .ref 113, .int (nI k), .ref 114, .ref 115, .ref 116, .ref 117]))) (a := 87) (fs' := [.ref 88, .ref 89, .ref 90, .int (v 0), .int (v 1), .ref 91, .ref 92, .ref 93, .ref 94, .ref 95, .ref 96, .ref 97, .ref 98, .ref 99, .ref 100, .ref 101, .int (v 2), .ref 102, .ref 103, .ref 104, .ref 105, .ref 106, .ref 107, .ref 108, .int (v 3), .ref 109, .int (v 4), .ref 110, .ref 111, .int (v 5), .ref 112, .int (nI l), .int (nI (a + 1)), .int (nI 0), .ref 113, .int (nI k), .ref 114, .ref 115, .ref 116, .ref 117]) fX12_readSpot_310 rfl (lt_k hn (by decide)) (xset_same _ _ _) (Nat.le_of_ble_eq_true rfl) rfl rfl rfl dX12_readSpot_68 ?_
      have sx : Same [87] h (xset (xset h 87 (.inr (11, [.ref 88, .ref 89, .ref 90, .int (v 0), .int (v 1), .ref 91, .ref 92, .ref 93, .ref 94, .ref 95, .ref 96, .ref 97, .ref 98, .ref 99, .ref 100, .ref 101, .int (v 2), .ref 102, .ref 103, .ref 104, .ref 105, .ref 106, .ref 107, .ref 108, .int (v 3), .ref 109, .int (v 4), .ref 110, .ref 111, .int (v 5), .ref 112, .int (nI l), .int (nI a), .int (nI 0), .ref 113, .int (nI k), .ref 114, .ref 115, .ref 116, .ref 117]))) 87 (.inr (11, [.ref 88, .ref 89, .ref 90, .int (v 0), .int (v 1), .ref 91, .ref 92, .ref 93, .ref 94, .ref 95, .ref 96, .ref 97, .ref 98, .ref 99, .ref 100, .ref 101, .int (v 2), .ref 102, .ref 103, .ref 104, .ref 105, .ref 106, .ref 107, .ref 108, .int (v 3), .ref 109, .int (v 4), .ref 110, .ref 111, .int (v 5), .ref 112, .int (nI l), .int (nI (a + 1)), .int (nI 0), .ref 113, .int (nI k), .ref 114, .ref 115, .ref 116, .ref 117]))) := Same.set (Same.set (Same.rf) (by simp)) (by simp)
      have Ox : TM (xset (xset h 87 (.inr (11, [.ref 88, .ref 89, .ref 90, .int (v 0), .int (v 1), .ref 91, .ref 92, .ref 93, .ref 94, .ref 95, .ref 96, .ref 97, .ref 98, .ref 99, .ref 100, .ref 101, .int (v 2), .ref 102, .ref 103, .ref 104, .ref 105, .ref 106, .ref 107, .ref 108, .int (v 3), .ref 109, .int (v 4), .ref 110, .ref 111, .int (v 5), .ref 112, .int (nI l), .int (nI a), .int (nI 0), .ref 113, .int (nI k), .ref 114, .ref 115, .ref 116, .ref 117]))) 87 (.inr (11, [.ref 88, .ref 89, .ref 90, .int (v 0), .int (v 1), .ref 91, .ref 92, .ref 93, .ref 94, .ref 95, .ref 96, .ref 97, .ref 98, .ref 99, .ref 100, .ref 101, .int (v 2), .ref 102, .ref 103, .ref 104, .ref 105, .ref 106, .ref 107, .ref 108, .int (v 3), .ref 109, .int (v 4), .ref 110, .ref 111, .int (v 5), .ref 112, .int (nI l), .int (nI (a + 1)), .int (nI 0), .ref 113, .int (nI k), .ref 114, .ref 115, .ref 116, .ref 117]))) v l (a + 1) (nI 0) k := (xset_same _ _ _)
      refine AX.aload_n (pc := 71) dX12_readSpot_71 rfl ?_
      refine AX.getf (pc := 72) fX12_readSpot_313 (lt_k hn (by decide)) (xset_same _ _ _) rfl dX12_readSpot_72 ?_
      refine AX.if_neN (pc := 75) (tgt := 84) dX12_readSpot_75 (by decide) (by decide) (fun q => absurd q (by decide)) (fun hc75 => ?_)
      refine AX.iload_n (pc := 78) dX12_readSpot_78 rfl ?_
      refine AX.bipush (pc := 79) (v := nI 45) dX12_readSpot_79 (by decide) ?_
      refine AX.icmp_neN (pc := 81) (tgt := 86) dX12_readSpot_81 (by decide) (by decide) (by decide) (fun hc81 => ?_) (fun q => absurd q (by decide))
      refine AX.iload_n (pc := 86) dX12_readSpot_86 rfl ?_
      refine AX.bipush (pc := 87) (v := nI 79) dX12_readSpot_87 (by decide) ?_
      refine AX.icmp_neN (pc := 89) (tgt := 101) dX12_readSpot_89 (by decide) (by decide) (by decide) (fun hc89 => ?_) (fun q => absurd q (by decide))
      refine AX.iload_n (pc := 101) dX12_readSpot_101 rfl ?_
      refine AX.bipush (pc := 102) (v := nI 66) dX12_readSpot_102 (by decide) ?_
      refine AX.icmp_neN (pc := 104) (tgt := 116) dX12_readSpot_104 (by decide) (by decide) (by decide) (fun q => absurd q (by decide)) (fun hc104 => ?_)
      refine AX.aload_n (pc := 107) dX12_readSpot_107 rfl ?_
      refine AX.bipush (pc := 108) (v := nI 85) dX12_readSpot_108 (by decide) ?_
      refine AX.callV (pc := 110) (M2 := M_X12_wants) (As := [.int (nI 85)]) (rest := []) (c_wantsN w (xset (xset h 87 (.inr (11, [.ref 88, .ref 89, .ref 90, .int (v 0), .int (v 1), .ref 91, .ref 92, .ref 93, .ref 94, .ref 95, .ref 96, .ref 97, .ref 98, .ref 99, .ref 100, .ref 101, .int (v 2), .ref 102, .ref 103, .ref 104, .ref 105, .ref 106, .ref 107, .ref 108, .int (v 3), .ref 109, .int (v 4), .ref 110, .ref 111, .int (v 5), .ref 112, .int (nI l), .int (nI a), .int (nI 0), .ref 113, .int (nI k), .ref 114, .ref 115, .ref 116, .ref 117]))) 87 (.inr (11, [.ref 88, .ref 89, .ref 90, .int (v 0), .int (v 1), .ref 91, .ref 92, .ref 93, .ref 94, .ref 95, .ref 96, .ref 97, .ref 98, .ref 99, .ref 100, .ref 101, .int (v 2), .ref 102, .ref 103, .ref 104, .ref 105, .ref 106, .ref 107, .ref 108, .int (v 3), .ref 109, .int (v 4), .ref 110, .ref 111, .int (v 5), .ref 112, .int (nI l), .int (nI (a + 1)), .int (nI 0), .ref 113, .int (nI k), .ref 114, .ref 115, .ref 116, .ref 117]))) (y := y) 85 (by decide) hl60 (by omega) (sx.le hn) Ox (hT.same sx (by simp)) pN (fun q => pY ⟨pN, q⟩)) xc_X12_readSpot__X12_wants gX12_readSpot_X12_wants (ci := 11) rfl (lt_k hn (by decide)) (xset_same _ _ _) rfl (Nat.le_of_ble_eq_true rfl) dX12_readSpot_110 ?_
      rintro _ h1 ⟨rfl, s1, O1⟩
      show AX w M_X12_readSpot 0 0 113 [.ref 87, .int (nI 66)] [] _ _
      refine AX.bipush (pc := 113) (v := nI 62) dX12_readSpot_113 (by decide) ?_
      refine AX.iret (pc := 115) dX12_readSpot_115 rfl rfl (by decide) (by decide) ?_
      exact ⟨sx.trans s1, ⟨_, rfl⟩, O1⟩
    rw [show psN y l a = .inl (a + 1) from by unfold psN; rw [if_neg hla, if_neg (show ¬ y a = 45 by omega), if_neg (show ¬ y a = 79 by omega), if_pos hy]; unfold paN; rw [if_neg pY]]
    refine AX.aload_n (pc := 0) dX12_readSpot_0 rfl ?_
    refine AX.callV (pc := 1) (M2 := M_X12_here) (As := []) (rest := []) (c_hereIn w h (y := y) hn hO hT (by omega)) xc_X12_readSpot__X12_here gX12_readSpot_X12_here (ci := 11) rfl (lt_k hn (by decide)) hO rfl (Nat.le_of_ble_eq_true rfl) dX12_readSpot_1 ?_
    rintro _ h9 ⟨rfl, e9⟩
    have e9 := e9.symm
    subst e9
    rw [hy]
    show AX w M_X12_readSpot 0 0 4 [.ref 87, .null] [.int (nI 66)] _ _
    refine AX.istore_n (pc := 4) (L' := [.ref 87, .int (nI 66)]) dX12_readSpot_4 (by decide) rfl ?_
    refine AX.aload_n (pc := 5) dX12_readSpot_5 rfl ?_
    refine AX.iload_n (pc := 6) dX12_readSpot_6 rfl ?_
    refine AX.bipush (pc := 7) (v := nI 83) dX12_readSpot_7 (by decide) ?_
    refine AX.icmp_eqN (pc := 9) (tgt := 46) dX12_readSpot_9 (by decide) (by decide) (by decide) (fun q => absurd q (by decide)) (fun hc9 => ?_)
    refine AX.iload_n (pc := 12) dX12_readSpot_12 rfl ?_
    refine AX.bipush (pc := 13) (v := nI 68) dX12_readSpot_13 (by decide) ?_
    refine AX.icmp_eqN (pc := 15) (tgt := 46) dX12_readSpot_15 (by decide) (by decide) (by decide) (fun q => absurd q (by decide)) (fun hc15 => ?_)
    refine AX.iload_n (pc := 18) dX12_readSpot_18 rfl ?_
    refine AX.bipush (pc := 19) (v := nI 84) dX12_readSpot_19 (by decide) ?_
    refine AX.icmp_eqN (pc := 21) (tgt := 46) dX12_readSpot_21 (by decide) (by decide) (by decide) (fun q => absurd q (by decide)) (fun hc21 => ?_)
    refine AX.iload_n (pc := 24) dX12_readSpot_24 rfl ?_
    refine AX.bipush (pc := 25) (v := nI 79) dX12_readSpot_25 (by decide) ?_
    refine AX.icmp_eqN (pc := 27) (tgt := 46) dX12_readSpot_27 (by decide) (by decide) (by decide) (fun q => absurd q (by decide)) (fun hc27 => ?_)
    refine AX.iload_n (pc := 30) dX12_readSpot_30 rfl ?_
    refine AX.bipush (pc := 31) (v := nI 66) dX12_readSpot_31 (by decide) ?_
    refine AX.icmp_eqN (pc := 33) (tgt := 46) dX12_readSpot_33 (by decide) (by decide) (by decide) (fun hc33 => ?_) (fun q => absurd q (by decide))
    refine AX.iconst (pc := 46) (v := nI 0) dX12_readSpot_46 (by decide) ?_
    refine AX.putf (pc := 47) (fs' := [.ref 88, .ref 89, .ref 90, .int (v 0), .int (v 1), .ref 91, .ref 92, .ref 93, .ref 94, .ref 95, .ref 96, .ref 97, .ref 98, .ref 99, .ref 100, .ref 101, .int (v 2), .ref 102, .ref 103, .ref 104, .ref 105, .ref 106, .ref 107, .ref 108, .int (v 3), .ref 109, .int (v 4), .ref 110, .ref 111, .int (v 5), .ref 112, .int (nI l), .int (nI a), .int (nI 0), .ref 113, .int (nI k), .ref 114, .ref 115, .ref 116, .ref 117]) fX12_readSpot_313 rfl (lt_k hn (by decide)) hO (Nat.le_of_ble_eq_true rfl) rfl rfl rfl dX12_readSpot_47 ?_
    refine AX.aload_n (pc := 50) dX12_readSpot_50 rfl ?_
    refine AX.dup (pc := 51) dX12_readSpot_51 rfl ?_
    refine AX.getf (pc := 52) fX12_readSpot_310 (lt_k hn (by decide)) (xset_same _ _ _) rfl dX12_readSpot_52 ?_
    refine AX.aload_n (pc := 55) dX12_readSpot_55 rfl ?_
    refine AX.getf (pc := 56) fX12_readSpot_313 (lt_k hn (by decide)) (xset_same _ _ _) rfl dX12_readSpot_56 ?_
    refine AX.if_eqN (pc := 59) (tgt := 66) dX12_readSpot_59 (by decide) (by decide) (fun hc59 => ?_) (fun q => absurd q (by decide))
    refine AX.iconst (pc := 66) (v := nI 1) dX12_readSpot_66 (by decide) ?_
    refine AX.iaddN (pc := 67) (c := a + 1) dX12_readSpot_67 rfl ?_
    refine AX.putf (pc := 68) (h := xset h 87 (.inr (11, [.ref 88, .ref 89, .ref 90, .int (v 0), .int (v 1), .ref 91, .ref 92, .ref 93, .ref 94, .ref 95, .ref 96, .ref 97, .ref 98, .ref 99, .ref 100, .ref 101, .int (v 2), .ref 102, .ref 103, .ref 104, .ref 105, .ref 106, .ref 107, .ref 108, .int (v 3), .ref 109, .int (v 4), .ref 110, .ref 111, .int (v 5), .ref 112, .int (nI l), .int (nI a), .int (nI 0), .ref 113, .int (nI k), .ref 114, .ref 115, .ref 116, .ref 117]))) (a := 87) (fs' := [.ref 88, .ref 89, .ref 90, .int (v 0), .int (v 1), .ref 91, .ref 92, .ref 93, .ref 94, .ref 95, .ref 96, .ref 97, .ref 98, .ref 99, .ref 100, .ref 101, .int (v 2), .ref 102, .ref 103, .ref 104, .ref 105, .ref 106, .ref 107, .ref 108, .int (v 3), .ref 109, .int (v 4), .ref 110, .ref 111, .int (v 5), .ref 112, .int (nI l), .int (nI (a + 1)), .int (nI 0), .ref 113, .int (nI k), .ref 114, .ref 115, .ref 116, .ref 117]) fX12_readSpot_310 rfl (lt_k hn (by decide)) (xset_same _ _ _) (Nat.le_of_ble_eq_true rfl) rfl rfl rfl dX12_readSpot_68 ?_
    have sx : Same [87] h (xset (xset h 87 (.inr (11, [.ref 88, .ref 89, .ref 90, .int (v 0), .int (v 1), .ref 91, .ref 92, .ref 93, .ref 94, .ref 95, .ref 96, .ref 97, .ref 98, .ref 99, .ref 100, .ref 101, .int (v 2), .ref 102, .ref 103, .ref 104, .ref 105, .ref 106, .ref 107, .ref 108, .int (v 3), .ref 109, .int (v 4), .ref 110, .ref 111, .int (v 5), .ref 112, .int (nI l), .int (nI a), .int (nI 0), .ref 113, .int (nI k), .ref 114, .ref 115, .ref 116, .ref 117]))) 87 (.inr (11, [.ref 88, .ref 89, .ref 90, .int (v 0), .int (v 1), .ref 91, .ref 92, .ref 93, .ref 94, .ref 95, .ref 96, .ref 97, .ref 98, .ref 99, .ref 100, .ref 101, .int (v 2), .ref 102, .ref 103, .ref 104, .ref 105, .ref 106, .ref 107, .ref 108, .int (v 3), .ref 109, .int (v 4), .ref 110, .ref 111, .int (v 5), .ref 112, .int (nI l), .int (nI (a + 1)), .int (nI 0), .ref 113, .int (nI k), .ref 114, .ref 115, .ref 116, .ref 117]))) := Same.set (Same.set (Same.rf) (by simp)) (by simp)
    have Ox : TM (xset (xset h 87 (.inr (11, [.ref 88, .ref 89, .ref 90, .int (v 0), .int (v 1), .ref 91, .ref 92, .ref 93, .ref 94, .ref 95, .ref 96, .ref 97, .ref 98, .ref 99, .ref 100, .ref 101, .int (v 2), .ref 102, .ref 103, .ref 104, .ref 105, .ref 106, .ref 107, .ref 108, .int (v 3), .ref 109, .int (v 4), .ref 110, .ref 111, .int (v 5), .ref 112, .int (nI l), .int (nI a), .int (nI 0), .ref 113, .int (nI k), .ref 114, .ref 115, .ref 116, .ref 117]))) 87 (.inr (11, [.ref 88, .ref 89, .ref 90, .int (v 0), .int (v 1), .ref 91, .ref 92, .ref 93, .ref 94, .ref 95, .ref 96, .ref 97, .ref 98, .ref 99, .ref 100, .ref 101, .int (v 2), .ref 102, .ref 103, .ref 104, .ref 105, .ref 106, .ref 107, .ref 108, .int (v 3), .ref 109, .int (v 4), .ref 110, .ref 111, .int (v 5), .ref 112, .int (nI l), .int (nI (a + 1)), .int (nI 0), .ref 113, .int (nI k), .ref 114, .ref 115, .ref 116, .ref 117]))) v l (a + 1) (nI 0) k := (xset_same _ _ _)
    refine AX.aload_n (pc := 71) dX12_readSpot_71 rfl ?_
    refine AX.getf (pc := 72) fX12_readSpot_313 (lt_k hn (by decide)) (xset_same _ _ _) rfl dX12_readSpot_72 ?_
    refine AX.if_neN (pc := 75) (tgt := 84) dX12_readSpot_75 (by decide) (by decide) (fun q => absurd q (by decide)) (fun hc75 => ?_)
    refine AX.iload_n (pc := 78) dX12_readSpot_78 rfl ?_
    refine AX.bipush (pc := 79) (v := nI 45) dX12_readSpot_79 (by decide) ?_
    refine AX.icmp_neN (pc := 81) (tgt := 86) dX12_readSpot_81 (by decide) (by decide) (by decide) (fun hc81 => ?_) (fun q => absurd q (by decide))
    refine AX.iload_n (pc := 86) dX12_readSpot_86 rfl ?_
    refine AX.bipush (pc := 87) (v := nI 79) dX12_readSpot_87 (by decide) ?_
    refine AX.icmp_neN (pc := 89) (tgt := 101) dX12_readSpot_89 (by decide) (by decide) (by decide) (fun hc89 => ?_) (fun q => absurd q (by decide))
    refine AX.iload_n (pc := 101) dX12_readSpot_101 rfl ?_
    refine AX.bipush (pc := 102) (v := nI 66) dX12_readSpot_102 (by decide) ?_
    refine AX.icmp_neN (pc := 104) (tgt := 116) dX12_readSpot_104 (by decide) (by decide) (by decide) (fun q => absurd q (by decide)) (fun hc104 => ?_)
    refine AX.aload_n (pc := 107) dX12_readSpot_107 rfl ?_
    refine AX.bipush (pc := 108) (v := nI 85) dX12_readSpot_108 (by decide) ?_
    refine AX.callV (pc := 110) (M2 := M_X12_wants) (As := [.int (nI 85)]) (rest := []) (c_wantsO w (xset (xset h 87 (.inr (11, [.ref 88, .ref 89, .ref 90, .int (v 0), .int (v 1), .ref 91, .ref 92, .ref 93, .ref 94, .ref 95, .ref 96, .ref 97, .ref 98, .ref 99, .ref 100, .ref 101, .int (v 2), .ref 102, .ref 103, .ref 104, .ref 105, .ref 106, .ref 107, .ref 108, .int (v 3), .ref 109, .int (v 4), .ref 110, .ref 111, .int (v 5), .ref 112, .int (nI l), .int (nI a), .int (nI 0), .ref 113, .int (nI k), .ref 114, .ref 115, .ref 116, .ref 117]))) 87 (.inr (11, [.ref 88, .ref 89, .ref 90, .int (v 0), .int (v 1), .ref 91, .ref 92, .ref 93, .ref 94, .ref 95, .ref 96, .ref 97, .ref 98, .ref 99, .ref 100, .ref 101, .int (v 2), .ref 102, .ref 103, .ref 104, .ref 105, .ref 106, .ref 107, .ref 108, .int (v 3), .ref 109, .int (v 4), .ref 110, .ref 111, .int (v 5), .ref 112, .int (nI l), .int (nI (a + 1)), .int (nI 0), .ref 113, .int (nI k), .ref 114, .ref 115, .ref 116, .ref 117]))) (y := y) 85 (by decide) hl60 (by omega) (sx.le hn) Ox (hT.same sx (by simp)) (by omega)) xc_X12_readSpot__X12_wants gX12_readSpot_X12_wants (ci := 11) rfl (lt_k hn (by decide)) (xset_same _ _ _) rfl (Nat.le_of_ble_eq_true rfl) dX12_readSpot_110 ?_
    rintro _ h1 ⟨rfl, s1, O1⟩
    show AX w M_X12_readSpot 0 0 113 [.ref 87, .int (nI 66)] [] _ _
    refine AX.bipush (pc := 113) (v := nI 62) dX12_readSpot_113 (by decide) ?_
    refine AX.iret (pc := 115) dX12_readSpot_115 rfl rfl (by decide) (by decide) ?_
    exact ⟨sx.trans s1, ⟨_, rfl⟩, O1⟩
  by_cases hy : y a = 83
  · rw [show psN y l a = nuN y l a 0 from by unfold psN; rw [if_neg hla, if_neg (show ¬ y a = 45 by omega), if_neg (show ¬ y a = 79 by omega), if_neg (show ¬ y a = 66 by omega), if_pos hy]]
    refine AX.aload_n (pc := 0) dX12_readSpot_0 rfl ?_
    refine AX.callV (pc := 1) (M2 := M_X12_here) (As := []) (rest := []) (c_hereIn w h (y := y) hn hO hT (by omega)) xc_X12_readSpot__X12_here gX12_readSpot_X12_here (ci := 11) rfl (lt_k hn (by decide)) hO rfl (Nat.le_of_ble_eq_true rfl) dX12_readSpot_1 ?_
    rintro _ h9 ⟨rfl, e9⟩
    have e9 := e9.symm
    subst e9
    rw [hy]
    show AX w M_X12_readSpot 0 0 4 [.ref 87, .null] [.int (nI 83)] _ _
    refine AX.istore_n (pc := 4) (L' := [.ref 87, .int (nI 83)]) dX12_readSpot_4 (by decide) rfl ?_
    refine AX.aload_n (pc := 5) dX12_readSpot_5 rfl ?_
    refine AX.iload_n (pc := 6) dX12_readSpot_6 rfl ?_
    refine AX.bipush (pc := 7) (v := nI 83) dX12_readSpot_7 (by decide) ?_
    refine AX.icmp_eqN (pc := 9) (tgt := 46) dX12_readSpot_9 (by decide) (by decide) (by decide) (fun hc9 => ?_) (fun q => absurd q (by decide))
    refine AX.iconst (pc := 46) (v := nI 0) dX12_readSpot_46 (by decide) ?_
    refine AX.putf (pc := 47) (fs' := [.ref 88, .ref 89, .ref 90, .int (v 0), .int (v 1), .ref 91, .ref 92, .ref 93, .ref 94, .ref 95, .ref 96, .ref 97, .ref 98, .ref 99, .ref 100, .ref 101, .int (v 2), .ref 102, .ref 103, .ref 104, .ref 105, .ref 106, .ref 107, .ref 108, .int (v 3), .ref 109, .int (v 4), .ref 110, .ref 111, .int (v 5), .ref 112, .int (nI l), .int (nI a), .int (nI 0), .ref 113, .int (nI k), .ref 114, .ref 115, .ref 116, .ref 117]) fX12_readSpot_313 rfl (lt_k hn (by decide)) hO (Nat.le_of_ble_eq_true rfl) rfl rfl rfl dX12_readSpot_47 ?_
    refine AX.aload_n (pc := 50) dX12_readSpot_50 rfl ?_
    refine AX.dup (pc := 51) dX12_readSpot_51 rfl ?_
    refine AX.getf (pc := 52) fX12_readSpot_310 (lt_k hn (by decide)) (xset_same _ _ _) rfl dX12_readSpot_52 ?_
    refine AX.aload_n (pc := 55) dX12_readSpot_55 rfl ?_
    refine AX.getf (pc := 56) fX12_readSpot_313 (lt_k hn (by decide)) (xset_same _ _ _) rfl dX12_readSpot_56 ?_
    refine AX.if_eqN (pc := 59) (tgt := 66) dX12_readSpot_59 (by decide) (by decide) (fun hc59 => ?_) (fun q => absurd q (by decide))
    refine AX.iconst (pc := 66) (v := nI 1) dX12_readSpot_66 (by decide) ?_
    refine AX.iaddN (pc := 67) (c := a + 1) dX12_readSpot_67 rfl ?_
    refine AX.putf (pc := 68) (h := xset h 87 (.inr (11, [.ref 88, .ref 89, .ref 90, .int (v 0), .int (v 1), .ref 91, .ref 92, .ref 93, .ref 94, .ref 95, .ref 96, .ref 97, .ref 98, .ref 99, .ref 100, .ref 101, .int (v 2), .ref 102, .ref 103, .ref 104, .ref 105, .ref 106, .ref 107, .ref 108, .int (v 3), .ref 109, .int (v 4), .ref 110, .ref 111, .int (v 5), .ref 112, .int (nI l), .int (nI a), .int (nI 0), .ref 113, .int (nI k), .ref 114, .ref 115, .ref 116, .ref 117]))) (a := 87) (fs' := [.ref 88, .ref 89, .ref 90, .int (v 0), .int (v 1), .ref 91, .ref 92, .ref 93, .ref 94, .ref 95, .ref 96, .ref 97, .ref 98, .ref 99, .ref 100, .ref 101, .int (v 2), .ref 102, .ref 103, .ref 104, .ref 105, .ref 106, .ref 107, .ref 108, .int (v 3), .ref 109, .int (v 4), .ref 110, .ref 111, .int (v 5), .ref 112, .int (nI l), .int (nI (a + 1)), .int (nI 0), .ref 113, .int (nI k), .ref 114, .ref 115, .ref 116, .ref 117]) fX12_readSpot_310 rfl (lt_k hn (by decide)) (xset_same _ _ _) (Nat.le_of_ble_eq_true rfl) rfl rfl rfl dX12_readSpot_68 ?_
    have sx : Same [87] h (xset (xset h 87 (.inr (11, [.ref 88, .ref 89, .ref 90, .int (v 0), .int (v 1), .ref 91, .ref 92, .ref 93, .ref 94, .ref 95, .ref 96, .ref 97, .ref 98, .ref 99, .ref 100, .ref 101, .int (v 2), .ref 102, .ref 103, .ref 104, .ref 105, .ref 106, .ref 107, .ref 108, .int (v 3), .ref 109, .int (v 4), .ref 110, .ref 111, .int (v 5), .ref 112, .int (nI l), .int (nI a), .int (nI 0), .ref 113, .int (nI k), .ref 114, .ref 115, .ref 116, .ref 117]))) 87 (.inr (11, [.ref 88, .ref 89, .ref 90, .int (v 0), .int (v 1), .ref 91, .ref 92, .ref 93, .ref 94, .ref 95, .ref 96, .ref 97, .ref 98, .ref 99, .ref 100, .ref 101, .int (v 2), .ref 102, .ref 103, .ref 104, .ref 105, .ref 106, .ref 107, .ref 108, .int (v 3), .ref 109, .int (v 4), .ref 110, .ref 111, .int (v 5), .ref 112, .int (nI l), .int (nI (a + 1)), .int (nI 0), .ref 113, .int (nI k), .ref 114, .ref 115, .ref 116, .ref 117]))) := Same.set (Same.set (Same.rf) (by simp)) (by simp)
    have Ox : TM (xset (xset h 87 (.inr (11, [.ref 88, .ref 89, .ref 90, .int (v 0), .int (v 1), .ref 91, .ref 92, .ref 93, .ref 94, .ref 95, .ref 96, .ref 97, .ref 98, .ref 99, .ref 100, .ref 101, .int (v 2), .ref 102, .ref 103, .ref 104, .ref 105, .ref 106, .ref 107, .ref 108, .int (v 3), .ref 109, .int (v 4), .ref 110, .ref 111, .int (v 5), .ref 112, .int (nI l), .int (nI a), .int (nI 0), .ref 113, .int (nI k), .ref 114, .ref 115, .ref 116, .ref 117]))) 87 (.inr (11, [.ref 88, .ref 89, .ref 90, .int (v 0), .int (v 1), .ref 91, .ref 92, .ref 93, .ref 94, .ref 95, .ref 96, .ref 97, .ref 98, .ref 99, .ref 100, .ref 101, .int (v 2), .ref 102, .ref 103, .ref 104, .ref 105, .ref 106, .ref 107, .ref 108, .int (v 3), .ref 109, .int (v 4), .ref 110, .ref 111, .int (v 5), .ref 112, .int (nI l), .int (nI (a + 1)), .int (nI 0), .ref 113, .int (nI k), .ref 114, .ref 115, .ref 116, .ref 117]))) v l (a + 1) (nI 0) k := (xset_same _ _ _)
    refine AX.aload_n (pc := 71) dX12_readSpot_71 rfl ?_
    refine AX.getf (pc := 72) fX12_readSpot_313 (lt_k hn (by decide)) (xset_same _ _ _) rfl dX12_readSpot_72 ?_
    refine AX.if_neN (pc := 75) (tgt := 84) dX12_readSpot_75 (by decide) (by decide) (fun q => absurd q (by decide)) (fun hc75 => ?_)
    refine AX.iload_n (pc := 78) dX12_readSpot_78 rfl ?_
    refine AX.bipush (pc := 79) (v := nI 45) dX12_readSpot_79 (by decide) ?_
    refine AX.icmp_neN (pc := 81) (tgt := 86) dX12_readSpot_81 (by decide) (by decide) (by decide) (fun hc81 => ?_) (fun q => absurd q (by decide))
    refine AX.iload_n (pc := 86) dX12_readSpot_86 rfl ?_
    refine AX.bipush (pc := 87) (v := nI 79) dX12_readSpot_87 (by decide) ?_
    refine AX.icmp_neN (pc := 89) (tgt := 101) dX12_readSpot_89 (by decide) (by decide) (by decide) (fun hc89 => ?_) (fun q => absurd q (by decide))
    refine AX.iload_n (pc := 101) dX12_readSpot_101 rfl ?_
    refine AX.bipush (pc := 102) (v := nI 66) dX12_readSpot_102 (by decide) ?_
    refine AX.icmp_neN (pc := 104) (tgt := 116) dX12_readSpot_104 (by decide) (by decide) (by decide) (fun hc104 => ?_) (fun q => absurd q (by decide))
    refine AX.iload_n (pc := 116) dX12_readSpot_116 rfl ?_
    refine AX.bipush (pc := 117) (v := nI 83) dX12_readSpot_117 (by decide) ?_
    refine AX.icmp_neN (pc := 119) (tgt := 126) dX12_readSpot_119 (by decide) (by decide) (by decide) (fun q => absurd q (by decide)) (fun hc119 => ?_)
    refine AX.iconst (pc := 122) (v := nI 0) dX12_readSpot_122 (by decide) ?_
    refine AX.goto (pc := 123) (tgt := 139) dX12_readSpot_123 (by decide) ?_
    refine AX.aload_n (pc := 139) dX12_readSpot_139 rfl ?_
    refine AX.callV (pc := 140) (M2 := M_X12_readNumber) (As := []) (rest := [.int (nI 0)]) (c_readNumber w (xset (xset h 87 (.inr (11, [.ref 88, .ref 89, .ref 90, .int (v 0), .int (v 1), .ref 91, .ref 92, .ref 93, .ref 94, .ref 95, .ref 96, .ref 97, .ref 98, .ref 99, .ref 100, .ref 101, .int (v 2), .ref 102, .ref 103, .ref 104, .ref 105, .ref 106, .ref 107, .ref 108, .int (v 3), .ref 109, .int (v 4), .ref 110, .ref 111, .int (v 5), .ref 112, .int (nI l), .int (nI a), .int (nI 0), .ref 113, .int (nI k), .ref 114, .ref 115, .ref 116, .ref 117]))) 87 (.inr (11, [.ref 88, .ref 89, .ref 90, .int (v 0), .int (v 1), .ref 91, .ref 92, .ref 93, .ref 94, .ref 95, .ref 96, .ref 97, .ref 98, .ref 99, .ref 100, .ref 101, .int (v 2), .ref 102, .ref 103, .ref 104, .ref 105, .ref 106, .ref 107, .ref 108, .int (v 3), .ref 109, .int (v 4), .ref 110, .ref 111, .int (v 5), .ref 112, .int (nI l), .int (nI (a + 1)), .int (nI 0), .ref 113, .int (nI k), .ref 114, .ref 115, .ref 116, .ref 117]))) (y := y) hl60 (by omega) (sx.le hn) Ox (hT.same sx (by simp))) xc_X12_readSpot__X12_readNumber gX12_readSpot_X12_readNumber (ci := 11) rfl (lt_k hn (by decide)) (xset_same _ _ _) rfl (Nat.le_of_ble_eq_true rfl) dX12_readSpot_140 ?_
    rintro v1 h1 ⟨s1, R1⟩
    obtain ⟨u_, hu_⟩ : ∃ u : Int32, v1 = some (.int u) := by
        split at R1
        · exact ⟨_, R1.1⟩
        · exact R1.1
    subst hu_
    show AX w M_X12_readSpot 0 0 143 [.ref 87, .int (nI 83)] [.int u_, .int (nI 0)] _ _
    refine AX.iadd (pc := 143) dX12_readSpot_143 ?_
    refine AX.iret (pc := 144) dX12_readSpot_144 rfl rfl (by decide) (by decide) ?_
    refine ⟨sx.trans s1, ?_⟩
    unfold nuN
    by_cases g : 1 ≤ (nmN y l (a + 1)).2 ∧ (nmN y l (a + 1)).2 ≤ 20
    · rw [if_pos g] at R1 ⊢
      obtain ⟨e1, O1⟩ := R1
      have e1 : u_ = nI (nmN y l (a + 1)).2 := by injection e1 with e1; injection e1
      refine ⟨?_, ?_⟩
      · show some (Value.int ((nI 0) + u_)) = _
        rw [e1, nI_add]
      · rw [← Nat.add_assoc]
        exact O1
    · rw [if_neg g] at R1 ⊢
      exact ⟨⟨_, rfl⟩, R1.2⟩
  by_cases hy : y a = 68
  · rw [show psN y l a = nuN y l a 20 from by unfold psN; rw [if_neg hla, if_neg (show ¬ y a = 45 by omega), if_neg (show ¬ y a = 79 by omega), if_neg (show ¬ y a = 66 by omega), if_neg (show ¬ y a = 83 by omega), if_pos hy]]
    refine AX.aload_n (pc := 0) dX12_readSpot_0 rfl ?_
    refine AX.callV (pc := 1) (M2 := M_X12_here) (As := []) (rest := []) (c_hereIn w h (y := y) hn hO hT (by omega)) xc_X12_readSpot__X12_here gX12_readSpot_X12_here (ci := 11) rfl (lt_k hn (by decide)) hO rfl (Nat.le_of_ble_eq_true rfl) dX12_readSpot_1 ?_
    rintro _ h9 ⟨rfl, e9⟩
    have e9 := e9.symm
    subst e9
    rw [hy]
    show AX w M_X12_readSpot 0 0 4 [.ref 87, .null] [.int (nI 68)] _ _
    refine AX.istore_n (pc := 4) (L' := [.ref 87, .int (nI 68)]) dX12_readSpot_4 (by decide) rfl ?_
    refine AX.aload_n (pc := 5) dX12_readSpot_5 rfl ?_
    refine AX.iload_n (pc := 6) dX12_readSpot_6 rfl ?_
    refine AX.bipush (pc := 7) (v := nI 83) dX12_readSpot_7 (by decide) ?_
    refine AX.icmp_eqN (pc := 9) (tgt := 46) dX12_readSpot_9 (by decide) (by decide) (by decide) (fun q => absurd q (by decide)) (fun hc9 => ?_)
    refine AX.iload_n (pc := 12) dX12_readSpot_12 rfl ?_
    refine AX.bipush (pc := 13) (v := nI 68) dX12_readSpot_13 (by decide) ?_
    refine AX.icmp_eqN (pc := 15) (tgt := 46) dX12_readSpot_15 (by decide) (by decide) (by decide) (fun hc15 => ?_) (fun q => absurd q (by decide))
    refine AX.iconst (pc := 46) (v := nI 0) dX12_readSpot_46 (by decide) ?_
    refine AX.putf (pc := 47) (fs' := [.ref 88, .ref 89, .ref 90, .int (v 0), .int (v 1), .ref 91, .ref 92, .ref 93, .ref 94, .ref 95, .ref 96, .ref 97, .ref 98, .ref 99, .ref 100, .ref 101, .int (v 2), .ref 102, .ref 103, .ref 104, .ref 105, .ref 106, .ref 107, .ref 108, .int (v 3), .ref 109, .int (v 4), .ref 110, .ref 111, .int (v 5), .ref 112, .int (nI l), .int (nI a), .int (nI 0), .ref 113, .int (nI k), .ref 114, .ref 115, .ref 116, .ref 117]) fX12_readSpot_313 rfl (lt_k hn (by decide)) hO (Nat.le_of_ble_eq_true rfl) rfl rfl rfl dX12_readSpot_47 ?_
    refine AX.aload_n (pc := 50) dX12_readSpot_50 rfl ?_
    refine AX.dup (pc := 51) dX12_readSpot_51 rfl ?_
    refine AX.getf (pc := 52) fX12_readSpot_310 (lt_k hn (by decide)) (xset_same _ _ _) rfl dX12_readSpot_52 ?_
    refine AX.aload_n (pc := 55) dX12_readSpot_55 rfl ?_
    refine AX.getf (pc := 56) fX12_readSpot_313 (lt_k hn (by decide)) (xset_same _ _ _) rfl dX12_readSpot_56 ?_
    refine AX.if_eqN (pc := 59) (tgt := 66) dX12_readSpot_59 (by decide) (by decide) (fun hc59 => ?_) (fun q => absurd q (by decide))
    refine AX.iconst (pc := 66) (v := nI 1) dX12_readSpot_66 (by decide) ?_
    refine AX.iaddN (pc := 67) (c := a + 1) dX12_readSpot_67 rfl ?_
    refine AX.putf (pc := 68) (h := xset h 87 (.inr (11, [.ref 88, .ref 89, .ref 90, .int (v 0), .int (v 1), .ref 91, .ref 92, .ref 93, .ref 94, .ref 95, .ref 96, .ref 97, .ref 98, .ref 99, .ref 100, .ref 101, .int (v 2), .ref 102, .ref 103, .ref 104, .ref 105, .ref 106, .ref 107, .ref 108, .int (v 3), .ref 109, .int (v 4), .ref 110, .ref 111, .int (v 5), .ref 112, .int (nI l), .int (nI a), .int (nI 0), .ref 113, .int (nI k), .ref 114, .ref 115, .ref 116, .ref 117]))) (a := 87) (fs' := [.ref 88, .ref 89, .ref 90, .int (v 0), .int (v 1), .ref 91, .ref 92, .ref 93, .ref 94, .ref 95, .ref 96, .ref 97, .ref 98, .ref 99, .ref 100, .ref 101, .int (v 2), .ref 102, .ref 103, .ref 104, .ref 105, .ref 106, .ref 107, .ref 108, .int (v 3), .ref 109, .int (v 4), .ref 110, .ref 111, .int (v 5), .ref 112, .int (nI l), .int (nI (a + 1)), .int (nI 0), .ref 113, .int (nI k), .ref 114, .ref 115, .ref 116, .ref 117]) fX12_readSpot_310 rfl (lt_k hn (by decide)) (xset_same _ _ _) (Nat.le_of_ble_eq_true rfl) rfl rfl rfl dX12_readSpot_68 ?_
    have sx : Same [87] h (xset (xset h 87 (.inr (11, [.ref 88, .ref 89, .ref 90, .int (v 0), .int (v 1), .ref 91, .ref 92, .ref 93, .ref 94, .ref 95, .ref 96, .ref 97, .ref 98, .ref 99, .ref 100, .ref 101, .int (v 2), .ref 102, .ref 103, .ref 104, .ref 105, .ref 106, .ref 107, .ref 108, .int (v 3), .ref 109, .int (v 4), .ref 110, .ref 111, .int (v 5), .ref 112, .int (nI l), .int (nI a), .int (nI 0), .ref 113, .int (nI k), .ref 114, .ref 115, .ref 116, .ref 117]))) 87 (.inr (11, [.ref 88, .ref 89, .ref 90, .int (v 0), .int (v 1), .ref 91, .ref 92, .ref 93, .ref 94, .ref 95, .ref 96, .ref 97, .ref 98, .ref 99, .ref 100, .ref 101, .int (v 2), .ref 102, .ref 103, .ref 104, .ref 105, .ref 106, .ref 107, .ref 108, .int (v 3), .ref 109, .int (v 4), .ref 110, .ref 111, .int (v 5), .ref 112, .int (nI l), .int (nI (a + 1)), .int (nI 0), .ref 113, .int (nI k), .ref 114, .ref 115, .ref 116, .ref 117]))) := Same.set (Same.set (Same.rf) (by simp)) (by simp)
    have Ox : TM (xset (xset h 87 (.inr (11, [.ref 88, .ref 89, .ref 90, .int (v 0), .int (v 1), .ref 91, .ref 92, .ref 93, .ref 94, .ref 95, .ref 96, .ref 97, .ref 98, .ref 99, .ref 100, .ref 101, .int (v 2), .ref 102, .ref 103, .ref 104, .ref 105, .ref 106, .ref 107, .ref 108, .int (v 3), .ref 109, .int (v 4), .ref 110, .ref 111, .int (v 5), .ref 112, .int (nI l), .int (nI a), .int (nI 0), .ref 113, .int (nI k), .ref 114, .ref 115, .ref 116, .ref 117]))) 87 (.inr (11, [.ref 88, .ref 89, .ref 90, .int (v 0), .int (v 1), .ref 91, .ref 92, .ref 93, .ref 94, .ref 95, .ref 96, .ref 97, .ref 98, .ref 99, .ref 100, .ref 101, .int (v 2), .ref 102, .ref 103, .ref 104, .ref 105, .ref 106, .ref 107, .ref 108, .int (v 3), .ref 109, .int (v 4), .ref 110, .ref 111, .int (v 5), .ref 112, .int (nI l), .int (nI (a + 1)), .int (nI 0), .ref 113, .int (nI k), .ref 114, .ref 115, .ref 116, .ref 117]))) v l (a + 1) (nI 0) k := (xset_same _ _ _)
    refine AX.aload_n (pc := 71) dX12_readSpot_71 rfl ?_
    refine AX.getf (pc := 72) fX12_readSpot_313 (lt_k hn (by decide)) (xset_same _ _ _) rfl dX12_readSpot_72 ?_
    refine AX.if_neN (pc := 75) (tgt := 84) dX12_readSpot_75 (by decide) (by decide) (fun q => absurd q (by decide)) (fun hc75 => ?_)
    refine AX.iload_n (pc := 78) dX12_readSpot_78 rfl ?_
    refine AX.bipush (pc := 79) (v := nI 45) dX12_readSpot_79 (by decide) ?_
    refine AX.icmp_neN (pc := 81) (tgt := 86) dX12_readSpot_81 (by decide) (by decide) (by decide) (fun hc81 => ?_) (fun q => absurd q (by decide))
    refine AX.iload_n (pc := 86) dX12_readSpot_86 rfl ?_
    refine AX.bipush (pc := 87) (v := nI 79) dX12_readSpot_87 (by decide) ?_
    refine AX.icmp_neN (pc := 89) (tgt := 101) dX12_readSpot_89 (by decide) (by decide) (by decide) (fun hc89 => ?_) (fun q => absurd q (by decide))
    refine AX.iload_n (pc := 101) dX12_readSpot_101 rfl ?_
    refine AX.bipush (pc := 102) (v := nI 66) dX12_readSpot_102 (by decide) ?_
    refine AX.icmp_neN (pc := 104) (tgt := 116) dX12_readSpot_104 (by decide) (by decide) (by decide) (fun hc104 => ?_) (fun q => absurd q (by decide))
    refine AX.iload_n (pc := 116) dX12_readSpot_116 rfl ?_
    refine AX.bipush (pc := 117) (v := nI 83) dX12_readSpot_117 (by decide) ?_
    refine AX.icmp_neN (pc := 119) (tgt := 126) dX12_readSpot_119 (by decide) (by decide) (by decide) (fun hc119 => ?_) (fun q => absurd q (by decide))
    refine AX.iload_n (pc := 126) dX12_readSpot_126 rfl ?_
    refine AX.bipush (pc := 127) (v := nI 68) dX12_readSpot_127 (by decide) ?_
    refine AX.icmp_neN (pc := 129) (tgt := 137) dX12_readSpot_129 (by decide) (by decide) (by decide) (fun q => absurd q (by decide)) (fun hc129 => ?_)
    refine AX.bipush (pc := 132) (v := nI 20) dX12_readSpot_132 (by decide) ?_
    refine AX.goto (pc := 134) (tgt := 139) dX12_readSpot_134 (by decide) ?_
    refine AX.aload_n (pc := 139) dX12_readSpot_139 rfl ?_
    refine AX.callV (pc := 140) (M2 := M_X12_readNumber) (As := []) (rest := [.int (nI 20)]) (c_readNumber w (xset (xset h 87 (.inr (11, [.ref 88, .ref 89, .ref 90, .int (v 0), .int (v 1), .ref 91, .ref 92, .ref 93, .ref 94, .ref 95, .ref 96, .ref 97, .ref 98, .ref 99, .ref 100, .ref 101, .int (v 2), .ref 102, .ref 103, .ref 104, .ref 105, .ref 106, .ref 107, .ref 108, .int (v 3), .ref 109, .int (v 4), .ref 110, .ref 111, .int (v 5), .ref 112, .int (nI l), .int (nI a), .int (nI 0), .ref 113, .int (nI k), .ref 114, .ref 115, .ref 116, .ref 117]))) 87 (.inr (11, [.ref 88, .ref 89, .ref 90, .int (v 0), .int (v 1), .ref 91, .ref 92, .ref 93, .ref 94, .ref 95, .ref 96, .ref 97, .ref 98, .ref 99, .ref 100, .ref 101, .int (v 2), .ref 102, .ref 103, .ref 104, .ref 105, .ref 106, .ref 107, .ref 108, .int (v 3), .ref 109, .int (v 4), .ref 110, .ref 111, .int (v 5), .ref 112, .int (nI l), .int (nI (a + 1)), .int (nI 0), .ref 113, .int (nI k), .ref 114, .ref 115, .ref 116, .ref 117]))) (y := y) hl60 (by omega) (sx.le hn) Ox (hT.same sx (by simp))) xc_X12_readSpot__X12_readNumber gX12_readSpot_X12_readNumber (ci := 11) rfl (lt_k hn (by decide)) (xset_same _ _ _) rfl (Nat.le_of_ble_eq_true rfl) dX12_readSpot_140 ?_
    rintro v1 h1 ⟨s1, R1⟩
    obtain ⟨u_, hu_⟩ : ∃ u : Int32, v1 = some (.int u) := by
        split at R1
        · exact ⟨_, R1.1⟩
        · exact R1.1
    subst hu_
    show AX w M_X12_readSpot 0 0 143 [.ref 87, .int (nI 68)] [.int u_, .int (nI 20)] _ _
    refine AX.iadd (pc := 143) dX12_readSpot_143 ?_
    refine AX.iret (pc := 144) dX12_readSpot_144 rfl rfl (by decide) (by decide) ?_
    refine ⟨sx.trans s1, ?_⟩
    unfold nuN
    by_cases g : 1 ≤ (nmN y l (a + 1)).2 ∧ (nmN y l (a + 1)).2 ≤ 20
    · rw [if_pos g] at R1 ⊢
      obtain ⟨e1, O1⟩ := R1
      have e1 : u_ = nI (nmN y l (a + 1)).2 := by injection e1 with e1; injection e1
      refine ⟨?_, ?_⟩
      · show some (Value.int ((nI 20) + u_)) = _
        rw [e1, nI_add]
      · rw [← Nat.add_assoc]
        exact O1
    · rw [if_neg g] at R1 ⊢
      exact ⟨⟨_, rfl⟩, R1.2⟩
  by_cases hy : y a = 84
  · rw [show psN y l a = nuN y l a 40 from by unfold psN; rw [if_neg hla, if_neg (show ¬ y a = 45 by omega), if_neg (show ¬ y a = 79 by omega), if_neg (show ¬ y a = 66 by omega), if_neg (show ¬ y a = 83 by omega), if_neg (show ¬ y a = 68 by omega), if_pos hy]]
    refine AX.aload_n (pc := 0) dX12_readSpot_0 rfl ?_
    refine AX.callV (pc := 1) (M2 := M_X12_here) (As := []) (rest := []) (c_hereIn w h (y := y) hn hO hT (by omega)) xc_X12_readSpot__X12_here gX12_readSpot_X12_here (ci := 11) rfl (lt_k hn (by decide)) hO rfl (Nat.le_of_ble_eq_true rfl) dX12_readSpot_1 ?_
    rintro _ h9 ⟨rfl, e9⟩
    have e9 := e9.symm
    subst e9
    rw [hy]
    show AX w M_X12_readSpot 0 0 4 [.ref 87, .null] [.int (nI 84)] _ _
    refine AX.istore_n (pc := 4) (L' := [.ref 87, .int (nI 84)]) dX12_readSpot_4 (by decide) rfl ?_
    refine AX.aload_n (pc := 5) dX12_readSpot_5 rfl ?_
    refine AX.iload_n (pc := 6) dX12_readSpot_6 rfl ?_
    refine AX.bipush (pc := 7) (v := nI 83) dX12_readSpot_7 (by decide) ?_
    refine AX.icmp_eqN (pc := 9) (tgt := 46) dX12_readSpot_9 (by decide) (by decide) (by decide) (fun q => absurd q (by decide)) (fun hc9 => ?_)
    refine AX.iload_n (pc := 12) dX12_readSpot_12 rfl ?_
    refine AX.bipush (pc := 13) (v := nI 68) dX12_readSpot_13 (by decide) ?_
    refine AX.icmp_eqN (pc := 15) (tgt := 46) dX12_readSpot_15 (by decide) (by decide) (by decide) (fun q => absurd q (by decide)) (fun hc15 => ?_)
    refine AX.iload_n (pc := 18) dX12_readSpot_18 rfl ?_
    refine AX.bipush (pc := 19) (v := nI 84) dX12_readSpot_19 (by decide) ?_
    refine AX.icmp_eqN (pc := 21) (tgt := 46) dX12_readSpot_21 (by decide) (by decide) (by decide) (fun hc21 => ?_) (fun q => absurd q (by decide))
    refine AX.iconst (pc := 46) (v := nI 0) dX12_readSpot_46 (by decide) ?_
    refine AX.putf (pc := 47) (fs' := [.ref 88, .ref 89, .ref 90, .int (v 0), .int (v 1), .ref 91, .ref 92, .ref 93, .ref 94, .ref 95, .ref 96, .ref 97, .ref 98, .ref 99, .ref 100, .ref 101, .int (v 2), .ref 102, .ref 103, .ref 104, .ref 105, .ref 106, .ref 107, .ref 108, .int (v 3), .ref 109, .int (v 4), .ref 110, .ref 111, .int (v 5), .ref 112, .int (nI l), .int (nI a), .int (nI 0), .ref 113, .int (nI k), .ref 114, .ref 115, .ref 116, .ref 117]) fX12_readSpot_313 rfl (lt_k hn (by decide)) hO (Nat.le_of_ble_eq_true rfl) rfl rfl rfl dX12_readSpot_47 ?_
    refine AX.aload_n (pc := 50) dX12_readSpot_50 rfl ?_
    refine AX.dup (pc := 51) dX12_readSpot_51 rfl ?_
    refine AX.getf (pc := 52) fX12_readSpot_310 (lt_k hn (by decide)) (xset_same _ _ _) rfl dX12_readSpot_52 ?_
    refine AX.aload_n (pc := 55) dX12_readSpot_55 rfl ?_
    refine AX.getf (pc := 56) fX12_readSpot_313 (lt_k hn (by decide)) (xset_same _ _ _) rfl dX12_readSpot_56 ?_
    refine AX.if_eqN (pc := 59) (tgt := 66) dX12_readSpot_59 (by decide) (by decide) (fun hc59 => ?_) (fun q => absurd q (by decide))
    refine AX.iconst (pc := 66) (v := nI 1) dX12_readSpot_66 (by decide) ?_
    refine AX.iaddN (pc := 67) (c := a + 1) dX12_readSpot_67 rfl ?_
    refine AX.putf (pc := 68) (h := xset h 87 (.inr (11, [.ref 88, .ref 89, .ref 90, .int (v 0), .int (v 1), .ref 91, .ref 92, .ref 93, .ref 94, .ref 95, .ref 96, .ref 97, .ref 98, .ref 99, .ref 100, .ref 101, .int (v 2), .ref 102, .ref 103, .ref 104, .ref 105, .ref 106, .ref 107, .ref 108, .int (v 3), .ref 109, .int (v 4), .ref 110, .ref 111, .int (v 5), .ref 112, .int (nI l), .int (nI a), .int (nI 0), .ref 113, .int (nI k), .ref 114, .ref 115, .ref 116, .ref 117]))) (a := 87) (fs' := [.ref 88, .ref 89, .ref 90, .int (v 0), .int (v 1), .ref 91, .ref 92, .ref 93, .ref 94, .ref 95, .ref 96, .ref 97, .ref 98, .ref 99, .ref 100, .ref 101, .int (v 2), .ref 102, .ref 103, .ref 104, .ref 105, .ref 106, .ref 107, .ref 108, .int (v 3), .ref 109, .int (v 4), .ref 110, .ref 111, .int (v 5), .ref 112, .int (nI l), .int (nI (a + 1)), .int (nI 0), .ref 113, .int (nI k), .ref 114, .ref 115, .ref 116, .ref 117]) fX12_readSpot_310 rfl (lt_k hn (by decide)) (xset_same _ _ _) (Nat.le_of_ble_eq_true rfl) rfl rfl rfl dX12_readSpot_68 ?_
    have sx : Same [87] h (xset (xset h 87 (.inr (11, [.ref 88, .ref 89, .ref 90, .int (v 0), .int (v 1), .ref 91, .ref 92, .ref 93, .ref 94, .ref 95, .ref 96, .ref 97, .ref 98, .ref 99, .ref 100, .ref 101, .int (v 2), .ref 102, .ref 103, .ref 104, .ref 105, .ref 106, .ref 107, .ref 108, .int (v 3), .ref 109, .int (v 4), .ref 110, .ref 111, .int (v 5), .ref 112, .int (nI l), .int (nI a), .int (nI 0), .ref 113, .int (nI k), .ref 114, .ref 115, .ref 116, .ref 117]))) 87 (.inr (11, [.ref 88, .ref 89, .ref 90, .int (v 0), .int (v 1), .ref 91, .ref 92, .ref 93, .ref 94, .ref 95, .ref 96, .ref 97, .ref 98, .ref 99, .ref 100, .ref 101, .int (v 2), .ref 102, .ref 103, .ref 104, .ref 105, .ref 106, .ref 107, .ref 108, .int (v 3), .ref 109, .int (v 4), .ref 110, .ref 111, .int (v 5), .ref 112, .int (nI l), .int (nI (a + 1)), .int (nI 0), .ref 113, .int (nI k), .ref 114, .ref 115, .ref 116, .ref 117]))) := Same.set (Same.set (Same.rf) (by simp)) (by simp)
    have Ox : TM (xset (xset h 87 (.inr (11, [.ref 88, .ref 89, .ref 90, .int (v 0), .int (v 1), .ref 91, .ref 92, .ref 93, .ref 94, .ref 95, .ref 96, .ref 97, .ref 98, .ref 99, .ref 100, .ref 101, .int (v 2), .ref 102, .ref 103, .ref 104, .ref 105, .ref 106, .ref 107, .ref 108, .int (v 3), .ref 109, .int (v 4), .ref 110, .ref 111, .int (v 5), .ref 112, .int (nI l), .int (nI a), .int (nI 0), .ref 113, .int (nI k), .ref 114, .ref 115, .ref 116, .ref 117]))) 87 (.inr (11, [.ref 88, .ref 89, .ref 90, .int (v 0), .int (v 1), .ref 91, .ref 92, .ref 93, .ref 94, .ref 95, .ref 96, .ref 97, .ref 98, .ref 99, .ref 100, .ref 101, .int (v 2), .ref 102, .ref 103, .ref 104, .ref 105, .ref 106, .ref 107, .ref 108, .int (v 3), .ref 109, .int (v 4), .ref 110, .ref 111, .int (v 5), .ref 112, .int (nI l), .int (nI (a + 1)), .int (nI 0), .ref 113, .int (nI k), .ref 114, .ref 115, .ref 116, .ref 117]))) v l (a + 1) (nI 0) k := (xset_same _ _ _)
    refine AX.aload_n (pc := 71) dX12_readSpot_71 rfl ?_
    refine AX.getf (pc := 72) fX12_readSpot_313 (lt_k hn (by decide)) (xset_same _ _ _) rfl dX12_readSpot_72 ?_
    refine AX.if_neN (pc := 75) (tgt := 84) dX12_readSpot_75 (by decide) (by decide) (fun q => absurd q (by decide)) (fun hc75 => ?_)
    refine AX.iload_n (pc := 78) dX12_readSpot_78 rfl ?_
    refine AX.bipush (pc := 79) (v := nI 45) dX12_readSpot_79 (by decide) ?_
    refine AX.icmp_neN (pc := 81) (tgt := 86) dX12_readSpot_81 (by decide) (by decide) (by decide) (fun hc81 => ?_) (fun q => absurd q (by decide))
    refine AX.iload_n (pc := 86) dX12_readSpot_86 rfl ?_
    refine AX.bipush (pc := 87) (v := nI 79) dX12_readSpot_87 (by decide) ?_
    refine AX.icmp_neN (pc := 89) (tgt := 101) dX12_readSpot_89 (by decide) (by decide) (by decide) (fun hc89 => ?_) (fun q => absurd q (by decide))
    refine AX.iload_n (pc := 101) dX12_readSpot_101 rfl ?_
    refine AX.bipush (pc := 102) (v := nI 66) dX12_readSpot_102 (by decide) ?_
    refine AX.icmp_neN (pc := 104) (tgt := 116) dX12_readSpot_104 (by decide) (by decide) (by decide) (fun hc104 => ?_) (fun q => absurd q (by decide))
    refine AX.iload_n (pc := 116) dX12_readSpot_116 rfl ?_
    refine AX.bipush (pc := 117) (v := nI 83) dX12_readSpot_117 (by decide) ?_
    refine AX.icmp_neN (pc := 119) (tgt := 126) dX12_readSpot_119 (by decide) (by decide) (by decide) (fun hc119 => ?_) (fun q => absurd q (by decide))
    refine AX.iload_n (pc := 126) dX12_readSpot_126 rfl ?_
    refine AX.bipush (pc := 127) (v := nI 68) dX12_readSpot_127 (by decide) ?_
    refine AX.icmp_neN (pc := 129) (tgt := 137) dX12_readSpot_129 (by decide) (by decide) (by decide) (fun hc129 => ?_) (fun q => absurd q (by decide))
    refine AX.bipush (pc := 137) (v := nI 40) dX12_readSpot_137 (by decide) ?_
    refine AX.aload_n (pc := 139) dX12_readSpot_139 rfl ?_
    refine AX.callV (pc := 140) (M2 := M_X12_readNumber) (As := []) (rest := [.int (nI 40)]) (c_readNumber w (xset (xset h 87 (.inr (11, [.ref 88, .ref 89, .ref 90, .int (v 0), .int (v 1), .ref 91, .ref 92, .ref 93, .ref 94, .ref 95, .ref 96, .ref 97, .ref 98, .ref 99, .ref 100, .ref 101, .int (v 2), .ref 102, .ref 103, .ref 104, .ref 105, .ref 106, .ref 107, .ref 108, .int (v 3), .ref 109, .int (v 4), .ref 110, .ref 111, .int (v 5), .ref 112, .int (nI l), .int (nI a), .int (nI 0), .ref 113, .int (nI k), .ref 114, .ref 115, .ref 116, .ref 117]))) 87 (.inr (11, [.ref 88, .ref 89, .ref 90, .int (v 0), .int (v 1), .ref 91, .ref 92, .ref 93, .ref 94, .ref 95, .ref 96, .ref 97, .ref 98, .ref 99, .ref 100, .ref 101, .int (v 2), .ref 102, .ref 103, .ref 104, .ref 105, .ref 106, .ref 107, .ref 108, .int (v 3), .ref 109, .int (v 4), .ref 110, .ref 111, .int (v 5), .ref 112, .int (nI l), .int (nI (a + 1)), .int (nI 0), .ref 113, .int (nI k), .ref 114, .ref 115, .ref 116, .ref 117]))) (y := y) hl60 (by omega) (sx.le hn) Ox (hT.same sx (by simp))) xc_X12_readSpot__X12_readNumber gX12_readSpot_X12_readNumber (ci := 11) rfl (lt_k hn (by decide)) (xset_same _ _ _) rfl (Nat.le_of_ble_eq_true rfl) dX12_readSpot_140 ?_
    rintro v1 h1 ⟨s1, R1⟩
    obtain ⟨u_, hu_⟩ : ∃ u : Int32, v1 = some (.int u) := by
        split at R1
        · exact ⟨_, R1.1⟩
        · exact R1.1
    subst hu_
    show AX w M_X12_readSpot 0 0 143 [.ref 87, .int (nI 84)] [.int u_, .int (nI 40)] _ _
    refine AX.iadd (pc := 143) dX12_readSpot_143 ?_
    refine AX.iret (pc := 144) dX12_readSpot_144 rfl rfl (by decide) (by decide) ?_
    refine ⟨sx.trans s1, ?_⟩
    unfold nuN
    by_cases g : 1 ≤ (nmN y l (a + 1)).2 ∧ (nmN y l (a + 1)).2 ≤ 20
    · rw [if_pos g] at R1 ⊢
      obtain ⟨e1, O1⟩ := R1
      have e1 : u_ = nI (nmN y l (a + 1)).2 := by injection e1 with e1; injection e1
      refine ⟨?_, ?_⟩
      · show some (Value.int ((nI 40) + u_)) = _
        rw [e1, nI_add]
      · rw [← Nat.add_assoc]
        exact O1
    · rw [if_neg g] at R1 ⊢
      exact ⟨⟨_, rfl⟩, R1.2⟩
  rw [show psN y l a = .inl a from by unfold psN; rw [if_neg hla, if_neg (show ¬ y a = 45 by omega), if_neg (show ¬ y a = 79 by omega), if_neg (show ¬ y a = 66 by omega), if_neg (show ¬ y a = 83 by omega), if_neg (show ¬ y a = 68 by omega), if_neg (show ¬ y a = 84 by omega)]]
  refine AX.aload_n (pc := 0) dX12_readSpot_0 rfl ?_
  refine AX.callV (pc := 1) (M2 := M_X12_here) (As := []) (rest := []) (c_hereIn w h (y := y) hn hO hT (by omega)) xc_X12_readSpot__X12_here gX12_readSpot_X12_here (ci := 11) rfl (lt_k hn (by decide)) hO rfl (Nat.le_of_ble_eq_true rfl) dX12_readSpot_1 ?_
  rintro _ h9 ⟨rfl, e9⟩
  have e9 := e9.symm
  subst e9
  show AX w M_X12_readSpot 0 0 4 [.ref 87, .null] [.int (nI (y a))] _ _
  refine AX.istore_n (pc := 4) (L' := [.ref 87, .int (nI (y a))]) dX12_readSpot_4 (by decide) rfl ?_
  refine AX.aload_n (pc := 5) dX12_readSpot_5 rfl ?_
  refine AX.iload_n (pc := 6) dX12_readSpot_6 rfl ?_
  refine AX.bipush (pc := 7) (v := nI 83) dX12_readSpot_7 (by decide) ?_
  refine AX.icmp_eqN (pc := 9) (tgt := 46) dX12_readSpot_9 (by decide) (by omega) (by decide) (fun q => absurd q (by omega)) (fun hc9 => ?_)
  refine AX.iload_n (pc := 12) dX12_readSpot_12 rfl ?_
  refine AX.bipush (pc := 13) (v := nI 68) dX12_readSpot_13 (by decide) ?_
  refine AX.icmp_eqN (pc := 15) (tgt := 46) dX12_readSpot_15 (by decide) (by omega) (by decide) (fun q => absurd q (by omega)) (fun hc15 => ?_)
  refine AX.iload_n (pc := 18) dX12_readSpot_18 rfl ?_
  refine AX.bipush (pc := 19) (v := nI 84) dX12_readSpot_19 (by decide) ?_
  refine AX.icmp_eqN (pc := 21) (tgt := 46) dX12_readSpot_21 (by decide) (by omega) (by decide) (fun q => absurd q (by omega)) (fun hc21 => ?_)
  refine AX.iload_n (pc := 24) dX12_readSpot_24 rfl ?_
  refine AX.bipush (pc := 25) (v := nI 79) dX12_readSpot_25 (by decide) ?_
  refine AX.icmp_eqN (pc := 27) (tgt := 46) dX12_readSpot_27 (by decide) (by omega) (by decide) (fun q => absurd q (by omega)) (fun hc27 => ?_)
  refine AX.iload_n (pc := 30) dX12_readSpot_30 rfl ?_
  refine AX.bipush (pc := 31) (v := nI 66) dX12_readSpot_31 (by decide) ?_
  refine AX.icmp_eqN (pc := 33) (tgt := 46) dX12_readSpot_33 (by decide) (by omega) (by decide) (fun q => absurd q (by omega)) (fun hc33 => ?_)
  refine AX.iload_n (pc := 36) dX12_readSpot_36 rfl ?_
  refine AX.bipush (pc := 37) (v := nI 45) dX12_readSpot_37 (by decide) ?_
  refine AX.icmp_eqN (pc := 39) (tgt := 46) dX12_readSpot_39 (by decide) (by omega) (by decide) (fun q => absurd q (by omega)) (fun hc39 => ?_)
  refine AX.iconst (pc := 42) (v := nI 1) dX12_readSpot_42 (by decide) ?_
  refine AX.goto (pc := 43) (tgt := 47) dX12_readSpot_43 (by decide) ?_
  refine AX.putf (pc := 47) (fs' := [.ref 88, .ref 89, .ref 90, .int (v 0), .int (v 1), .ref 91, .ref 92, .ref 93, .ref 94, .ref 95, .ref 96, .ref 97, .ref 98, .ref 99, .ref 100, .ref 101, .int (v 2), .ref 102, .ref 103, .ref 104, .ref 105, .ref 106, .ref 107, .ref 108, .int (v 3), .ref 109, .int (v 4), .ref 110, .ref 111, .int (v 5), .ref 112, .int (nI l), .int (nI a), .int (nI 1), .ref 113, .int (nI k), .ref 114, .ref 115, .ref 116, .ref 117]) fX12_readSpot_313 rfl (lt_k hn (by decide)) hO (Nat.le_of_ble_eq_true rfl) rfl rfl rfl dX12_readSpot_47 ?_
  refine AX.aload_n (pc := 50) dX12_readSpot_50 rfl ?_
  refine AX.dup (pc := 51) dX12_readSpot_51 rfl ?_
  refine AX.getf (pc := 52) fX12_readSpot_310 (lt_k hn (by decide)) (xset_same _ _ _) rfl dX12_readSpot_52 ?_
  refine AX.aload_n (pc := 55) dX12_readSpot_55 rfl ?_
  refine AX.getf (pc := 56) fX12_readSpot_313 (lt_k hn (by decide)) (xset_same _ _ _) rfl dX12_readSpot_56 ?_
  refine AX.if_eqN (pc := 59) (tgt := 66) dX12_readSpot_59 (by decide) (by decide) (fun q => absurd q (by decide)) (fun hc59 => ?_)
  refine AX.iconst (pc := 62) (v := nI 0) dX12_readSpot_62 (by decide) ?_
  refine AX.goto (pc := 63) (tgt := 67) dX12_readSpot_63 (by decide) ?_
  refine AX.iaddN (pc := 67) (c := a) dX12_readSpot_67 rfl ?_
  refine AX.putf (pc := 68) (h := xset h 87 (.inr (11, [.ref 88, .ref 89, .ref 90, .int (v 0), .int (v 1), .ref 91, .ref 92, .ref 93, .ref 94, .ref 95, .ref 96, .ref 97, .ref 98, .ref 99, .ref 100, .ref 101, .int (v 2), .ref 102, .ref 103, .ref 104, .ref 105, .ref 106, .ref 107, .ref 108, .int (v 3), .ref 109, .int (v 4), .ref 110, .ref 111, .int (v 5), .ref 112, .int (nI l), .int (nI a), .int (nI 1), .ref 113, .int (nI k), .ref 114, .ref 115, .ref 116, .ref 117]))) (a := 87) (fs' := [.ref 88, .ref 89, .ref 90, .int (v 0), .int (v 1), .ref 91, .ref 92, .ref 93, .ref 94, .ref 95, .ref 96, .ref 97, .ref 98, .ref 99, .ref 100, .ref 101, .int (v 2), .ref 102, .ref 103, .ref 104, .ref 105, .ref 106, .ref 107, .ref 108, .int (v 3), .ref 109, .int (v 4), .ref 110, .ref 111, .int (v 5), .ref 112, .int (nI l), .int (nI a), .int (nI 1), .ref 113, .int (nI k), .ref 114, .ref 115, .ref 116, .ref 117]) fX12_readSpot_310 rfl (lt_k hn (by decide)) (xset_same _ _ _) (Nat.le_of_ble_eq_true rfl) rfl rfl rfl dX12_readSpot_68 ?_
  refine AX.aload_n (pc := 71) dX12_readSpot_71 rfl ?_
  refine AX.getf (pc := 72) fX12_readSpot_313 (lt_k hn (by decide)) (xset_same _ _ _) rfl dX12_readSpot_72 ?_
  refine AX.if_neN (pc := 75) (tgt := 84) dX12_readSpot_75 (by decide) (by decide) (fun hc75 => ?_) (fun q => absurd q (by decide))
  refine AX.iconst (pc := 84) (v := nI 0) dX12_readSpot_84 (by decide) ?_
  refine AX.iret (pc := 85) dX12_readSpot_85 rfl rfl (by decide) (by decide) ?_
  have sx : Same [87] h (xset (xset h 87 (.inr (11, [.ref 88, .ref 89, .ref 90, .int (v 0), .int (v 1), .ref 91, .ref 92, .ref 93, .ref 94, .ref 95, .ref 96, .ref 97, .ref 98, .ref 99, .ref 100, .ref 101, .int (v 2), .ref 102, .ref 103, .ref 104, .ref 105, .ref 106, .ref 107, .ref 108, .int (v 3), .ref 109, .int (v 4), .ref 110, .ref 111, .int (v 5), .ref 112, .int (nI l), .int (nI a), .int (nI 1), .ref 113, .int (nI k), .ref 114, .ref 115, .ref 116, .ref 117]))) 87 (.inr (11, [.ref 88, .ref 89, .ref 90, .int (v 0), .int (v 1), .ref 91, .ref 92, .ref 93, .ref 94, .ref 95, .ref 96, .ref 97, .ref 98, .ref 99, .ref 100, .ref 101, .int (v 2), .ref 102, .ref 103, .ref 104, .ref 105, .ref 106, .ref 107, .ref 108, .int (v 3), .ref 109, .int (v 4), .ref 110, .ref 111, .int (v 5), .ref 112, .int (nI l), .int (nI a), .int (nI 1), .ref 113, .int (nI k), .ref 114, .ref 115, .ref 116, .ref 117]))) := Same.set (Same.set (Same.rf) (by simp)) (by simp)
  exact ⟨sx, ⟨_, rfl⟩, xset_same _ _ _⟩
