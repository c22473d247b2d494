/-! ===== THE FACE: rests asked for; a DART ===== -/
def DM (h : XH) (pc : Bool) : Prop := h.2 0 = .inr (10, [.ref 1, .ref 4, .ref 9, .ref 42, .ref 57, .ref 64, .ref 68, .int (bI pc), .ref 72, .ref 75, .ref 77, .ref 86])
theorem DM.same {S : List Nat} {h h' : XH} {pc : Bool} (H : DM h pc) (hs : Same S h h') (h0 : 0 ∉ S) : DM h' pc := hs.at h0 H
theorem c_isRestUpTo (w : XW) (h : XH) {o : Nat} {pc : Bool} (x : Int32) (top : Nat) (hn : 87 ≤ h.1) (hD : DM h pc) (hR : RU h o) : CA w M_X11_isRestUpTo [.ref 0, .int x, .int (nI top)] h (fun v' h'' => v' = some (.int (bI (decide (¬ x < nI (leN o) ∧ ¬ nI top < x)))) ∧ h'' = h) := by
  refine CA.of (by decide) rfl (fun _ => Nat.le_of_ble_eq_true rfl) ?_
  show AX w M_X11_isRestUpTo 0 0 0 [.ref 0, .int x, .int (nI top)] [] h _
  refine AX.iload_n (pc := 0) dX11_isRestUpTo_0 rfl ?_
  refine AX.aload_n (pc := 1) dX11_isRestUpTo_1 rfl ?_
  refine AX.getf (pc := 2) fX11_isRestUpTo_18 (lt_k hn (by omega)) hD rfl dX11_isRestUpTo_2 ?_
  refine AX.callV (pc := 5) (M2 := M_X9_leastRest) (As := []) (rest := [.int x]) (c_leastRest w h (by omega) hR) xc_X11_isRestUpTo__X9_leastRest gX11_isRestUpTo_X9_leastRest (ci := 8) rfl (lt_k hn (by omega)) hR.2.1 rfl (Nat.le_of_ble_eq_true rfl) dX11_isRestUpTo_5 ?_
  rintro _ h9 ⟨rfl, e9⟩
  have e9 := e9.symm
  subst e9
  show AX w M_X11_isRestUpTo 0 0 8 [.ref 0, .int x, .int (nI top)] [.int (nI (leN o)), .int x] _ _
  refine AX.icmp_lt (pc := 8) (tgt := 20) dX11_isRestUpTo_8 (by decide) (fun hc8 => ?_) (fun hc8 => ?_)
  · refine AX.iconst (pc := 20) (v := nI 0) dX11_isRestUpTo_20 (by decide) ?_
    refine AX.iret (pc := 21) dX11_isRestUpTo_21 rfl rfl (by decide) (by decide) ?_
    exact ⟨s0 (decide_eq_false (by rintro ⟨q1, q2⟩; first | exact q1 (by assumption) | exact q2 (by assumption))), rfl⟩
  · refine AX.iload_n (pc := 11) dX11_isRestUpTo_11 rfl ?_
    refine AX.iload_n (pc := 12) dX11_isRestUpTo_12 rfl ?_
    refine AX.icmp_gt (pc := 13) (tgt := 20) dX11_isRestUpTo_13 (by decide) (fun hc13 => ?_) (fun hc13 => ?_)
    · refine AX.iconst (pc := 20) (v := nI 0) dX11_isRestUpTo_20 (by decide) ?_
      refine AX.iret (pc := 21) dX11_isRestUpTo_21 rfl rfl (by decide) (by decide) ?_
      exact ⟨s0 (decide_eq_false (by rintro ⟨q1, q2⟩; first | exact q1 (by assumption) | exact q2 (by assumption))), rfl⟩
    · refine AX.iconst (pc := 16) (v := nI 1) dX11_isRestUpTo_16 (by decide) ?_
      refine AX.goto (pc := 17) (tgt := 21) dX11_isRestUpTo_17 (by decide) ?_
      refine AX.iret (pc := 21) dX11_isRestUpTo_21 rfl rfl (by decide) (by decide) ?_
      exact ⟨s1 (decide_eq_true ⟨by assumption, Int32.not_lt.mpr (Int32.not_lt.mp (by assumption))⟩), rfl⟩
theorem c_isDartsRest (w : XW) (h : XH) {o : Nat} {pc : Bool} (x : Int32) (hn : 87 ≤ h.1) (hD : DM h pc) (hR : RU h o) : CA w M_X11_isDartsRest [.ref 0, .int x] h (fun v' h'' => v' = some (.int (bI (decide (x = 0 ∨ (¬ x < nI (leN o) ∧ ¬ nI 501 < x))))) ∧ h'' = h) := by
  refine CA.of (by decide) rfl (fun _ => Nat.le_of_ble_eq_true rfl) ?_
  show AX w M_X11_isDartsRest 0 0 0 [.ref 0, .int x] [] h _
  refine AX.iload_n (pc := 0) dX11_isDartsRest_0 rfl ?_
  refine AX.if_eq (pc := 1) (tgt := 15) dX11_isDartsRest_1 (by decide) (fun hc1 => ?_) (fun hc1 => ?_)
  · refine AX.iconst (pc := 15) (v := nI 1) dX11_isDartsRest_15 (by decide) ?_
    refine AX.goto (pc := 16) (tgt := 20) dX11_isDartsRest_16 (by decide) ?_
    refine AX.iret (pc := 20) dX11_isDartsRest_20 rfl rfl (by decide) (by decide) ?_
    exact ⟨s1 (decide_eq_true (by first | exact Or.inl (by assumption) | exact Or.inr (of_decide_eq_true hc12))), rfl⟩
  · refine AX.aload_n (pc := 4) dX11_isDartsRest_4 rfl ?_
    refine AX.iload_n (pc := 5) dX11_isDartsRest_5 rfl ?_
    refine AX.sipush (pc := 6) (v := nI 501) dX11_isDartsRest_6 (by decide) ?_
    refine AX.callV (pc := 9) (M2 := M_X11_isRestUpTo) (As := [.int x, .int (nI 501)]) (rest := []) (c_isRestUpTo w h (x) 501 hn hD hR) xc_X11_isDartsRest__X11_isRestUpTo gX11_isDartsRest_X11_isRestUpTo (ci := 10) rfl (lt_k hn (by omega)) hD rfl (Nat.le_of_ble_eq_true rfl) dX11_isDartsRest_9 ?_
    rintro _ h9 ⟨rfl, e9⟩
    have e9 := e9.symm
    subst e9
    show AX w M_X11_isDartsRest 0 0 12 [.ref 0, .int x] [.int (bI (decide (¬ x < nI (leN o) ∧ ¬ nI 501 < x)))] _ _
    refine AX.if_eqB (pc := 12) (tgt := 19) dX11_isDartsRest_12 (by decide) (fun hc12 => ?_) (fun hc12 => ?_)
    · refine AX.iconst (pc := 19) (v := nI 0) dX11_isDartsRest_19 (by decide) ?_
      refine AX.iret (pc := 20) dX11_isDartsRest_20 rfl rfl (by decide) (by decide) ?_
      exact ⟨s0 (decide_eq_false (by rintro (q | q); exact hc1 q; exact of_decide_eq_false hc12 q)), rfl⟩
    · refine AX.iconst (pc := 15) (v := nI 1) dX11_isDartsRest_15 (by decide) ?_
      refine AX.goto (pc := 16) (tgt := 20) dX11_isDartsRest_16 (by decide) ?_
      refine AX.iret (pc := 20) dX11_isDartsRest_20 rfl rfl (by decide) (by decide) ?_
      exact ⟨s1 (decide_eq_true (by first | exact Or.inl (by assumption) | exact Or.inr (of_decide_eq_true hc12))), rfl⟩
theorem c_isRace (w : XW) (h : XH) {o : Nat} {pc : Bool} (x y : Int32) (hn : 87 ≤ h.1) (hD : DM h pc) (hR : RU h o) : CA w M_X11_isRace [.ref 0, .int x, .int y] h (fun v' h'' => v' = some (.int (bI (decide ((¬ x < nI (leN o) ∧ ¬ nI 24 < x) ∧ (¬ y < nI (leN o) ∧ ¬ nI 24 < y))))) ∧ h'' = h) := by
  refine CA.of (by decide) rfl (fun _ => Nat.le_of_ble_eq_true rfl) ?_
  show AX w M_X11_isRace 0 0 0 [.ref 0, .int x, .int y] [] h _
  refine AX.aload_n (pc := 0) dX11_isRace_0 rfl ?_
  refine AX.iload_n (pc := 1) dX11_isRace_1 rfl ?_
  refine AX.bipush (pc := 2) (v := nI 24) dX11_isRace_2 (by decide) ?_
  refine AX.callV (pc := 4) (M2 := M_X11_isRestUpTo) (As := [.int x, .int (nI 24)]) (rest := []) (c_isRestUpTo w h (x) 24 hn hD hR) xc_X11_isRace__X11_isRestUpTo gX11_isRace_X11_isRestUpTo (ci := 10) rfl (lt_k hn (by omega)) hD rfl (Nat.le_of_ble_eq_true rfl) dX11_isRace_4 ?_
  rintro _ h9 ⟨rfl, e9⟩
  have e9 := e9.symm
  subst e9
  show AX w M_X11_isRace 0 0 7 [.ref 0, .int x, .int y] [.int (bI (decide (¬ x < nI (leN o) ∧ ¬ nI 24 < x)))] _ _
  refine AX.if_eqB (pc := 7) (tgt := 24) dX11_isRace_7 (by decide) (fun hc7 => ?_) (fun hc7 => ?_)
  · refine AX.iconst (pc := 24) (v := nI 0) dX11_isRace_24 (by decide) ?_
    refine AX.iret (pc := 25) dX11_isRace_25 rfl rfl (by decide) (by decide) ?_
    exact ⟨s0 (decide_eq_false (by rintro ⟨q1, q2⟩; first | exact of_decide_eq_false hc7 q1 | exact of_decide_eq_false hc17 q2)), rfl⟩
  · refine AX.aload_n (pc := 10) dX11_isRace_10 rfl ?_
    refine AX.iload_n (pc := 11) dX11_isRace_11 rfl ?_
    refine AX.bipush (pc := 12) (v := nI 24) dX11_isRace_12 (by decide) ?_
    refine AX.callV (pc := 14) (M2 := M_X11_isRestUpTo) (As := [.int y, .int (nI 24)]) (rest := []) (c_isRestUpTo w h (y) 24 hn hD hR) xc_X11_isRace__X11_isRestUpTo gX11_isRace_X11_isRestUpTo (ci := 10) rfl (lt_k hn (by omega)) hD rfl (Nat.le_of_ble_eq_true rfl) dX11_isRace_14 ?_
    rintro _ h9 ⟨rfl, e9⟩
    have e9 := e9.symm
    subst e9
    show AX w M_X11_isRace 0 0 17 [.ref 0, .int x, .int y] [.int (bI (decide (¬ y < nI (leN o) ∧ ¬ nI 24 < y)))] _ _
    refine AX.if_eqB (pc := 17) (tgt := 24) dX11_isRace_17 (by decide) (fun hc17 => ?_) (fun hc17 => ?_)
    · refine AX.iconst (pc := 24) (v := nI 0) dX11_isRace_24 (by decide) ?_
      refine AX.iret (pc := 25) dX11_isRace_25 rfl rfl (by decide) (by decide) ?_
      exact ⟨s0 (decide_eq_false (by rintro ⟨q1, q2⟩; first | exact of_decide_eq_false hc7 q1 | exact of_decide_eq_false hc17 q2)), rfl⟩
    · refine AX.iconst (pc := 20) (v := nI 1) dX11_isRace_20 (by decide) ?_
      refine AX.goto (pc := 21) (tgt := 25) dX11_isRace_21 (by decide) ?_
      refine AX.iret (pc := 25) dX11_isRace_25 rfl rfl (by decide) (by decide) ?_
      exact ⟨s1 (decide_eq_true ⟨of_decide_eq_true hc7, of_decide_eq_true hc17⟩), rfl⟩
theorem c_restOfThrower (w : XW) (h : XH) {q : Nat → Int32} {t : Nat} (hn : 72 ≤ h.1) (hL : LG h 64 q) (ht : t ≤ 1) (hq : q 15 = nI t) : CE w M_X3_restOfThrower [.ref 64] h (some (.int (q (4 + t)))) h := by
  have z : t = 0 ∨ t = 1 := by omega
  rcases z with rfl | rfl
  · exact c_restOfThrower0 w h hn hL hq
  · exact c_restOfThrower1 w h hn hL hq
theorem c_throwUpon (w : XW) (h : XH) {o r s t g : Nat} {pc : Bool} {q : Nat → Int32} (hn : 87 ≤ h.1) (hD : DM h pc) (hR : RU h o) (hL : LG h 64 q) (ht : t ≤ 1) (hg : g ≤ 1) (h15 : q 15 = nI t) (h14 : q 14 = nI g) (hr : q (4 + t) = nI r) (hr5 : r ≤ 501) (hs : s < 63) : CA w M_X11_throwUpon [.ref 0, .int (nI s)] h (fun v h' => v = some (.int (oI (nxN o r s))) ∧ Same [64, 66, 67] h h' ∧ LG h' 64 (ldN q t g (nxN o r s))) := by
  refine CA.of (by decide) rfl (fun _ => Nat.le_of_ble_eq_true rfl) ?_
  show AX w M_X11_throwUpon 0 0 0 [.ref 0, .int (nI s)] [] h _
  refine AX.aload_n (pc := 0) dX11_throwUpon_0 rfl ?_
  refine AX.getf (pc := 1) fX11_throwUpon_53 (lt_k hn (by omega)) hD rfl dX11_throwUpon_1 ?_
  refine AX.aload_n (pc := 4) dX11_throwUpon_4 rfl ?_
  refine AX.getf (pc := 5) fX11_throwUpon_18 (lt_k hn (by omega)) hD rfl dX11_throwUpon_5 ?_
  refine AX.aload_n (pc := 8) dX11_throwUpon_8 rfl ?_
  refine AX.getf (pc := 9) fX11_throwUpon_53 (lt_k hn (by omega)) hD rfl dX11_throwUpon_9 ?_
  refine AX.callV (pc := 12) (M2 := M_X3_restOfThrower) (As := []) (rest := [.ref 1, .ref 64]) (c_restOfThrower w h (by omega) hL ht h15) xc_X11_throwUpon__X3_restOfThrower gX11_throwUpon_X3_restOfThrower (ci := 2) rfl (lt_k hn (by omega)) hL.1 rfl (Nat.le_of_ble_eq_true rfl) dX11_throwUpon_12 ?_
  rintro _ h9 ⟨rfl, e9⟩
  have e9 := e9.symm
  subst e9
  rw [hr]
  show AX w M_X11_throwUpon 0 0 15 [.ref 0, .int (nI s)] [.int (nI r), .ref 1, .ref 64] _ _
  refine AX.iload_n (pc := 15) dX11_throwUpon_15 rfl ?_
  refine AX.callV (pc := 16) (M2 := M_X9_restBehind) (As := [.int (nI r), .int (nI s)]) (rest := [.ref 64]) (c_restBehind w h (by omega) hR r s (by omega) hs) xc_X11_throwUpon__X9_restBehind gX11_throwUpon_X9_restBehind (ci := 8) rfl (lt_k hn (by omega)) hR.2.1 rfl (Nat.le_of_ble_eq_true rfl) dX11_throwUpon_16 ?_
  rintro _ h9 ⟨rfl, e9⟩
  have e9 := e9.symm
  subst e9
  show AX w M_X11_throwUpon 0 0 19 [.ref 0, .int (nI s)] [.int (oI (nxN o r s)), .ref 64] _ _
  refine AX.callV (pc := 19) (M2 := M_X3_land) (As := [.int (oI (nxN o r s))]) (rest := []) (c_land w h (show 72 ≤ h.1 by omega) hL ht hg h15 h14 (nxN o r s) (fun d hd => by have := nxN_le hd; omega)) xc_X11_throwUpon__X3_land gX11_throwUpon_X3_land (ci := 2) rfl (lt_k hn (by omega)) hL.1 rfl (Nat.le_of_ble_eq_true rfl) dX11_throwUpon_19 ?_
  rintro _ h1 ⟨rfl, s1, l1⟩
  show AX w M_X11_throwUpon 0 0 22 [.ref 0, .int (nI s)] [.int (oI (nxN o r s))] _ _
  refine AX.iret (pc := 22) dX11_throwUpon_22 rfl rfl (by decide) (by decide) ?_
  exact ⟨rfl, s1, l1⟩
