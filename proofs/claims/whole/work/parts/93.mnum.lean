/-! ===== THE REFERENCE: TEXTS ===== -/
def TM (h : XH) (v : Nat → Int32) (l a : Nat) (z : Int32) (k : Nat) : Prop := h.2 87 = .inr (11, [.ref 88, .ref 89, .ref 90, .int (v 0), .int (v 1), .ref 91, .ref 92, .ref 93, .ref 94, .ref 95, .ref 96, .ref 97, .ref 98, .ref 99, .ref 100, .ref 101, .int (v 2), .ref 102, .ref 103, .ref 104, .ref 105, .ref 106, .ref 107, .ref 108, .int (v 3), .ref 109, .int (v 4), .ref 110, .ref 111, .int (v 5), .ref 112, .int (nI l), .int (nI a), .int z, .ref 113, .int (nI k), .ref 114, .ref 115, .ref 116, .ref 117])
def HT (h : XH) (y : Nat → Nat) (l : Nat) : Prop := ∃ f : Nat → Int32, h.2 112 = .inl (0, 60, .inl f) ∧ ∀ j, j < l → f j = nI (y j) ∧ y j < 128 ∧ l ≤ 60
theorem HT.same {S : List Nat} {h h' : XH} {y : Nat → Nat} {l : Nat} (H : HT h y l) (hs : Same S h h') (h1 : 112 ∉ S) : HT h' y l := H.imp (fun _ z => ⟨hs.at h1 z.1, z.2⟩)
theorem c_hereIn (w : XW) (h : XH) {v : Nat → Int32} {y : Nat → Nat} {l a k : Nat} {z : Int32} (hn : 118 ≤ h.1) (hO : TM h v l a z k) (hT : HT h y l) (h1 : a < l) : CA w M_X12_here [.ref 87] h (fun v' h'' => v' = some (.int (nI (y a))) ∧ h'' = h) := by
  refine CA.of (by decide) rfl (fun _ => Nat.le_of_ble_eq_true rfl) ?_
  obtain ⟨ft, e112, qt_⟩ := id hT
  have hl := (qt_ a h1).2.2
  show AX w M_X12_here 0 0 0 [.ref 87] [] h _
  refine AX.aload_n (pc := 0) dX12_here_0 rfl ?_
  refine AX.getf (pc := 1) fX12_here_310 (lt_k hn (by decide)) hO rfl dX12_here_1 ?_
  refine AX.aload_n (pc := 4) dX12_here_4 rfl ?_
  refine AX.getf (pc := 5) fX12_here_301 (lt_k hn (by decide)) hO rfl dX12_here_5 ?_
  refine AX.icmp_geN (pc := 8) (tgt := 23) dX12_here_8 (by decide) (by omega) (by omega) (fun q => absurd q (by omega)) (fun hc8 => ?_)
  refine AX.aload_n (pc := 11) dX12_here_11 rfl ?_
  refine AX.getf (pc := 12) fX12_here_84 (lt_k hn (by decide)) hO rfl dX12_here_12 ?_
  refine AX.aload_n (pc := 15) dX12_here_15 rfl ?_
  refine AX.getf (pc := 16) fX12_here_310 (lt_k hn (by decide)) hO rfl dX12_here_16 ?_
  refine AX.ialdN (pc := 19) (i := a) (v := (nI (y a))) (lt_k hn (by decide)) e112 (by decide) (by omega) (qt_ a h1).1 dX12_here_19 ?_
  refine AX.goto (pc := 20) (tgt := 24) dX12_here_20 (by decide) ?_
  refine AX.iret (pc := 24) dX12_here_24 rfl rfl (by decide) (by decide) ?_
  exact ⟨rfl, rfl⟩
theorem c_hereOut (w : XW) (h : XH) {v : Nat → Int32} {y : Nat → Nat} {l a k : Nat} {z : Int32} (hn : 118 ≤ h.1) (hO : TM h v l a z k) (hT : HT h y l) (h1 : l ≤ a) (hl : l ≤ 60) (ha : a ≤ 1000) : CA w M_X12_here [.ref 87] h (fun v' h'' => v' = some (.int (-1)) ∧ h'' = h) := by
  refine CA.of (by decide) rfl (fun _ => Nat.le_of_ble_eq_true rfl) ?_
  obtain ⟨ft, e112, qt_⟩ := id hT
  show AX w M_X12_here 0 0 0 [.ref 87] [] h _
  refine AX.aload_n (pc := 0) dX12_here_0 rfl ?_
  refine AX.getf (pc := 1) fX12_here_310 (lt_k hn (by decide)) hO rfl dX12_here_1 ?_
  refine AX.aload_n (pc := 4) dX12_here_4 rfl ?_
  refine AX.getf (pc := 5) fX12_here_301 (lt_k hn (by decide)) hO rfl dX12_here_5 ?_
  refine AX.icmp_geN (pc := 8) (tgt := 23) dX12_here_8 (by decide) (by omega) (by omega) (fun hc8 => ?_) (fun q => absurd q (by omega))
  refine AX.iconst (pc := 23) (v := (-1)) dX12_here_23 (by decide) ?_
  refine AX.iret (pc := 24) dX12_here_24 rfl rfl (by decide) (by decide) ?_
  exact ⟨rfl, rfl⟩
theorem c_wantsY (w : XW) (h : XH) {v : Nat → Int32} {y : Nat → Nat} {l a k : Nat} (c : Nat) (hc : c < 128) (hl60 : l ≤ 60) (ha : a ≤ 61) (hn : 118 ≤ h.1) (hO : TM h v l a (nI 0) k) (hT : HT h y l) (h1 : a < l) (h2 : y a = c) : CA w M_X12_wants [.ref 87, .int (nI c)] h (fun v' h' => v' = none ∧ Same [87] h h' ∧ TM h' v l (a + 1) (nI 0) k) := by
  refine CA.of (by decide) rfl (fun _ => Nat.le_of_ble_eq_true rfl) ?_
  obtain ⟨ft, e112, qt_⟩ := id hT
  have hy := (qt_ a h1).2.1
  show AX w M_X12_wants 0 0 0 [.ref 87, .int (nI c)] [] h _
  refine AX.aload_n (pc := 0) dX12_wants_0 rfl ?_
  refine AX.aload_n (pc := 1) dX12_wants_1 rfl ?_
  refine AX.getf (pc := 2) fX12_wants_313 (lt_k hn (by decide)) hO rfl dX12_wants_2 ?_
  refine AX.if_neN (pc := 5) (tgt := 16) dX12_wants_5 (by decide) (by decide) (fun q => absurd q (by decide)) (fun hc5 => ?_)
  refine AX.aload_n (pc := 8) dX12_wants_8 rfl ?_
  refine AX.callV (pc := 9) (M2 := M_X12_here) (As := []) (rest := [.ref 87]) (c_hereIn w h (y := y) hn hO hT (by omega)) xc_X12_wants__X12_here gX12_wants_X12_here (ci := 11) rfl (lt_k hn (by decide)) hO rfl (Nat.le_of_ble_eq_true rfl) dX12_wants_9 ?_
  rintro _ h9 ⟨rfl, e9⟩
  have e9 := e9.symm
  subst e9
  show AX w M_X12_wants 0 0 12 [.ref 87, .int (nI c)] [.int (nI (y a)), .ref 87] _ _
  refine AX.iload_n (pc := 12) dX12_wants_12 rfl ?_
  refine AX.icmp_eqN (pc := 13) (tgt := 20) dX12_wants_13 (by decide) (by omega) (by omega) (fun hc13 => ?_) (fun q => absurd q (by omega))
  refine AX.iconst (pc := 20) (v := nI 0) dX12_wants_20 (by decide) ?_
  refine AX.putf (pc := 21) (fs' := [.ref 88, .ref 89, .ref 90, .int (v 0), .int (v 1), .ref 91, .ref 92, .ref 93, .ref 94, .ref 95, .ref 96, .ref 97, .ref 98, .ref 99, .ref 100, .ref 101, .int (v 2), .ref 102, .ref 103, .ref 104, .ref 105, .ref 106, .ref 107, .ref 108, .int (v 3), .ref 109, .int (v 4), .ref 110, .ref 111, .int (v 5), .ref 112, .int (nI l), .int (nI a), .int (nI 0), .ref 113, .int (nI k), .ref 114, .ref 115, .ref 116, .ref 117]) fX12_wants_313 rfl (lt_k hn (by decide)) hO (Nat.le_of_ble_eq_true rfl) rfl rfl rfl dX12_wants_21 ?_
  refine AX.aload_n (pc := 24) dX12_wants_24 rfl ?_
  refine AX.dup (pc := 25) dX12_wants_25 rfl ?_
  refine AX.getf (pc := 26) fX12_wants_310 (lt_k hn (by decide)) (xset_same _ _ _) rfl dX12_wants_26 ?_
  refine AX.aload_n (pc := 29) dX12_wants_29 rfl ?_
  refine AX.getf (pc := 30) fX12_wants_313 (lt_k hn (by decide)) (xset_same _ _ _) rfl dX12_wants_30 ?_
  refine AX.if_eqN (pc := 33) (tgt := 40) dX12_wants_33 (by decide) (by decide) (fun hc33 => ?_) (fun q => absurd q (by decide))
  refine AX.iconst (pc := 40) (v := nI 1) dX12_wants_40 (by decide) ?_
  refine AX.iaddN (pc := 41) (c := a + 1) dX12_wants_41 rfl ?_
  refine AX.putf (pc := 42) (h := xset h 87 (.inr (11, [.ref 88, .ref 89, .ref 90, .int (v 0), .int (v 1), .ref 91, .ref 92, .ref 93, .ref 94, .ref 95, .ref 96, .ref 97, .ref 98, .ref 99, .ref 100, .ref 101, .int (v 2), .ref 102, .ref 103, .ref 104, .ref 105, .ref 106, .ref 107, .ref 108, .int (v 3), .ref 109, .int (v 4), .ref 110, .ref 111, .int (v 5), .ref 112, .int (nI l), .int (nI a), .int (nI 0), .ref 113, .int (nI k), .ref 114, .ref 115, .ref 116, .ref 117]))) (a := 87) (fs' := [.ref 88, .ref 89, .ref 90, .int (v 0), .int (v 1), .ref 91, .ref 92, .ref 93, .ref 94, .ref 95, .ref 96, .ref 97, .ref 98, .ref 99, .ref 100, .ref 101, .int (v 2), .ref 102, .ref 103, .ref 104, .ref 105, .ref 106, .ref 107, .ref 108, .int (v 3), .ref 109, .int (v 4), .ref 110, .ref 111, .int (v 5), .ref 112, .int (nI l), .int (nI (a + 1)), .int (nI 0), .ref 113, .int (nI k), .ref 114, .ref 115, .ref 116, .ref 117]) fX12_wants_310 rfl (lt_k hn (by decide)) (xset_same _ _ _) (Nat.le_of_ble_eq_true rfl) rfl rfl rfl dX12_wants_42 ?_
  refine AX.vret (pc := 45) dX12_wants_45 rfl (by decide) (by decide) ?_
  have sx : Same [87] h (xset (xset h 87 (.inr (11, [.ref 88, .ref 89, .ref 90, .int (v 0), .int (v 1), .ref 91, .ref 92, .ref 93, .ref 94, .ref 95, .ref 96, .ref 97, .ref 98, .ref 99, .ref 100, .ref 101, .int (v 2), .ref 102, .ref 103, .ref 104, .ref 105, .ref 106, .ref 107, .ref 108, .int (v 3), .ref 109, .int (v 4), .ref 110, .ref 111, .int (v 5), .ref 112, .int (nI l), .int (nI a), .int (nI 0), .ref 113, .int (nI k), .ref 114, .ref 115, .ref 116, .ref 117]))) 87 (.inr (11, [.ref 88, .ref 89, .ref 90, .int (v 0), .int (v 1), .ref 91, .ref 92, .ref 93, .ref 94, .ref 95, .ref 96, .ref 97, .ref 98, .ref 99, .ref 100, .ref 101, .int (v 2), .ref 102, .ref 103, .ref 104, .ref 105, .ref 106, .ref 107, .ref 108, .int (v 3), .ref 109, .int (v 4), .ref 110, .ref 111, .int (v 5), .ref 112, .int (nI l), .int (nI (a + 1)), .int (nI 0), .ref 113, .int (nI k), .ref 114, .ref 115, .ref 116, .ref 117]))) := Same.set (Same.set (Same.rf) (by simp)) (by simp)
  exact ⟨rfl, sx, xset_same _ _ _⟩
theorem c_wantsN (w : XW) (h : XH) {v : Nat → Int32} {y : Nat → Nat} {l a k : Nat} (c : Nat) (hc : c < 128) (hl60 : l ≤ 60) (ha : a ≤ 61) (hn : 118 ≤ h.1) (hO : TM h v l a (nI 0) k) (hT : HT h y l) (h1 : a < l) (h2 : y a ≠ c) : CA w M_X12_wants [.ref 87, .int (nI c)] h (fun v' h' => v' = none ∧ Same [87] h h' ∧ TM h' v l a (nI 1) k) := by
  refine CA.of (by decide) rfl (fun _ => Nat.le_of_ble_eq_true rfl) ?_
  obtain ⟨ft, e112, qt_⟩ := id hT
  have hy := (qt_ a h1).2.1
  show AX w M_X12_wants 0 0 0 [.ref 87, .int (nI c)] [] h _
  refine AX.aload_n (pc := 0) dX12_wants_0 rfl ?_
  refine AX.aload_n (pc := 1) dX12_wants_1 rfl ?_
  refine AX.getf (pc := 2) fX12_wants_313 (lt_k hn (by decide)) hO rfl dX12_wants_2 ?_
  refine AX.if_neN (pc := 5) (tgt := 16) dX12_wants_5 (by decide) (by decide) (fun q => absurd q (by decide)) (fun hc5 => ?_)
  refine AX.aload_n (pc := 8) dX12_wants_8 rfl ?_
  refine AX.callV (pc := 9) (M2 := M_X12_here) (As := []) (rest := [.ref 87]) (c_hereIn w h (y := y) hn hO hT (by omega)) xc_X12_wants__X12_here gX12_wants_X12_here (ci := 11) rfl (lt_k hn (by decide)) hO rfl (Nat.le_of_ble_eq_true rfl) dX12_wants_9 ?_
  rintro _ h9 ⟨rfl, e9⟩
  have e9 := e9.symm
  subst e9
  show AX w M_X12_wants 0 0 12 [.ref 87, .int (nI c)] [.int (nI (y a)), .ref 87] _ _
  refine AX.iload_n (pc := 12) dX12_wants_12 rfl ?_
  refine AX.icmp_eqN (pc := 13) (tgt := 20) dX12_wants_13 (by decide) (by omega) (by omega) (fun q => absurd q (by omega)) (fun hc13 => ?_)
  refine AX.iconst (pc := 16) (v := nI 1) dX12_wants_16 (by decide) ?_
  refine AX.goto (pc := 17) (tgt := 21) dX12_wants_17 (by decide) ?_
  refine AX.putf (pc := 21) (fs' := [.ref 88, .ref 89, .ref 90, .int (v 0), .int (v 1), .ref 91, .ref 92, .ref 93, .ref 94, .ref 95, .ref 96, .ref 97, .ref 98, .ref 99, .ref 100, .ref 101, .int (v 2), .ref 102, .ref 103, .ref 104, .ref 105, .ref 106, .ref 107, .ref 108, .int (v 3), .ref 109, .int (v 4), .ref 110, .ref 111, .int (v 5), .ref 112, .int (nI l), .int (nI a), .int (nI 1), .ref 113, .int (nI k), .ref 114, .ref 115, .ref 116, .ref 117]) fX12_wants_313 rfl (lt_k hn (by decide)) hO (Nat.le_of_ble_eq_true rfl) rfl rfl rfl dX12_wants_21 ?_
  refine AX.aload_n (pc := 24) dX12_wants_24 rfl ?_
  refine AX.dup (pc := 25) dX12_wants_25 rfl ?_
  refine AX.getf (pc := 26) fX12_wants_310 (lt_k hn (by decide)) (xset_same _ _ _) rfl dX12_wants_26 ?_
  refine AX.aload_n (pc := 29) dX12_wants_29 rfl ?_
  refine AX.getf (pc := 30) fX12_wants_313 (lt_k hn (by decide)) (xset_same _ _ _) rfl dX12_wants_30 ?_
  refine AX.if_eqN (pc := 33) (tgt := 40) dX12_wants_33 (by decide) (by decide) (fun q => absurd q (by decide)) (fun hc33 => ?_)
  refine AX.iconst (pc := 36) (v := nI 0) dX12_wants_36 (by decide) ?_
  refine AX.goto (pc := 37) (tgt := 41) dX12_wants_37 (by decide) ?_
  refine AX.iaddN (pc := 41) (c := a) dX12_wants_41 rfl ?_
  refine AX.putf (pc := 42) (h := xset h 87 (.inr (11, [.ref 88, .ref 89, .ref 90, .int (v 0), .int (v 1), .ref 91, .ref 92, .ref 93, .ref 94, .ref 95, .ref 96, .ref 97, .ref 98, .ref 99, .ref 100, .ref 101, .int (v 2), .ref 102, .ref 103, .ref 104, .ref 105, .ref 106, .ref 107, .ref 108, .int (v 3), .ref 109, .int (v 4), .ref 110, .ref 111, .int (v 5), .ref 112, .int (nI l), .int (nI a), .int (nI 1), .ref 113, .int (nI k), .ref 114, .ref 115, .ref 116, .ref 117]))) (a := 87) (fs' := [.ref 88, .ref 89, .ref 90, .int (v 0), .int (v 1), .ref 91, .ref 92, .ref 93, .ref 94, .ref 95, .ref 96, .ref 97, .ref 98, .ref 99, .ref 100, .ref 101, .int (v 2), .ref 102, .ref 103, .ref 104, .ref 105, .ref 106, .ref 107, .ref 108, .int (v 3), .ref 109, .int (v 4), .ref 110, .ref 111, .int (v 5), .ref 112, .int (nI l), .int (nI a), .int (nI 1), .ref 113, .int (nI k), .ref 114, .ref 115, .ref 116, .ref 117]) fX12_wants_310 rfl (lt_k hn (by decide)) (xset_same _ _ _) (Nat.le_of_ble_eq_true rfl) rfl rfl rfl dX12_wants_42 ?_
  refine AX.vret (pc := 45) dX12_wants_45 rfl (by decide) (by decide) ?_
  have sx : Same [87] h (xset (xset h 87 (.inr (11, [.ref 88, .ref 89, .ref 90, .int (v 0), .int (v 1), .ref 91, .ref 92, .ref 93, .ref 94, .ref 95, .ref 96, .ref 97, .ref 98, .ref 99, .ref 100, .ref 101, .int (v 2), .ref 102, .ref 103, .ref 104, .ref 105, .ref 106, .ref 107, .ref 108, .int (v 3), .ref 109, .int (v 4), .ref 110, .ref 111, .int (v 5), .ref 112, .int (nI l), .int (nI a), .int (nI 1), .ref 113, .int (nI k), .ref 114, .ref 115, .ref 116, .ref 117]))) 87 (.inr (11, [.ref 88, .ref 89, .ref 90, .int (v 0), .int (v 1), .ref 91, .ref 92, .ref 93, .ref 94, .ref 95, .ref 96, .ref 97, .ref 98, .ref 99, .ref 100, .ref 101, .int (v 2), .ref 102, .ref 103, .ref 104, .ref 105, .ref 106, .ref 107, .ref 108, .int (v 3), .ref 109, .int (v 4), .ref 110, .ref 111, .int (v 5), .ref 112, .int (nI l), .int (nI a), .int (nI 1), .ref 113, .int (nI k), .ref 114, .ref 115, .ref 116, .ref 117]))) := Same.set (Same.set (Same.rf) (by simp)) (by simp)
  exact ⟨rfl, sx, xset_same _ _ _⟩
theorem c_wantsO (w : XW) (h : XH) {v : Nat → Int32} {y : Nat → Nat} {l a k : Nat} (c : Nat) (hc : c < 128) (hl60 : l ≤ 60) (ha : a ≤ 61) (hn : 118 ≤ h.1) (hO : TM h v l a (nI 0) k) (hT : HT h y l) (h1 : l ≤ a) : CA w M_X12_wants [.ref 87, .int (nI c)] h (fun v' h' => v' = none ∧ Same [87] h h' ∧ TM h' v l a (nI 1) k) := by
  refine CA.of (by decide) rfl (fun _ => Nat.le_of_ble_eq_true rfl) ?_
  obtain ⟨ft, e112, qt_⟩ := id hT
  show AX w M_X12_wants 0 0 0 [.ref 87, .int (nI c)] [] h _
  refine AX.aload_n (pc := 0) dX12_wants_0 rfl ?_
  refine AX.aload_n (pc := 1) dX12_wants_1 rfl ?_
  refine AX.getf (pc := 2) fX12_wants_313 (lt_k hn (by decide)) hO rfl dX12_wants_2 ?_
  refine AX.if_neN (pc := 5) (tgt := 16) dX12_wants_5 (by decide) (by decide) (fun q => absurd q (by decide)) (fun hc5 => ?_)
  refine AX.aload_n (pc := 8) dX12_wants_8 rfl ?_
  refine AX.callV (pc := 9) (M2 := M_X12_here) (As := []) (rest := [.ref 87]) (c_hereOut w h (y := y) hn hO hT (by omega) hl60 (by omega)) xc_X12_wants__X12_here gX12_wants_X12_here (ci := 11) rfl (lt_k hn (by decide)) hO rfl (Nat.le_of_ble_eq_true rfl) dX12_wants_9 ?_
  rintro _ h9 ⟨rfl, e9⟩
  have e9 := e9.symm
  subst e9
  show AX w M_X12_wants 0 0 12 [.ref 87, .int (nI c)] [.int (-1), .ref 87] _ _
  refine AX.iload_n (pc := 12) dX12_wants_12 rfl ?_
  refine AX.icmp_eq (pc := 13) (tgt := 20) dX12_wants_13 (by decide) (fun q => absurd q (neT iM1 (iN c (by omega)) (by omega))) (fun hc13 => ?_)
  refine AX.iconst (pc := 16) (v := nI 1) dX12_wants_16 (by decide) ?_
  refine AX.goto (pc := 17) (tgt := 21) dX12_wants_17 (by decide) ?_
  refine AX.putf (pc := 21) (fs' := [.ref 88, .ref 89, .ref 90, .int (v 0), .int (v 1), .ref 91, .ref 92, .ref 93, .ref 94, .ref 95, .ref 96, .ref 97, .ref 98, .ref 99, .ref 100, .ref 101, .int (v 2), .ref 102, .ref 103, .ref 104, .ref 105, .ref 106, .ref 107, .ref 108, .int (v 3), .ref 109, .int (v 4), .ref 110, .ref 111, .int (v 5), .ref 112, .int (nI l), .int (nI a), .int (nI 1), .ref 113, .int (nI k), .ref 114, .ref 115, .ref 116, .ref 117]) fX12_wants_313 rfl (lt_k hn (by decide)) hO (Nat.le_of_ble_eq_true rfl) rfl rfl rfl dX12_wants_21 ?_
  refine AX.aload_n (pc := 24) dX12_wants_24 rfl ?_
  refine AX.dup (pc := 25) dX12_wants_25 rfl ?_
  refine AX.getf (pc := 26) fX12_wants_310 (lt_k hn (by decide)) (xset_same _ _ _) rfl dX12_wants_26 ?_
  refine AX.aload_n (pc := 29) dX12_wants_29 rfl ?_
  refine AX.getf (pc := 30) fX12_wants_313 (lt_k hn (by decide)) (xset_same _ _ _) rfl dX12_wants_30 ?_
  refine AX.if_eqN (pc := 33) (tgt := 40) dX12_wants_33 (by decide) (by decide) (fun q => absurd q (by decide)) (fun hc33 => ?_)
  refine AX.iconst (pc := 36) (v := nI 0) dX12_wants_36 (by decide) ?_
  refine AX.goto (pc := 37) (tgt := 41) dX12_wants_37 (by decide) ?_
  refine AX.iaddN (pc := 41) (c := a) dX12_wants_41 rfl ?_
  refine AX.putf (pc := 42) (h := xset h 87 (.inr (11, [.ref 88, .ref 89, .ref 90, .int (v 0), .int (v 1), .ref 91, .ref 92, .ref 93, .ref 94, .ref 95, .ref 96, .ref 97, .ref 98, .ref 99, .ref 100, .ref 101, .int (v 2), .ref 102, .ref 103, .ref 104, .ref 105, .ref 106, .ref 107, .ref 108, .int (v 3), .ref 109, .int (v 4), .ref 110, .ref 111, .int (v 5), .ref 112, .int (nI l), .int (nI a), .int (nI 1), .ref 113, .int (nI k), .ref 114, .ref 115, .ref 116, .ref 117]))) (a := 87) (fs' := [.ref 88, .ref 89, .ref 90, .int (v 0), .int (v 1), .ref 91, .ref 92, .ref 93, .ref 94, .ref 95, .ref 96, .ref 97, .ref 98, .ref 99, .ref 100, .ref 101, .int (v 2), .ref 102, .ref 103, .ref 104, .ref 105, .ref 106, .ref 107, .ref 108, .int (v 3), .ref 109, .int (v 4), .ref 110, .ref 111, .int (v 5), .ref 112, .int (nI l), .int (nI a), .int (nI 1), .ref 113, .int (nI k), .ref 114, .ref 115, .ref 116, .ref 117]) fX12_wants_310 rfl (lt_k hn (by decide)) (xset_same _ _ _) (Nat.le_of_ble_eq_true rfl) rfl rfl rfl dX12_wants_42 ?_
  refine AX.vret (pc := 45) dX12_wants_45 rfl (by decide) (by decide) ?_
  have sx : Same [87] h (xset (xset h 87 (.inr (11, [.ref 88, .ref 89, .ref 90, .int (v 0), .int (v 1), .ref 91, .ref 92, .ref 93, .ref 94, .ref 95, .ref 96, .ref 97, .ref 98, .ref 99, .ref 100, .ref 101, .int (v 2), .ref 102, .ref 103, .ref 104, .ref 105, .ref 106, .ref 107, .ref 108, .int (v 3), .ref 109, .int (v 4), .ref 110, .ref 111, .int (v 5), .ref 112, .int (nI l), .int (nI a), .int (nI 1), .ref 113, .int (nI k), .ref 114, .ref 115, .ref 116, .ref 117]))) 87 (.inr (11, [.ref 88, .ref 89, .ref 90, .int (v 0), .int (v 1), .ref 91, .ref 92, .ref 93, .ref 94, .ref 95, .ref 96, .ref 97, .ref 98, .ref 99, .ref 100, .ref 101, .int (v 2), .ref 102, .ref 103, .ref 104, .ref 105, .ref 106, .ref 107, .ref 108, .int (v 3), .ref 109, .int (v 4), .ref 110, .ref 111, .int (v 5), .ref 112, .int (nI l), .int (nI a), .int (nI 1), .ref 113, .int (nI k), .ref 114, .ref 115, .ref 116, .ref 117]))) := Same.set (Same.set (Same.rf) (by simp)) (by simp)
  exact ⟨rfl, sx, xset_same _ _ _⟩
set_option maxHeartbeats 16000000 in
theorem c_readNumber (w : XW) (h : XH) {v : Nat → Int32} {y : Nat → Nat} {l b k : Nat} {z : Int32} (hl60 : l ≤ 60) (ha : b ≤ 61) (hn : 118 ≤ h.1) (hO : TM h v l b z k) (hT : HT h y l) : CA w M_X12_readNumber [.ref 87] h (fun v' h' => Same [87] h h' ∧ if 1 ≤ (nmN y l b).2 ∧ (nmN y l b).2 ≤ 20 then v' = some (.int (nI (nmN y l b).2)) ∧ TM h' v l (b + (nmN y l b).1) (nI 0) k else (∃ x : Int32, v' = some (.int x)) ∧ TM h' v l b (nI 1) k) := by
  refine CA.of (by decide) rfl (fun _ => Nat.le_of_ble_eq_true rfl) ?_
  obtain ⟨ft, e112, qt_⟩ := id hT
  show AX w M_X12_readNumber 0 0 0 [.ref 87, .null, .null, .null] [] h _
  by_cases d1 : b < l ∧ 48 ≤ y b ∧ y b ≤ 57
  · have y1 := (qt_ b d1.1).2.1
    by_cases d2 : b + 1 < l ∧ 48 ≤ y (b + 1) ∧ y (b + 1) ≤ 57
    · have y2 := (qt_ (b + 1) d2.1).2.1
      by_cases g : 1 ≤ (y b - 48) * 10 + y (b + 1) - 48 ∧ (y b - 48) * 10 + y (b + 1) - 48 ≤ 20
      · have hm : nmN y l b = (2, (y b - 48) * 10 + y (b + 1) - 48) := by unfold nmN; rw [if_pos d1, if_pos d2]
        rw [hm]
        dsimp only
        refine AX.aload_n (pc := 0) dX12_readNumber_0 rfl ?_
        refine AX.getf (pc := 1) fX12_readNumber_310 (lt_k hn (by decide)) hO rfl dX12_readNumber_1 ?_
        refine AX.istore_n (pc := 4) (L' := [.ref 87, .int (nI b), .null, .null]) dX12_readNumber_4 (by decide) rfl ?_
        refine AX.iconst (pc := 5) (v := nI 0) dX12_readNumber_5 (by decide) ?_
        refine AX.istore_n (pc := 6) (L' := [.ref 87, .int (nI b), .int (nI 0), .null]) dX12_readNumber_6 (by decide) rfl ?_
        refine AX.aload_n (pc := 7) dX12_readNumber_7 rfl ?_
        refine AX.aload_n (pc := 8) dX12_readNumber_8 rfl ?_
        refine AX.callV (pc := 9) (M2 := M_X12_here) (As := []) (rest := [.ref 87]) (c_hereIn w h (y := y) hn hO hT (by omega)) xc_X12_readNumber__X12_here gX12_readNumber_X12_here (ci := 11) rfl (lt_k hn (by decide)) hO rfl (Nat.le_of_ble_eq_true rfl) dX12_readNumber_9 ?_
        rintro _ h9 ⟨rfl, e9⟩
        have e9 := e9.symm
        subst e9
        show AX w M_X12_readNumber 0 0 12 [.ref 87, .int (nI b), .int (nI 0), .null] [.int (nI (y b)), .ref 87] _ _
        refine AX.i2l (pc := 12) dX12_readNumber_12 ?_
        refine AX.ldc2 (pc := 13) (v := 48) dX12_readNumber_13 cX12_readNumber_320 ?_
        refine AX.ldc2 (pc := 16) (v := 57) dX12_readNumber_16 cX12_readNumber_322 ?_
        refine AX.callS (pc := 19) (M2 := M_X12_in) (As := [.long ((nI (y b)).toInt64), .long 48, .long 57]) (rest := [.ref 87]) (c_in w h ((nI (y b)).toInt64) (48) (57)) xc_X12_readNumber__X12_in gX12_readNumber_X12_in rfl (Nat.le_of_ble_eq_true rfl) dX12_readNumber_19 ?_
        rintro _ h9 ⟨rfl, e9⟩
        have e9 := e9.symm
        subst e9
        rw [decide_eq_true ((in_iff (L := 48) (H := 57) (by decide) (by decide)).mpr (by unfold inR; rw [iN (y b) (by omega)]; omega))]
        show AX w M_X12_readNumber 0 0 22 [.ref 87, .int (nI b), .int (nI 0), .null] [.int (bI true), .ref 87] _ _
        refine AX.if_neB (pc := 22) (tgt := 29) dX12_readNumber_22 (by decide) (fun hc22 => ?_) (fun q => absurd q (by decide))
        refine AX.iconst (pc := 29) (v := nI 0) dX12_readNumber_29 (by decide) ?_
        refine AX.putf (pc := 30) (fs' := [.ref 88, .ref 89, .ref 90, .int (v 0), .int (v 1), .ref 91, .ref 92, .ref 93, .ref 94, .ref 95, .ref 96, .ref 97, .ref 98, .ref 99, .ref 100, .ref 101, .int (v 2), .ref 102, .ref 103, .ref 104, .ref 105, .ref 106, .ref 107, .ref 108, .int (v 3), .ref 109, .int (v 4), .ref 110, .ref 111, .int (v 5), .ref 112, .int (nI l), .int (nI b), .int (nI 0), .ref 113, .int (nI k), .ref 114, .ref 115, .ref 116, .ref 117]) fX12_readNumber_313 rfl (lt_k hn (by decide)) hO (Nat.le_of_ble_eq_true rfl) rfl rfl rfl dX12_readNumber_30 ?_
        refine AX.iconst (pc := 33) (v := nI 0) dX12_readNumber_33 (by decide) ?_
        refine AX.istore_n (pc := 34) (L' := [.ref 87, .int (nI b), .int (nI 0), .int (nI 0)]) dX12_readNumber_34 (by decide) rfl ?_
        refine AX.iload_n (pc := 35) dX12_readNumber_35 rfl ?_
        refine AX.iconst (pc := 36) (v := nI 2) dX12_readNumber_36 (by decide) ?_
        refine AX.icmp_geN (pc := 37) (tgt := 86) dX12_readNumber_37 (by decide) (by decide) (by decide) (fun q => absurd q (by decide)) (fun hc37 => ?_)
        obtain ⟨h1, eh⟩ : ∃ z, z = (xset h 87 (.inr (11, [.ref 88, .ref 89, .ref 90, .int (v 0), .int (v 1), .ref 91, .ref 92, .ref 93, .ref 94, .ref 95, .ref 96, .ref 97, .ref 98, .ref 99, .ref 100, .ref 101, .int (v 2), .ref 102, .ref 103, .ref 104, .ref 105, .ref 106, .ref 107, .ref 108, .int (v 3), .ref 109, .int (v 4), .ref 110, .ref 111, .int (v 5), .ref 112, .int (nI l), .int (nI b), .int (nI 0), .ref 113, .int (nI k), .ref 114, .ref 115, .ref 116, .ref 117]))) := ⟨_, rfl⟩
        have O1 : TM h1 v l b (nI 0) k := by rw [eh]; exact (xset_same _ _ _)
        have q1 : Same [87] h h1 := by rw [eh]; exact Same.set (Same.rf) (by simp)
        rw [← eh]
        clear eh
        have s1 : Same [87] h h1 := q1
        have n1 := s1.le hn
        have T1 := hT.same s1 (by simp)
        refine AX.aload_n (pc := 40) dX12_readNumber_40 rfl ?_
        refine AX.callV (pc := 41) (M2 := M_X12_here) (As := []) (rest := []) (c_hereIn w h1 (y := y) n1 O1 T1 (by omega)) xc_X12_readNumber__X12_here gX12_readNumber_X12_here (ci := 11) rfl (lt_k n1 (by decide)) O1 rfl (Nat.le_of_ble_eq_true rfl) dX12_readNumber_41 ?_
        rintro _ h9 ⟨rfl, e9⟩
        have e9 := e9.symm
        subst e9
        show AX w M_X12_readNumber 0 0 44 [.ref 87, .int (nI b), .int (nI 0), .int (nI 0)] [.int (nI (y b))] _ _
        refine AX.i2l (pc := 44) dX12_readNumber_44 ?_
        refine AX.ldc2 (pc := 45) (v := 48) dX12_readNumber_45 cX12_readNumber_320 ?_
        refine AX.ldc2 (pc := 48) (v := 57) dX12_readNumber_48 cX12_readNumber_322 ?_
        refine AX.callS (pc := 51) (M2 := M_X12_in) (As := [.long ((nI (y b)).toInt64), .long 48, .long 57]) (rest := []) (c_in w h1 ((nI (y b)).toInt64) (48) (57)) xc_X12_readNumber__X12_in gX12_readNumber_X12_in rfl (Nat.le_of_ble_eq_true rfl) dX12_readNumber_51 ?_
        rintro _ h9 ⟨rfl, e9⟩
        have e9 := e9.symm
        subst e9
        rw [decide_eq_true ((in_iff (L := 48) (H := 57) (by decide) (by decide)).mpr (by unfold inR; rw [iN (y b) (by omega)]; omega))]
        show AX w M_X12_readNumber 0 0 54 [.ref 87, .int (nI b), .int (nI 0), .int (nI 0)] [.int (bI true)] _ _
        refine AX.if_eqB (pc := 54) (tgt := 86) dX12_readNumber_54 (by decide) (fun q => absurd q (by decide)) (fun hc54 => ?_)
        refine AX.bipush (pc := 57) (v := nI 10) dX12_readNumber_57 (by decide) ?_
        refine AX.iload_n (pc := 59) dX12_readNumber_59 rfl ?_
        refine AX.imulN (pc := 60) (c := 0) dX12_readNumber_60 rfl ?_
        refine AX.aload_n (pc := 61) dX12_readNumber_61 rfl ?_
        refine AX.callV (pc := 62) (M2 := M_X12_here) (As := []) (rest := [.int (nI 0)]) (c_hereIn w h1 (y := y) n1 O1 T1 (by omega)) xc_X12_readNumber__X12_here gX12_readNumber_X12_here (ci := 11) rfl (lt_k n1 (by decide)) O1 rfl (Nat.le_of_ble_eq_true rfl) dX12_readNumber_62 ?_
        rintro _ h9 ⟨rfl, e9⟩
        have e9 := e9.symm
        subst e9
        show AX w M_X12_readNumber 0 0 65 [.ref 87, .int (nI b), .int (nI 0), .int (nI 0)] [.int (nI (y b)), .int (nI 0)] _ _
        refine AX.iaddN (pc := 65) (c := y b) dX12_readNumber_65 (Nat.zero_add _) ?_
        refine AX.bipush (pc := 66) (v := nI 48) dX12_readNumber_66 (by decide) ?_
        refine AX.isubN (pc := 68) (c := y b - 48) dX12_readNumber_68 (by omega) ?_
        refine AX.istore_n (pc := 69) (L' := [.ref 87, .int (nI b), .int (nI (y b - 48)), .int (nI 0)]) dX12_readNumber_69 (by decide) rfl ?_
        refine AX.aload_n (pc := 70) dX12_readNumber_70 rfl ?_
        refine AX.dup (pc := 71) dX12_readNumber_71 rfl ?_
        refine AX.getf (pc := 72) fX12_readNumber_310 (lt_k n1 (by decide)) O1 rfl dX12_readNumber_72 ?_
        refine AX.iconst (pc := 75) (v := nI 1) dX12_readNumber_75 (by decide) ?_
        refine AX.iaddN (pc := 76) (c := b + 1) dX12_readNumber_76 rfl ?_
        refine AX.putf (pc := 77) (fs' := [.ref 88, .ref 89, .ref 90, .int (v 0), .int (v 1), .ref 91, .ref 92, .ref 93, .ref 94, .ref 95, .ref 96, .ref 97, .ref 98, .ref 99, .ref 100, .ref 101, .int (v 2), .ref 102, .ref 103, .ref 104, .ref 105, .ref 106, .ref 107, .ref 108, .int (v 3), .ref 109, .int (v 4), .ref 110, .ref 111, .int (v 5), .ref 112, .int (nI l), .int (nI (b + 1)), .int (nI 0), .ref 113, .int (nI k), .ref 114, .ref 115, .ref 116, .ref 117]) fX12_readNumber_310 rfl (lt_k n1 (by decide)) O1 (Nat.le_of_ble_eq_true rfl) rfl rfl rfl dX12_readNumber_77 ?_
        refine AX.iincN (c := 1) (pc := 80) (L' := [.ref 87, .int (nI b), .int (nI (y b - 48)), .int (nI 1)]) dX12_readNumber_80 rfl (inc1 _) (by decide) rfl ?_
        refine AX.goto (pc := 83) (tgt := 35) dX12_readNumber_83 (by decide) ?_
        refine AX.iload_n (pc := 35) dX12_readNumber_35 rfl ?_
        refine AX.iconst (pc := 36) (v := nI 2) dX12_readNumber_36 (by decide) ?_
        refine AX.icmp_geN (pc := 37) (tgt := 86) dX12_readNumber_37 (by decide) (by decide) (by decide) (fun q => absurd q (by decide)) (fun hc37 => ?_)
        obtain ⟨h2, eh⟩ : ∃ z, z = (xset h1 87 (.inr (11, [.ref 88, .ref 89, .ref 90, .int (v 0), .int (v 1), .ref 91, .ref 92, .ref 93, .ref 94, .ref 95, .ref 96, .ref 97, .ref 98, .ref 99, .ref 100, .ref 101, .int (v 2), .ref 102, .ref 103, .ref 104, .ref 105, .ref 106, .ref 107, .ref 108, .int (v 3), .ref 109, .int (v 4), .ref 110, .ref 111, .int (v 5), .ref 112, .int (nI l), .int (nI (b + 1)), .int (nI 0), .ref 113, .int (nI k), .ref 114, .ref 115, .ref 116, .ref 117]))) := ⟨_, rfl⟩
        have O2 : TM h2 v l (b + 1) (nI 0) k := by rw [eh]; exact (xset_same _ _ _)
        have q2 : Same [87] h1 h2 := by rw [eh]; exact Same.set (Same.rf) (by simp)
        rw [← eh]
        clear eh
        have s2 : Same [87] h h2 := s1.trans q2
        have n2 := s2.le hn
        have T2 := hT.same s2 (by simp)
        refine AX.aload_n (pc := 40) dX12_readNumber_40 rfl ?_
        refine AX.callV (pc := 41) (M2 := M_X12_here) (As := []) (rest := []) (c_hereIn w h2 (y := y) n2 O2 T2 (by omega)) xc_X12_readNumber__X12_here gX12_readNumber_X12_here (ci := 11) rfl (lt_k n2 (by decide)) O2 rfl (Nat.le_of_ble_eq_true rfl) dX12_readNumber_41 ?_
        rintro _ h9 ⟨rfl, e9⟩
        have e9 := e9.symm
        subst e9
        show AX w M_X12_readNumber 0 0 44 [.ref 87, .int (nI b), .int (nI (y b - 48)), .int (nI 1)] [.int (nI (y (b + 1)))] _ _
        refine AX.i2l (pc := 44) dX12_readNumber_44 ?_
        refine AX.ldc2 (pc := 45) (v := 48) dX12_readNumber_45 cX12_readNumber_320 ?_
        refine AX.ldc2 (pc := 48) (v := 57) dX12_readNumber_48 cX12_readNumber_322 ?_
        refine AX.callS (pc := 51) (M2 := M_X12_in) (As := [.long ((nI (y (b + 1))).toInt64), .long 48, .long 57]) (rest := []) (c_in w h2 ((nI (y (b + 1))).toInt64) (48) (57)) xc_X12_readNumber__X12_in gX12_readNumber_X12_in rfl (Nat.le_of_ble_eq_true rfl) dX12_readNumber_51 ?_
        rintro _ h9 ⟨rfl, e9⟩
        have e9 := e9.symm
        subst e9
        rw [decide_eq_true ((in_iff (L := 48) (H := 57) (by decide) (by decide)).mpr (by unfold inR; rw [iN (y (b + 1)) (by omega)]; omega))]
        show AX w M_X12_readNumber 0 0 54 [.ref 87, .int (nI b), .int (nI (y b - 48)), .int (nI 1)] [.int (bI true)] _ _
        refine AX.if_eqB (pc := 54) (tgt := 86) dX12_readNumber_54 (by decide) (fun q => absurd q (by decide)) (fun hc54 => ?_)
        refine AX.bipush (pc := 57) (v := nI 10) dX12_readNumber_57 (by decide) ?_
        refine AX.iload_n (pc := 59) dX12_readNumber_59 rfl ?_
        refine AX.imulN (pc := 60) (c := 10 * (y b - 48)) dX12_readNumber_60 rfl ?_
        refine AX.aload_n (pc := 61) dX12_readNumber_61 rfl ?_
        refine AX.callV (pc := 62) (M2 := M_X12_here) (As := []) (rest := [.int (nI (10 * (y b - 48)))]) (c_hereIn w h2 (y := y) n2 O2 T2 (by omega)) xc_X12_readNumber__X12_here gX12_readNumber_X12_here (ci := 11) rfl (lt_k n2 (by decide)) O2 rfl (Nat.le_of_ble_eq_true rfl) dX12_readNumber_62 ?_
        rintro _ h9 ⟨rfl, e9⟩
        have e9 := e9.symm
        subst e9
        show AX w M_X12_readNumber 0 0 65 [.ref 87, .int (nI b), .int (nI (y b - 48)), .int (nI 1)] [.int (nI (y (b + 1))), .int (nI (10 * (y b - 48)))] _ _
        refine AX.iaddN (pc := 65) (c := 10 * (y b - 48) + (y (b + 1))) dX12_readNumber_65 rfl ?_
        refine AX.bipush (pc := 66) (v := nI 48) dX12_readNumber_66 (by decide) ?_
        refine AX.isubN (pc := 68) (c := (y b - 48) * 10 + y (b + 1) - 48) dX12_readNumber_68 (by omega) ?_
        refine AX.istore_n (pc := 69) (L' := [.ref 87, .int (nI b), .int (nI ((y b - 48) * 10 + y (b + 1) - 48)), .int (nI 1)]) dX12_readNumber_69 (by decide) rfl ?_
        refine AX.aload_n (pc := 70) dX12_readNumber_70 rfl ?_
        refine AX.dup (pc := 71) dX12_readNumber_71 rfl ?_
        refine AX.getf (pc := 72) fX12_readNumber_310 (lt_k n2 (by decide)) O2 rfl dX12_readNumber_72 ?_
        refine AX.iconst (pc := 75) (v := nI 1) dX12_readNumber_75 (by decide) ?_
        refine AX.iaddN (pc := 76) (c := b + 2) dX12_readNumber_76 rfl ?_
        refine AX.putf (pc := 77) (fs' := [.ref 88, .ref 89, .ref 90, .int (v 0), .int (v 1), .ref 91, .ref 92, .ref 93, .ref 94, .ref 95, .ref 96, .ref 97, .ref 98, .ref 99, .ref 100, .ref 101, .int (v 2), .ref 102, .ref 103, .ref 104, .ref 105, .ref 106, .ref 107, .ref 108, .int (v 3), .ref 109, .int (v 4), .ref 110, .ref 111, .int (v 5), .ref 112, .int (nI l), .int (nI (b + 2)), .int (nI 0), .ref 113, .int (nI k), .ref 114, .ref 115, .ref 116, .ref 117]) fX12_readNumber_310 rfl (lt_k n2 (by decide)) O2 (Nat.le_of_ble_eq_true rfl) rfl rfl rfl dX12_readNumber_77 ?_
        refine AX.iincN (c := 2) (pc := 80) (L' := [.ref 87, .int (nI b), .int (nI ((y b - 48) * 10 + y (b + 1) - 48)), .int (nI 2)]) dX12_readNumber_80 rfl (inc1 _) (by decide) rfl ?_
        refine AX.goto (pc := 83) (tgt := 35) dX12_readNumber_83 (by decide) ?_
        refine AX.iload_n (pc := 35) dX12_readNumber_35 rfl ?_
        refine AX.iconst (pc := 36) (v := nI 2) dX12_readNumber_36 (by decide) ?_
        refine AX.icmp_geN (pc := 37) (tgt := 86) dX12_readNumber_37 (by decide) (by decide) (by decide) (fun hc37 => ?_) (fun q => absurd q (by decide))
        obtain ⟨h3, eh⟩ : ∃ z, z = (xset h2 87 (.inr (11, [.ref 88, .ref 89, .ref 90, .int (v 0), .int (v 1), .ref 91, .ref 92, .ref 93, .ref 94, .ref 95, .ref 96, .ref 97, .ref 98, .ref 99, .ref 100, .ref 101, .int (v 2), .ref 102, .ref 103, .ref 104, .ref 105, .ref 106, .ref 107, .ref 108, .int (v 3), .ref 109, .int (v 4), .ref 110, .ref 111, .int (v 5), .ref 112, .int (nI l), .int (nI (b + 2)), .int (nI 0), .ref 113, .int (nI k), .ref 114, .ref 115, .ref 116, .ref 117]))) := ⟨_, rfl⟩
        have O3 : TM h3 v l (b + 2) (nI 0) k := by rw [eh]; exact (xset_same _ _ _)
        have q3 : Same [87] h2 h3 := by rw [eh]; exact Same.set (Same.rf) (by simp)
        rw [← eh]
        clear eh
        have s3 : Same [87] h h3 := s2.trans q3
        have n3 := s3.le hn
        have T3 := hT.same s3 (by simp)
        refine AX.aload_n (pc := 86) dX12_readNumber_86 rfl ?_
        refine AX.getf (pc := 87) fX12_readNumber_313 (lt_k n3 (by decide)) O3 rfl dX12_readNumber_87 ?_
        refine AX.if_neN (pc := 90) (tgt := 115) dX12_readNumber_90 (by decide) (by decide) (fun q => absurd q (by decide)) (fun hc90 => ?_)
        refine AX.iload_n (pc := 93) dX12_readNumber_93 rfl ?_
        refine AX.i2l (pc := 94) dX12_readNumber_94 ?_
        refine AX.lconst (pc := 95) (v := 1) dX12_readNumber_95 (by decide) ?_
        refine AX.ldc2 (pc := 96) (v := 20) dX12_readNumber_96 cX12_readNumber_324 ?_
        refine AX.callS (pc := 99) (M2 := M_X12_in) (As := [.long ((nI ((y b - 48) * 10 + y (b + 1) - 48)).toInt64), .long 1, .long 20]) (rest := []) (c_in w h3 ((nI ((y b - 48) * 10 + y (b + 1) - 48)).toInt64) (1) (20)) xc_X12_readNumber__X12_in gX12_readNumber_X12_in rfl (Nat.le_of_ble_eq_true rfl) dX12_readNumber_99 ?_
        rintro _ h9 ⟨rfl, e9⟩
        have e9 := e9.symm
        subst e9
        rw [decide_eq_true ((in_iff (L := 1) (H := 20) (by decide) (by decide)).mpr (by unfold inR; rw [iN ((y b - 48) * 10 + y (b + 1) - 48) (by omega)]; omega))]
        show AX w M_X12_readNumber 0 0 102 [.ref 87, .int (nI b), .int (nI ((y b - 48) * 10 + y (b + 1) - 48)), .int (nI 2)] [.int (bI true)] _ _
        refine AX.if_neB (pc := 102) (tgt := 115) dX12_readNumber_102 (by decide) (fun hc102 => ?_) (fun q => absurd q (by decide))
        refine AX.iload_n (pc := 115) dX12_readNumber_115 rfl ?_
        refine AX.iret (pc := 116) dX12_readNumber_116 rfl rfl (by decide) (by decide) ?_
        refine ⟨s3, ?_⟩
        rw [if_pos (show 1 ≤ (y b - 48) * 10 + y (b + 1) - 48 ∧ (y b - 48) * 10 + y (b + 1) - 48 ≤ 20 by omega)]
        exact ⟨rfl, O3⟩
      have hm : nmN y l b = (2, (y b - 48) * 10 + y (b + 1) - 48) := by unfold nmN; rw [if_pos d1, if_pos d2]
      rw [hm]
      dsimp only
      refine AX.aload_n (pc := 0) dX12_readNumber_0 rfl ?_
      refine AX.getf (pc := 1) fX12_readNumber_310 (lt_k hn (by decide)) hO rfl dX12_readNumber_1 ?_
      refine AX.istore_n (pc := 4) (L' := [.ref 87, .int (nI b), .null, .null]) dX12_readNumber_4 (by decide) rfl ?_
      refine AX.iconst (pc := 5) (v := nI 0) dX12_readNumber_5 (by decide) ?_
      refine AX.istore_n (pc := 6) (L' := [.ref 87, .int (nI b), .int (nI 0), .null]) dX12_readNumber_6 (by decide) rfl ?_
      refine AX.aload_n (pc := 7) dX12_readNumber_7 rfl ?_
      refine AX.aload_n (pc := 8) dX12_readNumber_8 rfl ?_
      refine AX.callV (pc := 9) (M2 := M_X12_here) (As := []) (rest := [.ref 87]) (c_hereIn w h (y := y) hn hO hT (by omega)) xc_X12_readNumber__X12_here gX12_readNumber_X12_here (ci := 11) rfl (lt_k hn (by decide)) hO rfl (Nat.le_of_ble_eq_true rfl) dX12_readNumber_9 ?_
      rintro _ h9 ⟨rfl, e9⟩
      have e9 := e9.symm
      subst e9
      show AX w M_X12_readNumber 0 0 12 [.ref 87, .int (nI b), .int (nI 0), .null] [.int (nI (y b)), .ref 87] _ _
      refine AX.i2l (pc := 12) dX12_readNumber_12 ?_
      refine AX.ldc2 (pc := 13) (v := 48) dX12_readNumber_13 cX12_readNumber_320 ?_
      refine AX.ldc2 (pc := 16) (v := 57) dX12_readNumber_16 cX12_readNumber_322 ?_
      refine AX.callS (pc := 19) (M2 := M_X12_in) (As := [.long ((nI (y b)).toInt64), .long 48, .long 57]) (rest := [.ref 87]) (c_in w h ((nI (y b)).toInt64) (48) (57)) xc_X12_readNumber__X12_in gX12_readNumber_X12_in rfl (Nat.le_of_ble_eq_true rfl) dX12_readNumber_19 ?_
      rintro _ h9 ⟨rfl, e9⟩
      have e9 := e9.symm
      subst e9
      rw [decide_eq_true ((in_iff (L := 48) (H := 57) (by decide) (by decide)).mpr (by unfold inR; rw [iN (y b) (by omega)]; omega))]
      show AX w M_X12_readNumber 0 0 22 [.ref 87, .int (nI b), .int (nI 0), .null] [.int (bI true), .ref 87] _ _
      refine AX.if_neB (pc := 22) (tgt := 29) dX12_readNumber_22 (by decide) (fun hc22 => ?_) (fun q => absurd q (by decide))
      refine AX.iconst (pc := 29) (v := nI 0) dX12_readNumber_29 (by decide) ?_
      refine AX.putf (pc := 30) (fs' := [.ref 88, .ref 89, .ref 90, .int (v 0), .int (v 1), .ref 91, .ref 92, .ref 93, .ref 94, .ref 95, .ref 96, .ref 97, .ref 98, .ref 99, .ref 100, .ref 101, .int (v 2), .ref 102, .ref 103, .ref 104, .ref 105, .ref 106, .ref 107, .ref 108, .int (v 3), .ref 109, .int (v 4), .ref 110, .ref 111, .int (v 5), .ref 112, .int (nI l), .int (nI b), .int (nI 0), .ref 113, .int (nI k), .ref 114, .ref 115, .ref 116, .ref 117]) fX12_readNumber_313 rfl (lt_k hn (by decide)) hO (Nat.le_of_ble_eq_true rfl) rfl rfl rfl dX12_readNumber_30 ?_
      refine AX.iconst (pc := 33) (v := nI 0) dX12_readNumber_33 (by decide) ?_
      refine AX.istore_n (pc := 34) (L' := [.ref 87, .int (nI b), .int (nI 0), .int (nI 0)]) dX12_readNumber_34 (by decide) rfl ?_
      refine AX.iload_n (pc := 35) dX12_readNumber_35 rfl ?_
      refine AX.iconst (pc := 36) (v := nI 2) dX12_readNumber_36 (by decide) ?_
      refine AX.icmp_geN (pc := 37) (tgt := 86) dX12_readNumber_37 (by decide) (by decide) (by decide) (fun q => absurd q (by decide)) (fun hc37 => ?_)
      obtain ⟨h1, eh⟩ : ∃ z, z = (xset h 87 (.inr (11, [.ref 88, .ref 89, .ref 90, .int (v 0), .int (v 1), .ref 91, .ref 92, .ref 93, .ref 94, .ref 95, .ref 96, .ref 97, .ref 98, .ref 99, .ref 100, .ref 101, .int (v 2), .ref 102, .ref 103, .ref 104, .ref 105, .ref 106, .ref 107, .ref 108, .int (v 3), .ref 109, .int (v 4), .ref 110, .ref 111, .int (v 5), .ref 112, .int (nI l), .int (nI b), .int (nI 0), .ref 113, .int (nI k), .ref 114, .ref 115, .ref 116, .ref 117]))) := ⟨_, rfl⟩
      have O1 : TM h1 v l b (nI 0) k := by rw [eh]; exact (xset_same _ _ _)
      have q1 : Same [87] h h1 := by rw [eh]; exact Same.set (Same.rf) (by simp)
      rw [← eh]
      clear eh
      have s1 : Same [87] h h1 := q1
      have n1 := s1.le hn
      have T1 := hT.same s1 (by simp)
      refine AX.aload_n (pc := 40) dX12_readNumber_40 rfl ?_
      refine AX.callV (pc := 41) (M2 := M_X12_here) (As := []) (rest := []) (c_hereIn w h1 (y := y) n1 O1 T1 (by omega)) xc_X12_readNumber__X12_here gX12_readNumber_X12_here (ci := 11) rfl (lt_k n1 (by decide)) O1 rfl (Nat.le_of_ble_eq_true rfl) dX12_readNumber_41 ?_
      rintro _ h9 ⟨rfl, e9⟩
      have e9 := e9.symm
      subst e9
      show AX w M_X12_readNumber 0 0 44 [.ref 87, .int (nI b), .int (nI 0), .int (nI 0)] [.int (nI (y b))] _ _
      refine AX.i2l (pc := 44) dX12_readNumber_44 ?_
      refine AX.ldc2 (pc := 45) (v := 48) dX12_readNumber_45 cX12_readNumber_320 ?_
      refine AX.ldc2 (pc := 48) (v := 57) dX12_readNumber_48 cX12_readNumber_322 ?_
      refine AX.callS (pc := 51) (M2 := M_X12_in) (As := [.long ((nI (y b)).toInt64), .long 48, .long 57]) (rest := []) (c_in w h1 ((nI (y b)).toInt64) (48) (57)) xc_X12_readNumber__X12_in gX12_readNumber_X12_in rfl (Nat.le_of_ble_eq_true rfl) dX12_readNumber_51 ?_
      rintro _ h9 ⟨rfl, e9⟩
      have e9 := e9.symm
      subst e9
      rw [decide_eq_true ((in_iff (L := 48) (H := 57) (by decide) (by decide)).mpr (by unfold inR; rw [iN (y b) (by omega)]; omega))]
      show AX w M_X12_readNumber 0 0 54 [.ref 87, .int (nI b), .int (nI 0), .int (nI 0)] [.int (bI true)] _ _
      refine AX.if_eqB (pc := 54) (tgt := 86) dX12_readNumber_54 (by decide) (fun q => absurd q (by decide)) (fun hc54 => ?_)
      refine AX.bipush (pc := 57) (v := nI 10) dX12_readNumber_57 (by decide) ?_
      refine AX.iload_n (pc := 59) dX12_readNumber_59 rfl ?_
      refine AX.imulN (pc := 60) (c := 0) dX12_readNumber_60 rfl ?_
      refine AX.aload_n (pc := 61) dX12_readNumber_61 rfl ?_
      refine AX.callV (pc := 62) (M2 := M_X12_here) (As := []) (rest := [.int (nI 0)]) (c_hereIn w h1 (y := y) n1 O1 T1 (by omega)) xc_X12_readNumber__X12_here gX12_readNumber_X12_here (ci := 11) rfl (lt_k n1 (by decide)) O1 rfl (Nat.le_of_ble_eq_true rfl) dX12_readNumber_62 ?_
      rintro _ h9 ⟨rfl, e9⟩
      have e9 := e9.symm
      subst e9
      show AX w M_X12_readNumber 0 0 65 [.ref 87, .int (nI b), .int (nI 0), .int (nI 0)] [.int (nI (y b)), .int (nI 0)] _ _
      refine AX.iaddN (pc := 65) (c := y b) dX12_readNumber_65 (Nat.zero_add _) ?_
      refine AX.bipush (pc := 66) (v := nI 48) dX12_readNumber_66 (by decide) ?_
      refine AX.isubN (pc := 68) (c := y b - 48) dX12_readNumber_68 (by omega) ?_
      refine AX.istore_n (pc := 69) (L' := [.ref 87, .int (nI b), .int (nI (y b - 48)), .int (nI 0)]) dX12_readNumber_69 (by decide) rfl ?_
      refine AX.aload_n (pc := 70) dX12_readNumber_70 rfl ?_
      refine AX.dup (pc := 71) dX12_readNumber_71 rfl ?_
      refine AX.getf (pc := 72) fX12_readNumber_310 (lt_k n1 (by decide)) O1 rfl dX12_readNumber_72 ?_
      refine AX.iconst (pc := 75) (v := nI 1) dX12_readNumber_75 (by decide) ?_
      refine AX.iaddN (pc := 76) (c := b + 1) dX12_readNumber_76 rfl ?_
      refine AX.putf (pc := 77) (fs' := [.ref 88, .ref 89, .ref 90, .int (v 0), .int (v 1), .ref 91, .ref 92, .ref 93, .ref 94, .ref 95, .ref 96, .ref 97, .ref 98, .ref 99, .ref 100, .ref 101, .int (v 2), .ref 102, .ref 103, .ref 104, .ref 105, .ref 106, .ref 107, .ref 108, .int (v 3), .ref 109, .int (v 4), .ref 110, .ref 111, .int (v 5), .ref 112, .int (nI l), .int (nI (b + 1)), .int (nI 0), .ref 113, .int (nI k), .ref 114, .ref 115, .ref 116, .ref 117]) fX12_readNumber_310 rfl (lt_k n1 (by decide)) O1 (Nat.le_of_ble_eq_true rfl) rfl rfl rfl dX12_readNumber_77 ?_
      refine AX.iincN (c := 1) (pc := 80) (L' := [.ref 87, .int (nI b), .int (nI (y b - 48)), .int (nI 1)]) dX12_readNumber_80 rfl (inc1 _) (by decide) rfl ?_
      refine AX.goto (pc := 83) (tgt := 35) dX12_readNumber_83 (by decide) ?_
      refine AX.iload_n (pc := 35) dX12_readNumber_35 rfl ?_
      refine AX.iconst (pc := 36) (v := nI 2) dX12_readNumber_36 (by decide) ?_
      refine AX.icmp_geN (pc := 37) (tgt := 86) dX12_readNumber_37 (by decide) (by decide) (by decide) (fun q => absurd q (by decide)) (fun hc37 => ?_)
      obtain ⟨h2, eh⟩ : ∃ z, z = (xset h1 87 (.inr (11, [.ref 88, .ref 89, .ref 90, .int (v 0), .int (v 1), .ref 91, .ref 92, .ref 93, .ref 94, .ref 95, .ref 96, .ref 97, .ref 98, .ref 99, .ref 100, .ref 101, .int (v 2), .ref 102, .ref 103, .ref 104, .ref 105, .ref 106, .ref 107, .ref 108, .int (v 3), .ref 109, .int (v 4), .ref 110, .ref 111, .int (v 5), .ref 112, .int (nI l), .int (nI (b + 1)), .int (nI 0), .ref 113, .int (nI k), .ref 114, .ref 115, .ref 116, .ref 117]))) := ⟨_, rfl⟩
      have O2 : TM h2 v l (b + 1) (nI 0) k := by rw [eh]; exact (xset_same _ _ _)
      have q2 : Same [87] h1 h2 := by rw [eh]; exact Same.set (Same.rf) (by simp)
      rw [← eh]
      clear eh
      have s2 : Same [87] h h2 := s1.trans q2
      have n2 := s2.le hn
      have T2 := hT.same s2 (by simp)
      refine AX.aload_n (pc := 40) dX12_readNumber_40 rfl ?_
      refine AX.callV (pc := 41) (M2 := M_X12_here) (As := []) (rest := []) (c_hereIn w h2 (y := y) n2 O2 T2 (by omega)) xc_X12_readNumber__X12_here gX12_readNumber_X12_here (ci := 11) rfl (lt_k n2 (by decide)) O2 rfl (Nat.le_of_ble_eq_true rfl) dX12_readNumber_41 ?_
      rintro _ h9 ⟨rfl, e9⟩
      have e9 := e9.symm
      subst e9
      show AX w M_X12_readNumber 0 0 44 [.ref 87, .int (nI b), .int (nI (y b - 48)), .int (nI 1)] [.int (nI (y (b + 1)))] _ _
      refine AX.i2l (pc := 44) dX12_readNumber_44 ?_
      refine AX.ldc2 (pc := 45) (v := 48) dX12_readNumber_45 cX12_readNumber_320 ?_
      refine AX.ldc2 (pc := 48) (v := 57) dX12_readNumber_48 cX12_readNumber_322 ?_
      refine AX.callS (pc := 51) (M2 := M_X12_in) (As := [.long ((nI (y (b + 1))).toInt64), .long 48, .long 57]) (rest := []) (c_in w h2 ((nI (y (b + 1))).toInt64) (48) (57)) xc_X12_readNumber__X12_in gX12_readNumber_X12_in rfl (Nat.le_of_ble_eq_true rfl) dX12_readNumber_51 ?_
      rintro _ h9 ⟨rfl, e9⟩
      have e9 := e9.symm
      subst e9
      rw [decide_eq_true ((in_iff (L := 48) (H := 57) (by decide) (by decide)).mpr (by unfold inR; rw [iN (y (b + 1)) (by omega)]; omega))]
      show AX w M_X12_readNumber 0 0 54 [.ref 87, .int (nI b), .int (nI (y b - 48)), .int (nI 1)] [.int (bI true)] _ _
      refine AX.if_eqB (pc := 54) (tgt := 86) dX12_readNumber_54 (by decide) (fun q => absurd q (by decide)) (fun hc54 => ?_)
      refine AX.bipush (pc := 57) (v := nI 10) dX12_readNumber_57 (by decide) ?_
      refine AX.iload_n (pc := 59) dX12_readNumber_59 rfl ?_
      refine AX.imulN (pc := 60) (c := 10 * (y b - 48)) dX12_readNumber_60 rfl ?_
      refine AX.aload_n (pc := 61) dX12_readNumber_61 rfl ?_
      refine AX.callV (pc := 62) (M2 := M_X12_here) (As := []) (rest := [.int (nI (10 * (y b - 48)))]) (c_hereIn w h2 (y := y) n2 O2 T2 (by omega)) xc_X12_readNumber__X12_here gX12_readNumber_X12_here (ci := 11) rfl (lt_k n2 (by decide)) O2 rfl (Nat.le_of_ble_eq_true rfl) dX12_readNumber_62 ?_
      rintro _ h9 ⟨rfl, e9⟩
      have e9 := e9.symm
      subst e9
      show AX w M_X12_readNumber 0 0 65 [.ref 87, .int (nI b), .int (nI (y b - 48)), .int (nI 1)] [.int (nI (y (b + 1))), .int (nI (10 * (y b - 48)))] _ _
      refine AX.iaddN (pc := 65) (c := 10 * (y b - 48) + (y (b + 1))) dX12_readNumber_65 rfl ?_
      refine AX.bipush (pc := 66) (v := nI 48) dX12_readNumber_66 (by decide) ?_
      refine AX.isubN (pc := 68) (c := (y b - 48) * 10 + y (b + 1) - 48) dX12_readNumber_68 (by omega) ?_
      refine AX.istore_n (pc := 69) (L' := [.ref 87, .int (nI b), .int (nI ((y b - 48) * 10 + y (b + 1) - 48)), .int (nI 1)]) dX12_readNumber_69 (by decide) rfl ?_
      refine AX.aload_n (pc := 70) dX12_readNumber_70 rfl ?_
      refine AX.dup (pc := 71) dX12_readNumber_71 rfl ?_
      refine AX.getf (pc := 72) fX12_readNumber_310 (lt_k n2 (by decide)) O2 rfl dX12_readNumber_72 ?_
      refine AX.iconst (pc := 75) (v := nI 1) dX12_readNumber_75 (by decide) ?_
      refine AX.iaddN (pc := 76) (c := b + 2) dX12_readNumber_76 rfl ?_
      refine AX.putf (pc := 77) (fs' := [.ref 88, .ref 89, .ref 90, .int (v 0), .int (v 1), .ref 91, .ref 92, .ref 93, .ref 94, .ref 95, .ref 96, .ref 97, .ref 98, .ref 99, .ref 100, .ref 101, .int (v 2), .ref 102, .ref 103, .ref 104, .ref 105, .ref 106, .ref 107, .ref 108, .int (v 3), .ref 109, .int (v 4), .ref 110, .ref 111, .int (v 5), .ref 112, .int (nI l), .int (nI (b + 2)), .int (nI 0), .ref 113, .int (nI k), .ref 114, .ref 115, .ref 116, .ref 117]) fX12_readNumber_310 rfl (lt_k n2 (by decide)) O2 (Nat.le_of_ble_eq_true rfl) rfl rfl rfl dX12_readNumber_77 ?_
      refine AX.iincN (c := 2) (pc := 80) (L' := [.ref 87, .int (nI b), .int (nI ((y b - 48) * 10 + y (b + 1) - 48)), .int (nI 2)]) dX12_readNumber_80 rfl (inc1 _) (by decide) rfl ?_
      refine AX.goto (pc := 83) (tgt := 35) dX12_readNumber_83 (by decide) ?_
      refine AX.iload_n (pc := 35) dX12_readNumber_35 rfl ?_
      refine AX.iconst (pc := 36) (v := nI 2) dX12_readNumber_36 (by decide) ?_
      refine AX.icmp_geN (pc := 37) (tgt := 86) dX12_readNumber_37 (by decide) (by decide) (by decide) (fun hc37 => ?_) (fun q => absurd q (by decide))
      obtain ⟨h3, eh⟩ : ∃ z, z = (xset h2 87 (.inr (11, [.ref 88, .ref 89, .ref 90, .int (v 0), .int (v 1), .ref 91, .ref 92, .ref 93, .ref 94, .ref 95, .ref 96, .ref 97, .ref 98, .ref 99, .ref 100, .ref 101, .int (v 2), .ref 102, .ref 103, .ref 104, .ref 105, .ref 106, .ref 107, .ref 108, .int (v 3), .ref 109, .int (v 4), .ref 110, .ref 111, .int (v 5), .ref 112, .int (nI l), .int (nI (b + 2)), .int (nI 0), .ref 113, .int (nI k), .ref 114, .ref 115, .ref 116, .ref 117]))) := ⟨_, rfl⟩
      have O3 : TM h3 v l (b + 2) (nI 0) k := by rw [eh]; exact (xset_same _ _ _)
      have q3 : Same [87] h2 h3 := by rw [eh]; exact Same.set (Same.rf) (by simp)
      rw [← eh]
      clear eh
      have s3 : Same [87] h h3 := s2.trans q3
      have n3 := s3.le hn
      have T3 := hT.same s3 (by simp)
      refine AX.aload_n (pc := 86) dX12_readNumber_86 rfl ?_
      refine AX.getf (pc := 87) fX12_readNumber_313 (lt_k n3 (by decide)) O3 rfl dX12_readNumber_87 ?_
      refine AX.if_neN (pc := 90) (tgt := 115) dX12_readNumber_90 (by decide) (by decide) (fun q => absurd q (by decide)) (fun hc90 => ?_)
      refine AX.iload_n (pc := 93) dX12_readNumber_93 rfl ?_
      refine AX.i2l (pc := 94) dX12_readNumber_94 ?_
      refine AX.lconst (pc := 95) (v := 1) dX12_readNumber_95 (by decide) ?_
      refine AX.ldc2 (pc := 96) (v := 20) dX12_readNumber_96 cX12_readNumber_324 ?_
      refine AX.callS (pc := 99) (M2 := M_X12_in) (As := [.long ((nI ((y b - 48) * 10 + y (b + 1) - 48)).toInt64), .long 1, .long 20]) (rest := []) (c_in w h3 ((nI ((y b - 48) * 10 + y (b + 1) - 48)).toInt64) (1) (20)) xc_X12_readNumber__X12_in gX12_readNumber_X12_in rfl (Nat.le_of_ble_eq_true rfl) dX12_readNumber_99 ?_
      rintro _ h9 ⟨rfl, e9⟩
      have e9 := e9.symm
      subst e9
      rw [decide_eq_false (p := (1 : Int64).toInt ≤ ((nI ((y b - 48) * 10 + y (b + 1) - 48)).toInt64 : Int64).toInt ∧ ((nI ((y b - 48) * 10 + y (b + 1) - 48)).toInt64 : Int64).toInt ≤ (20 : Int64).toInt) (fun q => absurd ((in_iff (L := 1) (H := 20) (by decide) (by decide)).mp q) (by unfold inR; rw [iN ((y b - 48) * 10 + y (b + 1) - 48) (by omega)]; omega))]
      show AX w M_X12_readNumber 0 0 102 [.ref 87, .int (nI b), .int (nI ((y b - 48) * 10 + y (b + 1) - 48)), .int (nI 2)] [.int (bI false)] _ _
      refine AX.if_neB (pc := 102) (tgt := 115) dX12_readNumber_102 (by decide) (fun q => absurd q (by decide)) (fun hc102 => ?_)
      refine AX.aload_n (pc := 105) dX12_readNumber_105 rfl ?_
      refine AX.iconst (pc := 106) (v := nI 1) dX12_readNumber_106 (by decide) ?_
      refine AX.putf (pc := 107) (fs' := [.ref 88, .ref 89, .ref 90, .int (v 0), .int (v 1), .ref 91, .ref 92, .ref 93, .ref 94, .ref 95, .ref 96, .ref 97, .ref 98, .ref 99, .ref 100, .ref 101, .int (v 2), .ref 102, .ref 103, .ref 104, .ref 105, .ref 106, .ref 107, .ref 108, .int (v 3), .ref 109, .int (v 4), .ref 110, .ref 111, .int (v 5), .ref 112, .int (nI l), .int (nI (b + 2)), .int (nI 1), .ref 113, .int (nI k), .ref 114, .ref 115, .ref 116, .ref 117]) fX12_readNumber_313 rfl (lt_k n3 (by decide)) O3 (Nat.le_of_ble_eq_true rfl) rfl rfl rfl dX12_readNumber_107 ?_
      refine AX.aload_n (pc := 110) dX12_readNumber_110 rfl ?_
      refine AX.iload_n (pc := 111) dX12_readNumber_111 rfl ?_
      refine AX.putf (pc := 112) (h := xset h3 87 (.inr (11, [.ref 88, .ref 89, .ref 90, .int (v 0), .int (v 1), .ref 91, .ref 92, .ref 93, .ref 94, .ref 95, .ref 96, .ref 97, .ref 98, .ref 99, .ref 100, .ref 101, .int (v 2), .ref 102, .ref 103, .ref 104, .ref 105, .ref 106, .ref 107, .ref 108, .int (v 3), .ref 109, .int (v 4), .ref 110, .ref 111, .int (v 5), .ref 112, .int (nI l), .int (nI (b + 2)), .int (nI 1), .ref 113, .int (nI k), .ref 114, .ref 115, .ref 116, .ref 117]))) (a := 87) (fs' := [.ref 88, .ref 89, .ref 90, .int (v 0), .int (v 1), .ref 91, .ref 92, .ref 93, .ref 94, .ref 95, .ref 96, .ref 97, .ref 98, .ref 99, .ref 100, .ref 101, .int (v 2), .ref 102, .ref 103, .ref 104, .ref 105, .ref 106, .ref 107, .ref 108, .int (v 3), .ref 109, .int (v 4), .ref 110, .ref 111, .int (v 5), .ref 112, .int (nI l), .int (nI b), .int (nI 1), .ref 113, .int (nI k), .ref 114, .ref 115, .ref 116, .ref 117]) fX12_readNumber_310 rfl (lt_k n3 (by decide)) (xset_same _ _ _) (Nat.le_of_ble_eq_true rfl) rfl rfl rfl dX12_readNumber_112 ?_
      refine AX.iload_n (pc := 115) dX12_readNumber_115 rfl ?_
      refine AX.iret (pc := 116) dX12_readNumber_116 rfl rfl (by decide) (by decide) ?_
      have sx : Same [87] h3 (xset (xset h3 87 (.inr (11, [.ref 88, .ref 89, .ref 90, .int (v 0), .int (v 1), .ref 91, .ref 92, .ref 93, .ref 94, .ref 95, .ref 96, .ref 97, .ref 98, .ref 99, .ref 100, .ref 101, .int (v 2), .ref 102, .ref 103, .ref 104, .ref 105, .ref 106, .ref 107, .ref 108, .int (v 3), .ref 109, .int (v 4), .ref 110, .ref 111, .int (v 5), .ref 112, .int (nI l), .int (nI (b + 2)), .int (nI 1), .ref 113, .int (nI k), .ref 114, .ref 115, .ref 116, .ref 117]))) 87 (.inr (11, [.ref 88, .ref 89, .ref 90, .int (v 0), .int (v 1), .ref 91, .ref 92, .ref 93, .ref 94, .ref 95, .ref 96, .ref 97, .ref 98, .ref 99, .ref 100, .ref 101, .int (v 2), .ref 102, .ref 103, .ref 104, .ref 105, .ref 106, .ref 107, .ref 108, .int (v 3), .ref 109, .int (v 4), .ref 110, .ref 111, .int (v 5), .ref 112, .int (nI l), .int (nI b), .int (nI 1), .ref 113, .int (nI k), .ref 114, .ref 115, .ref 116, .ref 117]))) := Same.set (Same.set (Same.rf) (by simp)) (by simp)
      refine ⟨s3.trans sx, ?_⟩
      rw [if_neg (show ¬ (1 ≤ (y b - 48) * 10 + y (b + 1) - 48 ∧ (y b - 48) * 10 + y (b + 1) - 48 ≤ 20) by omega)]
      exact ⟨⟨_, rfl⟩, xset_same _ _ _⟩
    by_cases x2 : b + 1 < l
    · have y2 := (qt_ (b + 1) x2).2.1
      by_cases g : 1 ≤ y b - 48 ∧ y b - 48 ≤ 20
      · have hm : nmN y l b = (1, y b - 48) := by unfold nmN; rw [if_pos d1, if_neg d2]
        rw [hm]
        dsimp only
        refine AX.aload_n (pc := 0) dX12_readNumber_0 rfl ?_
        refine AX.getf (pc := 1) fX12_readNumber_310 (lt_k hn (by decide)) hO rfl dX12_readNumber_1 ?_
        refine AX.istore_n (pc := 4) (L' := [.ref 87, .int (nI b), .null, .null]) dX12_readNumber_4 (by decide) rfl ?_
        refine AX.iconst (pc := 5) (v := nI 0) dX12_readNumber_5 (by decide) ?_
        refine AX.istore_n (pc := 6) (L' := [.ref 87, .int (nI b), .int (nI 0), .null]) dX12_readNumber_6 (by decide) rfl ?_
        refine AX.aload_n (pc := 7) dX12_readNumber_7 rfl ?_
        refine AX.aload_n (pc := 8) dX12_readNumber_8 rfl ?_
        refine AX.callV (pc := 9) (M2 := M_X12_here) (As := []) (rest := [.ref 87]) (c_hereIn w h (y := y) hn hO hT (by omega)) xc_X12_readNumber__X12_here gX12_readNumber_X12_here (ci := 11) rfl (lt_k hn (by decide)) hO rfl (Nat.le_of_ble_eq_true rfl) dX12_readNumber_9 ?_
        rintro _ h9 ⟨rfl, e9⟩
        have e9 := e9.symm
        subst e9
        show AX w M_X12_readNumber 0 0 12 [.ref 87, .int (nI b), .int (nI 0), .null] [.int (nI (y b)), .ref 87] _ _
        refine AX.i2l (pc := 12) dX12_readNumber_12 ?_
        refine AX.ldc2 (pc := 13) (v := 48) dX12_readNumber_13 cX12_readNumber_320 ?_
        refine AX.ldc2 (pc := 16) (v := 57) dX12_readNumber_16 cX12_readNumber_322 ?_
        refine AX.callS (pc := 19) (M2 := M_X12_in) (As := [.long ((nI (y b)).toInt64), .long 48, .long 57]) (rest := [.ref 87]) (c_in w h ((nI (y b)).toInt64) (48) (57)) xc_X12_readNumber__X12_in gX12_readNumber_X12_in rfl (Nat.le_of_ble_eq_true rfl) dX12_readNumber_19 ?_
        rintro _ h9 ⟨rfl, e9⟩
        have e9 := e9.symm
        subst e9
        rw [decide_eq_true ((in_iff (L := 48) (H := 57) (by decide) (by decide)).mpr (by unfold inR; rw [iN (y b) (by omega)]; omega))]
        show AX w M_X12_readNumber 0 0 22 [.ref 87, .int (nI b), .int (nI 0), .null] [.int (bI true), .ref 87] _ _
        refine AX.if_neB (pc := 22) (tgt := 29) dX12_readNumber_22 (by decide) (fun hc22 => ?_) (fun q => absurd q (by decide))
        refine AX.iconst (pc := 29) (v := nI 0) dX12_readNumber_29 (by decide) ?_
        refine AX.putf (pc := 30) (fs' := [.ref 88, .ref 89, .ref 90, .int (v 0), .int (v 1), .ref 91, .ref 92, .ref 93, .ref 94, .ref 95, .ref 96, .ref 97, .ref 98, .ref 99, .ref 100, .ref 101, .int (v 2), .ref 102, .ref 103, .ref 104, .ref 105, .ref 106, .ref 107, .ref 108, .int (v 3), .ref 109, .int (v 4), .ref 110, .ref 111, .int (v 5), .ref 112, .int (nI l), .int (nI b), .int (nI 0), .ref 113, .int (nI k), .ref 114, .ref 115, .ref 116, .ref 117]) fX12_readNumber_313 rfl (lt_k hn (by decide)) hO (Nat.le_of_ble_eq_true rfl) rfl rfl rfl dX12_readNumber_30 ?_
        refine AX.iconst (pc := 33) (v := nI 0) dX12_readNumber_33 (by decide) ?_
        refine AX.istore_n (pc := 34) (L' := [.ref 87, .int (nI b), .int (nI 0), .int (nI 0)]) dX12_readNumber_34 (by decide) rfl ?_
        refine AX.iload_n (pc := 35) dX12_readNumber_35 rfl ?_
        refine AX.iconst (pc := 36) (v := nI 2) dX12_readNumber_36 (by decide) ?_
        refine AX.icmp_geN (pc := 37) (tgt := 86) dX12_readNumber_37 (by decide) (by decide) (by decide) (fun q => absurd q (by decide)) (fun hc37 => ?_)
        obtain ⟨h1, eh⟩ : ∃ z, z = (xset h 87 (.inr (11, [.ref 88, .ref 89, .ref 90, .int (v 0), .int (v 1), .ref 91, .ref 92, .ref 93, .ref 94, .ref 95, .ref 96, .ref 97, .ref 98, .ref 99, .ref 100, .ref 101, .int (v 2), .ref 102, .ref 103, .ref 104, .ref 105, .ref 106, .ref 107, .ref 108, .int (v 3), .ref 109, .int (v 4), .ref 110, .ref 111, .int (v 5), .ref 112, .int (nI l), .int (nI b), .int (nI 0), .ref 113, .int (nI k), .ref 114, .ref 115, .ref 116, .ref 117]))) := ⟨_, rfl⟩
        have O1 : TM h1 v l b (nI 0) k := by rw [eh]; exact (xset_same _ _ _)
        have q1 : Same [87] h h1 := by rw [eh]; exact Same.set (Same.rf) (by simp)
        rw [← eh]
        clear eh
        have s1 : Same [87] h h1 := q1
        have n1 := s1.le hn
        have T1 := hT.same s1 (by simp)
        refine AX.aload_n (pc := 40) dX12_readNumber_40 rfl ?_
        refine AX.callV (pc := 41) (M2 := M_X12_here) (As := []) (rest := []) (c_hereIn w h1 (y := y) n1 O1 T1 (by omega)) xc_X12_readNumber__X12_here gX12_readNumber_X12_here (ci := 11) rfl (lt_k n1 (by decide)) O1 rfl (Nat.le_of_ble_eq_true rfl) dX12_readNumber_41 ?_
        rintro _ h9 ⟨rfl, e9⟩
        have e9 := e9.symm
        subst e9
        show AX w M_X12_readNumber 0 0 44 [.ref 87, .int (nI b), .int (nI 0), .int (nI 0)] [.int (nI (y b))] _ _
        refine AX.i2l (pc := 44) dX12_readNumber_44 ?_
        refine AX.ldc2 (pc := 45) (v := 48) dX12_readNumber_45 cX12_readNumber_320 ?_
        refine AX.ldc2 (pc := 48) (v := 57) dX12_readNumber_48 cX12_readNumber_322 ?_
        refine AX.callS (pc := 51) (M2 := M_X12_in) (As := [.long ((nI (y b)).toInt64), .long 48, .long 57]) (rest := []) (c_in w h1 ((nI (y b)).toInt64) (48) (57)) xc_X12_readNumber__X12_in gX12_readNumber_X12_in rfl (Nat.le_of_ble_eq_true rfl) dX12_readNumber_51 ?_
        rintro _ h9 ⟨rfl, e9⟩
        have e9 := e9.symm
        subst e9
        rw [decide_eq_true ((in_iff (L := 48) (H := 57) (by decide) (by decide)).mpr (by unfold inR; rw [iN (y b) (by omega)]; omega))]
        show AX w M_X12_readNumber 0 0 54 [.ref 87, .int (nI b), .int (nI 0), .int (nI 0)] [.int (bI true)] _ _
        refine AX.if_eqB (pc := 54) (tgt := 86) dX12_readNumber_54 (by decide) (fun q => absurd q (by decide)) (fun hc54 => ?_)
        refine AX.bipush (pc := 57) (v := nI 10) dX12_readNumber_57 (by decide) ?_
        refine AX.iload_n (pc := 59) dX12_readNumber_59 rfl ?_
        refine AX.imulN (pc := 60) (c := 0) dX12_readNumber_60 rfl ?_
        refine AX.aload_n (pc := 61) dX12_readNumber_61 rfl ?_
        refine AX.callV (pc := 62) (M2 := M_X12_here) (As := []) (rest := [.int (nI 0)]) (c_hereIn w h1 (y := y) n1 O1 T1 (by omega)) xc_X12_readNumber__X12_here gX12_readNumber_X12_here (ci := 11) rfl (lt_k n1 (by decide)) O1 rfl (Nat.le_of_ble_eq_true rfl) dX12_readNumber_62 ?_
        rintro _ h9 ⟨rfl, e9⟩
        have e9 := e9.symm
        subst e9
        show AX w M_X12_readNumber 0 0 65 [.ref 87, .int (nI b), .int (nI 0), .int (nI 0)] [.int (nI (y b)), .int (nI 0)] _ _
        refine AX.iaddN (pc := 65) (c := y b) dX12_readNumber_65 (Nat.zero_add _) ?_
        refine AX.bipush (pc := 66) (v := nI 48) dX12_readNumber_66 (by decide) ?_
        refine AX.isubN (pc := 68) (c := y b - 48) dX12_readNumber_68 (by omega) ?_
        refine AX.istore_n (pc := 69) (L' := [.ref 87, .int (nI b), .int (nI (y b - 48)), .int (nI 0)]) dX12_readNumber_69 (by decide) rfl ?_
        refine AX.aload_n (pc := 70) dX12_readNumber_70 rfl ?_
        refine AX.dup (pc := 71) dX12_readNumber_71 rfl ?_
        refine AX.getf (pc := 72) fX12_readNumber_310 (lt_k n1 (by decide)) O1 rfl dX12_readNumber_72 ?_
        refine AX.iconst (pc := 75) (v := nI 1) dX12_readNumber_75 (by decide) ?_
        refine AX.iaddN (pc := 76) (c := b + 1) dX12_readNumber_76 rfl ?_
        refine AX.putf (pc := 77) (fs' := [.ref 88, .ref 89, .ref 90, .int (v 0), .int (v 1), .ref 91, .ref 92, .ref 93, .ref 94, .ref 95, .ref 96, .ref 97, .ref 98, .ref 99, .ref 100, .ref 101, .int (v 2), .ref 102, .ref 103, .ref 104, .ref 105, .ref 106, .ref 107, .ref 108, .int (v 3), .ref 109, .int (v 4), .ref 110, .ref 111, .int (v 5), .ref 112, .int (nI l), .int (nI (b + 1)), .int (nI 0), .ref 113, .int (nI k), .ref 114, .ref 115, .ref 116, .ref 117]) fX12_readNumber_310 rfl (lt_k n1 (by decide)) O1 (Nat.le_of_ble_eq_true rfl) rfl rfl rfl dX12_readNumber_77 ?_
        refine AX.iincN (c := 1) (pc := 80) (L' := [.ref 87, .int (nI b), .int (nI (y b - 48)), .int (nI 1)]) dX12_readNumber_80 rfl (inc1 _) (by decide) rfl ?_
        refine AX.goto (pc := 83) (tgt := 35) dX12_readNumber_83 (by decide) ?_
        refine AX.iload_n (pc := 35) dX12_readNumber_35 rfl ?_
        refine AX.iconst (pc := 36) (v := nI 2) dX12_readNumber_36 (by decide) ?_
        refine AX.icmp_geN (pc := 37) (tgt := 86) dX12_readNumber_37 (by decide) (by decide) (by decide) (fun q => absurd q (by decide)) (fun hc37 => ?_)
        obtain ⟨h2, eh⟩ : ∃ z, z = (xset h1 87 (.inr (11, [.ref 88, .ref 89, .ref 90, .int (v 0), .int (v 1), .ref 91, .ref 92, .ref 93, .ref 94, .ref 95, .ref 96, .ref 97, .ref 98, .ref 99, .ref 100, .ref 101, .int (v 2), .ref 102, .ref 103, .ref 104, .ref 105, .ref 106, .ref 107, .ref 108, .int (v 3), .ref 109, .int (v 4), .ref 110, .ref 111, .int (v 5), .ref 112, .int (nI l), .int (nI (b + 1)), .int (nI 0), .ref 113, .int (nI k), .ref 114, .ref 115, .ref 116, .ref 117]))) := ⟨_, rfl⟩
        have O2 : TM h2 v l (b + 1) (nI 0) k := by rw [eh]; exact (xset_same _ _ _)
        have q2 : Same [87] h1 h2 := by rw [eh]; exact Same.set (Same.rf) (by simp)
        rw [← eh]
        clear eh
        have s2 : Same [87] h h2 := s1.trans q2
        have n2 := s2.le hn
        have T2 := hT.same s2 (by simp)
        refine AX.aload_n (pc := 40) dX12_readNumber_40 rfl ?_
        refine AX.callV (pc := 41) (M2 := M_X12_here) (As := []) (rest := []) (c_hereIn w h2 (y := y) n2 O2 T2 (by omega)) xc_X12_readNumber__X12_here gX12_readNumber_X12_here (ci := 11) rfl (lt_k n2 (by decide)) O2 rfl (Nat.le_of_ble_eq_true rfl) dX12_readNumber_41 ?_
        rintro _ h9 ⟨rfl, e9⟩
        have e9 := e9.symm
        subst e9
        show AX w M_X12_readNumber 0 0 44 [.ref 87, .int (nI b), .int (nI (y b - 48)), .int (nI 1)] [.int (nI (y (b + 1)))] _ _
        refine AX.i2l (pc := 44) dX12_readNumber_44 ?_
        refine AX.ldc2 (pc := 45) (v := 48) dX12_readNumber_45 cX12_readNumber_320 ?_
        refine AX.ldc2 (pc := 48) (v := 57) dX12_readNumber_48 cX12_readNumber_322 ?_
        refine AX.callS (pc := 51) (M2 := M_X12_in) (As := [.long ((nI (y (b + 1))).toInt64), .long 48, .long 57]) (rest := []) (c_in w h2 ((nI (y (b + 1))).toInt64) (48) (57)) xc_X12_readNumber__X12_in gX12_readNumber_X12_in rfl (Nat.le_of_ble_eq_true rfl) dX12_readNumber_51 ?_
        rintro _ h9 ⟨rfl, e9⟩
        have e9 := e9.symm
        subst e9
        rw [decide_eq_false (p := (48 : Int64).toInt ≤ ((nI (y (b + 1))).toInt64 : Int64).toInt ∧ ((nI (y (b + 1))).toInt64 : Int64).toInt ≤ (57 : Int64).toInt) (fun q => absurd ((in_iff (L := 48) (H := 57) (by decide) (by decide)).mp q) (by unfold inR; rw [iN (y (b + 1)) (by omega)]; omega))]
        show AX w M_X12_readNumber 0 0 54 [.ref 87, .int (nI b), .int (nI (y b - 48)), .int (nI 1)] [.int (bI false)] _ _
        refine AX.if_eqB (pc := 54) (tgt := 86) dX12_readNumber_54 (by decide) (fun hc54 => ?_) (fun q => absurd q (by decide))
        refine AX.aload_n (pc := 86) dX12_readNumber_86 rfl ?_
        refine AX.getf (pc := 87) fX12_readNumber_313 (lt_k n2 (by decide)) O2 rfl dX12_readNumber_87 ?_
        refine AX.if_neN (pc := 90) (tgt := 115) dX12_readNumber_90 (by decide) (by decide) (fun q => absurd q (by decide)) (fun hc90 => ?_)
        refine AX.iload_n (pc := 93) dX12_readNumber_93 rfl ?_
        refine AX.i2l (pc := 94) dX12_readNumber_94 ?_
        refine AX.lconst (pc := 95) (v := 1) dX12_readNumber_95 (by decide) ?_
        refine AX.ldc2 (pc := 96) (v := 20) dX12_readNumber_96 cX12_readNumber_324 ?_
        refine AX.callS (pc := 99) (M2 := M_X12_in) (As := [.long ((nI (y b - 48)).toInt64), .long 1, .long 20]) (rest := []) (c_in w h2 ((nI (y b - 48)).toInt64) (1) (20)) xc_X12_readNumber__X12_in gX12_readNumber_X12_in rfl (Nat.le_of_ble_eq_true rfl) dX12_readNumber_99 ?_
        rintro _ h9 ⟨rfl, e9⟩
        have e9 := e9.symm
        subst e9
        rw [decide_eq_true ((in_iff (L := 1) (H := 20) (by decide) (by decide)).mpr (by unfold inR; rw [iN (y b - 48) (by omega)]; omega))]
        show AX w M_X12_readNumber 0 0 102 [.ref 87, .int (nI b), .int (nI (y b - 48)), .int (nI 1)] [.int (bI true)] _ _
        refine AX.if_neB (pc := 102) (tgt := 115) dX12_readNumber_102 (by decide) (fun hc102 => ?_) (fun q => absurd q (by decide))
        refine AX.iload_n (pc := 115) dX12_readNumber_115 rfl ?_
        refine AX.iret (pc := 116) dX12_readNumber_116 rfl rfl (by decide) (by decide) ?_
        refine ⟨s2, ?_⟩
        rw [if_pos (show 1 ≤ y b - 48 ∧ y b - 48 ≤ 20 by omega)]
        exact ⟨rfl, O2⟩
      have hm : nmN y l b = (1, y b - 48) := by unfold nmN; rw [if_pos d1, if_neg d2]
      rw [hm]
      dsimp only
      refine AX.aload_n (pc := 0) dX12_readNumber_0 rfl ?_
      refine AX.getf (pc := 1) fX12_readNumber_310 (lt_k hn (by decide)) hO rfl dX12_readNumber_1 ?_
      refine AX.istore_n (pc := 4) (L' := [.ref 87, .int (nI b), .null, .null]) dX12_readNumber_4 (by decide) rfl ?_
      refine AX.iconst (pc := 5) (v := nI 0) dX12_readNumber_5 (by decide) ?_
      refine AX.istore_n (pc := 6) (L' := [.ref 87, .int (nI b), .int (nI 0), .null]) dX12_readNumber_6 (by decide) rfl ?_
      refine AX.aload_n (pc := 7) dX12_readNumber_7 rfl ?_
      refine AX.aload_n (pc := 8) dX12_readNumber_8 rfl ?_
      refine AX.callV (pc := 9) (M2 := M_X12_here) (As := []) (rest := [.ref 87]) (c_hereIn w h (y := y) hn hO hT (by omega)) xc_X12_readNumber__X12_here gX12_readNumber_X12_here (ci := 11) rfl (lt_k hn (by decide)) hO rfl (Nat.le_of_ble_eq_true rfl) dX12_readNumber_9 ?_
      rintro _ h9 ⟨rfl, e9⟩
      have e9 := e9.symm
      subst e9
      show AX w M_X12_readNumber 0 0 12 [.ref 87, .int (nI b), .int (nI 0), .null] [.int (nI (y b)), .ref 87] _ _
      refine AX.i2l (pc := 12) dX12_readNumber_12 ?_
      refine AX.ldc2 (pc := 13) (v := 48) dX12_readNumber_13 cX12_readNumber_320 ?_
      refine AX.ldc2 (pc := 16) (v := 57) dX12_readNumber_16 cX12_readNumber_322 ?_
      refine AX.callS (pc := 19) (M2 := M_X12_in) (As := [.long ((nI (y b)).toInt64), .long 48, .long 57]) (rest := [.ref 87]) (c_in w h ((nI (y b)).toInt64) (48) (57)) xc_X12_readNumber__X12_in gX12_readNumber_X12_in rfl (Nat.le_of_ble_eq_true rfl) dX12_readNumber_19 ?_
      rintro _ h9 ⟨rfl, e9⟩
      have e9 := e9.symm
      subst e9
      rw [decide_eq_true ((in_iff (L := 48) (H := 57) (by decide) (by decide)).mpr (by unfold inR; rw [iN (y b) (by omega)]; omega))]
      show AX w M_X12_readNumber 0 0 22 [.ref 87, .int (nI b), .int (nI 0), .null] [.int (bI true), .ref 87] _ _
      refine AX.if_neB (pc := 22) (tgt := 29) dX12_readNumber_22 (by decide) (fun hc22 => ?_) (fun q => absurd q (by decide))
      refine AX.iconst (pc := 29) (v := nI 0) dX12_readNumber_29 (by decide) ?_
      refine AX.putf (pc := 30) (fs' := [.ref 88, .ref 89, .ref 90, .int (v 0), .int (v 1), .ref 91, .ref 92, .ref 93, .ref 94, .ref 95, .ref 96, .ref 97, .ref 98, .ref 99, .ref 100, .ref 101, .int (v 2), .ref 102, .ref 103, .ref 104, .ref 105, .ref 106, .ref 107, .ref 108, .int (v 3), .ref 109, .int (v 4), .ref 110, .ref 111, .int (v 5), .ref 112, .int (nI l), .int (nI b), .int (nI 0), .ref 113, .int (nI k), .ref 114, .ref 115, .ref 116, .ref 117]) fX12_readNumber_313 rfl (lt_k hn (by decide)) hO (Nat.le_of_ble_eq_true rfl) rfl rfl rfl dX12_readNumber_30 ?_
      refine AX.iconst (pc := 33) (v := nI 0) dX12_readNumber_33 (by decide) ?_
      refine AX.istore_n (pc := 34) (L' := [.ref 87, .int (nI b), .int (nI 0), .int (nI 0)]) dX12_readNumber_34 (by decide) rfl ?_
      refine AX.iload_n (pc := 35) dX12_readNumber_35 rfl ?_
      refine AX.iconst (pc := 36) (v := nI 2) dX12_readNumber_36 (by decide) ?_
      refine AX.icmp_geN (pc := 37) (tgt := 86) dX12_readNumber_37 (by decide) (by decide) (by decide) (fun q => absurd q (by decide)) (fun hc37 => ?_)
      obtain ⟨h1, eh⟩ : ∃ z, z = (xset h 87 (.inr (11, [.ref 88, .ref 89, .ref 90, .int (v 0), .int (v 1), .ref 91, .ref 92, .ref 93, .ref 94, .ref 95, .ref 96, .ref 97, .ref 98, .ref 99, .ref 100, .ref 101, .int (v 2), .ref 102, .ref 103, .ref 104, .ref 105, .ref 106, .ref 107, .ref 108, .int (v 3), .ref 109, .int (v 4), .ref 110, .ref 111, .int (v 5), .ref 112, .int (nI l), .int (nI b), .int (nI 0), .ref 113, .int (nI k), .ref 114, .ref 115, .ref 116, .ref 117]))) := ⟨_, rfl⟩
      have O1 : TM h1 v l b (nI 0) k := by rw [eh]; exact (xset_same _ _ _)
      have q1 : Same [87] h h1 := by rw [eh]; exact Same.set (Same.rf) (by simp)
      rw [← eh]
      clear eh
      have s1 : Same [87] h h1 := q1
      have n1 := s1.le hn
      have T1 := hT.same s1 (by simp)
      refine AX.aload_n (pc := 40) dX12_readNumber_40 rfl ?_
      refine AX.callV (pc := 41) (M2 := M_X12_here) (As := []) (rest := []) (c_hereIn w h1 (y := y) n1 O1 T1 (by omega)) xc_X12_readNumber__X12_here gX12_readNumber_X12_here (ci := 11) rfl (lt_k n1 (by decide)) O1 rfl (Nat.le_of_ble_eq_true rfl) dX12_readNumber_41 ?_
      rintro _ h9 ⟨rfl, e9⟩
      have e9 := e9.symm
      subst e9
      show AX w M_X12_readNumber 0 0 44 [.ref 87, .int (nI b), .int (nI 0), .int (nI 0)] [.int (nI (y b))] _ _
      refine AX.i2l (pc := 44) dX12_readNumber_44 ?_
      refine AX.ldc2 (pc := 45) (v := 48) dX12_readNumber_45 cX12_readNumber_320 ?_
      refine AX.ldc2 (pc := 48) (v := 57) dX12_readNumber_48 cX12_readNumber_322 ?_
      refine AX.callS (pc := 51) (M2 := M_X12_in) (As := [.long ((nI (y b)).toInt64), .long 48, .long 57]) (rest := []) (c_in w h1 ((nI (y b)).toInt64) (48) (57)) xc_X12_readNumber__X12_in gX12_readNumber_X12_in rfl (Nat.le_of_ble_eq_true rfl) dX12_readNumber_51 ?_
      rintro _ h9 ⟨rfl, e9⟩
      have e9 := e9.symm
      subst e9
      rw [decide_eq_true ((in_iff (L := 48) (H := 57) (by decide) (by decide)).mpr (by unfold inR; rw [iN (y b) (by omega)]; omega))]
      show AX w M_X12_readNumber 0 0 54 [.ref 87, .int (nI b), .int (nI 0), .int (nI 0)] [.int (bI true)] _ _
      refine AX.if_eqB (pc := 54) (tgt := 86) dX12_readNumber_54 (by decide) (fun q => absurd q (by decide)) (fun hc54 => ?_)
      refine AX.bipush (pc := 57) (v := nI 10) dX12_readNumber_57 (by decide) ?_
      refine AX.iload_n (pc := 59) dX12_readNumber_59 rfl ?_
      refine AX.imulN (pc := 60) (c := 0) dX12_readNumber_60 rfl ?_
      refine AX.aload_n (pc := 61) dX12_readNumber_61 rfl ?_
      refine AX.callV (pc := 62) (M2 := M_X12_here) (As := []) (rest := [.int (nI 0)]) (c_hereIn w h1 (y := y) n1 O1 T1 (by omega)) xc_X12_readNumber__X12_here gX12_readNumber_X12_here (ci := 11) rfl (lt_k n1 (by decide)) O1 rfl (Nat.le_of_ble_eq_true rfl) dX12_readNumber_62 ?_
      rintro _ h9 ⟨rfl, e9⟩
      have e9 := e9.symm
      subst e9
      show AX w M_X12_readNumber 0 0 65 [.ref 87, .int (nI b), .int (nI 0), .int (nI 0)] [.int (nI (y b)), .int (nI 0)] _ _
      refine AX.iaddN (pc := 65) (c := y b) dX12_readNumber_65 (Nat.zero_add _) ?_
      refine AX.bipush (pc := 66) (v := nI 48) dX12_readNumber_66 (by decide) ?_
      refine AX.isubN (pc := 68) (c := y b - 48) dX12_readNumber_68 (by omega) ?_
      refine AX.istore_n (pc := 69) (L' := [.ref 87, .int (nI b), .int (nI (y b - 48)), .int (nI 0)]) dX12_readNumber_69 (by decide) rfl ?_
      refine AX.aload_n (pc := 70) dX12_readNumber_70 rfl ?_
      refine AX.dup (pc := 71) dX12_readNumber_71 rfl ?_
      refine AX.getf (pc := 72) fX12_readNumber_310 (lt_k n1 (by decide)) O1 rfl dX12_readNumber_72 ?_
      refine AX.iconst (pc := 75) (v := nI 1) dX12_readNumber_75 (by decide) ?_
      refine AX.iaddN (pc := 76) (c := b + 1) dX12_readNumber_76 rfl ?_
      refine AX.putf (pc := 77) (fs' := [.ref 88, .ref 89, .ref 90, .int (v 0), .int (v 1), .ref 91, .ref 92, .ref 93, .ref 94, .ref 95, .ref 96, .ref 97, .ref 98, .ref 99, .ref 100, .ref 101, .int (v 2), .ref 102, .ref 103, .ref 104, .ref 105, .ref 106, .ref 107, .ref 108, .int (v 3), .ref 109, .int (v 4), .ref 110, .ref 111, .int (v 5), .ref 112, .int (nI l), .int (nI (b + 1)), .int (nI 0), .ref 113, .int (nI k), .ref 114, .ref 115, .ref 116, .ref 117]) fX12_readNumber_310 rfl (lt_k n1 (by decide)) O1 (Nat.le_of_ble_eq_true rfl) rfl rfl rfl dX12_readNumber_77 ?_
      refine AX.iincN (c := 1) (pc := 80) (L' := [.ref 87, .int (nI b), .int (nI (y b - 48)), .int (nI 1)]) dX12_readNumber_80 rfl (inc1 _) (by decide) rfl ?_
      refine AX.goto (pc := 83) (tgt := 35) dX12_readNumber_83 (by decide) ?_
      refine AX.iload_n (pc := 35) dX12_readNumber_35 rfl ?_
      refine AX.iconst (pc := 36) (v := nI 2) dX12_readNumber_36 (by decide) ?_
      refine AX.icmp_geN (pc := 37) (tgt := 86) dX12_readNumber_37 (by decide) (by decide) (by decide) (fun q => absurd q (by decide)) (fun hc37 => ?_)
      obtain ⟨h2, eh⟩ : ∃ z, z = (xset h1 87 (.inr (11, [.ref 88, .ref 89, .ref 90, .int (v 0), .int (v 1), .ref 91, .ref 92, .ref 93, .ref 94, .ref 95, .ref 96, .ref 97, .ref 98, .ref 99, .ref 100, .ref 101, .int (v 2), .ref 102, .ref 103, .ref 104, .ref 105, .ref 106, .ref 107, .ref 108, .int (v 3), .ref 109, .int (v 4), .ref 110, .ref 111, .int (v 5), .ref 112, .int (nI l), .int (nI (b + 1)), .int (nI 0), .ref 113, .int (nI k), .ref 114, .ref 115, .ref 116, .ref 117]))) := ⟨_, rfl⟩
      have O2 : TM h2 v l (b + 1) (nI 0) k := by rw [eh]; exact (xset_same _ _ _)
      have q2 : Same [87] h1 h2 := by rw [eh]; exact Same.set (Same.rf) (by simp)
      rw [← eh]
      clear eh
      have s2 : Same [87] h h2 := s1.trans q2
      have n2 := s2.le hn
      have T2 := hT.same s2 (by simp)
      refine AX.aload_n (pc := 40) dX12_readNumber_40 rfl ?_
      refine AX.callV (pc := 41) (M2 := M_X12_here) (As := []) (rest := []) (c_hereIn w h2 (y := y) n2 O2 T2 (by omega)) xc_X12_readNumber__X12_here gX12_readNumber_X12_here (ci := 11) rfl (lt_k n2 (by decide)) O2 rfl (Nat.le_of_ble_eq_true rfl) dX12_readNumber_41 ?_
      rintro _ h9 ⟨rfl, e9⟩
      have e9 := e9.symm
      subst e9
      show AX w M_X12_readNumber 0 0 44 [.ref 87, .int (nI b), .int (nI (y b - 48)), .int (nI 1)] [.int (nI (y (b + 1)))] _ _
      refine AX.i2l (pc := 44) dX12_readNumber_44 ?_
      refine AX.ldc2 (pc := 45) (v := 48) dX12_readNumber_45 cX12_readNumber_320 ?_
      refine AX.ldc2 (pc := 48) (v := 57) dX12_readNumber_48 cX12_readNumber_322 ?_
      refine AX.callS (pc := 51) (M2 := M_X12_in) (As := [.long ((nI (y (b + 1))).toInt64), .long 48, .long 57]) (rest := []) (c_in w h2 ((nI (y (b + 1))).toInt64) (48) (57)) xc_X12_readNumber__X12_in gX12_readNumber_X12_in rfl (Nat.le_of_ble_eq_true rfl) dX12_readNumber_51 ?_
      rintro _ h9 ⟨rfl, e9⟩
      have e9 := e9.symm
      subst e9
      rw [decide_eq_false (p := (48 : Int64).toInt ≤ ((nI (y (b + 1))).toInt64 : Int64).toInt ∧ ((nI (y (b + 1))).toInt64 : Int64).toInt ≤ (57 : Int64).toInt) (fun q => absurd ((in_iff (L := 48) (H := 57) (by decide) (by decide)).mp q) (by unfold inR; rw [iN (y (b + 1)) (by omega)]; omega))]
      show AX w M_X12_readNumber 0 0 54 [.ref 87, .int (nI b), .int (nI (y b - 48)), .int (nI 1)] [.int (bI false)] _ _
      refine AX.if_eqB (pc := 54) (tgt := 86) dX12_readNumber_54 (by decide) (fun hc54 => ?_) (fun q => absurd q (by decide))
      refine AX.aload_n (pc := 86) dX12_readNumber_86 rfl ?_
      refine AX.getf (pc := 87) fX12_readNumber_313 (lt_k n2 (by decide)) O2 rfl dX12_readNumber_87 ?_
      refine AX.if_neN (pc := 90) (tgt := 115) dX12_readNumber_90 (by decide) (by decide) (fun q => absurd q (by decide)) (fun hc90 => ?_)
      refine AX.iload_n (pc := 93) dX12_readNumber_93 rfl ?_
      refine AX.i2l (pc := 94) dX12_readNumber_94 ?_
      refine AX.lconst (pc := 95) (v := 1) dX12_readNumber_95 (by decide) ?_
      refine AX.ldc2 (pc := 96) (v := 20) dX12_readNumber_96 cX12_readNumber_324 ?_
      refine AX.callS (pc := 99) (M2 := M_X12_in) (As := [.long ((nI (y b - 48)).toInt64), .long 1, .long 20]) (rest := []) (c_in w h2 ((nI (y b - 48)).toInt64) (1) (20)) xc_X12_readNumber__X12_in gX12_readNumber_X12_in rfl (Nat.le_of_ble_eq_true rfl) dX12_readNumber_99 ?_
      rintro _ h9 ⟨rfl, e9⟩
      have e9 := e9.symm
      subst e9
      rw [decide_eq_false (p := (1 : Int64).toInt ≤ ((nI (y b - 48)).toInt64 : Int64).toInt ∧ ((nI (y b - 48)).toInt64 : Int64).toInt ≤ (20 : Int64).toInt) (fun q => absurd ((in_iff (L := 1) (H := 20) (by decide) (by decide)).mp q) (by unfold inR; rw [iN (y b - 48) (by omega)]; omega))]
      show AX w M_X12_readNumber 0 0 102 [.ref 87, .int (nI b), .int (nI (y b - 48)), .int (nI 1)] [.int (bI false)] _ _
      refine AX.if_neB (pc := 102) (tgt := 115) dX12_readNumber_102 (by decide) (fun q => absurd q (by decide)) (fun hc102 => ?_)
      refine AX.aload_n (pc := 105) dX12_readNumber_105 rfl ?_
      refine AX.iconst (pc := 106) (v := nI 1) dX12_readNumber_106 (by decide) ?_
      refine AX.putf (pc := 107) (fs' := [.ref 88, .ref 89, .ref 90, .int (v 0), .int (v 1), .ref 91, .ref 92, .ref 93, .ref 94, .ref 95, .ref 96, .ref 97, .ref 98, .ref 99, .ref 100, .ref 101, .int (v 2), .ref 102, .ref 103, .ref 104, .ref 105, .ref 106, .ref 107, .ref 108, .int (v 3), .ref 109, .int (v 4), .ref 110, .ref 111, .int (v 5), .ref 112, .int (nI l), .int (nI (b + 1)), .int (nI 1), .ref 113, .int (nI k), .ref 114, .ref 115, .ref 116, .ref 117]) fX12_readNumber_313 rfl (lt_k n2 (by decide)) O2 (Nat.le_of_ble_eq_true rfl) rfl rfl rfl dX12_readNumber_107 ?_
      refine AX.aload_n (pc := 110) dX12_readNumber_110 rfl ?_
      refine AX.iload_n (pc := 111) dX12_readNumber_111 rfl ?_
      refine AX.putf (pc := 112) (h := xset h2 87 (.inr (11, [.ref 88, .ref 89, .ref 90, .int (v 0), .int (v 1), .ref 91, .ref 92, .ref 93, .ref 94, .ref 95, .ref 96, .ref 97, .ref 98, .ref 99, .ref 100, .ref 101, .int (v 2), .ref 102, .ref 103, .ref 104, .ref 105, .ref 106, .ref 107, .ref 108, .int (v 3), .ref 109, .int (v 4), .ref 110, .ref 111, .int (v 5), .ref 112, .int (nI l), .int (nI (b + 1)), .int (nI 1), .ref 113, .int (nI k), .ref 114, .ref 115, .ref 116, .ref 117]))) (a := 87) (fs' := [.ref 88, .ref 89, .ref 90, .int (v 0), .int (v 1), .ref 91, .ref 92, .ref 93, .ref 94, .ref 95, .ref 96, .ref 97, .ref 98, .ref 99, .ref 100, .ref 101, .int (v 2), .ref 102, .ref 103, .ref 104, .ref 105, .ref 106, .ref 107, .ref 108, .int (v 3), .ref 109, .int (v 4), .ref 110, .ref 111, .int (v 5), .ref 112, .int (nI l), .int (nI b), .int (nI 1), .ref 113, .int (nI k), .ref 114, .ref 115, .ref 116, .ref 117]) fX12_readNumber_310 rfl (lt_k n2 (by decide)) (xset_same _ _ _) (Nat.le_of_ble_eq_true rfl) rfl rfl rfl dX12_readNumber_112 ?_
      refine AX.iload_n (pc := 115) dX12_readNumber_115 rfl ?_
      refine AX.iret (pc := 116) dX12_readNumber_116 rfl rfl (by decide) (by decide) ?_
      have sx : Same [87] h2 (xset (xset h2 87 (.inr (11, [.ref 88, .ref 89, .ref 90, .int (v 0), .int (v 1), .ref 91, .ref 92, .ref 93, .ref 94, .ref 95, .ref 96, .ref 97, .ref 98, .ref 99, .ref 100, .ref 101, .int (v 2), .ref 102, .ref 103, .ref 104, .ref 105, .ref 106, .ref 107, .ref 108, .int (v 3), .ref 109, .int (v 4), .ref 110, .ref 111, .int (v 5), .ref 112, .int (nI l), .int (nI (b + 1)), .int (nI 1), .ref 113, .int (nI k), .ref 114, .ref 115, .ref 116, .ref 117]))) 87 (.inr (11, [.ref 88, .ref 89, .ref 90, .int (v 0), .int (v 1), .ref 91, .ref 92, .ref 93, .ref 94, .ref 95, .ref 96, .ref 97, .ref 98, .ref 99, .ref 100, .ref 101, .int (v 2), .ref 102, .ref 103, .ref 104, .ref 105, .ref 106, .ref 107, .ref 108, .int (v 3), .ref 109, .int (v 4), .ref 110, .ref 111, .int (v 5), .ref 112, .int (nI l), .int (nI b), .int (nI 1), .ref 113, .int (nI k), .ref 114, .ref 115, .ref 116, .ref 117]))) := Same.set (Same.set (Same.rf) (by simp)) (by simp)
      refine ⟨s2.trans sx, ?_⟩
      rw [if_neg (show ¬ (1 ≤ y b - 48 ∧ y b - 48 ≤ 20) by omega)]
      exact ⟨⟨_, rfl⟩, xset_same _ _ _⟩
    by_cases g : 1 ≤ y b - 48 ∧ y b - 48 ≤ 20
    · have hm : nmN y l b = (1, y b - 48) := by unfold nmN; rw [if_pos d1, if_neg d2]
      rw [hm]
      dsimp only
      refine AX.aload_n (pc := 0) dX12_readNumber_0 rfl ?_
      refine AX.getf (pc := 1) fX12_readNumber_310 (lt_k hn (by decide)) hO rfl dX12_readNumber_1 ?_
      refine AX.istore_n (pc := 4) (L' := [.ref 87, .int (nI b), .null, .null]) dX12_readNumber_4 (by decide) rfl ?_
      refine AX.iconst (pc := 5) (v := nI 0) dX12_readNumber_5 (by decide) ?_
      refine AX.istore_n (pc := 6) (L' := [.ref 87, .int (nI b), .int (nI 0), .null]) dX12_readNumber_6 (by decide) rfl ?_
      refine AX.aload_n (pc := 7) dX12_readNumber_7 rfl ?_
      refine AX.aload_n (pc := 8) dX12_readNumber_8 rfl ?_
      refine AX.callV (pc := 9) (M2 := M_X12_here) (As := []) (rest := [.ref 87]) (c_hereIn w h (y := y) hn hO hT (by omega)) xc_X12_readNumber__X12_here gX12_readNumber_X12_here (ci := 11) rfl (lt_k hn (by decide)) hO rfl (Nat.le_of_ble_eq_true rfl) dX12_readNumber_9 ?_
      rintro _ h9 ⟨rfl, e9⟩
      have e9 := e9.symm
      subst e9
      show AX w M_X12_readNumber 0 0 12 [.ref 87, .int (nI b), .int (nI 0), .null] [.int (nI (y b)), .ref 87] _ _
      refine AX.i2l (pc := 12) dX12_readNumber_12 ?_
      refine AX.ldc2 (pc := 13) (v := 48) dX12_readNumber_13 cX12_readNumber_320 ?_
      refine AX.ldc2 (pc := 16) (v := 57) dX12_readNumber_16 cX12_readNumber_322 ?_
      refine AX.callS (pc := 19) (M2 := M_X12_in) (As := [.long ((nI (y b)).toInt64), .long 48, .long 57]) (rest := [.ref 87]) (c_in w h ((nI (y b)).toInt64) (48) (57)) xc_X12_readNumber__X12_in gX12_readNumber_X12_in rfl (Nat.le_of_ble_eq_true rfl) dX12_readNumber_19 ?_
      rintro _ h9 ⟨rfl, e9⟩
      have e9 := e9.symm
      subst e9
      rw [decide_eq_true ((in_iff (L := 48) (H := 57) (by decide) (by decide)).mpr (by unfold inR; rw [iN (y b) (by omega)]; omega))]
      show AX w M_X12_readNumber 0 0 22 [.ref 87, .int (nI b), .int (nI 0), .null] [.int (bI true), .ref 87] _ _
      refine AX.if_neB (pc := 22) (tgt := 29) dX12_readNumber_22 (by decide) (fun hc22 => ?_) (fun q => absurd q (by decide))
      refine AX.iconst (pc := 29) (v := nI 0) dX12_readNumber_29 (by decide) ?_
      refine AX.putf (pc := 30) (fs' := [.ref 88, .ref 89, .ref 90, .int (v 0), .int (v 1), .ref 91, .ref 92, .ref 93, .ref 94, .ref 95, .ref 96, .ref 97, .ref 98, .ref 99, .ref 100, .ref 101, .int (v 2), .ref 102, .ref 103, .ref 104, .ref 105, .ref 106, .ref 107, .ref 108, .int (v 3), .ref 109, .int (v 4), .ref 110, .ref 111, .int (v 5), .ref 112, .int (nI l), .int (nI b), .int (nI 0), .ref 113, .int (nI k), .ref 114, .ref 115, .ref 116, .ref 117]) fX12_readNumber_313 rfl (lt_k hn (by decide)) hO (Nat.le_of_ble_eq_true rfl) rfl rfl rfl dX12_readNumber_30 ?_
      refine AX.iconst (pc := 33) (v := nI 0) dX12_readNumber_33 (by decide) ?_
      refine AX.istore_n (pc := 34) (L' := [.ref 87, .int (nI b), .int (nI 0), .int (nI 0)]) dX12_readNumber_34 (by decide) rfl ?_
      refine AX.iload_n (pc := 35) dX12_readNumber_35 rfl ?_
      refine AX.iconst (pc := 36) (v := nI 2) dX12_readNumber_36 (by decide) ?_
      refine AX.icmp_geN (pc := 37) (tgt := 86) dX12_readNumber_37 (by decide) (by decide) (by decide) (fun q => absurd q (by decide)) (fun hc37 => ?_)
      obtain ⟨h1, eh⟩ : ∃ z, z = (xset h 87 (.inr (11, [.ref 88, .ref 89, .ref 90, .int (v 0), .int (v 1), .ref 91, .ref 92, .ref 93, .ref 94, .ref 95, .ref 96, .ref 97, .ref 98, .ref 99, .ref 100, .ref 101, .int (v 2), .ref 102, .ref 103, .ref 104, .ref 105, .ref 106, .ref 107, .ref 108, .int (v 3), .ref 109, .int (v 4), .ref 110, .ref 111, .int (v 5), .ref 112, .int (nI l), .int (nI b), .int (nI 0), .ref 113, .int (nI k), .ref 114, .ref 115, .ref 116, .ref 117]))) := ⟨_, rfl⟩
      have O1 : TM h1 v l b (nI 0) k := by rw [eh]; exact (xset_same _ _ _)
      have q1 : Same [87] h h1 := by rw [eh]; exact Same.set (Same.rf) (by simp)
      rw [← eh]
      clear eh
      have s1 : Same [87] h h1 := q1
      have n1 := s1.le hn
      have T1 := hT.same s1 (by simp)
      refine AX.aload_n (pc := 40) dX12_readNumber_40 rfl ?_
      refine AX.callV (pc := 41) (M2 := M_X12_here) (As := []) (rest := []) (c_hereIn w h1 (y := y) n1 O1 T1 (by omega)) xc_X12_readNumber__X12_here gX12_readNumber_X12_here (ci := 11) rfl (lt_k n1 (by decide)) O1 rfl (Nat.le_of_ble_eq_true rfl) dX12_readNumber_41 ?_
      rintro _ h9 ⟨rfl, e9⟩
      have e9 := e9.symm
      subst e9
      show AX w M_X12_readNumber 0 0 44 [.ref 87, .int (nI b), .int (nI 0), .int (nI 0)] [.int (nI (y b))] _ _
      refine AX.i2l (pc := 44) dX12_readNumber_44 ?_
      refine AX.ldc2 (pc := 45) (v := 48) dX12_readNumber_45 cX12_readNumber_320 ?_
      refine AX.ldc2 (pc := 48) (v := 57) dX12_readNumber_48 cX12_readNumber_322 ?_
      refine AX.callS (pc := 51) (M2 := M_X12_in) (As := [.long ((nI (y b)).toInt64), .long 48, .long 57]) (rest := []) (c_in w h1 ((nI (y b)).toInt64) (48) (57)) xc_X12_readNumber__X12_in gX12_readNumber_X12_in rfl (Nat.le_of_ble_eq_true rfl) dX12_readNumber_51 ?_
      rintro _ h9 ⟨rfl, e9⟩
      have e9 := e9.symm
      subst e9
      rw [decide_eq_true ((in_iff (L := 48) (H := 57) (by decide) (by decide)).mpr (by unfold inR; rw [iN (y b) (by omega)]; omega))]
      show AX w M_X12_readNumber 0 0 54 [.ref 87, .int (nI b), .int (nI 0), .int (nI 0)] [.int (bI true)] _ _
      refine AX.if_eqB (pc := 54) (tgt := 86) dX12_readNumber_54 (by decide) (fun q => absurd q (by decide)) (fun hc54 => ?_)
      refine AX.bipush (pc := 57) (v := nI 10) dX12_readNumber_57 (by decide) ?_
      refine AX.iload_n (pc := 59) dX12_readNumber_59 rfl ?_
      refine AX.imulN (pc := 60) (c := 0) dX12_readNumber_60 rfl ?_
      refine AX.aload_n (pc := 61) dX12_readNumber_61 rfl ?_
      refine AX.callV (pc := 62) (M2 := M_X12_here) (As := []) (rest := [.int (nI 0)]) (c_hereIn w h1 (y := y) n1 O1 T1 (by omega)) xc_X12_readNumber__X12_here gX12_readNumber_X12_here (ci := 11) rfl (lt_k n1 (by decide)) O1 rfl (Nat.le_of_ble_eq_true rfl) dX12_readNumber_62 ?_
      rintro _ h9 ⟨rfl, e9⟩
      have e9 := e9.symm
      subst e9
      show AX w M_X12_readNumber 0 0 65 [.ref 87, .int (nI b), .int (nI 0), .int (nI 0)] [.int (nI (y b)), .int (nI 0)] _ _
      refine AX.iaddN (pc := 65) (c := y b) dX12_readNumber_65 (Nat.zero_add _) ?_
      refine AX.bipush (pc := 66) (v := nI 48) dX12_readNumber_66 (by decide) ?_
      refine AX.isubN (pc := 68) (c := y b - 48) dX12_readNumber_68 (by omega) ?_
      refine AX.istore_n (pc := 69) (L' := [.ref 87, .int (nI b), .int (nI (y b - 48)), .int (nI 0)]) dX12_readNumber_69 (by decide) rfl ?_
      refine AX.aload_n (pc := 70) dX12_readNumber_70 rfl ?_
      refine AX.dup (pc := 71) dX12_readNumber_71 rfl ?_
      refine AX.getf (pc := 72) fX12_readNumber_310 (lt_k n1 (by decide)) O1 rfl dX12_readNumber_72 ?_
      refine AX.iconst (pc := 75) (v := nI 1) dX12_readNumber_75 (by decide) ?_
      refine AX.iaddN (pc := 76) (c := b + 1) dX12_readNumber_76 rfl ?_
      refine AX.putf (pc := 77) (fs' := [.ref 88, .ref 89, .ref 90, .int (v 0), .int (v 1), .ref 91, .ref 92, .ref 93, .ref 94, .ref 95, .ref 96, .ref 97, .ref 98, .ref 99, .ref 100, .ref 101, .int (v 2), .ref 102, .ref 103, .ref 104, .ref 105, .ref 106, .ref 107, .ref 108, .int (v 3), .ref 109, .int (v 4), .ref 110, .ref 111, .int (v 5), .ref 112, .int (nI l), .int (nI (b + 1)), .int (nI 0), .ref 113, .int (nI k), .ref 114, .ref 115, .ref 116, .ref 117]) fX12_readNumber_310 rfl (lt_k n1 (by decide)) O1 (Nat.le_of_ble_eq_true rfl) rfl rfl rfl dX12_readNumber_77 ?_
      refine AX.iincN (c := 1) (pc := 80) (L' := [.ref 87, .int (nI b), .int (nI (y b - 48)), .int (nI 1)]) dX12_readNumber_80 rfl (inc1 _) (by decide) rfl ?_
      refine AX.goto (pc := 83) (tgt := 35) dX12_readNumber_83 (by decide) ?_
      refine AX.iload_n (pc := 35) dX12_readNumber_35 rfl ?_
      refine AX.iconst (pc := 36) (v := nI 2) dX12_readNumber_36 (by decide) ?_
      refine AX.icmp_geN (pc := 37) (tgt := 86) dX12_readNumber_37 (by decide) (by decide) (by decide) (fun q => absurd q (by decide)) (fun hc37 => ?_)
      obtain ⟨h2, eh⟩ : ∃ z, z = (xset h1 87 (.inr (11, [.ref 88, .ref 89, .ref 90, .int (v 0), .int (v 1), .ref 91, .ref 92, .ref 93, .ref 94, .ref 95, .ref 96, .ref 97, .ref 98, .ref 99, .ref 100, .ref 101, .int (v 2), .ref 102, .ref 103, .ref 104, .ref 105, .ref 106, .ref 107, .ref 108, .int (v 3), .ref 109, .int (v 4), .ref 110, .ref 111, .int (v 5), .ref 112, .int (nI l), .int (nI (b + 1)), .int (nI 0), .ref 113, .int (nI k), .ref 114, .ref 115, .ref 116, .ref 117]))) := ⟨_, rfl⟩
      have O2 : TM h2 v l (b + 1) (nI 0) k := by rw [eh]; exact (xset_same _ _ _)
      have q2 : Same [87] h1 h2 := by rw [eh]; exact Same.set (Same.rf) (by simp)
      rw [← eh]
      clear eh
      have s2 : Same [87] h h2 := s1.trans q2
      have n2 := s2.le hn
      have T2 := hT.same s2 (by simp)
      refine AX.aload_n (pc := 40) dX12_readNumber_40 rfl ?_
      refine AX.callV (pc := 41) (M2 := M_X12_here) (As := []) (rest := []) (c_hereOut w h2 (y := y) n2 O2 T2 (by omega) hl60 (by omega)) xc_X12_readNumber__X12_here gX12_readNumber_X12_here (ci := 11) rfl (lt_k n2 (by decide)) O2 rfl (Nat.le_of_ble_eq_true rfl) dX12_readNumber_41 ?_
      rintro _ h9 ⟨rfl, e9⟩
      have e9 := e9.symm
      subst e9
      show AX w M_X12_readNumber 0 0 44 [.ref 87, .int (nI b), .int (nI (y b - 48)), .int (nI 1)] [.int (-1 : Int32)] _ _
      refine AX.i2l (pc := 44) dX12_readNumber_44 ?_
      refine AX.ldc2 (pc := 45) (v := 48) dX12_readNumber_45 cX12_readNumber_320 ?_
      refine AX.ldc2 (pc := 48) (v := 57) dX12_readNumber_48 cX12_readNumber_322 ?_
      refine AX.callS (pc := 51) (M2 := M_X12_in) (As := [.long ((-1 : Int32).toInt64), .long 48, .long 57]) (rest := []) (c_in w h2 ((-1 : Int32).toInt64) (48) (57)) xc_X12_readNumber__X12_in gX12_readNumber_X12_in rfl (Nat.le_of_ble_eq_true rfl) dX12_readNumber_51 ?_
      rintro _ h9 ⟨rfl, e9⟩
      have e9 := e9.symm
      subst e9
      rw [decide_eq_false (p := (48 : Int64).toInt ≤ ((-1 : Int32).toInt64 : Int64).toInt ∧ ((-1 : Int32).toInt64 : Int64).toInt ≤ (57 : Int64).toInt) (fun q => absurd ((in_iff (L := 48) (H := 57) (by decide) (by decide)).mp q) (by unfold inR; rw [iM1]; omega))]
      show AX w M_X12_readNumber 0 0 54 [.ref 87, .int (nI b), .int (nI (y b - 48)), .int (nI 1)] [.int (bI false)] _ _
      refine AX.if_eqB (pc := 54) (tgt := 86) dX12_readNumber_54 (by decide) (fun hc54 => ?_) (fun q => absurd q (by decide))
      refine AX.aload_n (pc := 86) dX12_readNumber_86 rfl ?_
      refine AX.getf (pc := 87) fX12_readNumber_313 (lt_k n2 (by decide)) O2 rfl dX12_readNumber_87 ?_
      refine AX.if_neN (pc := 90) (tgt := 115) dX12_readNumber_90 (by decide) (by decide) (fun q => absurd q (by decide)) (fun hc90 => ?_)
      refine AX.iload_n (pc := 93) dX12_readNumber_93 rfl ?_
      refine AX.i2l (pc := 94) dX12_readNumber_94 ?_
      refine AX.lconst (pc := 95) (v := 1) dX12_readNumber_95 (by decide) ?_
      refine AX.ldc2 (pc := 96) (v := 20) dX12_readNumber_96 cX12_readNumber_324 ?_
      refine AX.callS (pc := 99) (M2 := M_X12_in) (As := [.long ((nI (y b - 48)).toInt64), .long 1, .long 20]) (rest := []) (c_in w h2 ((nI (y b - 48)).toInt64) (1) (20)) xc_X12_readNumber__X12_in gX12_readNumber_X12_in rfl (Nat.le_of_ble_eq_true rfl) dX12_readNumber_99 ?_
      rintro _ h9 ⟨rfl, e9⟩
      have e9 := e9.symm
      subst e9
      rw [decide_eq_true ((in_iff (L := 1) (H := 20) (by decide) (by decide)).mpr (by unfold inR; rw [iN (y b - 48) (by omega)]; omega))]
      show AX w M_X12_readNumber 0 0 102 [.ref 87, .int (nI b), .int (nI (y b - 48)), .int (nI 1)] [.int (bI true)] _ _
      refine AX.if_neB (pc := 102) (tgt := 115) dX12_readNumber_102 (by decide) (fun hc102 => ?_) (fun q => absurd q (by decide))
      refine AX.iload_n (pc := 115) dX12_readNumber_115 rfl ?_
      refine AX.iret (pc := 116) dX12_readNumber_116 rfl rfl (by decide) (by decide) ?_
      refine ⟨s2, ?_⟩
      rw [if_pos (show 1 ≤ y b - 48 ∧ y b - 48 ≤ 20 by omega)]
      exact ⟨rfl, O2⟩
    have hm : nmN y l b = (1, y b - 48) := by unfold nmN; rw [if_pos d1, if_neg d2]
    rw [hm]
    dsimp only
    refine AX.aload_n (pc := 0) dX12_readNumber_0 rfl ?_
    refine AX.getf (pc := 1) fX12_readNumber_310 (lt_k hn (by decide)) hO rfl dX12_readNumber_1 ?_
    refine AX.istore_n (pc := 4) (L' := [.ref 87, .int (nI b), .null, .null]) dX12_readNumber_4 (by decide) rfl ?_
    refine AX.iconst (pc := 5) (v := nI 0) dX12_readNumber_5 (by decide) ?_
    refine AX.istore_n (pc := 6) (L' := [.ref 87, .int (nI b), .int (nI 0), .null]) dX12_readNumber_6 (by decide) rfl ?_
    refine AX.aload_n (pc := 7) dX12_readNumber_7 rfl ?_
    refine AX.aload_n (pc := 8) dX12_readNumber_8 rfl ?_
    refine AX.callV (pc := 9) (M2 := M_X12_here) (As := []) (rest := [.ref 87]) (c_hereIn w h (y := y) hn hO hT (by omega)) xc_X12_readNumber__X12_here gX12_readNumber_X12_here (ci := 11) rfl (lt_k hn (by decide)) hO rfl (Nat.le_of_ble_eq_true rfl) dX12_readNumber_9 ?_
    rintro _ h9 ⟨rfl, e9⟩
    have e9 := e9.symm
    subst e9
    show AX w M_X12_readNumber 0 0 12 [.ref 87, .int (nI b), .int (nI 0), .null] [.int (nI (y b)), .ref 87] _ _
    refine AX.i2l (pc := 12) dX12_readNumber_12 ?_
    refine AX.ldc2 (pc := 13) (v := 48) dX12_readNumber_13 cX12_readNumber_320 ?_
    refine AX.ldc2 (pc := 16) (v := 57) dX12_readNumber_16 cX12_readNumber_322 ?_
    refine AX.callS (pc := 19) (M2 := M_X12_in) (As := [.long ((nI (y b)).toInt64), .long 48, .long 57]) (rest := [.ref 87]) (c_in w h ((nI (y b)).toInt64) (48) (57)) xc_X12_readNumber__X12_in gX12_readNumber_X12_in rfl (Nat.le_of_ble_eq_true rfl) dX12_readNumber_19 ?_
    rintro _ h9 ⟨rfl, e9⟩
    have e9 := e9.symm
    subst e9
    rw [decide_eq_true ((in_iff (L := 48) (H := 57) (by decide) (by decide)).mpr (by unfold inR; rw [iN (y b) (by omega)]; omega))]
    show AX w M_X12_readNumber 0 0 22 [.ref 87, .int (nI b), .int (nI 0), .null] [.int (bI true), .ref 87] _ _
    refine AX.if_neB (pc := 22) (tgt := 29) dX12_readNumber_22 (by decide) (fun hc22 => ?_) (fun q => absurd q (by decide))
    refine AX.iconst (pc := 29) (v := nI 0) dX12_readNumber_29 (by decide) ?_
    refine AX.putf (pc := 30) (fs' := [.ref 88, .ref 89, .ref 90, .int (v 0), .int (v 1), .ref 91, .ref 92, .ref 93, .ref 94, .ref 95, .ref 96, .ref 97, .ref 98, .ref 99, .ref 100, .ref 101, .int (v 2), .ref 102, .ref 103, .ref 104, .ref 105, .ref 106, .ref 107, .ref 108, .int (v 3), .ref 109, .int (v 4), .ref 110, .ref 111, .int (v 5), .ref 112, .int (nI l), .int (nI b), .int (nI 0), .ref 113, .int (nI k), .ref 114, .ref 115, .ref 116, .ref 117]) fX12_readNumber_313 rfl (lt_k hn (by decide)) hO (Nat.le_of_ble_eq_true rfl) rfl rfl rfl dX12_readNumber_30 ?_
    refine AX.iconst (pc := 33) (v := nI 0) dX12_readNumber_33 (by decide) ?_
    refine AX.istore_n (pc := 34) (L' := [.ref 87, .int (nI b), .int (nI 0), .int (nI 0)]) dX12_readNumber_34 (by decide) rfl ?_
    refine AX.iload_n (pc := 35) dX12_readNumber_35 rfl ?_
    refine AX.iconst (pc := 36) (v := nI 2) dX12_readNumber_36 (by decide) ?_
    refine AX.icmp_geN (pc := 37) (tgt := 86) dX12_readNumber_37 (by decide) (by decide) (by decide) (fun q => absurd q (by decide)) (fun hc37 => ?_)
    obtain ⟨h1, eh⟩ : ∃ z, z = (xset h 87 (.inr (11, [.ref 88, .ref 89, .ref 90, .int (v 0), .int (v 1), .ref 91, .ref 92, .ref 93, .ref 94, .ref 95, .ref 96, .ref 97, .ref 98, .ref 99, .ref 100, .ref 101, .int (v 2), .ref 102, .ref 103, .ref 104, .ref 105, .ref 106, .ref 107, .ref 108, .int (v 3), .ref 109, .int (v 4), .ref 110, .ref 111, .int (v 5), .ref 112, .int (nI l), .int (nI b), .int (nI 0), .ref 113, .int (nI k), .ref 114, .ref 115, .ref 116, .ref 117]))) := ⟨_, rfl⟩
    have O1 : TM h1 v l b (nI 0) k := by rw [eh]; exact (xset_same _ _ _)
    have q1 : Same [87] h h1 := by rw [eh]; exact Same.set (Same.rf) (by simp)
    rw [← eh]
    clear eh
    have s1 : Same [87] h h1 := q1
    have n1 := s1.le hn
    have T1 := hT.same s1 (by simp)
    refine AX.aload_n (pc := 40) dX12_readNumber_40 rfl ?_
    refine AX.callV (pc := 41) (M2 := M_X12_here) (As := []) (rest := []) (c_hereIn w h1 (y := y) n1 O1 T1 (by omega)) xc_X12_readNumber__X12_here gX12_readNumber_X12_here (ci := 11) rfl (lt_k n1 (by decide)) O1 rfl (Nat.le_of_ble_eq_true rfl) dX12_readNumber_41 ?_
    rintro _ h9 ⟨rfl, e9⟩
    have e9 := e9.symm
    subst e9
    show AX w M_X12_readNumber 0 0 44 [.ref 87, .int (nI b), .int (nI 0), .int (nI 0)] [.int (nI (y b))] _ _
    refine AX.i2l (pc := 44) dX12_readNumber_44 ?_
    refine AX.ldc2 (pc := 45) (v := 48) dX12_readNumber_45 cX12_readNumber_320 ?_
    refine AX.ldc2 (pc := 48) (v := 57) dX12_readNumber_48 cX12_readNumber_322 ?_
    refine AX.callS (pc := 51) (M2 := M_X12_in) (As := [.long ((nI (y b)).toInt64), .long 48, .long 57]) (rest := []) (c_in w h1 ((nI (y b)).toInt64) (48) (57)) xc_X12_readNumber__X12_in gX12_readNumber_X12_in rfl (Nat.le_of_ble_eq_true rfl) dX12_readNumber_51 ?_
    rintro _ h9 ⟨rfl, e9⟩
    have e9 := e9.symm
    subst e9
    rw [decide_eq_true ((in_iff (L := 48) (H := 57) (by decide) (by decide)).mpr (by unfold inR; rw [iN (y b) (by omega)]; omega))]
    show AX w M_X12_readNumber 0 0 54 [.ref 87, .int (nI b), .int (nI 0), .int (nI 0)] [.int (bI true)] _ _
    refine AX.if_eqB (pc := 54) (tgt := 86) dX12_readNumber_54 (by decide) (fun q => absurd q (by decide)) (fun hc54 => ?_)
    refine AX.bipush (pc := 57) (v := nI 10) dX12_readNumber_57 (by decide) ?_
    refine AX.iload_n (pc := 59) dX12_readNumber_59 rfl ?_
    refine AX.imulN (pc := 60) (c := 0) dX12_readNumber_60 rfl ?_
    refine AX.aload_n (pc := 61) dX12_readNumber_61 rfl ?_
    refine AX.callV (pc := 62) (M2 := M_X12_here) (As := []) (rest := [.int (nI 0)]) (c_hereIn w h1 (y := y) n1 O1 T1 (by omega)) xc_X12_readNumber__X12_here gX12_readNumber_X12_here (ci := 11) rfl (lt_k n1 (by decide)) O1 rfl (Nat.le_of_ble_eq_true rfl) dX12_readNumber_62 ?_
    rintro _ h9 ⟨rfl, e9⟩
    have e9 := e9.symm
    subst e9
    show AX w M_X12_readNumber 0 0 65 [.ref 87, .int (nI b), .int (nI 0), .int (nI 0)] [.int (nI (y b)), .int (nI 0)] _ _
    refine AX.iaddN (pc := 65) (c := y b) dX12_readNumber_65 (Nat.zero_add _) ?_
    refine AX.bipush (pc := 66) (v := nI 48) dX12_readNumber_66 (by decide) ?_
    refine AX.isubN (pc := 68) (c := y b - 48) dX12_readNumber_68 (by omega) ?_
    refine AX.istore_n (pc := 69) (L' := [.ref 87, .int (nI b), .int (nI (y b - 48)), .int (nI 0)]) dX12_readNumber_69 (by decide) rfl ?_
    refine AX.aload_n (pc := 70) dX12_readNumber_70 rfl ?_
    refine AX.dup (pc := 71) dX12_readNumber_71 rfl ?_
    refine AX.getf (pc := 72) fX12_readNumber_310 (lt_k n1 (by decide)) O1 rfl dX12_readNumber_72 ?_
    refine AX.iconst (pc := 75) (v := nI 1) dX12_readNumber_75 (by decide) ?_
    refine AX.iaddN (pc := 76) (c := b + 1) dX12_readNumber_76 rfl ?_
    refine AX.putf (pc := 77) (fs' := [.ref 88, .ref 89, .ref 90, .int (v 0), .int (v 1), .ref 91, .ref 92, .ref 93, .ref 94, .ref 95, .ref 96, .ref 97, .ref 98, .ref 99, .ref 100, .ref 101, .int (v 2), .ref 102, .ref 103, .ref 104, .ref 105, .ref 106, .ref 107, .ref 108, .int (v 3), .ref 109, .int (v 4), .ref 110, .ref 111, .int (v 5), .ref 112, .int (nI l), .int (nI (b + 1)), .int (nI 0), .ref 113, .int (nI k), .ref 114, .ref 115, .ref 116, .ref 117]) fX12_readNumber_310 rfl (lt_k n1 (by decide)) O1 (Nat.le_of_ble_eq_true rfl) rfl rfl rfl dX12_readNumber_77 ?_
    refine AX.iincN (c := 1) (pc := 80) (L' := [.ref 87, .int (nI b), .int (nI (y b - 48)), .int (nI 1)]) dX12_readNumber_80 rfl (inc1 _) (by decide) rfl ?_
    refine AX.goto (pc := 83) (tgt := 35) dX12_readNumber_83 (by decide) ?_
    refine AX.iload_n (pc := 35) dX12_readNumber_35 rfl ?_
    refine AX.iconst (pc := 36) (v := nI 2) dX12_readNumber_36 (by decide) ?_
    refine AX.icmp_geN (pc := 37) (tgt := 86) dX12_readNumber_37 (by decide) (by decide) (by decide) (fun q => absurd q (by decide)) (fun hc37 => ?_)
    obtain ⟨h2, eh⟩ : ∃ z, z = (xset h1 87 (.inr (11, [.ref 88, .ref 89, .ref 90, .int (v 0), .int (v 1), .ref 91, .ref 92, .ref 93, .ref 94, .ref 95, .ref 96, .ref 97, .ref 98, .ref 99, .ref 100, .ref 101, .int (v 2), .ref 102, .ref 103, .ref 104, .ref 105, .ref 106, .ref 107, .ref 108, .int (v 3), .ref 109, .int (v 4), .ref 110, .ref 111, .int (v 5), .ref 112, .int (nI l), .int (nI (b + 1)), .int (nI 0), .ref 113, .int (nI k), .ref 114, .ref 115, .ref 116, .ref 117]))) := ⟨_, rfl⟩
    have O2 : TM h2 v l (b + 1) (nI 0) k := by rw [eh]; exact (xset_same _ _ _)
    have q2 : Same [87] h1 h2 := by rw [eh]; exact Same.set (Same.rf) (by simp)
    rw [← eh]
    clear eh
    have s2 : Same [87] h h2 := s1.trans q2
    have n2 := s2.le hn
    have T2 := hT.same s2 (by simp)
    refine AX.aload_n (pc := 40) dX12_readNumber_40 rfl ?_
    refine AX.callV (pc := 41) (M2 := M_X12_here) (As := []) (rest := []) (c_hereOut w h2 (y := y) n2 O2 T2 (by omega) hl60 (by omega)) xc_X12_readNumber__X12_here gX12_readNumber_X12_here (ci := 11) rfl (lt_k n2 (by decide)) O2 rfl (Nat.le_of_ble_eq_true rfl) dX12_readNumber_41 ?_
    rintro _ h9 ⟨rfl, e9⟩
    have e9 := e9.symm
    subst e9
    show AX w M_X12_readNumber 0 0 44 [.ref 87, .int (nI b), .int (nI (y b - 48)), .int (nI 1)] [.int (-1 : Int32)] _ _
    refine AX.i2l (pc := 44) dX12_readNumber_44 ?_
    refine AX.ldc2 (pc := 45) (v := 48) dX12_readNumber_45 cX12_readNumber_320 ?_
    refine AX.ldc2 (pc := 48) (v := 57) dX12_readNumber_48 cX12_readNumber_322 ?_
    refine AX.callS (pc := 51) (M2 := M_X12_in) (As := [.long ((-1 : Int32).toInt64), .long 48, .long 57]) (rest := []) (c_in w h2 ((-1 : Int32).toInt64) (48) (57)) xc_X12_readNumber__X12_in gX12_readNumber_X12_in rfl (Nat.le_of_ble_eq_true rfl) dX12_readNumber_51 ?_
    rintro _ h9 ⟨rfl, e9⟩
    have e9 := e9.symm
    subst e9
    rw [decide_eq_false (p := (48 : Int64).toInt ≤ ((-1 : Int32).toInt64 : Int64).toInt ∧ ((-1 : Int32).toInt64 : Int64).toInt ≤ (57 : Int64).toInt) (fun q => absurd ((in_iff (L := 48) (H := 57) (by decide) (by decide)).mp q) (by unfold inR; rw [iM1]; omega))]
    show AX w M_X12_readNumber 0 0 54 [.ref 87, .int (nI b), .int (nI (y b - 48)), .int (nI 1)] [.int (bI false)] _ _
    refine AX.if_eqB (pc := 54) (tgt := 86) dX12_readNumber_54 (by decide) (fun hc54 => ?_) (fun q => absurd q (by decide))
    refine AX.aload_n (pc := 86) dX12_readNumber_86 rfl ?_
    refine AX.getf (pc := 87) fX12_readNumber_313 (lt_k n2 (by decide)) O2 rfl dX12_readNumber_87 ?_
    refine AX.if_neN (pc := 90) (tgt := 115) dX12_readNumber_90 (by decide) (by decide) (fun q => absurd q (by decide)) (fun hc90 => ?_)
    refine AX.iload_n (pc := 93) dX12_readNumber_93 rfl ?_
    refine AX.i2l (pc := 94) dX12_readNumber_94 ?_
    refine AX.lconst (pc := 95) (v := 1) dX12_readNumber_95 (by decide) ?_
    refine AX.ldc2 (pc := 96) (v := 20) dX12_readNumber_96 cX12_readNumber_324 ?_
    refine AX.callS (pc := 99) (M2 := M_X12_in) (As := [.long ((nI (y b - 48)).toInt64), .long 1, .long 20]) (rest := []) (c_in w h2 ((nI (y b - 48)).toInt64) (1) (20)) xc_X12_readNumber__X12_in gX12_readNumber_X12_in rfl (Nat.le_of_ble_eq_true rfl) dX12_readNumber_99 ?_
    rintro _ h9 ⟨rfl, e9⟩
    have e9 := e9.symm
    subst e9
    rw [decide_eq_false (p := (1 : Int64).toInt ≤ ((nI (y b - 48)).toInt64 : Int64).toInt ∧ ((nI (y b - 48)).toInt64 : Int64).toInt ≤ (20 : Int64).toInt) (fun q => absurd ((in_iff (L := 1) (H := 20) (by decide) (by decide)).mp q) (by unfold inR; rw [iN (y b - 48) (by omega)]; omega))]
    show AX w M_X12_readNumber 0 0 102 [.ref 87, .int (nI b), .int (nI (y b - 48)), .int (nI 1)] [.int (bI false)] _ _
    refine AX.if_neB (pc := 102) (tgt := 115) dX12_readNumber_102 (by decide) (fun q => absurd q (by decide)) (fun hc102 => ?_)
    refine AX.aload_n (pc := 105) dX12_readNumber_105 rfl ?_
    refine AX.iconst (pc := 106) (v := nI 1) dX12_readNumber_106 (by decide) ?_
    refine AX.putf (pc := 107) (fs' := [.ref 88, .ref 89, .ref 90, .int (v 0), .int (v 1), .ref 91, .ref 92, .ref 93, .ref 94, .ref 95, .ref 96, .ref 97, .ref 98, .ref 99, .ref 100, .ref 101, .int (v 2), .ref 102, .ref 103, .ref 104, .ref 105, .ref 106, .ref 107, .ref 108, .int (v 3), .ref 109, .int (v 4), .ref 110, .ref 111, .int (v 5), .ref 112, .int (nI l), .int (nI (b + 1)), .int (nI 1), .ref 113, .int (nI k), .ref 114, .ref 115, .ref 116, .ref 117]) fX12_readNumber_313 rfl (lt_k n2 (by decide)) O2 (Nat.le_of_ble_eq_true rfl) rfl rfl rfl dX12_readNumber_107 ?_
    refine AX.aload_n (pc := 110) dX12_readNumber_110 rfl ?_
    refine AX.iload_n (pc := 111) dX12_readNumber_111 rfl ?_
    refine AX.putf (pc := 112) (h := xset h2 87 (.inr (11, [.ref 88, .ref 89, .ref 90, .int (v 0), .int (v 1), .ref 91, .ref 92, .ref 93, .ref 94, .ref 95, .ref 96, .ref 97, .ref 98, .ref 99, .ref 100, .ref 101, .int (v 2), .ref 102, .ref 103, .ref 104, .ref 105, .ref 106, .ref 107, .ref 108, .int (v 3), .ref 109, .int (v 4), .ref 110, .ref 111, .int (v 5), .ref 112, .int (nI l), .int (nI (b + 1)), .int (nI 1), .ref 113, .int (nI k), .ref 114, .ref 115, .ref 116, .ref 117]))) (a := 87) (fs' := [.ref 88, .ref 89, .ref 90, .int (v 0), .int (v 1), .ref 91, .ref 92, .ref 93, .ref 94, .ref 95, .ref 96, .ref 97, .ref 98, .ref 99, .ref 100, .ref 101, .int (v 2), .ref 102, .ref 103, .ref 104, .ref 105, .ref 106, .ref 107, .ref 108, .int (v 3), .ref 109, .int (v 4), .ref 110, .ref 111, .int (v 5), .ref 112, .int (nI l), .int (nI b), .int (nI 1), .ref 113, .int (nI k), .ref 114, .ref 115, .ref 116, .ref 117]) fX12_readNumber_310 rfl (lt_k n2 (by decide)) (xset_same _ _ _) (Nat.le_of_ble_eq_true rfl) rfl rfl rfl dX12_readNumber_112 ?_
    refine AX.iload_n (pc := 115) dX12_readNumber_115 rfl ?_
    refine AX.iret (pc := 116) dX12_readNumber_116 rfl rfl (by decide) (by decide) ?_
    have sx : Same [87] h2 (xset (xset h2 87 (.inr (11, [.ref 88, .ref 89, .ref 90, .int (v 0), .int (v 1), .ref 91, .ref 92, .ref 93, .ref 94, .ref 95, .ref 96, .ref 97, .ref 98, .ref 99, .ref 100, .ref 101, .int (v 2), .ref 102, .ref 103, .ref 104, .ref 105, .ref 106, .ref 107, .ref 108, .int (v 3), .ref 109, .int (v 4), .ref 110, .ref 111, .int (v 5), .ref 112, .int (nI l), .int (nI (b + 1)), .int (nI 1), .ref 113, .int (nI k), .ref 114, .ref 115, .ref 116, .ref 117]))) 87 (.inr (11, [.ref 88, .ref 89, .ref 90, .int (v 0), .int (v 1), .ref 91, .ref 92, .ref 93, .ref 94, .ref 95, .ref 96, .ref 97, .ref 98, .ref 99, .ref 100, .ref 101, .int (v 2), .ref 102, .ref 103, .ref 104, .ref 105, .ref 106, .ref 107, .ref 108, .int (v 3), .ref 109, .int (v 4), .ref 110, .ref 111, .int (v 5), .ref 112, .int (nI l), .int (nI b), .int (nI 1), .ref 113, .int (nI k), .ref 114, .ref 115, .ref 116, .ref 117]))) := Same.set (Same.set (Same.rf) (by simp)) (by simp)
    refine ⟨s2.trans sx, ?_⟩
    rw [if_neg (show ¬ (1 ≤ y b - 48 ∧ y b - 48 ≤ 20) by omega)]
    exact ⟨⟨_, rfl⟩, xset_same _ _ _⟩
  by_cases x1 : b < l
  · have y1 := (qt_ b x1).2.1
    have hm : nmN y l b = (0, 0) := by unfold nmN; rw [if_neg d1]
    rw [hm]
    dsimp only
    refine AX.aload_n (pc := 0) dX12_readNumber_0 rfl ?_
    refine AX.getf (pc := 1) fX12_readNumber_310 (lt_k hn (by decide)) hO rfl dX12_readNumber_1 ?_
    refine AX.istore_n (pc := 4) (L' := [.ref 87, .int (nI b), .null, .null]) dX12_readNumber_4 (by decide) rfl ?_
    refine AX.iconst (pc := 5) (v := nI 0) dX12_readNumber_5 (by decide) ?_
    refine AX.istore_n (pc := 6) (L' := [.ref 87, .int (nI b), .int (nI 0), .null]) dX12_readNumber_6 (by decide) rfl ?_
    refine AX.aload_n (pc := 7) dX12_readNumber_7 rfl ?_
    refine AX.aload_n (pc := 8) dX12_readNumber_8 rfl ?_
    refine AX.callV (pc := 9) (M2 := M_X12_here) (As := []) (rest := [.ref 87]) (c_hereIn w h (y := y) hn hO hT (by omega)) xc_X12_readNumber__X12_here gX12_readNumber_X12_here (ci := 11) rfl (lt_k hn (by decide)) hO rfl (Nat.le_of_ble_eq_true rfl) dX12_readNumber_9 ?_
    rintro _ h9 ⟨rfl, e9⟩
    have e9 := e9.symm
    subst e9
    show AX w M_X12_readNumber 0 0 12 [.ref 87, .int (nI b), .int (nI 0), .null] [.int (nI (y b)), .ref 87] _ _
    refine AX.i2l (pc := 12) dX12_readNumber_12 ?_
    refine AX.ldc2 (pc := 13) (v := 48) dX12_readNumber_13 cX12_readNumber_320 ?_
    refine AX.ldc2 (pc := 16) (v := 57) dX12_readNumber_16 cX12_readNumber_322 ?_
    refine AX.callS (pc := 19) (M2 := M_X12_in) (As := [.long ((nI (y b)).toInt64), .long 48, .long 57]) (rest := [.ref 87]) (c_in w h ((nI (y b)).toInt64) (48) (57)) xc_X12_readNumber__X12_in gX12_readNumber_X12_in rfl (Nat.le_of_ble_eq_true rfl) dX12_readNumber_19 ?_
    rintro _ h9 ⟨rfl, e9⟩
    have e9 := e9.symm
    subst e9
    rw [decide_eq_false (p := (48 : Int64).toInt ≤ ((nI (y b)).toInt64 : Int64).toInt ∧ ((nI (y b)).toInt64 : Int64).toInt ≤ (57 : Int64).toInt) (fun q => absurd ((in_iff (L := 48) (H := 57) (by decide) (by decide)).mp q) (by unfold inR; rw [iN (y b) (by omega)]; omega))]
    show AX w M_X12_readNumber 0 0 22 [.ref 87, .int (nI b), .int (nI 0), .null] [.int (bI false), .ref 87] _ _
    refine AX.if_neB (pc := 22) (tgt := 29) dX12_readNumber_22 (by decide) (fun q => absurd q (by decide)) (fun hc22 => ?_)
    refine AX.iconst (pc := 25) (v := nI 1) dX12_readNumber_25 (by decide) ?_
    refine AX.goto (pc := 26) (tgt := 30) dX12_readNumber_26 (by decide) ?_
    refine AX.putf (pc := 30) (fs' := [.ref 88, .ref 89, .ref 90, .int (v 0), .int (v 1), .ref 91, .ref 92, .ref 93, .ref 94, .ref 95, .ref 96, .ref 97, .ref 98, .ref 99, .ref 100, .ref 101, .int (v 2), .ref 102, .ref 103, .ref 104, .ref 105, .ref 106, .ref 107, .ref 108, .int (v 3), .ref 109, .int (v 4), .ref 110, .ref 111, .int (v 5), .ref 112, .int (nI l), .int (nI b), .int (nI 1), .ref 113, .int (nI k), .ref 114, .ref 115, .ref 116, .ref 117]) fX12_readNumber_313 rfl (lt_k hn (by decide)) hO (Nat.le_of_ble_eq_true rfl) rfl rfl rfl dX12_readNumber_30 ?_
    refine AX.iconst (pc := 33) (v := nI 0) dX12_readNumber_33 (by decide) ?_
    refine AX.istore_n (pc := 34) (L' := [.ref 87, .int (nI b), .int (nI 0), .int (nI 0)]) dX12_readNumber_34 (by decide) rfl ?_
    refine AX.iload_n (pc := 35) dX12_readNumber_35 rfl ?_
    refine AX.iconst (pc := 36) (v := nI 2) dX12_readNumber_36 (by decide) ?_
    refine AX.icmp_geN (pc := 37) (tgt := 86) dX12_readNumber_37 (by decide) (by decide) (by decide) (fun q => absurd q (by decide)) (fun hc37 => ?_)
    obtain ⟨h1, eh⟩ : ∃ z, z = (xset h 87 (.inr (11, [.ref 88, .ref 89, .ref 90, .int (v 0), .int (v 1), .ref 91, .ref 92, .ref 93, .ref 94, .ref 95, .ref 96, .ref 97, .ref 98, .ref 99, .ref 100, .ref 101, .int (v 2), .ref 102, .ref 103, .ref 104, .ref 105, .ref 106, .ref 107, .ref 108, .int (v 3), .ref 109, .int (v 4), .ref 110, .ref 111, .int (v 5), .ref 112, .int (nI l), .int (nI b), .int (nI 1), .ref 113, .int (nI k), .ref 114, .ref 115, .ref 116, .ref 117]))) := ⟨_, rfl⟩
    have O1 : TM h1 v l b (nI 1) k := by rw [eh]; exact (xset_same _ _ _)
    have q1 : Same [87] h h1 := by rw [eh]; exact Same.set (Same.rf) (by simp)
    rw [← eh]
    clear eh
    have s1 : Same [87] h h1 := q1
    have n1 := s1.le hn
    have T1 := hT.same s1 (by simp)
    refine AX.aload_n (pc := 40) dX12_readNumber_40 rfl ?_
    refine AX.callV (pc := 41) (M2 := M_X12_here) (As := []) (rest := []) (c_hereIn w h1 (y := y) n1 O1 T1 (by omega)) xc_X12_readNumber__X12_here gX12_readNumber_X12_here (ci := 11) rfl (lt_k n1 (by decide)) O1 rfl (Nat.le_of_ble_eq_true rfl) dX12_readNumber_41 ?_
    rintro _ h9 ⟨rfl, e9⟩
    have e9 := e9.symm
    subst e9
    show AX w M_X12_readNumber 0 0 44 [.ref 87, .int (nI b), .int (nI 0), .int (nI 0)] [.int (nI (y b))] _ _
    refine AX.i2l (pc := 44) dX12_readNumber_44 ?_
    refine AX.ldc2 (pc := 45) (v := 48) dX12_readNumber_45 cX12_readNumber_320 ?_
    refine AX.ldc2 (pc := 48) (v := 57) dX12_readNumber_48 cX12_readNumber_322 ?_
    refine AX.callS (pc := 51) (M2 := M_X12_in) (As := [.long ((nI (y b)).toInt64), .long 48, .long 57]) (rest := []) (c_in w h1 ((nI (y b)).toInt64) (48) (57)) xc_X12_readNumber__X12_in gX12_readNumber_X12_in rfl (Nat.le_of_ble_eq_true rfl) dX12_readNumber_51 ?_
    rintro _ h9 ⟨rfl, e9⟩
    have e9 := e9.symm
    subst e9
    rw [decide_eq_false (p := (48 : Int64).toInt ≤ ((nI (y b)).toInt64 : Int64).toInt ∧ ((nI (y b)).toInt64 : Int64).toInt ≤ (57 : Int64).toInt) (fun q => absurd ((in_iff (L := 48) (H := 57) (by decide) (by decide)).mp q) (by unfold inR; rw [iN (y b) (by omega)]; omega))]
    show AX w M_X12_readNumber 0 0 54 [.ref 87, .int (nI b), .int (nI 0), .int (nI 0)] [.int (bI false)] _ _
    refine AX.if_eqB (pc := 54) (tgt := 86) dX12_readNumber_54 (by decide) (fun hc54 => ?_) (fun q => absurd q (by decide))
    refine AX.aload_n (pc := 86) dX12_readNumber_86 rfl ?_
    refine AX.getf (pc := 87) fX12_readNumber_313 (lt_k n1 (by decide)) O1 rfl dX12_readNumber_87 ?_
    refine AX.if_neN (pc := 90) (tgt := 115) dX12_readNumber_90 (by decide) (by decide) (fun hc90 => ?_) (fun q => absurd q (by decide))
    refine AX.iload_n (pc := 115) dX12_readNumber_115 rfl ?_
    refine AX.iret (pc := 116) dX12_readNumber_116 rfl rfl (by decide) (by decide) ?_
    refine ⟨s1, ?_⟩
    rw [if_neg (show ¬ (1 ≤ 0 ∧ 0 ≤ 20) by omega)]
    exact ⟨⟨_, rfl⟩, O1⟩
  have hm : nmN y l b = (0, 0) := by unfold nmN; rw [if_neg d1]
  rw [hm]
  dsimp only
  refine AX.aload_n (pc := 0) dX12_readNumber_0 rfl ?_
  refine AX.getf (pc := 1) fX12_readNumber_310 (lt_k hn (by decide)) hO rfl dX12_readNumber_1 ?_
  refine AX.istore_n (pc := 4) (L' := [.ref 87, .int (nI b), .null, .null]) dX12_readNumber_4 (by decide) rfl ?_
  refine AX.iconst (pc := 5) (v := nI 0) dX12_readNumber_5 (by decide) ?_
  refine AX.istore_n (pc := 6) (L' := [.ref 87, .int (nI b), .int (nI 0), .null]) dX12_readNumber_6 (by decide) rfl ?_
  refine AX.aload_n (pc := 7) dX12_readNumber_7 rfl ?_
  refine AX.aload_n (pc := 8) dX12_readNumber_8 rfl ?_
  refine AX.callV (pc := 9) (M2 := M_X12_here) (As := []) (rest := [.ref 87]) (c_hereOut w h (y := y) hn hO hT (by omega) hl60 (by omega)) xc_X12_readNumber__X12_here gX12_readNumber_X12_here (ci := 11) rfl (lt_k hn (by decide)) hO rfl (Nat.le_of_ble_eq_true rfl) dX12_readNumber_9 ?_
  rintro _ h9 ⟨rfl, e9⟩
  have e9 := e9.symm
  subst e9
  show AX w M_X12_readNumber 0 0 12 [.ref 87, .int (nI b), .int (nI 0), .null] [.int (-1 : Int32), .ref 87] _ _
  refine AX.i2l (pc := 12) dX12_readNumber_12 ?_
  refine AX.ldc2 (pc := 13) (v := 48) dX12_readNumber_13 cX12_readNumber_320 ?_
  refine AX.ldc2 (pc := 16) (v := 57) dX12_readNumber_16 cX12_readNumber_322 ?_
  refine AX.callS (pc := 19) (M2 := M_X12_in) (As := [.long ((-1 : Int32).toInt64), .long 48, .long 57]) (rest := [.ref 87]) (c_in w h ((-1 : Int32).toInt64) (48) (57)) xc_X12_readNumber__X12_in gX12_readNumber_X12_in rfl (Nat.le_of_ble_eq_true rfl) dX12_readNumber_19 ?_
  rintro _ h9 ⟨rfl, e9⟩
  have e9 := e9.symm
  subst e9
  rw [decide_eq_false (p := (48 : Int64).toInt ≤ ((-1 : Int32).toInt64 : Int64).toInt ∧ ((-1 : Int32).toInt64 : Int64).toInt ≤ (57 : Int64).toInt) (fun q => absurd ((in_iff (L := 48) (H := 57) (by decide) (by decide)).mp q) (by unfold inR; rw [iM1]; omega))]
  show AX w M_X12_readNumber 0 0 22 [.ref 87, .int (nI b), .int (nI 0), .null] [.int (bI false), .ref 87] _ _
  refine AX.if_neB (pc := 22) (tgt := 29) dX12_readNumber_22 (by decide) (fun q => absurd q (by decide)) (fun hc22 => ?_)
  refine AX.iconst (pc := 25) (v := nI 1) dX12_readNumber_25 (by decide) ?_
  refine AX.goto (pc := 26) (tgt := 30) dX12_readNumber_26 (by decide) ?_
  refine AX.putf (pc := 30) (fs' := [.ref 88, .ref 89, .ref 90, .int (v 0), .int (v 1), .ref 91, .ref 92, .ref 93, .ref 94, .ref 95, .ref 96, .ref 97, .ref 98, .ref 99, .ref 100, .ref 101, .int (v 2), .ref 102, .ref 103, .ref 104, .ref 105, .ref 106, .ref 107, .ref 108, .int (v 3), .ref 109, .int (v 4), .ref 110, .ref 111, .int (v 5), .ref 112, .int (nI l), .int (nI b), .int (nI 1), .ref 113, .int (nI k), .ref 114, .ref 115, .ref 116, .ref 117]) fX12_readNumber_313 rfl (lt_k hn (by decide)) hO (Nat.le_of_ble_eq_true rfl) rfl rfl rfl dX12_readNumber_30 ?_
  refine AX.iconst (pc := 33) (v := nI 0) dX12_readNumber_33 (by decide) ?_
  refine AX.istore_n (pc := 34) (L' := [.ref 87, .int (nI b), .int (nI 0), .int (nI 0)]) dX12_readNumber_34 (by decide) rfl ?_
  refine AX.iload_n (pc := 35) dX12_readNumber_35 rfl ?_
  refine AX.iconst (pc := 36) (v := nI 2) dX12_readNumber_36 (by decide) ?_
  refine AX.icmp_geN (pc := 37) (tgt := 86) dX12_readNumber_37 (by decide) (by decide) (by decide) (fun q => absurd q (by decide)) (fun hc37 => ?_)
  obtain ⟨h1, eh⟩ : ∃ z, z = (xset h 87 (.inr (11, [.ref 88, .ref 89, .ref 90, .int (v 0), .int (v 1), .ref 91, .ref 92, .ref 93, .ref 94, .ref 95, .ref 96, .ref 97, .ref 98, .ref 99, .ref 100, .ref 101, .int (v 2), .ref 102, .ref 103, .ref 104, .ref 105, .ref 106, .ref 107, .ref 108, .int (v 3), .ref 109, .int (v 4), .ref 110, .ref 111, .int (v 5), .ref 112, .int (nI l), .int (nI b), .int (nI 1), .ref 113, .int (nI k), .ref 114, .ref 115, .ref 116, .ref 117]))) := ⟨_, rfl⟩
  have O1 : TM h1 v l b (nI 1) k := by rw [eh]; exact (xset_same _ _ _)
  have q1 : Same [87] h h1 := by rw [eh]; exact Same.set (Same.rf) (by simp)
  rw [← eh]
  clear eh
  have s1 : Same [87] h h1 := q1
  have n1 := s1.le hn
  have T1 := hT.same s1 (by simp)
  refine AX.aload_n (pc := 40) dX12_readNumber_40 rfl ?_
  refine AX.callV (pc := 41) (M2 := M_X12_here) (As := []) (rest := []) (c_hereOut w h1 (y := y) n1 O1 T1 (by omega) hl60 (by omega)) xc_X12_readNumber__X12_here gX12_readNumber_X12_here (ci := 11) rfl (lt_k n1 (by decide)) O1 rfl (Nat.le_of_ble_eq_true rfl) dX12_readNumber_41 ?_
  rintro _ h9 ⟨rfl, e9⟩
  have e9 := e9.symm
  subst e9
  show AX w M_X12_readNumber 0 0 44 [.ref 87, .int (nI b), .int (nI 0), .int (nI 0)] [.int (-1 : Int32)] _ _
  refine AX.i2l (pc := 44) dX12_readNumber_44 ?_
  refine AX.ldc2 (pc := 45) (v := 48) dX12_readNumber_45 cX12_readNumber_320 ?_
  refine AX.ldc2 (pc := 48) (v := 57) dX12_readNumber_48 cX12_readNumber_322 ?_
  refine AX.callS (pc := 51) (M2 := M_X12_in) (As := [.long ((-1 : Int32).toInt64), .long 48, .long 57]) (rest := []) (c_in w h1 ((-1 : Int32).toInt64) (48) (57)) xc_X12_readNumber__X12_in gX12_readNumber_X12_in rfl (Nat.le_of_ble_eq_true rfl) dX12_readNumber_51 ?_
  rintro _ h9 ⟨rfl, e9⟩
  have e9 := e9.symm
  subst e9
  rw [decide_eq_false (p := (48 : Int64).toInt ≤ ((-1 : Int32).toInt64 : Int64).toInt ∧ ((-1 : Int32).toInt64 : Int64).toInt ≤ (57 : Int64).toInt) (fun q => absurd ((in_iff (L := 48) (H := 57) (by decide) (by decide)).mp q) (by unfold inR; rw [iM1]; omega))]
  show AX w M_X12_readNumber 0 0 54 [.ref 87, .int (nI b), .int (nI 0), .int (nI 0)] [.int (bI false)] _ _
  refine AX.if_eqB (pc := 54) (tgt := 86) dX12_readNumber_54 (by decide) (fun hc54 => ?_) (fun q => absurd q (by decide))
  refine AX.aload_n (pc := 86) dX12_readNumber_86 rfl ?_
  refine AX.getf (pc := 87) fX12_readNumber_313 (lt_k n1 (by decide)) O1 rfl dX12_readNumber_87 ?_
  refine AX.if_neN (pc := 90) (tgt := 115) dX12_readNumber_90 (by decide) (by decide) (fun hc90 => ?_) (fun q => absurd q (by decide))
  refine AX.iload_n (pc := 115) dX12_readNumber_115 rfl ?_
  refine AX.iret (pc := 116) dX12_readNumber_116 rfl rfl (by decide) (by decide) ?_
  refine ⟨s1, ?_⟩
  rw [if_neg (show ¬ (1 ≤ 0 ∧ 0 ≤ 20) by omega)]
  exact ⟨⟨_, rfl⟩, O1⟩
