/-! ===== THE TAPE: one SPOT read ===== -/
/-- the TAPE: l bytes y, being read at a; the SPOTS read so far -/
def TP (h : XH) (l : Nat) (y : Nat → Nat) (a : Nat) (X : List Nat) : Prop := h.2 72 = .inr (9, [.ref 73, .int (nI l), .ref 74, .int (nI X.length), .int (nI a)]) ∧ l ≤ 60 ∧ X.length ≤ 12 ∧ (∃ f : Nat → Int32, h.2 73 = .inl (0, 60, .inl f) ∧ ∀ j, j < l → f j = nI (y j) ∧ y j < 128) ∧
  ∃ s : Nat → Int32, h.2 74 = .inl (0, 12, .inl s) ∧ ∀ j, j < X.length → s j = nI (X.getD j 0)
theorem TP.same {S : List Nat} {h h' : XH} {l : Nat} {y : Nat → Nat} {a : Nat} {X : List Nat} (H : TP h l y a X) (hs : Same S h h') (h1 : 72 ∉ S) (h2 : 73 ∉ S) (h3 : 74 ∉ S) : TP h' l y a X := by
  obtain ⟨e, p1, p2, ⟨f, e1, q1⟩, s, e2, q2⟩ := H
  exact ⟨hs.at h1 e, p1, p2, ⟨f, hs.at h2 e1, q1⟩, s, hs.at h3 e2, q2⟩
theorem push_ext {X : List Nat} {c : Nat} {f : Nat → Int32} (q : ∀ j, j < X.length → f j = nI (X.getD j 0)) : ∀ j, j < (X ++ [c]).length → upd f X.length (nI c) j = nI ((X ++ [c]).getD j 0) := by
  intro j hj
  rw [List.length_append] at hj
  have hj : j < X.length + 1 := hj
  by_cases z : j = X.length
  · subst z
    rw [upd_at, List.getD_eq_getElem?_getD, List.getElem?_append_right (Nat.le_refl _)]
    simp
  · rw [upd_off z, q j (by omega), List.getD_eq_getElem?_getD, List.getD_eq_getElem?_getD, List.getElem?_append_left (by omega)]
/-- a SPOT is read (so many letters, the SPOT), or the FAULT -/
def tkR (h h' : XH) (l : Nat) (y : Nat → Nat) (a : Nat) (X : List Nat) (v : Option Value) (r : Nat ⊕ (Nat × Nat)) : Prop := match r with
  | .inl k => v = some (.int (nI k)) ∧ h' = h
  | .inr (n, s) => v = some (.int (-1)) ∧ Same [72, 74] h h' ∧ TP h' l y (a + n) (X ++ [s])
def paN (y : Nat → Nat) (l a c s : Nat) : Nat ⊕ (Nat × Nat) := if a + 1 < l ∧ y (a + 1) = c then .inr (2, s) else .inl (a + 1)
/-- figures and number from place b on -/
def nmN (y : Nat → Nat) (l b : Nat) : Nat × Nat := if b < l ∧ 48 ≤ y b ∧ y b ≤ 57 then (if b + 1 < l ∧ 48 ≤ y (b + 1) ∧ y (b + 1) ≤ 57 then (2, (y b - 48) * 10 + y (b + 1) - 48) else (1, y b - 48)) else (0, 0)
def nuN (y : Nat → Nat) (l a w : Nat) : Nat ⊕ (Nat × Nat) := if 1 ≤ (nmN y l (a + 1)).2 ∧ (nmN y l (a + 1)).2 ≤ 20 then .inr (1 + (nmN y l (a + 1)).1, w + (nmN y l (a + 1)).2) else .inl (a + 1)
/-- a SPOT at place a -/
def psN (y : Nat → Nat) (l a : Nat) : Nat ⊕ (Nat × Nat) := if l ≤ a then .inl l else if y a = 45 then .inr (1, 0) else if y a = 79 then paN y l a 66 61 else if y a = 66 then paN y l a 85 62 else if y a = 83 then nuN y l a 0 else if y a = 68 then nuN y l a 20 else if y a = 84 then nuN y l a 40 else .inl a
theorem c_take (w : XW) (h : XH) {l a : Nat} {y : Nat → Nat} {X : List Nat} (n c : Nat) (hn : 75 ≤ h.1) (hT : TP h l y a X) (hX : X.length < 12) (ha : a ≤ l) (hn60 : n ≤ 60) : CA w M_X10_take [.ref 72, .int (nI n), .int (nI c)] h (fun v h' => v = some (.int (-1)) ∧ Same [72, 74] h h' ∧ TP h' l y (a + n) (X ++ [c])) := by
  refine CA.of (by decide) rfl (fun _ => Nat.le_of_ble_eq_true rfl) ?_
  obtain ⟨-, hl60, hX12, ⟨f, e73, qf⟩, s, e74, qs⟩ := id hT
  show AX w M_X10_take 0 0 0 [.ref 72, .int (nI n), .int (nI c)] [] h _
  refine AX.aload_n (pc := 0) dX10_take_0 rfl ?_
  refine AX.dup (pc := 1) dX10_take_1 rfl ?_
  refine AX.getf (pc := 2) fX10_take_26 (lt_k hn (by omega)) hT.1 rfl dX10_take_2 ?_
  refine AX.iload_n (pc := 5) dX10_take_5 rfl ?_
  refine AX.iaddN (pc := 6) (c := a + n) dX10_take_6 rfl ?_
  refine AX.putf (pc := 7) (fs' := [.ref 73, .int (nI l), .ref 74, .int (nI X.length), .int (nI (a + n))]) fX10_take_26 rfl (lt_k hn (by omega)) hT.1 (Nat.le_of_ble_eq_true rfl) rfl rfl rfl dX10_take_7 ?_
  refine AX.aload_n (pc := 10) dX10_take_10 rfl ?_
  refine AX.getf (pc := 11) fX10_take_29 (lt_k hn (by omega)) (xset_same _ _ _) rfl dX10_take_11 ?_
  refine AX.bipush (pc := 14) (v := nI 12) dX10_take_14 (by decide) ?_
  refine AX.icmp_geN (pc := 16) (tgt := 39) dX10_take_16 (by decide) (by omega) (by decide) (fun q => absurd q (by omega)) (fun hc16 => ?_)
  refine AX.aload_n (pc := 19) dX10_take_19 rfl ?_
  refine AX.getf (pc := 20) fX10_take_15 (lt_k hn (by omega)) (xset_same _ _ _) rfl dX10_take_20 ?_
  refine AX.aload_n (pc := 23) dX10_take_23 rfl ?_
  refine AX.getf (pc := 24) fX10_take_29 (lt_k hn (by omega)) (xset_same _ _ _) rfl dX10_take_24 ?_
  refine AX.iload_n (pc := 27) dX10_take_27 rfl ?_
  refine AX.iastN (pc := 28) (i := X.length) (g := upd s X.length (nI c)) (lt_k hn (by omega)) ((xset_ne (by decide)).trans e74) (by decide) (by omega) rfl dX10_take_28 ?_
  refine AX.aload_n (pc := 29) dX10_take_29 rfl ?_
  refine AX.dup (pc := 30) dX10_take_30 rfl ?_
  refine AX.getf (pc := 31) fX10_take_29 (lt_k hn (by omega)) ((xset_ne (by decide)).trans (xset_same _ _ _)) rfl dX10_take_31 ?_
  refine AX.iconst (pc := 34) (v := nI 1) dX10_take_34 (by decide) ?_
  refine AX.iaddN (pc := 35) (c := X.length + 1) dX10_take_35 rfl ?_
  refine AX.putf (pc := 36) (h := xset (xset h 72 (.inr (9, [.ref 73, .int (nI l), .ref 74, .int (nI X.length), .int (nI (a + n))]))) 74 (.inl (0, 12, .inl (upd s X.length (nI c))))) (a := 72) (fs' := [.ref 73, .int (nI l), .ref 74, .int (nI (X.length + 1)), .int (nI (a + n))]) fX10_take_29 rfl (lt_k hn (by omega)) ((xset_ne (by decide)).trans (xset_same _ _ _)) (Nat.le_of_ble_eq_true rfl) rfl rfl rfl dX10_take_36 ?_
  refine AX.iconst (pc := 39) (v := (-1)) dX10_take_39 (by decide) ?_
  refine AX.iret (pc := 40) dX10_take_40 rfl rfl (by decide) (by decide) ?_
  have sx : Same [72, 74] h (xset (xset (xset h 72 (.inr (9, [.ref 73, .int (nI l), .ref 74, .int (nI X.length), .int (nI (a + n))]))) 74 (.inl (0, 12, .inl (upd s X.length (nI c))))) 72 (.inr (9, [.ref 73, .int (nI l), .ref 74, .int (nI (X.length + 1)), .int (nI (a + n))]))) := (Same.set (Same.set (Same.set Same.rf (by simp)) (by simp)) (by simp))
  exact ⟨rfl, sx, by rw [List.length_append]; exact (xset_same _ _ _), hl60, by rw [List.length_append]; exact hX, ⟨f, sx.at (by simp) e73, qf⟩, _, ((xset_ne (by decide)).trans (xset_same _ _ _)), push_ext qs⟩
theorem yb {l : Nat} {f : Nat → Int32} {y : Nat → Nat} (qf : ∀ j, j < l → f j = nI (y j) ∧ y j < 128) {j : Nat} (h : j < l) : y j < 128 := (qf j h).2
theorem c_faultOfPair (w : XW) (h : XH) {l a : Nat} {y : Nat → Nat} {X : List Nat} (c k : Nat) (hn : 75 ≤ h.1) (hT : TP h l y a X) (hX : X.length < 12) (ha : a ≤ l) (hc : c < 128) : CA w M_X10_faultOfPair [.ref 72, .int (nI c), .int (nI k)] h (fun v h' => tkR h h' l y a X v (paN y l a c k)) := by
  refine CA.of (by decide) rfl (fun _ => Nat.le_of_ble_eq_true rfl) ?_
  obtain ⟨-, hl60, hX12, ⟨f, e73, qf⟩, s, e74, qs⟩ := id hT
  show AX w M_X10_faultOfPair 0 0 0 [.ref 72, .int (nI c), .int (nI k)] [] h _
  refine AX.aload_n (pc := 0) dX10_faultOfPair_0 rfl ?_
  refine AX.getf (pc := 1) fX10_faultOfPair_26 (lt_k hn (by omega)) hT.1 rfl dX10_faultOfPair_1 ?_
  refine AX.iconst (pc := 4) (v := nI 1) dX10_faultOfPair_4 (by decide) ?_
  refine AX.iaddN (pc := 5) (c := a + 1) dX10_faultOfPair_5 rfl ?_
  refine AX.aload_n (pc := 6) dX10_faultOfPair_6 rfl ?_
  refine AX.getf (pc := 7) fX10_faultOfPair_18 (lt_k hn (by omega)) hT.1 rfl dX10_faultOfPair_7 ?_
  refine AX.icmp_geN (pc := 10) (tgt := 28) dX10_faultOfPair_10 (by decide) (by omega) (by omega) (fun hc10 => ?_) (fun hc10 => ?_)
  · refine AX.aload_n (pc := 28) dX10_faultOfPair_28 rfl ?_
    refine AX.getf (pc := 29) fX10_faultOfPair_26 (lt_k hn (by omega)) hT.1 rfl dX10_faultOfPair_29 ?_
    refine AX.iconst (pc := 32) (v := nI 1) dX10_faultOfPair_32 (by decide) ?_
    refine AX.iaddN (pc := 33) (c := a + 1) dX10_faultOfPair_33 rfl ?_
    refine AX.iret (pc := 34) dX10_faultOfPair_34 rfl rfl (by decide) (by decide) ?_
    have hr : paN y l a c k = .inl (a + 1) := if_neg (by omega)
    show tkR _ _ _ _ _ _ _ (paN y l a c k)
    rw [hr]
    exact ⟨rfl, rfl⟩
  · refine AX.aload_n (pc := 13) dX10_faultOfPair_13 rfl ?_
    refine AX.getf (pc := 14) fX10_faultOfPair_11 (lt_k hn (by omega)) hT.1 rfl dX10_faultOfPair_14 ?_
    refine AX.aload_n (pc := 17) dX10_faultOfPair_17 rfl ?_
    refine AX.getf (pc := 18) fX10_faultOfPair_26 (lt_k hn (by omega)) hT.1 rfl dX10_faultOfPair_18 ?_
    refine AX.iconst (pc := 21) (v := nI 1) dX10_faultOfPair_21 (by decide) ?_
    refine AX.iaddN (pc := 22) (c := a + 1) dX10_faultOfPair_22 rfl ?_
    refine AX.ialdN (pc := 23) (i := a + 1) (v := (nI (y (a + 1)))) (lt_k hn (by omega)) e73 (by decide) (by omega) ((qf _ (by omega)).1) dX10_faultOfPair_23 ?_
    refine AX.iload_n (pc := 24) dX10_faultOfPair_24 rfl ?_
    refine AX.icmp_eqN (pc := 25) (tgt := 35) dX10_faultOfPair_25 (by decide) (by first | omega | (have := yb qf (j := a + 1) (by omega); omega)) (by first | omega | (have := yb qf (j := a + 1) (by omega); omega)) (fun hc25 => ?_) (fun hc25 => ?_)
    · refine AX.aload_n (pc := 35) dX10_faultOfPair_35 rfl ?_
      refine AX.iconst (pc := 36) (v := nI 2) dX10_faultOfPair_36 (by decide) ?_
      refine AX.iload_n (pc := 37) dX10_faultOfPair_37 rfl ?_
      refine AX.callV (pc := 38) (M2 := M_X10_take) (As := [.int (nI 2), .int (nI k)]) (rest := []) (c_take w h 2 k hn hT hX ha (by omega)) xc_X10_faultOfPair__X10_take gX10_faultOfPair_X10_take (ci := 9) rfl (lt_k hn (by omega)) hT.1 rfl (Nat.le_of_ble_eq_true rfl) dX10_faultOfPair_38 ?_
      rintro _ h1 ⟨rfl, s1, T1⟩
      show AX w M_X10_faultOfPair 0 0 41 [.ref 72, .int (nI c), .int (nI k)] [.int (-1)] _ _
      refine AX.iret (pc := 41) dX10_faultOfPair_41 rfl rfl (by decide) (by decide) ?_
      have hr : paN y l a c k = .inr (2, k) := if_pos ⟨by omega, by omega⟩
      show tkR _ _ _ _ _ _ _ (paN y l a c k)
      rw [hr]
      exact ⟨rfl, s1, T1⟩
    · refine AX.aload_n (pc := 28) dX10_faultOfPair_28 rfl ?_
      refine AX.getf (pc := 29) fX10_faultOfPair_26 (lt_k hn (by omega)) hT.1 rfl dX10_faultOfPair_29 ?_
      refine AX.iconst (pc := 32) (v := nI 1) dX10_faultOfPair_32 (by decide) ?_
      refine AX.iaddN (pc := 33) (c := a + 1) dX10_faultOfPair_33 rfl ?_
      refine AX.iret (pc := 34) dX10_faultOfPair_34 rfl rfl (by decide) (by decide) ?_
      have hr : paN y l a c k = .inl (a + 1) := if_neg (by omega)
      show tkR _ _ _ _ _ _ _ (paN y l a c k)
      rw [hr]
      exact ⟨rfl, rfl⟩
theorem c_isFigure (w : XW) (h : XH) (c : Nat) (hc : c < 128) : CA w M_X10_isFigure [.int (nI c)] h (fun v' h'' => v' = some (.int (bI (decide (48 ≤ c ∧ c ≤ 57)))) ∧ h'' = h) := by
  refine CA.of (by decide) rfl (fun _ => Nat.le_of_ble_eq_true rfl) ?_
  show AX w M_X10_isFigure 0 0 0 [.int (nI c)] [] h _
  refine AX.iload_n (pc := 0) dX10_isFigure_0 rfl ?_
  refine AX.bipush (pc := 1) (v := nI 48) dX10_isFigure_1 (by decide) ?_
  refine AX.icmp_ltN (pc := 3) (tgt := 16) dX10_isFigure_3 (by decide) (by omega) (by decide) (fun hc3 => ?_) (fun hc3 => ?_)
  · refine AX.iconst (pc := 16) (v := nI 0) dX10_isFigure_16 (by decide) ?_
    refine AX.iret (pc := 17) dX10_isFigure_17 rfl rfl (by decide) (by decide) ?_
    exact ⟨s0 (decide_eq_false (by omega)), rfl⟩
  · refine AX.iload_n (pc := 6) dX10_isFigure_6 rfl ?_
    refine AX.bipush (pc := 7) (v := nI 57) dX10_isFigure_7 (by decide) ?_
    refine AX.icmp_gtN (pc := 9) (tgt := 16) dX10_isFigure_9 (by decide) (by omega) (by decide) (fun hc9 => ?_) (fun hc9 => ?_)
    · refine AX.iconst (pc := 16) (v := nI 0) dX10_isFigure_16 (by decide) ?_
      refine AX.iret (pc := 17) dX10_isFigure_17 rfl rfl (by decide) (by decide) ?_
      exact ⟨s0 (decide_eq_false (by omega)), rfl⟩
    · refine AX.iconst (pc := 12) (v := nI 1) dX10_isFigure_12 (by decide) ?_
      refine AX.goto (pc := 13) (tgt := 17) dX10_isFigure_13 (by decide) ?_
      refine AX.iret (pc := 17) dX10_isFigure_17 rfl rfl (by decide) (by decide) ?_
      exact ⟨s1 (decide_eq_true ⟨by omega, by omega⟩), rfl⟩
theorem c_faultOfNumber (w : XW) (h : XH) {l a : Nat} {y : Nat → Nat} {X : List Nat} (k : Nat) (hn : 75 ≤ h.1) (hT : TP h l y a X) (hX : X.length < 12) (ha : a ≤ l) (hk : k ≤ 40) : CA w M_X10_faultOfNumber [.ref 72, .int (nI k)] h (fun v h' => tkR h h' l y a X v (nuN y l a k)) := by
  refine CA.of (by decide) rfl (fun _ => Nat.le_of_ble_eq_true rfl) ?_
  obtain ⟨-, hl60, hX12, ⟨f, e73, qf⟩, s, e74, qs⟩ := id hT
  show AX w M_X10_faultOfNumber 0 0 0 [.ref 72, .int (nI k), .null, .null, .null] [] h _
  refine AX.aload_n (pc := 0) dX10_faultOfNumber_0 rfl ?_
  refine AX.getf (pc := 1) fX10_faultOfNumber_26 (lt_k hn (by omega)) hT.1 rfl dX10_faultOfNumber_1 ?_
  refine AX.iconst (pc := 4) (v := nI 1) dX10_faultOfNumber_4 (by decide) ?_
  refine AX.iaddN (pc := 5) (c := a + 1) dX10_faultOfNumber_5 rfl ?_
  refine AX.istore_n (pc := 6) (L' := [.ref 72, .int (nI k), .int (nI (a + 1)), .null, .null]) dX10_faultOfNumber_6 (by decide) rfl ?_
  refine AX.iconst (pc := 7) (v := nI 0) dX10_faultOfNumber_7 (by decide) ?_
  refine AX.istore_n (pc := 8) (L' := [.ref 72, .int (nI k), .int (nI (a + 1)), .int (nI 0), .null]) dX10_faultOfNumber_8 (by decide) rfl ?_
  refine AX.iconst (pc := 9) (v := nI 0) dX10_faultOfNumber_9 (by decide) ?_
  refine AX.istore (pc := 10) (L' := [.ref 72, .int (nI k), .int (nI (a + 1)), .int (nI 0), .int (nI 0)]) dX10_faultOfNumber_10 (by decide) rfl ?_
  refine AX.iload_n (pc := 12) dX10_faultOfNumber_12 rfl ?_
  refine AX.iconst (pc := 13) (v := nI 2) dX10_faultOfNumber_13 (by decide) ?_
  refine AX.icmp_geN (pc := 14) (tgt := 66) dX10_faultOfNumber_14 (by decide) (by decide) (by decide) (fun q => absurd q (by decide)) (fun hc14 => ?_)
  refine AX.iload_n (pc := 17) dX10_faultOfNumber_17 rfl ?_
  refine AX.iload_n (pc := 18) dX10_faultOfNumber_18 rfl ?_
  refine AX.iaddN (pc := 19) (c := a + 1) dX10_faultOfNumber_19 rfl ?_
  refine AX.aload_n (pc := 20) dX10_faultOfNumber_20 rfl ?_
  refine AX.getf (pc := 21) fX10_faultOfNumber_18 (lt_k hn (by omega)) hT.1 rfl dX10_faultOfNumber_21 ?_
  refine AX.icmp_geN (pc := 24) (tgt := 66) dX10_faultOfNumber_24 (by decide) (by omega) (by omega) (fun hc24 => ?_) (fun hc24 => ?_)
  · have hm : nmN y l (a + 1) = (0, 0) := if_neg (by first | omega | (have := of_decide_eq_false hc38; omega))
    refine AX.iload (pc := 66) dX10_faultOfNumber_66 rfl ?_
    refine AX.iconst (pc := 68) (v := nI 1) dX10_faultOfNumber_68 (by decide) ?_
    refine AX.icmp_ltN (pc := 69) (tgt := 79) dX10_faultOfNumber_69 (by decide) (by decide) (by decide) (fun hc69 => ?_) (fun q => absurd q (by decide))
    refine AX.iload_n (pc := 79) dX10_faultOfNumber_79 rfl ?_
    refine AX.iret (pc := 80) dX10_faultOfNumber_80 rfl rfl (by decide) (by decide) ?_
    have hr : nuN y l a k = .inl (a + 1) := by unfold nuN; rw [hm]; exact if_neg (show ¬ (1 ≤ 0 ∧ 0 ≤ 20) by omega)
    show tkR _ _ _ _ _ _ _ (nuN y l a k)
    rw [hr]
    exact ⟨rfl, rfl⟩
  · refine AX.aload_n (pc := 27) dX10_faultOfNumber_27 rfl ?_
    refine AX.getf (pc := 28) fX10_faultOfNumber_11 (lt_k hn (by omega)) hT.1 rfl dX10_faultOfNumber_28 ?_
    refine AX.iload_n (pc := 31) dX10_faultOfNumber_31 rfl ?_
    refine AX.iload_n (pc := 32) dX10_faultOfNumber_32 rfl ?_
    refine AX.iaddN (pc := 33) (c := a + 1) dX10_faultOfNumber_33 rfl ?_
    refine AX.ialdN (pc := 34) (i := a + 1) (v := (nI (y (a + 1)))) (lt_k hn (by omega)) e73 (by decide) (by omega) ((qf _ (by omega)).1) dX10_faultOfNumber_34 ?_
    refine AX.callS (pc := 35) (M2 := M_X10_isFigure) (As := [.int (nI (y (a + 1)))]) (rest := []) (c_isFigure w h (y (a + 1)) (yb qf (by omega))) xc_X10_faultOfNumber__X10_isFigure gX10_faultOfNumber_X10_isFigure rfl (Nat.le_of_ble_eq_true rfl) dX10_faultOfNumber_35 ?_
    rintro _ h9 ⟨rfl, e9⟩
    have e9 := e9.symm
    subst e9
    show AX w M_X10_faultOfNumber 0 0 38 [.ref 72, .int (nI k), .int (nI (a + 1)), .int (nI 0), .int (nI 0)] [.int (bI (decide (48 ≤ y (a + 1) ∧ y (a + 1) ≤ 57)))] _ _
    refine AX.if_eqB (pc := 38) (tgt := 66) dX10_faultOfNumber_38 (by decide) (fun hc38 => ?_) (fun hc38 => ?_)
    · have hm : nmN y l (a + 1) = (0, 0) := if_neg (by first | omega | (have := of_decide_eq_false hc38; omega))
      refine AX.iload (pc := 66) dX10_faultOfNumber_66 rfl ?_
      refine AX.iconst (pc := 68) (v := nI 1) dX10_faultOfNumber_68 (by decide) ?_
      refine AX.icmp_ltN (pc := 69) (tgt := 79) dX10_faultOfNumber_69 (by decide) (by decide) (by decide) (fun hc69 => ?_) (fun q => absurd q (by decide))
      refine AX.iload_n (pc := 79) dX10_faultOfNumber_79 rfl ?_
      refine AX.iret (pc := 80) dX10_faultOfNumber_80 rfl rfl (by decide) (by decide) ?_
      have hr : nuN y l a k = .inl (a + 1) := by unfold nuN; rw [hm]; exact if_neg (show ¬ (1 ≤ 0 ∧ 0 ≤ 20) by omega)
      show tkR _ _ _ _ _ _ _ (nuN y l a k)
      rw [hr]
      exact ⟨rfl, rfl⟩
    · have g0 := of_decide_eq_true hc38
      refine AX.iload (pc := 41) dX10_faultOfNumber_41 rfl ?_
      refine AX.bipush (pc := 43) (v := nI 10) dX10_faultOfNumber_43 (by decide) ?_
      refine AX.imulN (pc := 45) (c := 0) dX10_faultOfNumber_45 rfl ?_
      refine AX.aload_n (pc := 46) dX10_faultOfNumber_46 rfl ?_
      refine AX.getf (pc := 47) fX10_faultOfNumber_11 (lt_k hn (by omega)) hT.1 rfl dX10_faultOfNumber_47 ?_
      refine AX.iload_n (pc := 50) dX10_faultOfNumber_50 rfl ?_
      refine AX.iload_n (pc := 51) dX10_faultOfNumber_51 rfl ?_
      refine AX.iaddN (pc := 52) (c := a + 1) dX10_faultOfNumber_52 rfl ?_
      refine AX.ialdN (pc := 53) (i := a + 1) (v := (nI (y (a + 1)))) (lt_k hn (by omega)) e73 (by decide) (by omega) ((qf _ (by omega)).1) dX10_faultOfNumber_53 ?_
      refine AX.iaddN (pc := 54) (c := y (a + 1)) dX10_faultOfNumber_54 (Nat.zero_add _) ?_
      refine AX.bipush (pc := 55) (v := nI 48) dX10_faultOfNumber_55 (by decide) ?_
      refine AX.isubN (pc := 57) (c := y (a + 1) - 48) dX10_faultOfNumber_57 (by omega) ?_
      refine AX.istore (pc := 58) (L' := [.ref 72, .int (nI k), .int (nI (a + 1)), .int (nI 0), .int (nI (y (a + 1) - 48))]) dX10_faultOfNumber_58 (by decide) rfl ?_
      refine AX.iincN (c := 1) (pc := 60) (L' := [.ref 72, .int (nI k), .int (nI (a + 1)), .int (nI 1), .int (nI (y (a + 1) - 48))]) dX10_faultOfNumber_60 rfl (inc1 _) (by decide) rfl ?_
      refine AX.goto (pc := 63) (tgt := 12) dX10_faultOfNumber_63 (by decide) ?_
      refine AX.iload_n (pc := 12) dX10_faultOfNumber_12 rfl ?_
      refine AX.iconst (pc := 13) (v := nI 2) dX10_faultOfNumber_13 (by decide) ?_
      refine AX.icmp_geN (pc := 14) (tgt := 66) dX10_faultOfNumber_14 (by decide) (by decide) (by decide) (fun q => absurd q (by decide)) (fun hc14 => ?_)
      refine AX.iload_n (pc := 17) dX10_faultOfNumber_17 rfl ?_
      refine AX.iload_n (pc := 18) dX10_faultOfNumber_18 rfl ?_
      refine AX.iaddN (pc := 19) (c := a + 2) dX10_faultOfNumber_19 rfl ?_
      refine AX.aload_n (pc := 20) dX10_faultOfNumber_20 rfl ?_
      refine AX.getf (pc := 21) fX10_faultOfNumber_18 (lt_k hn (by omega)) hT.1 rfl dX10_faultOfNumber_21 ?_
      refine AX.icmp_geN (pc := 24) (tgt := 66) dX10_faultOfNumber_24 (by decide) (by omega) (by omega) (fun hc24 => ?_) (fun hc24 => ?_)
      · have hm : nmN y l (a + 1) = (1, y (a + 1) - 48) := (if_pos ⟨by omega, g0⟩).trans (if_neg (show ¬ (a + 2 < l ∧ 48 ≤ y (a + 2) ∧ y (a + 2) ≤ 57) by first | omega | (have := of_decide_eq_false hc38; omega)))
        refine AX.iload (pc := 66) dX10_faultOfNumber_66 rfl ?_
        refine AX.iconst (pc := 68) (v := nI 1) dX10_faultOfNumber_68 (by decide) ?_
        refine AX.icmp_ltN (pc := 69) (tgt := 79) dX10_faultOfNumber_69 (by decide) (by omega) (by decide) (fun hc69 => ?_) (fun hc69 => ?_)
        · refine AX.iload_n (pc := 79) dX10_faultOfNumber_79 rfl ?_
          refine AX.iret (pc := 80) dX10_faultOfNumber_80 rfl rfl (by decide) (by decide) ?_
          have hr : nuN y l a k = .inl (a + 1) := by unfold nuN; rw [hm]; exact if_neg (show ¬ (1 ≤ y (a + 1) - 48 ∧ y (a + 1) - 48 ≤ 20) by omega)
          show tkR _ _ _ _ _ _ _ (nuN y l a k)
          rw [hr]
          exact ⟨rfl, rfl⟩
        · refine AX.iload (pc := 72) dX10_faultOfNumber_72 rfl ?_
          refine AX.bipush (pc := 74) (v := nI 20) dX10_faultOfNumber_74 (by decide) ?_
          refine AX.icmp_leN (pc := 76) (tgt := 81) dX10_faultOfNumber_76 (by decide) (by omega) (by decide) (fun hc76 => ?_) (fun hc76 => ?_)
          · refine AX.aload_n (pc := 81) dX10_faultOfNumber_81 rfl ?_
            refine AX.iconst (pc := 82) (v := nI 1) dX10_faultOfNumber_82 (by decide) ?_
            refine AX.iload_n (pc := 83) dX10_faultOfNumber_83 rfl ?_
            refine AX.iaddN (pc := 84) (c := 2) dX10_faultOfNumber_84 rfl ?_
            refine AX.iload_n (pc := 85) dX10_faultOfNumber_85 rfl ?_
            refine AX.iload (pc := 86) dX10_faultOfNumber_86 rfl ?_
            refine AX.iaddN (pc := 88) (c := k + (y (a + 1) - 48)) dX10_faultOfNumber_88 rfl ?_
            refine AX.callV (pc := 89) (M2 := M_X10_take) (As := [.int (nI 2), .int (nI (k + (y (a + 1) - 48)))]) (rest := []) (c_take w h 2 (k + (y (a + 1) - 48)) hn hT hX ha (by omega)) xc_X10_faultOfNumber__X10_take gX10_faultOfNumber_X10_take (ci := 9) rfl (lt_k hn (by omega)) hT.1 rfl (Nat.le_of_ble_eq_true rfl) dX10_faultOfNumber_89 ?_
            rintro _ h1 ⟨rfl, s1, T1⟩
            show AX w M_X10_faultOfNumber 0 0 92 [.ref 72, .int (nI k), .int (nI (a + 1)), .int (nI 1), .int (nI (y (a + 1) - 48))] [.int (-1)] _ _
            refine AX.iret (pc := 92) dX10_faultOfNumber_92 rfl rfl (by decide) (by decide) ?_
            have hr : nuN y l a k = .inr (1 + 1, k + (y (a + 1) - 48)) := by unfold nuN; rw [hm]; exact if_pos (show 1 ≤ y (a + 1) - 48 ∧ y (a + 1) - 48 ≤ 20 from ⟨by omega, by omega⟩)
            show tkR _ _ _ _ _ _ _ (nuN y l a k)
            rw [hr]
            exact ⟨rfl, s1, T1⟩
          · refine AX.iload_n (pc := 79) dX10_faultOfNumber_79 rfl ?_
            refine AX.iret (pc := 80) dX10_faultOfNumber_80 rfl rfl (by decide) (by decide) ?_
            have hr : nuN y l a k = .inl (a + 1) := by unfold nuN; rw [hm]; exact if_neg (show ¬ (1 ≤ y (a + 1) - 48 ∧ y (a + 1) - 48 ≤ 20) by omega)
            show tkR _ _ _ _ _ _ _ (nuN y l a k)
            rw [hr]
            exact ⟨rfl, rfl⟩
      · refine AX.aload_n (pc := 27) dX10_faultOfNumber_27 rfl ?_
        refine AX.getf (pc := 28) fX10_faultOfNumber_11 (lt_k hn (by omega)) hT.1 rfl dX10_faultOfNumber_28 ?_
        refine AX.iload_n (pc := 31) dX10_faultOfNumber_31 rfl ?_
        refine AX.iload_n (pc := 32) dX10_faultOfNumber_32 rfl ?_
        refine AX.iaddN (pc := 33) (c := a + 2) dX10_faultOfNumber_33 rfl ?_
        refine AX.ialdN (pc := 34) (i := a + 2) (v := (nI (y (a + 2)))) (lt_k hn (by omega)) e73 (by decide) (by omega) ((qf _ (by omega)).1) dX10_faultOfNumber_34 ?_
        refine AX.callS (pc := 35) (M2 := M_X10_isFigure) (As := [.int (nI (y (a + 2)))]) (rest := []) (c_isFigure w h (y (a + 2)) (yb qf (by omega))) xc_X10_faultOfNumber__X10_isFigure gX10_faultOfNumber_X10_isFigure rfl (Nat.le_of_ble_eq_true rfl) dX10_faultOfNumber_35 ?_
        rintro _ h9 ⟨rfl, e9⟩
        have e9 := e9.symm
        subst e9
        show AX w M_X10_faultOfNumber 0 0 38 [.ref 72, .int (nI k), .int (nI (a + 1)), .int (nI 1), .int (nI (y (a + 1) - 48))] [.int (bI (decide (48 ≤ y (a + 2) ∧ y (a + 2) ≤ 57)))] _ _
        refine AX.if_eqB (pc := 38) (tgt := 66) dX10_faultOfNumber_38 (by decide) (fun hc38 => ?_) (fun hc38 => ?_)
        · have hm : nmN y l (a + 1) = (1, y (a + 1) - 48) := (if_pos ⟨by omega, g0⟩).trans (if_neg (show ¬ (a + 2 < l ∧ 48 ≤ y (a + 2) ∧ y (a + 2) ≤ 57) by first | omega | (have := of_decide_eq_false hc38; omega)))
          refine AX.iload (pc := 66) dX10_faultOfNumber_66 rfl ?_
          refine AX.iconst (pc := 68) (v := nI 1) dX10_faultOfNumber_68 (by decide) ?_
          refine AX.icmp_ltN (pc := 69) (tgt := 79) dX10_faultOfNumber_69 (by decide) (by omega) (by decide) (fun hc69 => ?_) (fun hc69 => ?_)
          · refine AX.iload_n (pc := 79) dX10_faultOfNumber_79 rfl ?_
            refine AX.iret (pc := 80) dX10_faultOfNumber_80 rfl rfl (by decide) (by decide) ?_
            have hr : nuN y l a k = .inl (a + 1) := by unfold nuN; rw [hm]; exact if_neg (show ¬ (1 ≤ y (a + 1) - 48 ∧ y (a + 1) - 48 ≤ 20) by omega)
            show tkR _ _ _ _ _ _ _ (nuN y l a k)
            rw [hr]
            exact ⟨rfl, rfl⟩
          · refine AX.iload (pc := 72) dX10_faultOfNumber_72 rfl ?_
            refine AX.bipush (pc := 74) (v := nI 20) dX10_faultOfNumber_74 (by decide) ?_
            refine AX.icmp_leN (pc := 76) (tgt := 81) dX10_faultOfNumber_76 (by decide) (by omega) (by decide) (fun hc76 => ?_) (fun hc76 => ?_)
            · refine AX.aload_n (pc := 81) dX10_faultOfNumber_81 rfl ?_
              refine AX.iconst (pc := 82) (v := nI 1) dX10_faultOfNumber_82 (by decide) ?_
              refine AX.iload_n (pc := 83) dX10_faultOfNumber_83 rfl ?_
              refine AX.iaddN (pc := 84) (c := 2) dX10_faultOfNumber_84 rfl ?_
              refine AX.iload_n (pc := 85) dX10_faultOfNumber_85 rfl ?_
              refine AX.iload (pc := 86) dX10_faultOfNumber_86 rfl ?_
              refine AX.iaddN (pc := 88) (c := k + (y (a + 1) - 48)) dX10_faultOfNumber_88 rfl ?_
              refine AX.callV (pc := 89) (M2 := M_X10_take) (As := [.int (nI 2), .int (nI (k + (y (a + 1) - 48)))]) (rest := []) (c_take w h 2 (k + (y (a + 1) - 48)) hn hT hX ha (by omega)) xc_X10_faultOfNumber__X10_take gX10_faultOfNumber_X10_take (ci := 9) rfl (lt_k hn (by omega)) hT.1 rfl (Nat.le_of_ble_eq_true rfl) dX10_faultOfNumber_89 ?_
              rintro _ h1 ⟨rfl, s1, T1⟩
              show AX w M_X10_faultOfNumber 0 0 92 [.ref 72, .int (nI k), .int (nI (a + 1)), .int (nI 1), .int (nI (y (a + 1) - 48))] [.int (-1)] _ _
              refine AX.iret (pc := 92) dX10_faultOfNumber_92 rfl rfl (by decide) (by decide) ?_
              have hr : nuN y l a k = .inr (1 + 1, k + (y (a + 1) - 48)) := by unfold nuN; rw [hm]; exact if_pos (show 1 ≤ y (a + 1) - 48 ∧ y (a + 1) - 48 ≤ 20 from ⟨by omega, by omega⟩)
              show tkR _ _ _ _ _ _ _ (nuN y l a k)
              rw [hr]
              exact ⟨rfl, s1, T1⟩
            · refine AX.iload_n (pc := 79) dX10_faultOfNumber_79 rfl ?_
              refine AX.iret (pc := 80) dX10_faultOfNumber_80 rfl rfl (by decide) (by decide) ?_
              have hr : nuN y l a k = .inl (a + 1) := by unfold nuN; rw [hm]; exact if_neg (show ¬ (1 ≤ y (a + 1) - 48 ∧ y (a + 1) - 48 ≤ 20) by omega)
              show tkR _ _ _ _ _ _ _ (nuN y l a k)
              rw [hr]
              exact ⟨rfl, rfl⟩
        · have g1 := of_decide_eq_true hc38
          refine AX.iload (pc := 41) dX10_faultOfNumber_41 rfl ?_
          refine AX.bipush (pc := 43) (v := nI 10) dX10_faultOfNumber_43 (by decide) ?_
          refine AX.imulN (pc := 45) (c := (y (a + 1) - 48) * 10) dX10_faultOfNumber_45 rfl ?_
          refine AX.aload_n (pc := 46) dX10_faultOfNumber_46 rfl ?_
          refine AX.getf (pc := 47) fX10_faultOfNumber_11 (lt_k hn (by omega)) hT.1 rfl dX10_faultOfNumber_47 ?_
          refine AX.iload_n (pc := 50) dX10_faultOfNumber_50 rfl ?_
          refine AX.iload_n (pc := 51) dX10_faultOfNumber_51 rfl ?_
          refine AX.iaddN (pc := 52) (c := a + 2) dX10_faultOfNumber_52 rfl ?_
          refine AX.ialdN (pc := 53) (i := a + 2) (v := (nI (y (a + 2)))) (lt_k hn (by omega)) e73 (by decide) (by omega) ((qf _ (by omega)).1) dX10_faultOfNumber_53 ?_
          refine AX.iaddN (pc := 54) (c := (y (a + 1) - 48) * 10 + (y (a + 2))) dX10_faultOfNumber_54 rfl ?_
          refine AX.bipush (pc := 55) (v := nI 48) dX10_faultOfNumber_55 (by decide) ?_
          refine AX.isubN (pc := 57) (c := (y (a + 1) - 48) * 10 + (y (a + 2)) - 48) dX10_faultOfNumber_57 (by omega) ?_
          refine AX.istore (pc := 58) (L' := [.ref 72, .int (nI k), .int (nI (a + 1)), .int (nI 1), .int (nI ((y (a + 1) - 48) * 10 + (y (a + 2)) - 48))]) dX10_faultOfNumber_58 (by decide) rfl ?_
          refine AX.iincN (c := 2) (pc := 60) (L' := [.ref 72, .int (nI k), .int (nI (a + 1)), .int (nI 2), .int (nI ((y (a + 1) - 48) * 10 + (y (a + 2)) - 48))]) dX10_faultOfNumber_60 rfl (inc1 _) (by decide) rfl ?_
          refine AX.goto (pc := 63) (tgt := 12) dX10_faultOfNumber_63 (by decide) ?_
          refine AX.iload_n (pc := 12) dX10_faultOfNumber_12 rfl ?_
          refine AX.iconst (pc := 13) (v := nI 2) dX10_faultOfNumber_13 (by decide) ?_
          refine AX.icmp_geN (pc := 14) (tgt := 66) dX10_faultOfNumber_14 (by decide) (by decide) (by decide) (fun hc14 => ?_) (fun q => absurd q (by decide))
          have hm : nmN y l (a + 1) = (2, (y (a + 1) - 48) * 10 + (y (a + 2)) - 48) := (if_pos ⟨by omega, g0⟩).trans (if_pos ⟨by omega, g1⟩)
          refine AX.iload (pc := 66) dX10_faultOfNumber_66 rfl ?_
          refine AX.iconst (pc := 68) (v := nI 1) dX10_faultOfNumber_68 (by decide) ?_
          refine AX.icmp_ltN (pc := 69) (tgt := 79) dX10_faultOfNumber_69 (by decide) (by omega) (by decide) (fun hc69 => ?_) (fun hc69 => ?_)
          · refine AX.iload_n (pc := 79) dX10_faultOfNumber_79 rfl ?_
            refine AX.iret (pc := 80) dX10_faultOfNumber_80 rfl rfl (by decide) (by decide) ?_
            have hr : nuN y l a k = .inl (a + 1) := by unfold nuN; rw [hm]; exact if_neg (show ¬ (1 ≤ (y (a + 1) - 48) * 10 + (y (a + 2)) - 48 ∧ (y (a + 1) - 48) * 10 + (y (a + 2)) - 48 ≤ 20) by omega)
            show tkR _ _ _ _ _ _ _ (nuN y l a k)
            rw [hr]
            exact ⟨rfl, rfl⟩
          · refine AX.iload (pc := 72) dX10_faultOfNumber_72 rfl ?_
            refine AX.bipush (pc := 74) (v := nI 20) dX10_faultOfNumber_74 (by decide) ?_
            refine AX.icmp_leN (pc := 76) (tgt := 81) dX10_faultOfNumber_76 (by decide) (by omega) (by decide) (fun hc76 => ?_) (fun hc76 => ?_)
            · refine AX.aload_n (pc := 81) dX10_faultOfNumber_81 rfl ?_
              refine AX.iconst (pc := 82) (v := nI 1) dX10_faultOfNumber_82 (by decide) ?_
              refine AX.iload_n (pc := 83) dX10_faultOfNumber_83 rfl ?_
              refine AX.iaddN (pc := 84) (c := 3) dX10_faultOfNumber_84 rfl ?_
              refine AX.iload_n (pc := 85) dX10_faultOfNumber_85 rfl ?_
              refine AX.iload (pc := 86) dX10_faultOfNumber_86 rfl ?_
              refine AX.iaddN (pc := 88) (c := k + ((y (a + 1) - 48) * 10 + (y (a + 2)) - 48)) dX10_faultOfNumber_88 rfl ?_
              refine AX.callV (pc := 89) (M2 := M_X10_take) (As := [.int (nI 3), .int (nI (k + ((y (a + 1) - 48) * 10 + (y (a + 2)) - 48)))]) (rest := []) (c_take w h 3 (k + ((y (a + 1) - 48) * 10 + (y (a + 2)) - 48)) hn hT hX ha (by omega)) xc_X10_faultOfNumber__X10_take gX10_faultOfNumber_X10_take (ci := 9) rfl (lt_k hn (by omega)) hT.1 rfl (Nat.le_of_ble_eq_true rfl) dX10_faultOfNumber_89 ?_
              rintro _ h1 ⟨rfl, s1, T1⟩
              show AX w M_X10_faultOfNumber 0 0 92 [.ref 72, .int (nI k), .int (nI (a + 1)), .int (nI 2), .int (nI ((y (a + 1) - 48) * 10 + (y (a + 2)) - 48))] [.int (-1)] _ _
              refine AX.iret (pc := 92) dX10_faultOfNumber_92 rfl rfl (by decide) (by decide) ?_
              have hr : nuN y l a k = .inr (1 + 2, k + ((y (a + 1) - 48) * 10 + (y (a + 2)) - 48)) := by unfold nuN; rw [hm]; exact if_pos (show 1 ≤ (y (a + 1) - 48) * 10 + (y (a + 2)) - 48 ∧ (y (a + 1) - 48) * 10 + (y (a + 2)) - 48 ≤ 20 from ⟨by omega, by omega⟩)
              show tkR _ _ _ _ _ _ _ (nuN y l a k)
              rw [hr]
              exact ⟨rfl, s1, T1⟩
            · refine AX.iload_n (pc := 79) dX10_faultOfNumber_79 rfl ?_
              refine AX.iret (pc := 80) dX10_faultOfNumber_80 rfl rfl (by decide) (by decide) ?_
              have hr : nuN y l a k = .inl (a + 1) := by unfold nuN; rw [hm]; exact if_neg (show ¬ (1 ≤ (y (a + 1) - 48) * 10 + (y (a + 2)) - 48 ∧ (y (a + 1) - 48) * 10 + (y (a + 2)) - 48 ≤ 20) by omega)
              show tkR _ _ _ _ _ _ _ (nuN y l a k)
              rw [hr]
              exact ⟨rfl, rfl⟩
