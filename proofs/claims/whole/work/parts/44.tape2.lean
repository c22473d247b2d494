/-! ===== THE TAPE: a PATH read ===== -/
theorem tkR.int {h h' : XH} {l : Nat} {y : Nat → Nat} {a : Nat} {X : List Nat} {v : Option Value} {r : Nat ⊕ (Nat × Nat)} (H : tkR h h' l y a X v r) : ∃ z : Int32, v = some (.int z) := by
  match r, H with
  | .inl k, H => exact ⟨_, H.1⟩
  | .inr (n, s), H => exact ⟨_, H.1⟩
theorem lk_none0 : ∀ n, n < 128 → (n == 45 || n == 66 || n == 68 || n == 79 || n == 83 || n == 84 || Op.lookupswitch.offset [(45, 59), (66, 75), (68, 90), (79, 66), (83, 84), (84, 97)] 104 (nI n).toInt == 104) = true := by decide
theorem lk_none (n : Nat) (h : n < 128) (h1 : n ≠ 45) (h2 : n ≠ 66) (h3 : n ≠ 68) (h4 : n ≠ 79) (h5 : n ≠ 83) (h6 : n ≠ 84) : Op.lookupswitch.offset [(45, 59), (66, 75), (68, 90), (79, 66), (83, 84), (84, 97)] 104 (nI n).toInt = 104 := by
  have := lk_none0 n h
  simp only [Bool.or_eq_true, beq_iff_eq, h1, h2, h3, h4, h5, h6, false_or] at this
  exact this
theorem paN_le {y : Nat → Nat} {l a c s : Nat} (ha : a < l) : match paN y l a c s with
    | .inl k => k ≤ l
    | .inr (n, s') => 1 ≤ n ∧ a + n ≤ l ∧ s' = s := by
  unfold paN
  by_cases h : a + 1 < l ∧ y (a + 1) = c
  · rw [if_pos h]; exact ⟨by omega, by omega, rfl⟩
  · rw [if_neg h]; show a + 1 ≤ l; omega
theorem nuN_le {y : Nat → Nat} {l a w : Nat} (ha : a < l) : match nuN y l a w with
    | .inl k => k ≤ l
    | .inr (n, s') => 1 ≤ n ∧ a + n ≤ l ∧ w + 1 ≤ s' ∧ s' ≤ w + 20 := by
  have hf : a + 1 + (nmN y l (a + 1)).1 ≤ l := by
    unfold nmN
    by_cases h : a + 1 < l ∧ 48 ≤ y (a + 1) ∧ y (a + 1) ≤ 57
    · rw [if_pos h]
      by_cases h2 : a + 1 + 1 < l ∧ 48 ≤ y (a + 1 + 1) ∧ y (a + 1 + 1) ≤ 57
      · rw [if_pos h2]; show a + 1 + 2 ≤ l; omega
      · rw [if_neg h2]; show a + 1 + 1 ≤ l; omega
    · rw [if_neg h]; show a + 1 + 0 ≤ l; omega
  unfold nuN
  by_cases h : 1 ≤ (nmN y l (a + 1)).2 ∧ (nmN y l (a + 1)).2 ≤ 20
  · rw [if_pos h]; exact ⟨by omega, by omega, by omega, by omega⟩
  · rw [if_neg h]; show a + 1 ≤ l; omega
theorem psN_le {y : Nat → Nat} {l a : Nat} : match psN y l a with
    | .inl k => k ≤ max l a
    | .inr (n, s) => 1 ≤ n ∧ a + n ≤ l ∧ s < 63 := by
  unfold psN
  by_cases h : l ≤ a
  · rw [if_pos h]; show l ≤ max l a; omega
  rw [if_neg h]
  have hp : ∀ c s, s < 63 → match paN y l a c s with
    | .inl k => k ≤ max l a
    | .inr (n, s) => 1 ≤ n ∧ a + n ≤ l ∧ s < 63 := by
    intro c s hs
    have := paN_le (y := y) (c := c) (s := s) (show a < l by omega)
    match hq : paN y l a c s, this with
    | .inl k, z => have z : k ≤ l := z; show k ≤ max l a; omega
    | .inr (n, s'), z => have z : 1 ≤ n ∧ a + n ≤ l ∧ s' = s := z; show 1 ≤ n ∧ a + n ≤ l ∧ s' < 63; omega
  have hq : ∀ w, w ≤ 40 → match nuN y l a w with
    | .inl k => k ≤ max l a
    | .inr (n, s) => 1 ≤ n ∧ a + n ≤ l ∧ s < 63 := by
    intro w hw
    have := nuN_le (y := y) (w := w) (show a < l by omega)
    match hq : nuN y l a w, this with
    | .inl k, z => have z : k ≤ l := z; show k ≤ max l a; omega
    | .inr (n, s'), z => have z : 1 ≤ n ∧ a + n ≤ l ∧ w + 1 ≤ s' ∧ s' ≤ w + 20 := z; show 1 ≤ n ∧ a + n ≤ l ∧ s' < 63; omega
  by_cases h1 : y a = 45
  · rw [if_pos h1]; show 1 ≤ 1 ∧ a + 1 ≤ l ∧ 0 < 63; omega
  rw [if_neg h1]
  by_cases h2 : y a = 79
  · rw [if_pos h2]; exact hp _ _ (by decide)
  rw [if_neg h2]
  by_cases h3 : y a = 66
  · rw [if_pos h3]; exact hp _ _ (by decide)
  rw [if_neg h3]
  by_cases h4 : y a = 83
  · rw [if_pos h4]; exact hq _ (by decide)
  rw [if_neg h4]
  by_cases h5 : y a = 68
  · rw [if_pos h5]; exact hq _ (by decide)
  rw [if_neg h5]
  by_cases h6 : y a = 84
  · rw [if_pos h6]; exact hq _ (by decide)
  rw [if_neg h6]
  show a ≤ max l a; omega
theorem c_faultOfSpot (w : XW) (h : XH) {l a : Nat} {y : Nat → Nat} {X : List Nat} (hn : 75 ≤ h.1) (hT : TP h l y a X) (hX : X.length < 12) (ha : a ≤ l) : CA w M_X10_faultOfSpot [.ref 72] h (fun v h' => tkR h h' l y a X v (psN y l a)) := by
  refine CA.of (by decide) rfl (fun _ => Nat.le_of_ble_eq_true rfl) ?_
  obtain ⟨-, hl60, hX12, ⟨f, e73, qf⟩, s, e74, qs⟩ := id hT
  show AX w M_X10_faultOfSpot 0 0 0 [.ref 72] [] h _
  refine AX.aload_n (pc := 0) dX10_faultOfSpot_0 rfl ?_
  refine AX.getf (pc := 1) fX10_faultOfSpot_26 (lt_k hn (by omega)) hT.1 rfl dX10_faultOfSpot_1 ?_
  refine AX.aload_n (pc := 4) dX10_faultOfSpot_4 rfl ?_
  refine AX.getf (pc := 5) fX10_faultOfSpot_18 (lt_k hn (by omega)) hT.1 rfl dX10_faultOfSpot_5 ?_
  refine AX.icmp_ltN (pc := 8) (tgt := 16) dX10_faultOfSpot_8 (by decide) (by omega) (by omega) (fun hc8 => ?_) (fun hc8 => ?_)
  · refine AX.aload_n (pc := 16) dX10_faultOfSpot_16 rfl ?_
    refine AX.getf (pc := 17) fX10_faultOfSpot_11 (lt_k hn (by omega)) hT.1 rfl dX10_faultOfSpot_17 ?_
    refine AX.aload_n (pc := 20) dX10_faultOfSpot_20 rfl ?_
    refine AX.getf (pc := 21) fX10_faultOfSpot_26 (lt_k hn (by omega)) hT.1 rfl dX10_faultOfSpot_21 ?_
    refine AX.ialdN (pc := 24) (i := a) (v := (nI (y a))) (lt_k hn (by omega)) e73 (by decide) (by omega) ((qf _ (by omega)).1) dX10_faultOfSpot_24 ?_
    by_cases k0 : y a = 45
    · have hr : psN y l a = .inr (1, 0) := by unfold psN; rw [if_neg (by omega), if_pos k0]
      show AX w M_X10_faultOfSpot 0 0 25 [.ref 72] [.int (nI (y a))] _ _
      rw [hr, k0]
      refine AX.lookup (pc := 25) (off := 59) (tgt := 84) dX10_faultOfSpot_25 (by decide) (by decide) (by decide) ?_
      refine AX.aload_n (pc := 84) dX10_faultOfSpot_84 rfl ?_
      refine AX.iconst (pc := 85) (v := nI 1) dX10_faultOfSpot_85 (by decide) ?_
      refine AX.iconst (pc := 86) (v := nI 0) dX10_faultOfSpot_86 (by decide) ?_
      refine AX.callV (pc := 87) (M2 := M_X10_take) (As := [.int (nI 1), .int (nI 0)]) (rest := []) (c_take w h 1 0 hn hT hX ha (by decide)) xc_X10_faultOfSpot__X10_take gX10_faultOfSpot_X10_take (ci := 9) rfl (lt_k hn (by omega)) hT.1 rfl (Nat.le_of_ble_eq_true rfl) dX10_faultOfSpot_87 ?_
      rintro _ h1 ⟨rfl, s1, T1⟩
      show AX w M_X10_faultOfSpot 0 0 90 [.ref 72] [.int (-1)] _ _
      refine AX.iret (pc := 90) dX10_faultOfSpot_90 rfl rfl (by decide) (by decide) ?_
      exact ⟨rfl, s1, T1⟩
    by_cases k1 : y a = 79
    · have hr : psN y l a = paN y l a 66 61 := by unfold psN; rw [if_neg (by omega), if_neg k0, if_pos k1]
      show AX w M_X10_faultOfSpot 0 0 25 [.ref 72] [.int (nI (y a))] _ _
      rw [hr, k1]
      refine AX.lookup (pc := 25) (off := 66) (tgt := 91) dX10_faultOfSpot_25 (by decide) (by decide) (by decide) ?_
      refine AX.aload_n (pc := 91) dX10_faultOfSpot_91 rfl ?_
      refine AX.bipush (pc := 92) (v := nI 66) dX10_faultOfSpot_92 (by decide) ?_
      refine AX.bipush (pc := 94) (v := nI 61) dX10_faultOfSpot_94 (by decide) ?_
      refine AX.callV (pc := 96) (M2 := M_X10_faultOfPair) (As := [.int (nI 66), .int (nI 61)]) (rest := []) (c_faultOfPair w h 66 61 hn hT hX ha (by decide)) xc_X10_faultOfSpot__X10_faultOfPair gX10_faultOfSpot_X10_faultOfPair (ci := 9) rfl (lt_k hn (by omega)) hT.1 rfl (Nat.le_of_ble_eq_true rfl) dX10_faultOfSpot_96 ?_
      rintro v1 h1 T1
      obtain ⟨z, rfl⟩ := T1.int
      show AX w M_X10_faultOfSpot 0 0 99 [.ref 72] [.int z] _ _
      refine AX.iret (pc := 99) dX10_faultOfSpot_99 rfl rfl (by decide) (by decide) ?_
      exact T1
    by_cases k2 : y a = 66
    · have hr : psN y l a = paN y l a 85 62 := by unfold psN; rw [if_neg (by omega), if_neg k0, if_neg k1, if_pos k2]
      show AX w M_X10_faultOfSpot 0 0 25 [.ref 72] [.int (nI (y a))] _ _
      rw [hr, k2]
      refine AX.lookup (pc := 25) (off := 75) (tgt := 100) dX10_faultOfSpot_25 (by decide) (by decide) (by decide) ?_
      refine AX.aload_n (pc := 100) dX10_faultOfSpot_100 rfl ?_
      refine AX.bipush (pc := 101) (v := nI 85) dX10_faultOfSpot_101 (by decide) ?_
      refine AX.bipush (pc := 103) (v := nI 62) dX10_faultOfSpot_103 (by decide) ?_
      refine AX.callV (pc := 105) (M2 := M_X10_faultOfPair) (As := [.int (nI 85), .int (nI 62)]) (rest := []) (c_faultOfPair w h 85 62 hn hT hX ha (by decide)) xc_X10_faultOfSpot__X10_faultOfPair gX10_faultOfSpot_X10_faultOfPair (ci := 9) rfl (lt_k hn (by omega)) hT.1 rfl (Nat.le_of_ble_eq_true rfl) dX10_faultOfSpot_105 ?_
      rintro v1 h1 T1
      obtain ⟨z, rfl⟩ := T1.int
      show AX w M_X10_faultOfSpot 0 0 108 [.ref 72] [.int z] _ _
      refine AX.iret (pc := 108) dX10_faultOfSpot_108 rfl rfl (by decide) (by decide) ?_
      exact T1
    by_cases k3 : y a = 83
    · have hr : psN y l a = nuN y l a 0 := by unfold psN; rw [if_neg (by omega), if_neg k0, if_neg k1, if_neg k2, if_pos k3]
      show AX w M_X10_faultOfSpot 0 0 25 [.ref 72] [.int (nI (y a))] _ _
      rw [hr, k3]
      refine AX.lookup (pc := 25) (off := 84) (tgt := 109) dX10_faultOfSpot_25 (by decide) (by decide) (by decide) ?_
      refine AX.aload_n (pc := 109) dX10_faultOfSpot_109 rfl ?_
      refine AX.iconst (pc := 110) (v := nI 0) dX10_faultOfSpot_110 (by decide) ?_
      refine AX.callV (pc := 111) (M2 := M_X10_faultOfNumber) (As := [.int (nI 0)]) (rest := []) (c_faultOfNumber w h 0 hn hT hX ha (by decide)) xc_X10_faultOfSpot__X10_faultOfNumber gX10_faultOfSpot_X10_faultOfNumber (ci := 9) rfl (lt_k hn (by omega)) hT.1 rfl (Nat.le_of_ble_eq_true rfl) dX10_faultOfSpot_111 ?_
      rintro v1 h1 T1
      obtain ⟨z, rfl⟩ := T1.int
      show AX w M_X10_faultOfSpot 0 0 114 [.ref 72] [.int z] _ _
      refine AX.iret (pc := 114) dX10_faultOfSpot_114 rfl rfl (by decide) (by decide) ?_
      exact T1
    by_cases k4 : y a = 68
    · have hr : psN y l a = nuN y l a 20 := by unfold psN; rw [if_neg (by omega), if_neg k0, if_neg k1, if_neg k2, if_neg k3, if_pos k4]
      show AX w M_X10_faultOfSpot 0 0 25 [.ref 72] [.int (nI (y a))] _ _
      rw [hr, k4]
      refine AX.lookup (pc := 25) (off := 90) (tgt := 115) dX10_faultOfSpot_25 (by decide) (by decide) (by decide) ?_
      refine AX.aload_n (pc := 115) dX10_faultOfSpot_115 rfl ?_
      refine AX.bipush (pc := 116) (v := nI 20) dX10_faultOfSpot_116 (by decide) ?_
      refine AX.callV (pc := 118) (M2 := M_X10_faultOfNumber) (As := [.int (nI 20)]) (rest := []) (c_faultOfNumber w h 20 hn hT hX ha (by decide)) xc_X10_faultOfSpot__X10_faultOfNumber gX10_faultOfSpot_X10_faultOfNumber (ci := 9) rfl (lt_k hn (by omega)) hT.1 rfl (Nat.le_of_ble_eq_true rfl) dX10_faultOfSpot_118 ?_
      rintro v1 h1 T1
      obtain ⟨z, rfl⟩ := T1.int
      show AX w M_X10_faultOfSpot 0 0 121 [.ref 72] [.int z] _ _
      refine AX.iret (pc := 121) dX10_faultOfSpot_121 rfl rfl (by decide) (by decide) ?_
      exact T1
    by_cases k5 : y a = 84
    · have hr : psN y l a = nuN y l a 40 := by unfold psN; rw [if_neg (by omega), if_neg k0, if_neg k1, if_neg k2, if_neg k3, if_neg k4, if_pos k5]
      show AX w M_X10_faultOfSpot 0 0 25 [.ref 72] [.int (nI (y a))] _ _
      rw [hr, k5]
      refine AX.lookup (pc := 25) (off := 97) (tgt := 122) dX10_faultOfSpot_25 (by decide) (by decide) (by decide) ?_
      refine AX.aload_n (pc := 122) dX10_faultOfSpot_122 rfl ?_
      refine AX.bipush (pc := 123) (v := nI 40) dX10_faultOfSpot_123 (by decide) ?_
      refine AX.callV (pc := 125) (M2 := M_X10_faultOfNumber) (As := [.int (nI 40)]) (rest := []) (c_faultOfNumber w h 40 hn hT hX ha (by decide)) xc_X10_faultOfSpot__X10_faultOfNumber gX10_faultOfSpot_X10_faultOfNumber (ci := 9) rfl (lt_k hn (by omega)) hT.1 rfl (Nat.le_of_ble_eq_true rfl) dX10_faultOfSpot_125 ?_
      rintro v1 h1 T1
      obtain ⟨z, rfl⟩ := T1.int
      show AX w M_X10_faultOfSpot 0 0 128 [.ref 72] [.int z] _ _
      refine AX.iret (pc := 128) dX10_faultOfSpot_128 rfl rfl (by decide) (by decide) ?_
      exact T1
    have hr : psN y l a = .inl a := by unfold psN; rw [if_neg (by omega), if_neg k0, if_neg k1, if_neg k2, if_neg k3, if_neg k4, if_neg k5]
    rw [hr]
    refine AX.lookup (pc := 25) (off := 104) (tgt := 129) dX10_faultOfSpot_25 (by decide) (lk_none _ (yb qf (by omega)) k0 k2 k4 k1 k3 k5) (by decide) ?_
    refine AX.aload_n (pc := 129) dX10_faultOfSpot_129 rfl ?_
    refine AX.getf (pc := 130) fX10_faultOfSpot_26 (lt_k hn (by omega)) hT.1 rfl dX10_faultOfSpot_130 ?_
    refine AX.iret (pc := 133) dX10_faultOfSpot_133 rfl rfl (by decide) (by decide) ?_
    exact ⟨rfl, rfl⟩
  · refine AX.aload_n (pc := 11) dX10_faultOfSpot_11 rfl ?_
    refine AX.getf (pc := 12) fX10_faultOfSpot_18 (lt_k hn (by omega)) hT.1 rfl dX10_faultOfSpot_12 ?_
    refine AX.iret (pc := 15) dX10_faultOfSpot_15 rfl rfl (by decide) (by decide) ?_
    have hr : psN y l a = .inl l := if_pos (by omega)
    show tkR _ _ _ _ _ _ _ (psN y l a)
    rw [hr]
    exact ⟨rfl, rfl⟩
