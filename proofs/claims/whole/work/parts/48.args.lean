/-! ===== THE FACE: what an argument may be ===== -/
theorem in_nat {x : Int32} {n : Nat} (hn : n < 2147483648) (h0 : ¬ x < 0) (h1 : x < nI n) : ∃ k, x = nI k ∧ k < n := by
  have a : ¬ x.toInt < (0 : Int32).toInt := fun q => h0 (Int32.lt_iff_toInt_lt.mpr q)
  have b := Int32.lt_iff_toInt_lt.mp h1
  rw [nI_toInt hn] at b
  have z : (0 : Int32).toInt = 0 := by decide
  refine ⟨x.toInt.toNat, Int32.toInt_inj.mp ?_, by omega⟩
  rw [nI_toInt (by omega)]
  omega
theorem c_isSpot (w : XW) (h : XH) (x : Int32) : CA w M_X11_isSpot [.int x] h (fun v' h'' => v' = some (.int (bI (decide (¬ x < 0 ∧ x < nI 63)))) ∧ h'' = h) := by
  refine CA.of (by decide) rfl (fun _ => Nat.le_of_ble_eq_true rfl) ?_
  show AX w M_X11_isSpot 0 0 0 [.int x] [] h _
  refine AX.iload_n (pc := 0) dX11_isSpot_0 rfl ?_
  refine AX.if_lt (pc := 1) (tgt := 14) dX11_isSpot_1 (by decide) (fun hc1 => ?_) (fun hc1 => ?_)
  · refine AX.iconst (pc := 14) (v := nI 0) dX11_isSpot_14 (by decide) ?_
    refine AX.iret (pc := 15) dX11_isSpot_15 rfl rfl (by decide) (by decide) ?_
    exact ⟨s0 (decide_eq_false (by first | (rintro ⟨q1, q2⟩; first | exact q1 (by assumption) | exact absurd q2 (Int32.not_lt.mpr (by assumption)) | exact q2 (by assumption)) | (rintro (q1 | q1) <;> first | (exact absurd q1 (by assumption)) | (exact absurd q1 (by assumption))))), rfl⟩
  · refine AX.iload_n (pc := 4) dX11_isSpot_4 rfl ?_
    refine AX.bipush (pc := 5) (v := nI 63) dX11_isSpot_5 (by decide) ?_
    refine AX.icmp_ge (pc := 7) (tgt := 14) dX11_isSpot_7 (by decide) (fun hc7 => ?_) (fun hc7 => ?_)
    · refine AX.iconst (pc := 14) (v := nI 0) dX11_isSpot_14 (by decide) ?_
      refine AX.iret (pc := 15) dX11_isSpot_15 rfl rfl (by decide) (by decide) ?_
      exact ⟨s0 (decide_eq_false (by first | (rintro ⟨q1, q2⟩; first | exact q1 (by assumption) | exact absurd q2 (Int32.not_lt.mpr (by assumption)) | exact q2 (by assumption)) | (rintro (q1 | q1) <;> first | (exact absurd q1 (by assumption)) | (exact absurd q1 (by assumption))))), rfl⟩
    · refine AX.iconst (pc := 10) (v := nI 1) dX11_isSpot_10 (by decide) ?_
      refine AX.goto (pc := 11) (tgt := 15) dX11_isSpot_11 (by decide) ?_
      refine AX.iret (pc := 15) dX11_isSpot_15 rfl rfl (by decide) (by decide) ?_
      exact ⟨s1 (decide_eq_true (by first | exact ⟨by assumption, by assumption⟩ | exact ⟨by assumption, Int32.not_le.mp (by assumption)⟩ | exact ⟨by assumption, Int32.not_lt.mpr (by assumption)⟩ | exact Or.inl (by assumption) | exact Or.inr (by assumption) | exact Or.inr (Decidable.of_not_not (by assumption)))), rfl⟩
theorem c_isAim (w : XW) (h : XH) (x : Int32) : CA w M_X11_isAim [.int x] h (fun v' h'' => v' = some (.int (bI (decide (¬ x < nI 1 ∧ x < nI 63)))) ∧ h'' = h) := by
  refine CA.of (by decide) rfl (fun _ => Nat.le_of_ble_eq_true rfl) ?_
  show AX w M_X11_isAim 0 0 0 [.int x] [] h _
  refine AX.iload_n (pc := 0) dX11_isAim_0 rfl ?_
  refine AX.iconst (pc := 1) (v := nI 1) dX11_isAim_1 (by decide) ?_
  refine AX.icmp_lt (pc := 2) (tgt := 15) dX11_isAim_2 (by decide) (fun hc2 => ?_) (fun hc2 => ?_)
  · refine AX.iconst (pc := 15) (v := nI 0) dX11_isAim_15 (by decide) ?_
    refine AX.iret (pc := 16) dX11_isAim_16 rfl rfl (by decide) (by decide) ?_
    exact ⟨s0 (decide_eq_false (by first | (rintro ⟨q1, q2⟩; first | exact q1 (by assumption) | exact absurd q2 (Int32.not_lt.mpr (by assumption)) | exact q2 (by assumption)) | (rintro (q1 | q1) <;> first | (exact absurd q1 (by assumption)) | (exact absurd q1 (by assumption))))), rfl⟩
  · refine AX.iload_n (pc := 5) dX11_isAim_5 rfl ?_
    refine AX.bipush (pc := 6) (v := nI 63) dX11_isAim_6 (by decide) ?_
    refine AX.icmp_ge (pc := 8) (tgt := 15) dX11_isAim_8 (by decide) (fun hc8 => ?_) (fun hc8 => ?_)
    · refine AX.iconst (pc := 15) (v := nI 0) dX11_isAim_15 (by decide) ?_
      refine AX.iret (pc := 16) dX11_isAim_16 rfl rfl (by decide) (by decide) ?_
      exact ⟨s0 (decide_eq_false (by first | (rintro ⟨q1, q2⟩; first | exact q1 (by assumption) | exact absurd q2 (Int32.not_lt.mpr (by assumption)) | exact q2 (by assumption)) | (rintro (q1 | q1) <;> first | (exact absurd q1 (by assumption)) | (exact absurd q1 (by assumption))))), rfl⟩
    · refine AX.iconst (pc := 11) (v := nI 1) dX11_isAim_11 (by decide) ?_
      refine AX.goto (pc := 12) (tgt := 16) dX11_isAim_12 (by decide) ?_
      refine AX.iret (pc := 16) dX11_isAim_16 rfl rfl (by decide) (by decide) ?_
      exact ⟨s1 (decide_eq_true (by first | exact ⟨by assumption, by assumption⟩ | exact ⟨by assumption, Int32.not_le.mp (by assumption)⟩ | exact ⟨by assumption, Int32.not_lt.mpr (by assumption)⟩ | exact Or.inl (by assumption) | exact Or.inr (by assumption) | exact Or.inr (Decidable.of_not_not (by assumption)))), rfl⟩
theorem c_isKind (w : XW) (h : XH) (x : Int32) : CA w M_X11_isKind [.int x] h (fun v' h'' => v' = some (.int (bI (decide (¬ x < 0 ∧ ¬ nI 5 < x)))) ∧ h'' = h) := by
  refine CA.of (by decide) rfl (fun _ => Nat.le_of_ble_eq_true rfl) ?_
  show AX w M_X11_isKind 0 0 0 [.int x] [] h _
  refine AX.iload_n (pc := 0) dX11_isKind_0 rfl ?_
  refine AX.if_lt (pc := 1) (tgt := 13) dX11_isKind_1 (by decide) (fun hc1 => ?_) (fun hc1 => ?_)
  · refine AX.iconst (pc := 13) (v := nI 0) dX11_isKind_13 (by decide) ?_
    refine AX.iret (pc := 14) dX11_isKind_14 rfl rfl (by decide) (by decide) ?_
    exact ⟨s0 (decide_eq_false (by first | (rintro ⟨q1, q2⟩; first | exact q1 (by assumption) | exact absurd q2 (Int32.not_lt.mpr (by assumption)) | exact q2 (by assumption)) | (rintro (q1 | q1) <;> first | (exact absurd q1 (by assumption)) | (exact absurd q1 (by assumption))))), rfl⟩
  · refine AX.iload_n (pc := 4) dX11_isKind_4 rfl ?_
    refine AX.iconst (pc := 5) (v := nI 5) dX11_isKind_5 (by decide) ?_
    refine AX.icmp_gt (pc := 6) (tgt := 13) dX11_isKind_6 (by decide) (fun hc6 => ?_) (fun hc6 => ?_)
    · refine AX.iconst (pc := 13) (v := nI 0) dX11_isKind_13 (by decide) ?_
      refine AX.iret (pc := 14) dX11_isKind_14 rfl rfl (by decide) (by decide) ?_
      exact ⟨s0 (decide_eq_false (by first | (rintro ⟨q1, q2⟩; first | exact q1 (by assumption) | exact absurd q2 (Int32.not_lt.mpr (by assumption)) | exact q2 (by assumption)) | (rintro (q1 | q1) <;> first | (exact absurd q1 (by assumption)) | (exact absurd q1 (by assumption))))), rfl⟩
    · refine AX.iconst (pc := 9) (v := nI 1) dX11_isKind_9 (by decide) ?_
      refine AX.goto (pc := 10) (tgt := 14) dX11_isKind_10 (by decide) ?_
      refine AX.iret (pc := 14) dX11_isKind_14 rfl rfl (by decide) (by decide) ?_
      exact ⟨s1 (decide_eq_true (by first | exact ⟨by assumption, by assumption⟩ | exact ⟨by assumption, Int32.not_le.mp (by assumption)⟩ | exact ⟨by assumption, Int32.not_lt.mpr (by assumption)⟩ | exact Or.inl (by assumption) | exact Or.inr (by assumption) | exact Or.inr (Decidable.of_not_not (by assumption)))), rfl⟩
theorem c_isPlayer (w : XW) (h : XH) (x : Int32) : CA w M_X11_isPlayer [.int x] h (fun v' h'' => v' = some (.int (bI (decide (x = 0 ∨ x = nI 1)))) ∧ h'' = h) := by
  refine CA.of (by decide) rfl (fun _ => Nat.le_of_ble_eq_true rfl) ?_
  show AX w M_X11_isPlayer 0 0 0 [.int x] [] h _
  refine AX.iload_n (pc := 0) dX11_isPlayer_0 rfl ?_
  refine AX.if_eq (pc := 1) (tgt := 9) dX11_isPlayer_1 (by decide) (fun hc1 => ?_) (fun hc1 => ?_)
  · refine AX.iconst (pc := 9) (v := nI 1) dX11_isPlayer_9 (by decide) ?_
    refine AX.goto (pc := 10) (tgt := 14) dX11_isPlayer_10 (by decide) ?_
    refine AX.iret (pc := 14) dX11_isPlayer_14 rfl rfl (by decide) (by decide) ?_
    exact ⟨s1 (decide_eq_true (by first | exact ⟨by assumption, by assumption⟩ | exact ⟨by assumption, Int32.not_le.mp (by assumption)⟩ | exact ⟨by assumption, Int32.not_lt.mpr (by assumption)⟩ | exact Or.inl (by assumption) | exact Or.inr (by assumption) | exact Or.inr (Decidable.of_not_not (by assumption)))), rfl⟩
  · refine AX.iload_n (pc := 4) dX11_isPlayer_4 rfl ?_
    refine AX.iconst (pc := 5) (v := nI 1) dX11_isPlayer_5 (by decide) ?_
    refine AX.icmp_ne (pc := 6) (tgt := 13) dX11_isPlayer_6 (by decide) (fun hc6 => ?_) (fun hc6 => ?_)
    · refine AX.iconst (pc := 13) (v := nI 0) dX11_isPlayer_13 (by decide) ?_
      refine AX.iret (pc := 14) dX11_isPlayer_14 rfl rfl (by decide) (by decide) ?_
      exact ⟨s0 (decide_eq_false (by first | (rintro ⟨q1, q2⟩; first | exact q1 (by assumption) | exact absurd q2 (Int32.not_lt.mpr (by assumption)) | exact q2 (by assumption)) | (rintro (q1 | q1) <;> first | (exact absurd q1 (by assumption)) | (exact absurd q1 (by assumption))))), rfl⟩
    · refine AX.iconst (pc := 9) (v := nI 1) dX11_isPlayer_9 (by decide) ?_
      refine AX.goto (pc := 10) (tgt := 14) dX11_isPlayer_10 (by decide) ?_
      refine AX.iret (pc := 14) dX11_isPlayer_14 rfl rfl (by decide) (by decide) ?_
      exact ⟨s1 (decide_eq_true (by first | exact ⟨by assumption, by assumption⟩ | exact ⟨by assumption, Int32.not_le.mp (by assumption)⟩ | exact ⟨by assumption, Int32.not_lt.mpr (by assumption)⟩ | exact Or.inl (by assumption) | exact Or.inr (by assumption) | exact Or.inr (Decidable.of_not_not (by assumption)))), rfl⟩
theorem c_isRack (w : XW) (h : XH) (x : Int32) : CA w M_X11_isRack [.int x] h (fun v' h'' => v' = some (.int (bI (decide (¬ x < 0 ∧ x < nI 4)))) ∧ h'' = h) := by
  refine CA.of (by decide) rfl (fun _ => Nat.le_of_ble_eq_true rfl) ?_
  show AX w M_X11_isRack 0 0 0 [.int x] [] h _
  refine AX.iload_n (pc := 0) dX11_isRack_0 rfl ?_
  refine AX.if_lt (pc := 1) (tgt := 13) dX11_isRack_1 (by decide) (fun hc1 => ?_) (fun hc1 => ?_)
  · refine AX.iconst (pc := 13) (v := nI 0) dX11_isRack_13 (by decide) ?_
    refine AX.iret (pc := 14) dX11_isRack_14 rfl rfl (by decide) (by decide) ?_
    exact ⟨s0 (decide_eq_false (by first | (rintro ⟨q1, q2⟩; first | exact q1 (by assumption) | exact absurd q2 (Int32.not_lt.mpr (by assumption)) | exact q2 (by assumption)) | (rintro (q1 | q1) <;> first | (exact absurd q1 (by assumption)) | (exact absurd q1 (by assumption))))), rfl⟩
  · refine AX.iload_n (pc := 4) dX11_isRack_4 rfl ?_
    refine AX.iconst (pc := 5) (v := nI 4) dX11_isRack_5 (by decide) ?_
    refine AX.icmp_ge (pc := 6) (tgt := 13) dX11_isRack_6 (by decide) (fun hc6 => ?_) (fun hc6 => ?_)
    · refine AX.iconst (pc := 13) (v := nI 0) dX11_isRack_13 (by decide) ?_
      refine AX.iret (pc := 14) dX11_isRack_14 rfl rfl (by decide) (by decide) ?_
      exact ⟨s0 (decide_eq_false (by first | (rintro ⟨q1, q2⟩; first | exact q1 (by assumption) | exact absurd q2 (Int32.not_lt.mpr (by assumption)) | exact q2 (by assumption)) | (rintro (q1 | q1) <;> first | (exact absurd q1 (by assumption)) | (exact absurd q1 (by assumption))))), rfl⟩
    · refine AX.iconst (pc := 9) (v := nI 1) dX11_isRack_9 (by decide) ?_
      refine AX.goto (pc := 10) (tgt := 14) dX11_isRack_10 (by decide) ?_
      refine AX.iret (pc := 14) dX11_isRack_14 rfl rfl (by decide) (by decide) ?_
      exact ⟨s1 (decide_eq_true (by first | exact ⟨by assumption, by assumption⟩ | exact ⟨by assumption, Int32.not_le.mp (by assumption)⟩ | exact ⟨by assumption, Int32.not_lt.mpr (by assumption)⟩ | exact Or.inl (by assumption) | exact Or.inr (by assumption) | exact Or.inr (Decidable.of_not_not (by assumption)))), rfl⟩
