/-! ===== THE REFERENCE: its object; SPOTS ===== -/
/-- the reference's object: its numbers v (0 hasImage, 1 fallMany, 2 chanceAim0, 3 raceAim0, 4 pathMany, 5 paperSize, 6 size, 7 place, 8 isBad, 9 toldMany) -/
def MO (h : XH) (v : Nat → Int32) : Prop := h.2 87 = .inr (11, [.ref 88, .ref 89, .ref 90, .int (v 0), .int (v 1), .ref 91, .ref 92, .ref 93, .ref 94, .ref 95, .ref 96, .ref 97, .ref 98, .ref 99, .ref 100, .ref 101, .int (v 2), .ref 102, .ref 103, .ref 104, .ref 105, .ref 106, .ref 107, .ref 108, .int (v 3), .ref 109, .int (v 4), .ref 110, .ref 111, .int (v 5), .ref 112, .int (v 6), .int (v 7), .int (v 8), .ref 113, .int (v 9), .ref 114, .ref 115, .ref 116, .ref 117])
theorem MO.same {S : List Nat} {h h' : XH} {v : Nat → Int32} (H : MO h v) (hs : Same S h h') (h0 : 87 ∉ S) : MO h' v := hs.at h0 H
theorem n64 (k : Nat) (hk : k < 2147483648) : ((nI k).toInt64).toInt = (k : Int) := by rw [Int32.toInt_toInt64]; exact nI_toInt hk
theorem in_iff {lo hi : Int64} {x : Int32} {L H : Nat} (e1 : lo.toInt = (L : Int)) (e2 : hi.toInt = (H : Int)) : (lo.toInt ≤ x.toInt64.toInt ∧ x.toInt64.toInt ≤ hi.toInt) ↔ inR L H x := by
  rw [e1, e2, Int32.toInt_toInt64]
theorem l64 {x y : Int64} : x < y ↔ x.toInt < y.toInt := Int64.lt_iff_toInt_lt
theorem lcl {x y : Int64} (h : x.toInt < y.toInt) : lg_cmp x y < 0 := (lg_cmp_lt x y).mpr (l64.mpr h)
theorem lcnl {x y : Int64} (h : y.toInt ≤ x.toInt) : ¬ lg_cmp x y < 0 := fun q => by have := l64.mp ((lg_cmp_lt x y).mp q); omega
theorem lcg {x y : Int64} (h : y.toInt < x.toInt) : 0 < lg_cmp x y := (lg_cmp_gt x y).mpr (l64.mpr h)
theorem lcng {x y : Int64} (h : x.toInt ≤ y.toInt) : ¬ 0 < lg_cmp x y := fun q => by have := l64.mp ((lg_cmp_gt x y).mp q); omega
theorem ix_rg : ∀ k, k < 20 → ixN (rgN k) = k := by decide
theorem c_in (w : XW) (h : XH) (x lo hi : Int64) : CE w M_X12_in [.long x, .long lo, .long hi] h (some (.int (bI (decide (lo.toInt ≤ x.toInt ∧ x.toInt ≤ hi.toInt))))) h := by
  refine CA.of (by decide) rfl (fun _ => Nat.le_of_ble_eq_true rfl) ?_
  show AX w M_X12_in 0 0 0 [.long x, .null, .long lo, .null, .long hi, .null] [] h _
  by_cases h1 : x.toInt < lo.toInt
  · refine AX.lload_n (pc := 0) dX12_in_0 rfl ?_
    refine AX.lload_n (pc := 1) dX12_in_1 rfl ?_
    refine AX.lcmp (pc := 2) dX12_in_2 ?_
    refine AX.if_lt (pc := 3) (tgt := 17) dX12_in_3 (by decide) (fun hc3 => ?_) (fun q => absurd (lcl h1) q)
    refine AX.iconst (pc := 17) (v := nI 0) dX12_in_17 (by decide) ?_
    refine AX.iret (pc := 18) dX12_in_18 rfl rfl (by decide) (by decide) ?_
    exact ⟨s0 (decide_eq_false (fun q => by omega)), rfl⟩
  by_cases h2 : hi.toInt < x.toInt
  · refine AX.lload_n (pc := 0) dX12_in_0 rfl ?_
    refine AX.lload_n (pc := 1) dX12_in_1 rfl ?_
    refine AX.lcmp (pc := 2) dX12_in_2 ?_
    refine AX.if_lt (pc := 3) (tgt := 17) dX12_in_3 (by decide) (fun q => absurd q (lcnl (by omega))) (fun hc3 => ?_)
    refine AX.lload_n (pc := 6) dX12_in_6 rfl ?_
    refine AX.lload (pc := 7) dX12_in_7 rfl ?_
    refine AX.lcmp (pc := 9) dX12_in_9 ?_
    refine AX.if_gt (pc := 10) (tgt := 17) dX12_in_10 (by decide) (fun hc10 => ?_) (fun q => absurd (lcg h2) q)
    refine AX.iconst (pc := 17) (v := nI 0) dX12_in_17 (by decide) ?_
    refine AX.iret (pc := 18) dX12_in_18 rfl rfl (by decide) (by decide) ?_
    exact ⟨s0 (decide_eq_false (fun q => by omega)), rfl⟩
  · refine AX.lload_n (pc := 0) dX12_in_0 rfl ?_
    refine AX.lload_n (pc := 1) dX12_in_1 rfl ?_
    refine AX.lcmp (pc := 2) dX12_in_2 ?_
    refine AX.if_lt (pc := 3) (tgt := 17) dX12_in_3 (by decide) (fun q => absurd q (lcnl (by omega))) (fun hc3 => ?_)
    refine AX.lload_n (pc := 6) dX12_in_6 rfl ?_
    refine AX.lload (pc := 7) dX12_in_7 rfl ?_
    refine AX.lcmp (pc := 9) dX12_in_9 ?_
    refine AX.if_gt (pc := 10) (tgt := 17) dX12_in_10 (by decide) (fun q => absurd q (lcng (by omega))) (fun hc10 => ?_)
    refine AX.iconst (pc := 13) (v := nI 1) dX12_in_13 (by decide) ?_
    refine AX.goto (pc := 14) (tgt := 18) dX12_in_14 (by decide) ?_
    refine AX.iret (pc := 18) dX12_in_18 rfl rfl (by decide) (by decide) ?_
    exact ⟨s1 (decide_eq_true ⟨by omega, by omega⟩), rfl⟩
theorem c_mPlayer (w : XW) (h : XH) (x : Int32) : CA w M_X12_isPlayer [.int x] h (fun v' h'' => v' = some (.int (bI (decide (inR 0 1 x)))) ∧ h'' = h) := by
  refine CA.of (by decide) rfl (fun _ => Nat.le_of_ble_eq_true rfl) ?_
  show AX w M_X12_isPlayer 0 0 0 [.int x] [] h _
  refine AX.iload_n (pc := 0) dX12_isPlayer_0 rfl ?_
  refine AX.i2l (pc := 1) dX12_isPlayer_1 ?_
  refine AX.lconst (pc := 2) (v := 0) dX12_isPlayer_2 (by decide) ?_
  refine AX.lconst (pc := 3) (v := 1) dX12_isPlayer_3 (by decide) ?_
  refine AX.callS (pc := 4) (M2 := M_X12_in) (As := [.long x.toInt64, .long 0, .long 1]) (rest := []) (c_in w h (x.toInt64) (0) (1)) xc_X12_isPlayer__X12_in gX12_isPlayer_X12_in rfl (Nat.le_of_ble_eq_true rfl) dX12_isPlayer_4 ?_
  rintro _ h9 ⟨rfl, e9⟩
  have e9 := e9.symm
  subst e9
  rw [decide_eq_decide.mpr (in_iff (x := x) (lo := 0) (hi := 1) (L := 0) (H := 1) (by decide) (by decide))]
  show AX w M_X12_isPlayer 0 0 7 [.int x] [.int (bI (decide (inR 0 1 x)))] _ _
  refine AX.iret (pc := 7) dX12_isPlayer_7 rfl (bI_nar _) (by decide) (by decide) ?_
  exact ⟨rfl, rfl⟩
theorem c_mRack (w : XW) (h : XH) (x : Int32) : CA w M_X12_isRack [.int x] h (fun v' h'' => v' = some (.int (bI (decide (inR 0 3 x)))) ∧ h'' = h) := by
  refine CA.of (by decide) rfl (fun _ => Nat.le_of_ble_eq_true rfl) ?_
  show AX w M_X12_isRack 0 0 0 [.int x] [] h _
  refine AX.iload_n (pc := 0) dX12_isRack_0 rfl ?_
  refine AX.i2l (pc := 1) dX12_isRack_1 ?_
  refine AX.lconst (pc := 2) (v := 0) dX12_isRack_2 (by decide) ?_
  refine AX.ldc2 (pc := 3) (v := 3) dX12_isRack_3 cX12_isRack_114 ?_
  refine AX.callS (pc := 6) (M2 := M_X12_in) (As := [.long x.toInt64, .long 0, .long 3]) (rest := []) (c_in w h (x.toInt64) (0) (3)) xc_X12_isRack__X12_in gX12_isRack_X12_in rfl (Nat.le_of_ble_eq_true rfl) dX12_isRack_6 ?_
  rintro _ h9 ⟨rfl, e9⟩
  have e9 := e9.symm
  subst e9
  rw [decide_eq_decide.mpr (in_iff (x := x) (lo := 0) (hi := 3) (L := 0) (H := 3) (by decide) (by decide))]
  show AX w M_X12_isRack 0 0 9 [.int x] [.int (bI (decide (inR 0 3 x)))] _ _
  refine AX.iret (pc := 9) dX12_isRack_9 rfl (bI_nar _) (by decide) (by decide) ?_
  exact ⟨rfl, rfl⟩
theorem c_mScore (w : XW) (h : XH) (s : Nat) (hs : s < 63) : CA w M_X12_scoreOf [.int (nI s)] h (fun v' h'' => v' = some (.int (nI (scN s))) ∧ h'' = h) := by
  refine CA.of (by decide) rfl (fun _ => Nat.le_of_ble_eq_true rfl) ?_
  show AX w M_X12_scoreOf 0 0 0 [.int (nI s)] [] h _
  refine AX.iload_n (pc := 0) dX12_scoreOf_0 rfl ?_
  refine AX.bipush (pc := 1) (v := nI 61) dX12_scoreOf_1 (by decide) ?_
  refine AX.icmp_ltN (pc := 3) (tgt := 20) dX12_scoreOf_3 (by decide) (by omega) (by decide) (fun hc3 => ?_) (fun hc3 => ?_)
  · refine AX.iload_n (pc := 20) dX12_scoreOf_20 rfl ?_
    refine AX.bipush (pc := 21) (v := nI 20) dX12_scoreOf_21 (by decide) ?_
    refine AX.icmp_gtN (pc := 23) (tgt := 30) dX12_scoreOf_23 (by decide) (by omega) (by decide) (fun hc23 => ?_) (fun hc23 => ?_)
    · refine AX.iload_n (pc := 30) dX12_scoreOf_30 rfl ?_
      refine AX.bipush (pc := 31) (v := nI 40) dX12_scoreOf_31 (by decide) ?_
      refine AX.icmp_gtN (pc := 33) (tgt := 45) dX12_scoreOf_33 (by decide) (by omega) (by decide) (fun hc33 => ?_) (fun hc33 => ?_)
      · refine AX.iconst (pc := 45) (v := nI 3) dX12_scoreOf_45 (by decide) ?_
        refine AX.iload_n (pc := 46) dX12_scoreOf_46 rfl ?_
        refine AX.bipush (pc := 47) (v := nI 40) dX12_scoreOf_47 (by decide) ?_
        refine AX.isubN (pc := 49) (c := s - 40) dX12_scoreOf_49 (by omega) ?_
        refine AX.imulN (pc := 50) (c := 3 * (s - 40)) dX12_scoreOf_50 rfl ?_
        refine AX.iret (pc := 51) dX12_scoreOf_51 rfl rfl (by decide) (by decide) ?_
        exact ⟨sI (by unfold scN; (repeat' split) <;> omega), rfl⟩
      · refine AX.iconst (pc := 36) (v := nI 2) dX12_scoreOf_36 (by decide) ?_
        refine AX.iload_n (pc := 37) dX12_scoreOf_37 rfl ?_
        refine AX.bipush (pc := 38) (v := nI 20) dX12_scoreOf_38 (by decide) ?_
        refine AX.isubN (pc := 40) (c := s - 20) dX12_scoreOf_40 (by omega) ?_
        refine AX.imulN (pc := 41) (c := 2 * (s - 20)) dX12_scoreOf_41 rfl ?_
        refine AX.goto (pc := 42) (tgt := 51) dX12_scoreOf_42 (by decide) ?_
        refine AX.iret (pc := 51) dX12_scoreOf_51 rfl rfl (by decide) (by decide) ?_
        exact ⟨sI (by unfold scN; (repeat' split) <;> omega), rfl⟩
    · refine AX.iload_n (pc := 26) dX12_scoreOf_26 rfl ?_
      refine AX.goto (pc := 27) (tgt := 51) dX12_scoreOf_27 (by decide) ?_
      refine AX.iret (pc := 51) dX12_scoreOf_51 rfl rfl (by decide) (by decide) ?_
      exact ⟨sI (by unfold scN; (repeat' split) <;> omega), rfl⟩
  · refine AX.iload_n (pc := 6) dX12_scoreOf_6 rfl ?_
    refine AX.bipush (pc := 7) (v := nI 61) dX12_scoreOf_7 (by decide) ?_
    refine AX.icmp_neN (pc := 9) (tgt := 17) dX12_scoreOf_9 (by decide) (by omega) (by decide) (fun hc9 => ?_) (fun hc9 => ?_)
    · refine AX.bipush (pc := 17) (v := nI 50) dX12_scoreOf_17 (by decide) ?_
      refine AX.iret (pc := 19) dX12_scoreOf_19 rfl rfl (by decide) (by decide) ?_
      exact ⟨sI (by unfold scN; (repeat' split) <;> omega), rfl⟩
    · refine AX.bipush (pc := 12) (v := nI 25) dX12_scoreOf_12 (by decide) ?_
      refine AX.goto (pc := 14) (tgt := 19) dX12_scoreOf_14 (by decide) ?_
      refine AX.iret (pc := 19) dX12_scoreOf_19 rfl rfl (by decide) (by decide) ?_
      exact ⟨sI (by unfold scN; (repeat' split) <;> omega), rfl⟩
theorem c_mKind (w : XW) (h : XH) (s : Nat) (hs : s < 63) : CA w M_X12_kindOf [.int (nI s)] h (fun v' h'' => v' = some (.int (nI (kdN s))) ∧ h'' = h) := by
  refine CA.of (by decide) rfl (fun _ => Nat.le_of_ble_eq_true rfl) ?_
  show AX w M_X12_kindOf 0 0 0 [.int (nI s)] [] h _
  refine AX.iload_n (pc := 0) dX12_kindOf_0 rfl ?_
  refine AX.if_neN (pc := 1) (tgt := 6) dX12_kindOf_1 (by decide) (by omega) (fun hc1 => ?_) (fun hc1 => ?_)
  · refine AX.iload_n (pc := 6) dX12_kindOf_6 rfl ?_
    refine AX.bipush (pc := 7) (v := nI 20) dX12_kindOf_7 (by decide) ?_
    refine AX.icmp_gtN (pc := 9) (tgt := 16) dX12_kindOf_9 (by decide) (by omega) (by decide) (fun hc9 => ?_) (fun hc9 => ?_)
    · refine AX.iload_n (pc := 16) dX12_kindOf_16 rfl ?_
      refine AX.bipush (pc := 17) (v := nI 40) dX12_kindOf_17 (by decide) ?_
      refine AX.icmp_gtN (pc := 19) (tgt := 26) dX12_kindOf_19 (by decide) (by omega) (by decide) (fun hc19 => ?_) (fun hc19 => ?_)
      · refine AX.iload_n (pc := 26) dX12_kindOf_26 rfl ?_
        refine AX.bipush (pc := 27) (v := nI 60) dX12_kindOf_27 (by decide) ?_
        refine AX.icmp_gtN (pc := 29) (tgt := 36) dX12_kindOf_29 (by decide) (by omega) (by decide) (fun hc29 => ?_) (fun hc29 => ?_)
        · refine AX.iload_n (pc := 36) dX12_kindOf_36 rfl ?_
          refine AX.bipush (pc := 37) (v := nI 61) dX12_kindOf_37 (by decide) ?_
          refine AX.icmp_neN (pc := 39) (tgt := 46) dX12_kindOf_39 (by decide) (by omega) (by decide) (fun hc39 => ?_) (fun hc39 => ?_)
          · refine AX.iconst (pc := 46) (v := nI 4) dX12_kindOf_46 (by decide) ?_
            refine AX.iret (pc := 47) dX12_kindOf_47 rfl rfl (by decide) (by decide) ?_
            exact ⟨sI (by unfold kdN; (repeat' split) <;> omega), rfl⟩
          · refine AX.iconst (pc := 42) (v := nI 5) dX12_kindOf_42 (by decide) ?_
            refine AX.goto (pc := 43) (tgt := 47) dX12_kindOf_43 (by decide) ?_
            refine AX.iret (pc := 47) dX12_kindOf_47 rfl rfl (by decide) (by decide) ?_
            exact ⟨sI (by unfold kdN; (repeat' split) <;> omega), rfl⟩
        · refine AX.iconst (pc := 32) (v := nI 3) dX12_kindOf_32 (by decide) ?_
          refine AX.goto (pc := 33) (tgt := 47) dX12_kindOf_33 (by decide) ?_
          refine AX.iret (pc := 47) dX12_kindOf_47 rfl rfl (by decide) (by decide) ?_
          exact ⟨sI (by unfold kdN; (repeat' split) <;> omega), rfl⟩
      · refine AX.iconst (pc := 22) (v := nI 2) dX12_kindOf_22 (by decide) ?_
        refine AX.goto (pc := 23) (tgt := 47) dX12_kindOf_23 (by decide) ?_
        refine AX.iret (pc := 47) dX12_kindOf_47 rfl rfl (by decide) (by decide) ?_
        exact ⟨sI (by unfold kdN; (repeat' split) <;> omega), rfl⟩
    · refine AX.iconst (pc := 12) (v := nI 1) dX12_kindOf_12 (by decide) ?_
      refine AX.goto (pc := 13) (tgt := 47) dX12_kindOf_13 (by decide) ?_
      refine AX.iret (pc := 47) dX12_kindOf_47 rfl rfl (by decide) (by decide) ?_
      exact ⟨sI (by unfold kdN; (repeat' split) <;> omega), rfl⟩
  · refine AX.iconst (pc := 4) (v := nI 0) dX12_kindOf_4 (by decide) ?_
    refine AX.iret (pc := 5) dX12_kindOf_5 rfl rfl (by decide) (by decide) ?_
    exact ⟨sI (by unfold kdN; (repeat' split) <;> omega), rfl⟩
theorem c_mUnder (w : XW) (h : XH) (s k : Nat) (hs : s < 63) (hk : k ≤ 5) : CA w M_X12_isUnder [.int (nI s), .int (nI k)] h (fun v' h'' => v' = some (.int (bI (unN s k))) ∧ h'' = h) := by
  refine CA.of (by decide) rfl (fun _ => Nat.le_of_ble_eq_true rfl) ?_
  show AX w M_X12_isUnder 0 0 0 [.int (nI s), .int (nI k), .null] [] h _
  refine AX.iload_n (pc := 0) dX12_isUnder_0 rfl ?_
  refine AX.callS (pc := 1) (M2 := M_X12_kindOf) (As := [.int (nI s)]) (rest := []) (c_mKind w h s hs) xc_X12_isUnder__X12_kindOf gX12_isUnder_X12_kindOf rfl (Nat.le_of_ble_eq_true rfl) dX12_isUnder_1 ?_
  rintro _ h9 ⟨rfl, e9⟩
  have e9 := e9.symm
  subst e9
  show AX w M_X12_isUnder 0 0 4 [.int (nI s), .int (nI k), .null] [.int (nI (kdN s))] _ _
  refine AX.istore_n (pc := 4) (L' := [.int (nI s), .int (nI k), .int (nI (kdN s))]) dX12_isUnder_4 (by decide) rfl ?_
  refine AX.iload_n (pc := 5) dX12_isUnder_5 rfl ?_
  refine AX.if_eqN (pc := 6) (tgt := 34) dX12_isUnder_6 (by decide) (by have := kdN_le s; omega) (fun hc6 => ?_) (fun hc6 => ?_)
  · refine AX.iconst (pc := 34) (v := nI 1) dX12_isUnder_34 (by decide) ?_
    refine AX.goto (pc := 35) (tgt := 39) dX12_isUnder_35 (by decide) ?_
    refine AX.iret (pc := 39) dX12_isUnder_39 rfl rfl (by decide) (by decide) ?_
    exact ⟨s1 (by unfold unN; simp only [Bool.or_eq_true, Bool.and_eq_true, beq_iff_eq, Bool.or_eq_false_iff, Bool.and_eq_false_iff, beq_eq_false_iff_ne]; omega), rfl⟩
  · refine AX.iload_n (pc := 9) dX12_isUnder_9 rfl ?_
    refine AX.iload_n (pc := 10) dX12_isUnder_10 rfl ?_
    refine AX.icmp_eqN (pc := 11) (tgt := 34) dX12_isUnder_11 (by decide) (by have := kdN_le s; omega) (by have := kdN_le s; omega) (fun hc11 => ?_) (fun hc11 => ?_)
    · refine AX.iconst (pc := 34) (v := nI 1) dX12_isUnder_34 (by decide) ?_
      refine AX.goto (pc := 35) (tgt := 39) dX12_isUnder_35 (by decide) ?_
      refine AX.iret (pc := 39) dX12_isUnder_39 rfl rfl (by decide) (by decide) ?_
      exact ⟨s1 (by unfold unN; simp only [Bool.or_eq_true, Bool.and_eq_true, beq_iff_eq, Bool.or_eq_false_iff, Bool.and_eq_false_iff, beq_eq_false_iff_ne]; omega), rfl⟩
    · refine AX.iload_n (pc := 14) dX12_isUnder_14 rfl ?_
      refine AX.iconst (pc := 15) (v := nI 2) dX12_isUnder_15 (by decide) ?_
      refine AX.icmp_neN (pc := 16) (tgt := 24) dX12_isUnder_16 (by decide) (by have := kdN_le s; omega) (by decide) (fun hc16 => ?_) (fun hc16 => ?_)
      · refine AX.iload_n (pc := 24) dX12_isUnder_24 rfl ?_
        refine AX.iconst (pc := 25) (v := nI 1) dX12_isUnder_25 (by decide) ?_
        refine AX.icmp_neN (pc := 26) (tgt := 38) dX12_isUnder_26 (by decide) (by have := kdN_le s; omega) (by decide) (fun hc26 => ?_) (fun hc26 => ?_)
        · refine AX.iconst (pc := 38) (v := nI 0) dX12_isUnder_38 (by decide) ?_
          refine AX.iret (pc := 39) dX12_isUnder_39 rfl rfl (by decide) (by decide) ?_
          exact ⟨s0 (by unfold unN; simp only [Bool.or_eq_true, Bool.and_eq_true, beq_iff_eq, Bool.or_eq_false_iff, Bool.and_eq_false_iff, beq_eq_false_iff_ne]; omega), rfl⟩
        · refine AX.iload_n (pc := 29) dX12_isUnder_29 rfl ?_
          refine AX.iconst (pc := 30) (v := nI 5) dX12_isUnder_30 (by decide) ?_
          refine AX.icmp_neN (pc := 31) (tgt := 38) dX12_isUnder_31 (by decide) (by have := kdN_le s; omega) (by decide) (fun hc31 => ?_) (fun hc31 => ?_)
          · refine AX.iconst (pc := 38) (v := nI 0) dX12_isUnder_38 (by decide) ?_
            refine AX.iret (pc := 39) dX12_isUnder_39 rfl rfl (by decide) (by decide) ?_
            exact ⟨s0 (by unfold unN; simp only [Bool.or_eq_true, Bool.and_eq_true, beq_iff_eq, Bool.or_eq_false_iff, Bool.and_eq_false_iff, beq_eq_false_iff_ne]; omega), rfl⟩
          · refine AX.iconst (pc := 34) (v := nI 1) dX12_isUnder_34 (by decide) ?_
            refine AX.goto (pc := 35) (tgt := 39) dX12_isUnder_35 (by decide) ?_
            refine AX.iret (pc := 39) dX12_isUnder_39 rfl rfl (by decide) (by decide) ?_
            exact ⟨s1 (by unfold unN; simp only [Bool.or_eq_true, Bool.and_eq_true, beq_iff_eq, Bool.or_eq_false_iff, Bool.and_eq_false_iff, beq_eq_false_iff_ne]; omega), rfl⟩
      · refine AX.iload_n (pc := 19) dX12_isUnder_19 rfl ?_
        refine AX.iconst (pc := 20) (v := nI 4) dX12_isUnder_20 (by decide) ?_
        refine AX.icmp_eqN (pc := 21) (tgt := 34) dX12_isUnder_21 (by decide) (by have := kdN_le s; omega) (by decide) (fun hc21 => ?_) (fun hc21 => ?_)
        · refine AX.iconst (pc := 34) (v := nI 1) dX12_isUnder_34 (by decide) ?_
          refine AX.goto (pc := 35) (tgt := 39) dX12_isUnder_35 (by decide) ?_
          refine AX.iret (pc := 39) dX12_isUnder_39 rfl rfl (by decide) (by decide) ?_
          exact ⟨s1 (by unfold unN; simp only [Bool.or_eq_true, Bool.and_eq_true, beq_iff_eq, Bool.or_eq_false_iff, Bool.and_eq_false_iff, beq_eq_false_iff_ne]; omega), rfl⟩
        · refine AX.iload_n (pc := 24) dX12_isUnder_24 rfl ?_
          refine AX.iconst (pc := 25) (v := nI 1) dX12_isUnder_25 (by decide) ?_
          refine AX.icmp_neN (pc := 26) (tgt := 38) dX12_isUnder_26 (by decide) (by have := kdN_le s; omega) (by decide) (fun hc26 => ?_) (fun hc26 => ?_)
          · refine AX.iconst (pc := 38) (v := nI 0) dX12_isUnder_38 (by decide) ?_
            refine AX.iret (pc := 39) dX12_isUnder_39 rfl rfl (by decide) (by decide) ?_
            exact ⟨s0 (by unfold unN; simp only [Bool.or_eq_true, Bool.and_eq_true, beq_iff_eq, Bool.or_eq_false_iff, Bool.and_eq_false_iff, beq_eq_false_iff_ne]; omega), rfl⟩
          · refine AX.iload_n (pc := 29) dX12_isUnder_29 rfl ?_
            refine AX.iconst (pc := 30) (v := nI 5) dX12_isUnder_30 (by decide) ?_
            refine AX.icmp_neN (pc := 31) (tgt := 38) dX12_isUnder_31 (by decide) (by have := kdN_le s; omega) (by decide) (fun hc31 => ?_) (fun hc31 => ?_)
            · refine AX.iconst (pc := 38) (v := nI 0) dX12_isUnder_38 (by decide) ?_
              refine AX.iret (pc := 39) dX12_isUnder_39 rfl rfl (by decide) (by decide) ?_
              exact ⟨s0 (by unfold unN; simp only [Bool.or_eq_true, Bool.and_eq_true, beq_iff_eq, Bool.or_eq_false_iff, Bool.and_eq_false_iff, beq_eq_false_iff_ne]; omega), rfl⟩
            · refine AX.iconst (pc := 34) (v := nI 1) dX12_isUnder_34 (by decide) ?_
              refine AX.goto (pc := 35) (tgt := 39) dX12_isUnder_35 (by decide) ?_
              refine AX.iret (pc := 39) dX12_isUnder_39 rfl rfl (by decide) (by decide) ?_
              exact ⟨s1 (by unfold unN; simp only [Bool.or_eq_true, Bool.and_eq_true, beq_iff_eq, Bool.or_eq_false_iff, Bool.and_eq_false_iff, beq_eq_false_iff_ne]; omega), rfl⟩
theorem c_mNumber (w : XW) (h : XH) (s : Nat) (hs : s < 63) : CE w M_X12_numberOf [.int (nI s)] h (some (.int (nI (nbN s)))) h := by
  by_cases hz : inR 1 60 (nI s)
  · refine CA.of (by decide) rfl (fun _ => Nat.le_of_ble_eq_true rfl) ?_
    show AX w M_X12_numberOf 0 0 0 [.int (nI s)] [] h _
    have hz2 := hz
    unfold inR at hz2
    rw [nI_toInt (by omega)] at hz2
    refine AX.iload_n (pc := 0) dX12_numberOf_0 rfl ?_
    refine AX.i2l (pc := 1) dX12_numberOf_1 ?_
    refine AX.lconst (pc := 2) (v := 1) dX12_numberOf_2 (by decide) ?_
    refine AX.ldc2 (pc := 3) (v := 60) dX12_numberOf_3 cX12_numberOf_106 ?_
    refine AX.callS (pc := 6) (M2 := M_X12_in) (As := [.long ((nI s).toInt64), .long 1, .long 60]) (rest := []) (c_in w h ((nI s).toInt64) (1) (60)) xc_X12_numberOf__X12_in gX12_numberOf_X12_in rfl (Nat.le_of_ble_eq_true rfl) dX12_numberOf_6 ?_
    rintro _ h9 ⟨rfl, e9⟩
    have e9 := e9.symm
    subst e9
    rw [decide_eq_true ((in_iff (by decide) (by decide)).mpr hz)]
    show AX w M_X12_numberOf 0 0 9 [.int (nI s)] [.int (bI true)] _ _
    refine AX.if_eqB (pc := 9) (tgt := 23) dX12_numberOf_9 (by decide) (fun q => absurd q (by decide)) (fun hc9 => ?_)
    refine AX.iload_n (pc := 12) dX12_numberOf_12 rfl ?_
    refine AX.iconst (pc := 13) (v := nI 1) dX12_numberOf_13 (by decide) ?_
    refine AX.isubN (pc := 14) (c := s - 1) dX12_numberOf_14 (by omega) ?_
    refine AX.bipush (pc := 15) (v := nI 20) dX12_numberOf_15 (by decide) ?_
    refine AX.iremN (pc := 17) (c := (s - 1) % 20) dX12_numberOf_17 (by omega) (by decide) (by decide) rfl ?_
    refine AX.iconst (pc := 18) (v := nI 1) dX12_numberOf_18 (by decide) ?_
    refine AX.iaddN (pc := 19) (c := (s - 1) % 20 + 1) dX12_numberOf_19 rfl ?_
    refine AX.goto (pc := 20) (tgt := 24) dX12_numberOf_20 (by decide) ?_
    refine AX.iret (pc := 24) dX12_numberOf_24 rfl rfl (by decide) (by decide) ?_
    exact ⟨sI (by unfold nbN; rw [if_neg (by omega), if_neg (by omega)]), rfl⟩
  · refine CA.of (by decide) rfl (fun _ => Nat.le_of_ble_eq_true rfl) ?_
    show AX w M_X12_numberOf 0 0 0 [.int (nI s)] [] h _
    have hz2 := hz
    unfold inR at hz2
    rw [nI_toInt (by omega)] at hz2
    refine AX.iload_n (pc := 0) dX12_numberOf_0 rfl ?_
    refine AX.i2l (pc := 1) dX12_numberOf_1 ?_
    refine AX.lconst (pc := 2) (v := 1) dX12_numberOf_2 (by decide) ?_
    refine AX.ldc2 (pc := 3) (v := 60) dX12_numberOf_3 cX12_numberOf_106 ?_
    refine AX.callS (pc := 6) (M2 := M_X12_in) (As := [.long ((nI s).toInt64), .long 1, .long 60]) (rest := []) (c_in w h ((nI s).toInt64) (1) (60)) xc_X12_numberOf__X12_in gX12_numberOf_X12_in rfl (Nat.le_of_ble_eq_true rfl) dX12_numberOf_6 ?_
    rintro _ h9 ⟨rfl, e9⟩
    have e9 := e9.symm
    subst e9
    rw [decide_eq_false (fun q => hz ((in_iff (by decide) (by decide)).mp q))]
    show AX w M_X12_numberOf 0 0 9 [.int (nI s)] [.int (bI false)] _ _
    refine AX.if_eqB (pc := 9) (tgt := 23) dX12_numberOf_9 (by decide) (fun hc9 => ?_) (fun q => absurd q (by decide))
    refine AX.iconst (pc := 23) (v := nI 0) dX12_numberOf_23 (by decide) ?_
    refine AX.iret (pc := 24) dX12_numberOf_24 rfl rfl (by decide) (by decide) ?_
    exact ⟨sI (by unfold nbN; rw [show (if s < 1 then 0 else if 61 ≤ s then 0 else (s - 1) % 20 + 1) = 0 from by split; rfl; rw [if_pos (by omega)]]), rfl⟩
theorem ixN_at {m k : Nat} (h : ixN m = k) (hk : k < 20) : rgN k = m := by subst h; exact ixN_eq hk
theorem l_besides (w : XW) (h : XH) {v : Nat → Int32} {m on : Nat} (hn : 118 ≤ h.1) (hO : MO h v) (hR : iA h 88 20 (fun k => nI (rgN k))) (hm : m ≤ 20) (hon : on ≤ 19) (P : Option Value → XH → Prop) (hP : P (some (.int (nI (bsN m on)))) h) : ∀ (g k : Nat), k + g = 20 → AX w M_X12_besides 0 0 5 [.ref 87, .int (nI m), .int (nI on), .int (nI (if ixN m < k then bsN m on else 0)), .int (nI k)] [] h P
  | 0, k, hg => by
    have e : k = 20 := by omega
    subst e
    obtain ⟨f88, e88, q88⟩ := hR
    have z : (if ixN m < 20 then bsN m on else 0) = bsN m on := by unfold bsN; split; rfl; rfl
    refine AX.iload (pc := 5) dX12_besides_5 rfl ?_
    refine AX.bipush (pc := 7) (v := nI 20) dX12_besides_7 (by decide) ?_
    refine AX.icmp_geN (pc := 9) (tgt := 46) dX12_besides_9 (by decide) (by decide) (by decide) (fun hc9 => ?_) (fun q => absurd q (by decide))
    refine AX.iload_n (pc := 46) dX12_besides_46 rfl ?_
    refine AX.iret (pc := 47) dX12_besides_47 rfl rfl (by decide) (by decide) ?_
    rw [z]
    exact hP
  | g + 1, k, hg => by
    obtain ⟨f88, e88, q88⟩ := id hR
    have hrk := rgN_in k
    have hix := ix_rg k (by omega)
    refine AX.iload (pc := 5) dX12_besides_5 rfl ?_
    refine AX.bipush (pc := 7) (v := nI 20) dX12_besides_7 (by decide) ?_
    refine AX.icmp_geN (pc := 9) (tgt := 46) dX12_besides_9 (by decide) (by omega) (by decide) (fun q => absurd q (by omega)) (fun hc9 => ?_)
    refine AX.aload_n (pc := 12) dX12_besides_12 rfl ?_
    refine AX.getf (pc := 13) fX12_besides_7 (lt_k hn (by omega)) hO rfl dX12_besides_13 ?_
    refine AX.iload (pc := 16) dX12_besides_16 rfl ?_
    refine AX.ialdN (pc := 18) (i := k) (v := (nI (rgN k))) (lt_k hn (by omega)) e88 (by decide) (by omega) (q88 k (by omega)) dX12_besides_18 ?_
    refine AX.iload_n (pc := 19) dX12_besides_19 rfl ?_
    refine AX.icmp_neN (pc := 20) (tgt := 38) dX12_besides_20 (by decide) (by omega) (by omega) (fun hc20 => ?_) (fun hc20 => ?_)
    · refine AX.iload_n (pc := 38) dX12_besides_38 rfl ?_
      refine AX.istore_n (pc := 39) (L' := [.ref 87, .int (nI m), .int (nI on), .int (nI (if ixN m < k then bsN m on else 0)), .int (nI k)]) dX12_besides_39 (by decide) rfl ?_
      refine AX.iincN (c := k + 1) (pc := 40) (L' := [.ref 87, .int (nI m), .int (nI on), .int (nI (if ixN m < k then bsN m on else 0)), .int (nI (k + 1))]) dX12_besides_40 rfl (inc1 _) (by decide) rfl ?_
      refine AX.goto (pc := 43) (tgt := 5) dX12_besides_43 (by decide) ?_
      rw [show (if ixN m < k then bsN m on else 0) = (if ixN m < k + 1 then bsN m on else 0) from (if z : ixN m < k then (if_pos z).trans (if_pos (by omega)).symm else (if_neg z).trans (if_neg (fun q => hc20 (ixN_at (show ixN m = k by omega) (by omega)))).symm)]
      exact l_besides w h hn hO hR hm hon P hP g (k + 1) (by omega)
    · refine AX.aload_n (pc := 23) dX12_besides_23 rfl ?_
      refine AX.getf (pc := 24) fX12_besides_7 (lt_k hn (by omega)) hO rfl dX12_besides_24 ?_
      refine AX.iload (pc := 27) dX12_besides_27 rfl ?_
      refine AX.iload_n (pc := 29) dX12_besides_29 rfl ?_
      refine AX.iaddN (pc := 30) (c := k + on) dX12_besides_30 rfl ?_
      refine AX.bipush (pc := 31) (v := nI 20) dX12_besides_31 (by decide) ?_
      refine AX.iremN (pc := 33) (c := (k + on) % 20) dX12_besides_33 (by omega) (by decide) (by decide) rfl ?_
      refine AX.ialdN (pc := 34) (i := (k + on) % 20) (v := (nI (rgN ((k + on) % 20)))) (lt_k hn (by omega)) e88 (by decide) (Nat.mod_lt _ (by decide)) (q88 _ (Nat.mod_lt _ (by decide))) dX12_besides_34 ?_
      refine AX.goto (pc := 35) (tgt := 39) dX12_besides_35 (by decide) ?_
      refine AX.istore_n (pc := 39) (L' := [.ref 87, .int (nI m), .int (nI on), .int (nI (rgN ((k + on) % 20))), .int (nI k)]) dX12_besides_39 (by decide) rfl ?_
      refine AX.iincN (c := k + 1) (pc := 40) (L' := [.ref 87, .int (nI m), .int (nI on), .int (nI (rgN ((k + on) % 20))), .int (nI (k + 1))]) dX12_besides_40 rfl (inc1 _) (by decide) rfl ?_
      refine AX.goto (pc := 43) (tgt := 5) dX12_besides_43 (by decide) ?_
      rw [show (rgN ((k + on) % 20)) = (if ixN m < k + 1 then bsN m on else 0) from by rw [hc20] at hix; rw [if_pos (by omega)]; unfold bsN; rw [hix, if_pos (by omega)]]
      exact l_besides w h hn hO hR hm hon P hP g (k + 1) (by omega)
theorem c_mBesides (w : XW) (h : XH) {v : Nat → Int32} {m on : Nat} (hn : 118 ≤ h.1) (hO : MO h v) (hR : iA h 88 20 (fun k => nI (rgN k))) (hm : m ≤ 20) (hon : on ≤ 19) : CA w M_X12_besides [.ref 87, .int (nI m), .int (nI on)] h (fun v' h'' => v' = some (.int (nI (bsN m on))) ∧ h'' = h) := by
  refine CA.of (by decide) rfl (fun _ => Nat.le_of_ble_eq_true rfl) ?_
  show AX w M_X12_besides 0 0 0 [.ref 87, .int (nI m), .int (nI on), .null, .null] [] h _
  refine AX.iconst (pc := 0) (v := nI 0) dX12_besides_0 (by decide) ?_
  refine AX.istore_n (pc := 1) (L' := [.ref 87, .int (nI m), .int (nI on), .int (nI 0), .null]) dX12_besides_1 (by decide) rfl ?_
  refine AX.iconst (pc := 2) (v := nI 0) dX12_besides_2 (by decide) ?_
  refine AX.istore (pc := 3) (L' := [.ref 87, .int (nI m), .int (nI on), .int (nI 0), .int (nI 0)]) dX12_besides_3 (by decide) rfl ?_
  exact l_besides w h hn hO hR hm hon _ ⟨rfl, rfl⟩ 20 0 (by omega)
