/-! ===== Board, and the library ===== -/
theorem sI {a b : Nat} (h : a = b) : some (Value.int (nI a)) = some (Value.int (nI b)) := by rw [h]
theorem sB {a b : Bool} (h : a = b) : some (Value.int (bI a)) = some (Value.int (bI b)) := by rw [h]
theorem s1 {b : Bool} (h : b = true) : some (Value.int (nI 1)) = some (Value.int (bI b)) := by rw [h]; rfl
theorem s0 {b : Bool} (h : b = false) : some (Value.int (nI 0)) = some (Value.int (bI b)) := by rw [h]; rfl
theorem c_kindOf (w : XW) (h : XH) (s : Nat) (hs : s < 63) : CE w M_X0_kindOf [.int (nI s)] h (some (.int (nI (kdN s)))) h := by
  refine CA.of (by decide) rfl (fun _ => Nat.le_of_ble_eq_true rfl) ?_
  show AX w M_X0_kindOf 0 0 0 [.int (nI s)] [] h _
  refine AX.iload_n (pc := 0) dX0_kindOf_0 rfl ?_
  refine AX.if_gtN (pc := 1) (tgt := 6) dX0_kindOf_1 (by decide) (by omega) (fun hc1 => ?_) (fun hc1 => ?_)
  · refine AX.iload_n (pc := 6) dX0_kindOf_6 rfl ?_
    refine AX.bipush (pc := 7) (v := nI 61) dX0_kindOf_7 (by decide) ?_
    refine AX.icmp_neN (pc := 9) (tgt := 14) dX0_kindOf_9 (by decide) (by omega) (by decide) (fun hc9 => ?_) (fun hc9 => ?_)
    · refine AX.iload_n (pc := 14) dX0_kindOf_14 rfl ?_
      refine AX.bipush (pc := 15) (v := nI 62) dX0_kindOf_15 (by decide) ?_
      refine AX.icmp_neN (pc := 17) (tgt := 24) dX0_kindOf_17 (by decide) (by omega) (by decide) (fun hc17 => ?_) (fun hc17 => ?_)
      · refine AX.iload_n (pc := 24) dX0_kindOf_24 rfl ?_
        refine AX.iconst (pc := 25) (v := nI 1) dX0_kindOf_25 (by decide) ?_
        refine AX.isubN (pc := 26) (c := s - 1) dX0_kindOf_26 (by omega) ?_
        refine AX.bipush (pc := 27) (v := nI 20) dX0_kindOf_27 (by decide) ?_
        refine AX.idivN (pc := 29) (c := (s - 1) / 20) dX0_kindOf_29 (by omega) (by decide) (by decide) rfl ?_
        refine AX.iconst (pc := 30) (v := nI 1) dX0_kindOf_30 (by decide) ?_
        refine AX.iaddN (pc := 31) (c := (s - 1) / 20 + 1) dX0_kindOf_31 rfl ?_
        refine AX.iret (pc := 32) dX0_kindOf_32 rfl rfl (by decide) (by decide) ?_
        exact ⟨sI (by unfold kdN; (repeat' split) <;> omega), rfl⟩
      · refine AX.iconst (pc := 20) (v := nI 4) dX0_kindOf_20 (by decide) ?_
        refine AX.goto (pc := 21) (tgt := 32) dX0_kindOf_21 (by decide) ?_
        refine AX.iret (pc := 32) dX0_kindOf_32 rfl rfl (by decide) (by decide) ?_
        exact ⟨sI (by unfold kdN; (repeat' split) <;> omega), rfl⟩
    · refine AX.iconst (pc := 12) (v := nI 5) dX0_kindOf_12 (by decide) ?_
      refine AX.iret (pc := 13) dX0_kindOf_13 rfl rfl (by decide) (by decide) ?_
      exact ⟨sI (by unfold kdN; (repeat' split) <;> omega), rfl⟩
  · refine AX.iconst (pc := 4) (v := nI 0) dX0_kindOf_4 (by decide) ?_
    refine AX.iret (pc := 5) dX0_kindOf_5 rfl rfl (by decide) (by decide) ?_
    exact ⟨sI (by unfold kdN; (repeat' split) <;> omega), rfl⟩
theorem c_numberOf (w : XW) (h : XH) (s : Nat) (hs : s < 63) : CE w M_X0_numberOf [.int (nI s)] h (some (.int (nI (nbN s)))) h := by
  refine CA.of (by decide) rfl (fun _ => Nat.le_of_ble_eq_true rfl) ?_
  show AX w M_X0_numberOf 0 0 0 [.int (nI s)] [] h _
  refine AX.iload_n (pc := 0) dX0_numberOf_0 rfl ?_
  refine AX.iconst (pc := 1) (v := nI 1) dX0_numberOf_1 (by decide) ?_
  refine AX.icmp_ltN (pc := 2) (tgt := 11) dX0_numberOf_2 (by decide) (by omega) (by decide) (fun hc2 => ?_) (fun hc2 => ?_)
  · refine AX.iconst (pc := 11) (v := nI 0) dX0_numberOf_11 (by decide) ?_
    refine AX.goto (pc := 12) (tgt := 23) dX0_numberOf_12 (by decide) ?_
    refine AX.iret (pc := 23) dX0_numberOf_23 rfl rfl (by decide) (by decide) ?_
    exact ⟨sI (by unfold nbN; (repeat' split) <;> omega), rfl⟩
  · refine AX.iload_n (pc := 5) dX0_numberOf_5 rfl ?_
    refine AX.bipush (pc := 6) (v := nI 61) dX0_numberOf_6 (by decide) ?_
    refine AX.icmp_ltN (pc := 8) (tgt := 15) dX0_numberOf_8 (by decide) (by omega) (by decide) (fun hc8 => ?_) (fun hc8 => ?_)
    · refine AX.iload_n (pc := 15) dX0_numberOf_15 rfl ?_
      refine AX.iconst (pc := 16) (v := nI 1) dX0_numberOf_16 (by decide) ?_
      refine AX.isubN (pc := 17) (c := s - 1) dX0_numberOf_17 (by omega) ?_
      refine AX.bipush (pc := 18) (v := nI 20) dX0_numberOf_18 (by decide) ?_
      refine AX.iremN (pc := 20) (c := (s - 1) % 20) dX0_numberOf_20 (by omega) (by decide) (by decide) rfl ?_
      refine AX.iconst (pc := 21) (v := nI 1) dX0_numberOf_21 (by decide) ?_
      refine AX.iaddN (pc := 22) (c := (s - 1) % 20 + 1) dX0_numberOf_22 rfl ?_
      refine AX.iret (pc := 23) dX0_numberOf_23 rfl rfl (by decide) (by decide) ?_
      exact ⟨sI (by unfold nbN; (repeat' split) <;> omega), rfl⟩
    · refine AX.iconst (pc := 11) (v := nI 0) dX0_numberOf_11 (by decide) ?_
      refine AX.goto (pc := 12) (tgt := 23) dX0_numberOf_12 (by decide) ?_
      refine AX.iret (pc := 23) dX0_numberOf_23 rfl rfl (by decide) (by decide) ?_
      exact ⟨sI (by unfold nbN; (repeat' split) <;> omega), rfl⟩
theorem sc_nk {s : Nat} (h : s < 63) (h1 : s ≠ 61) (h2 : s ≠ 62) : nbN s * kdN s = scN s := by
  have : ∀ s, s < 63 → s ≠ 61 → s ≠ 62 → nbN s * kdN s = scN s := by decide
  exact this s h h1 h2
theorem c_scoreOf (w : XW) (h : XH) (s : Nat) (hs : s < 63) : CE w M_X0_scoreOf [.int (nI s)] h (some (.int (nI (scN s)))) h := by
  refine CA.of (by decide) rfl (fun _ => Nat.le_of_ble_eq_true rfl) ?_
  show AX w M_X0_scoreOf 0 0 0 [.int (nI s)] [] h _
  refine AX.iload_n (pc := 0) dX0_scoreOf_0 rfl ?_
  refine AX.bipush (pc := 1) (v := nI 61) dX0_scoreOf_1 (by decide) ?_
  refine AX.icmp_neN (pc := 3) (tgt := 9) dX0_scoreOf_3 (by decide) (by omega) (by decide) (fun hc3 => ?_) (fun hc3 => ?_)
  · refine AX.iload_n (pc := 9) dX0_scoreOf_9 rfl ?_
    refine AX.bipush (pc := 10) (v := nI 62) dX0_scoreOf_10 (by decide) ?_
    refine AX.icmp_neN (pc := 12) (tgt := 20) dX0_scoreOf_12 (by decide) (by omega) (by decide) (fun hc12 => ?_) (fun hc12 => ?_)
    · refine AX.iload_n (pc := 20) dX0_scoreOf_20 rfl ?_
      refine AX.callS (pc := 21) (M2 := M_X0_numberOf) (As := [.int (nI s)]) (rest := []) (c_numberOf w h s hs) xc_X0_scoreOf__X0_numberOf gX0_scoreOf_X0_numberOf rfl (Nat.le_of_ble_eq_true rfl) dX0_scoreOf_21 ?_
      rintro _ h9 ⟨rfl, e9⟩
      have e9 := e9.symm
      subst e9
      show AX w M_X0_scoreOf 0 0 24 [.int (nI s)] [.int (nI (nbN s))] _ _
      refine AX.iload_n (pc := 24) dX0_scoreOf_24 rfl ?_
      refine AX.callS (pc := 25) (M2 := M_X0_kindOf) (As := [.int (nI s)]) (rest := [.int (nI (nbN s))]) (c_kindOf w h s hs) xc_X0_scoreOf__X0_kindOf gX0_scoreOf_X0_kindOf rfl (Nat.le_of_ble_eq_true rfl) dX0_scoreOf_25 ?_
      rintro _ h9 ⟨rfl, e9⟩
      have e9 := e9.symm
      subst e9
      show AX w M_X0_scoreOf 0 0 28 [.int (nI s)] [.int (nI (kdN s)), .int (nI (nbN s))] _ _
      refine AX.imulN (pc := 28) (c := (nbN s) * (kdN s)) dX0_scoreOf_28 rfl ?_
      refine AX.iret (pc := 29) dX0_scoreOf_29 rfl rfl (by decide) (by decide) ?_
      exact ⟨sI (sc_nk hs hc3 hc12), rfl⟩
    · refine AX.bipush (pc := 15) (v := nI 50) dX0_scoreOf_15 (by decide) ?_
      refine AX.goto (pc := 17) (tgt := 29) dX0_scoreOf_17 (by decide) ?_
      refine AX.iret (pc := 29) dX0_scoreOf_29 rfl rfl (by decide) (by decide) ?_
      exact ⟨sI (by subst hc12; rfl), rfl⟩
  · refine AX.bipush (pc := 6) (v := nI 25) dX0_scoreOf_6 (by decide) ?_
    refine AX.iret (pc := 8) dX0_scoreOf_8 rfl rfl (by decide) (by decide) ?_
    exact ⟨sI (by subst hc3; rfl), rfl⟩
def kaN (k : Nat) : Nat := if k = 4 then 2 else if k = 5 then 1 else 0
theorem c_kindAbove (w : XW) (h : XH) (k : Nat) (hk : k ≤ 5) : CE w M_X0_kindAbove [.int (nI k)] h (some (.int (nI (kaN k)))) h := by
  refine CA.of (by decide) rfl (fun _ => Nat.le_of_ble_eq_true rfl) ?_
  show AX w M_X0_kindAbove 0 0 0 [.int (nI k)] [] h _
  refine AX.iload_n (pc := 0) dX0_kindAbove_0 rfl ?_
  refine AX.iconst (pc := 1) (v := nI 4) dX0_kindAbove_1 (by decide) ?_
  refine AX.icmp_neN (pc := 2) (tgt := 7) dX0_kindAbove_2 (by decide) (by omega) (by decide) (fun hc2 => ?_) (fun hc2 => ?_)
  · refine AX.iload_n (pc := 7) dX0_kindAbove_7 rfl ?_
    refine AX.iconst (pc := 8) (v := nI 5) dX0_kindAbove_8 (by decide) ?_
    refine AX.icmp_neN (pc := 9) (tgt := 16) dX0_kindAbove_9 (by decide) (by omega) (by decide) (fun hc9 => ?_) (fun hc9 => ?_)
    · refine AX.iconst (pc := 16) (v := nI 0) dX0_kindAbove_16 (by decide) ?_
      refine AX.iret (pc := 17) dX0_kindAbove_17 rfl rfl (by decide) (by decide) ?_
      exact ⟨sI (by unfold kaN; (repeat' split) <;> omega), rfl⟩
    · refine AX.iconst (pc := 12) (v := nI 1) dX0_kindAbove_12 (by decide) ?_
      refine AX.goto (pc := 13) (tgt := 17) dX0_kindAbove_13 (by decide) ?_
      refine AX.iret (pc := 17) dX0_kindAbove_17 rfl rfl (by decide) (by decide) ?_
      exact ⟨sI (by unfold kaN; (repeat' split) <;> omega), rfl⟩
  · refine AX.iconst (pc := 5) (v := nI 2) dX0_kindAbove_5 (by decide) ?_
    refine AX.iret (pc := 6) dX0_kindAbove_6 rfl rfl (by decide) (by decide) ?_
    exact ⟨sI (by unfold kaN; (repeat' split) <;> omega), rfl⟩
theorem un_ka {s k : Nat} (hs : s < 63) (hk : k ≤ 5) : unN s k = (decide (kdN s = k) || decide (k = 0) || decide (kaN (kdN s) = k)) := by
  have : ∀ s, s < 63 → ∀ k, k < 6 → unN s k = (decide (kdN s = k) || decide (k = 0) || decide (kaN (kdN s) = k)) := by decide
  exact this s hs k (by omega)
theorem kaN_le (k : Nat) : kaN k ≤ 2 := by unfold kaN; (repeat' split) <;> omega
theorem c_isOfKind (w : XW) (h : XH) (s k : Nat) (hs : s < 63) (hk : k ≤ 5) : CE w M_X0_isOfKind [.int (nI s), .int (nI k)] h (some (.int (bI (unN s k)))) h := by
  refine CA.of (by decide) rfl (fun _ => Nat.le_of_ble_eq_true rfl) ?_
  show AX w M_X0_isOfKind 0 0 0 [.int (nI s), .int (nI k), .null] [] h _
  refine AX.iload_n (pc := 0) dX0_isOfKind_0 rfl ?_
  refine AX.callS (pc := 1) (M2 := M_X0_kindOf) (As := [.int (nI s)]) (rest := []) (c_kindOf w h s hs) xc_X0_isOfKind__X0_kindOf gX0_isOfKind_X0_kindOf rfl (Nat.le_of_ble_eq_true rfl) dX0_isOfKind_1 ?_
  rintro _ h9 ⟨rfl, e9⟩
  have e9 := e9.symm
  subst e9
  show AX w M_X0_isOfKind 0 0 4 [.int (nI s), .int (nI k), .null] [.int (nI (kdN s))] _ _
  refine AX.istore_n (pc := 4) (L' := [.int (nI s), .int (nI k), .int (nI (kdN s))]) dX0_isOfKind_4 (by decide) rfl ?_
  refine AX.iload_n (pc := 5) dX0_isOfKind_5 rfl ?_
  refine AX.iload_n (pc := 6) dX0_isOfKind_6 rfl ?_
  refine AX.icmp_eqN (pc := 7) (tgt := 22) dX0_isOfKind_7 (by decide) (by have := kdN_le s; have := kaN_le (kdN s); omega) (by have := kdN_le s; have := kaN_le (kdN s); omega) (fun hc7 => ?_) (fun hc7 => ?_)
  · refine AX.iconst (pc := 22) (v := nI 1) dX0_isOfKind_22 (by decide) ?_
    refine AX.goto (pc := 23) (tgt := 27) dX0_isOfKind_23 (by decide) ?_
    refine AX.iret (pc := 27) dX0_isOfKind_27 rfl rfl (by decide) (by decide) ?_
    exact ⟨s1 (by rw [un_ka hs hk]; simp [*]), rfl⟩
  · refine AX.iload_n (pc := 10) dX0_isOfKind_10 rfl ?_
    refine AX.if_eqN (pc := 11) (tgt := 22) dX0_isOfKind_11 (by decide) (by have := kdN_le s; have := kaN_le (kdN s); omega) (fun hc11 => ?_) (fun hc11 => ?_)
    · refine AX.iconst (pc := 22) (v := nI 1) dX0_isOfKind_22 (by decide) ?_
      refine AX.goto (pc := 23) (tgt := 27) dX0_isOfKind_23 (by decide) ?_
      refine AX.iret (pc := 27) dX0_isOfKind_27 rfl rfl (by decide) (by decide) ?_
      exact ⟨s1 (by rw [un_ka hs hk]; simp [*]), rfl⟩
    · refine AX.iload_n (pc := 14) dX0_isOfKind_14 rfl ?_
      refine AX.callS (pc := 15) (M2 := M_X0_kindAbove) (As := [.int (nI (kdN s))]) (rest := []) (c_kindAbove w h (kdN s) (kdN_le s)) xc_X0_isOfKind__X0_kindAbove gX0_isOfKind_X0_kindAbove rfl (Nat.le_of_ble_eq_true rfl) dX0_isOfKind_15 ?_
      rintro _ h9 ⟨rfl, e9⟩
      have e9 := e9.symm
      subst e9
      show AX w M_X0_isOfKind 0 0 18 [.int (nI s), .int (nI k), .int (nI (kdN s))] [.int (nI (kaN (kdN s)))] _ _
      refine AX.iload_n (pc := 18) dX0_isOfKind_18 rfl ?_
      refine AX.icmp_neN (pc := 19) (tgt := 26) dX0_isOfKind_19 (by decide) (by have := kdN_le s; have := kaN_le (kdN s); omega) (by have := kdN_le s; have := kaN_le (kdN s); omega) (fun hc19 => ?_) (fun hc19 => ?_)
      · refine AX.iconst (pc := 26) (v := nI 0) dX0_isOfKind_26 (by decide) ?_
        refine AX.iret (pc := 27) dX0_isOfKind_27 rfl rfl (by decide) (by decide) ?_
        exact ⟨s0 (by rw [un_ka hs hk]; simp [*]), rfl⟩
      · refine AX.iconst (pc := 22) (v := nI 1) dX0_isOfKind_22 (by decide) ?_
        refine AX.goto (pc := 23) (tgt := 27) dX0_isOfKind_23 (by decide) ?_
        refine AX.iret (pc := 27) dX0_isOfKind_27 rfl rfl (by decide) (by decide) ?_
        exact ⟨s1 (by rw [un_ka hs hk]; simp [*]), rfl⟩
def fmI (x y : Int32) : Int32 := if 0 ≤ x ^^^ y then x - x / y * y else if x - x / y * y = 0 then x - x / y * y else x - x / y * y + y
theorem c_floorMod (w : XW) (h : XH) (x y : Int32) (hy : ¬ y = 0) : CE w M_J9_floorMod_7cf53 [.int x, .int y] h (some (.int (fmI x y))) h := by
  refine CA.ofJ (by decide +kernel) rfl (fun _ => Nat.le_of_ble_eq_true rfl) ?_
  show AX w M_J9_floorMod_7cf53 0 0 0 [.int x, .int y, .null] [] h _
  refine AX.iload_n (pc := 0) dJ9_floorMod_7cf53_0 rfl ?_
  refine AX.iload_n (pc := 1) dJ9_floorMod_7cf53_1 rfl ?_
  refine AX.irem (pc := 2) dJ9_floorMod_7cf53_2 hy ?_
  refine AX.istore_n (pc := 3) (L' := [.int x, .int y, .int (x - x / y * y)]) dJ9_floorMod_7cf53_3 (by decide) rfl ?_
  refine AX.iload_n (pc := 4) dJ9_floorMod_7cf53_4 rfl ?_
  refine AX.iload_n (pc := 5) dJ9_floorMod_7cf53_5 rfl ?_
  refine AX.ixor (pc := 6) dJ9_floorMod_7cf53_6 ?_
  refine AX.if_ge (pc := 7) (tgt := 18) dJ9_floorMod_7cf53_7 (by decide) (fun hc7 => ?_) (fun hc7 => ?_)
  · refine AX.iload_n (pc := 18) dJ9_floorMod_7cf53_18 rfl ?_
    refine AX.iret (pc := 19) dJ9_floorMod_7cf53_19 rfl rfl (by decide) (by decide) ?_
    exact ⟨by unfold fmI; simp [*], rfl⟩
  · refine AX.iload_n (pc := 10) dJ9_floorMod_7cf53_10 rfl ?_
    refine AX.if_eq (pc := 11) (tgt := 18) dJ9_floorMod_7cf53_11 (by decide) (fun hc11 => ?_) (fun hc11 => ?_)
    · refine AX.iload_n (pc := 18) dJ9_floorMod_7cf53_18 rfl ?_
      refine AX.iret (pc := 19) dJ9_floorMod_7cf53_19 rfl rfl (by decide) (by decide) ?_
      exact ⟨by unfold fmI; simp [*], rfl⟩
    · refine AX.iload_n (pc := 14) dJ9_floorMod_7cf53_14 rfl ?_
      refine AX.iload_n (pc := 15) dJ9_floorMod_7cf53_15 rfl ?_
      refine AX.iadd (pc := 16) dJ9_floorMod_7cf53_16 ?_
      refine AX.iret (pc := 17) dJ9_floorMod_7cf53_17 rfl rfl (by decide) (by decide) ?_
      exact ⟨by unfold fmI; simp [*], rfl⟩
theorem fm_at {i on : Nat} {st : Int32} (hi : i < 20) (hst : (st = nI 1 ∧ on = 1) ∨ (st = -1 ∧ on = 19)) : fmI (nI i + st) (nI 20) = nI ((i + on) % 20) := by
  have h1 : ∀ i, i < 20 → fmI (nI i + nI 1) (nI 20) = nI ((i + 1) % 20) := by decide
  have h2 : ∀ i, i < 20 → fmI (nI i + (-1)) (nI 20) = nI ((i + 19) % 20) := by decide
  rcases hst with ⟨rfl, rfl⟩ | ⟨rfl, rfl⟩
  · exact h1 i hi
  · exact h2 i hi
theorem l_numberBeside (w : XW) (h : XH) (m on : Nat) (st : Int32) (hm : m ≤ 20) (hst : (st = nI 1 ∧ on = 1) ∨ (st = -1 ∧ on = 19)) (P : Option Value → XH → Prop) (hP : P (some (.int (nI (bsN m on)))) h) : ∀ (g i : Nat), i + g = 20 → i ≤ ixN m → AX w M_X0_numberBeside 0 0 7 [.int (nI m), .int st, .int (nI 20), .int (nI i)] [] h P
  | 0, i, hg, hi => by
    have e : i = 20 := by omega
    subst e
    refine AX.iload_n (pc := 7) dX0_numberBeside_7 rfl ?_
    refine AX.iload_n (pc := 8) dX0_numberBeside_8 rfl ?_
    refine AX.icmp_geN (pc := 9) (tgt := 39) dX0_numberBeside_9 (by decide) (by decide) (by decide) (fun hc9 => ?_) (fun q => absurd q (by decide))
    refine AX.iconst (pc := 39) (v := nI 0) dX0_numberBeside_39 (by decide) ?_
    refine AX.iret (pc := 40) dX0_numberBeside_40 rfl rfl (by decide) (by decide) ?_
    have e0 : bsN m on = 0 := by unfold bsN; rw [if_neg (by omega)]
    rw [e0] at hP
    exact hP
  | g + 1, i, hg, hi => by
    refine AX.iload_n (pc := 7) dX0_numberBeside_7 rfl ?_
    refine AX.iload_n (pc := 8) dX0_numberBeside_8 rfl ?_
    refine AX.icmp_geN (pc := 9) (tgt := 39) dX0_numberBeside_9 (by decide) (by have := rgN_in i; omega) (by decide) (fun q => absurd q (by omega)) (fun hc9 => ?_)
    refine AX.ring (pc := 12) lX0_numberBeside_21 dX0_numberBeside_12 ?_
    refine AX.iload_n (pc := 15) dX0_numberBeside_15 rfl ?_
    refine AX.ringAtN (pc := 16) (i := i) (v := (nI (rgN i))) (by omega) (ring_rg i (by omega)) dX0_numberBeside_16 ?_
    refine AX.iload_n (pc := 17) dX0_numberBeside_17 rfl ?_
    refine AX.icmp_neN (pc := 18) (tgt := 33) dX0_numberBeside_18 (by decide) (by have := rgN_in i; omega) (by have := rgN_in i; omega) (fun hc18 => ?_) (fun hc18 => ?_)
    · refine AX.iincN (c := i + 1) (pc := 33) (L' := [.int (nI m), .int st, .int (nI 20), .int (nI (i + 1))]) dX0_numberBeside_33 rfl (inc1 _) (by decide) rfl ?_
      refine AX.goto (pc := 36) (tgt := 7) dX0_numberBeside_36 (by decide) ?_
      exact l_numberBeside w h m on st hm hst P hP g (i + 1) (by omega) (by
          have := Nat.lt_or_eq_of_le hi
          rcases this with q | q
          · exact q
          · exact absurd (by rw [q]; exact ixN_eq (by omega)) hc18)
    · refine AX.ring (pc := 21) lX0_numberBeside_21 dX0_numberBeside_21 ?_
      refine AX.iload_n (pc := 24) dX0_numberBeside_24 rfl ?_
      refine AX.iload_n (pc := 25) dX0_numberBeside_25 rfl ?_
      refine AX.iadd (pc := 26) dX0_numberBeside_26 ?_
      refine AX.iload_n (pc := 27) dX0_numberBeside_27 rfl ?_
      refine AX.callS (pc := 28) (M2 := M_J9_floorMod_7cf53) (As := [.int ((nI i) + st), .int (nI 20)]) (rest := [.retAddr 1]) (c_floorMod w h (nI i + st) (nI 20) (by decide)) xc_X0_numberBeside__J9_floorMod_7cf53 gX0_numberBeside_J9_floorMod_7cf53 rfl (Nat.le_of_ble_eq_true rfl) dX0_numberBeside_28 ?_
      rintro _ h9 ⟨rfl, e9⟩
      have e9 := e9.symm
      subst e9
      show AX w M_X0_numberBeside 0 0 31 [.int (nI m), .int st, .int (nI 20), .int (nI i)] [.int (fmI (nI i + st) (nI 20)), .retAddr 1] _ _
      refine AX.topi (y := nI ((i + on) % 20)) (fm_at (by omega) hst) ?_
      refine AX.ringAtN (pc := 31) (i := (i + on) % 20) (v := (nI (rgN ((i + on) % 20)))) (Nat.mod_lt _ (by decide)) (ring_rg _ (Nat.mod_lt _ (by decide))) dX0_numberBeside_31 ?_
      refine AX.iret (pc := 32) dX0_numberBeside_32 rfl rfl (by decide) (by decide) ?_
      have q : i = ixN m := by
        rcases Nat.lt_or_eq_of_le hi with q | q
        · exact absurd hc18 (ixN_ne q)
        · exact q
      have e0 : bsN m on = rgN ((i + on) % 20) := by unfold bsN; rw [← q, if_pos (by omega)]
      rw [e0] at hP
      exact hP
theorem c_numberBeside (w : XW) (h : XH) (m on : Nat) (st : Int32) (hm : m ≤ 20) (hst : (st = nI 1 ∧ on = 1) ∨ (st = -1 ∧ on = 19)) : CE w M_X0_numberBeside [.int (nI m), .int st] h (some (.int (nI (bsN m on)))) h := by
  refine CA.of (by decide) rfl (fun _ => Nat.le_of_ble_eq_true rfl) ?_
  show AX w M_X0_numberBeside 0 0 0 [.int (nI m), .int st, .null, .null] [] h _
  refine AX.ring (pc := 0) lX0_numberBeside_21 dX0_numberBeside_0 ?_
  refine AX.ringLen (pc := 3) dX0_numberBeside_3 ?_
  refine AX.istore_n (pc := 4) (L' := [.int (nI m), .int st, .int (nI 20), .null]) dX0_numberBeside_4 (by decide) rfl ?_
  refine AX.iconst (pc := 5) (v := nI 0) dX0_numberBeside_5 (by decide) ?_
  refine AX.istore_n (pc := 6) (L' := [.int (nI m), .int st, .int (nI 20), .int (nI 0)]) dX0_numberBeside_6 (by decide) rfl ?_
  exact l_numberBeside w h m on st hm hst _ ⟨rfl, rfl⟩ 20 0 (by omega) (Nat.zero_le _)
