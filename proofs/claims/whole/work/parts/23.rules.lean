/-! ===== Rules ===== -/
theorem c_leastRest (w : XW) (h : XH) {o : Nat} (hn : 4 ≤ h.1) (hR : RU h o) : CA w M_X9_leastRest [.ref 1] h (fun v' h'' => v' = some (.int (nI (leN o))) ∧ h'' = h) := by
  refine CA.of (by decide) rfl (fun _ => Nat.le_of_ble_eq_true rfl) ?_
  obtain ⟨ho, e1, ⟨f2, e2, q2⟩, ⟨f3, e3, q3⟩⟩ := hR
  show AX w M_X9_leastRest 0 0 0 [.ref 1] [] h _
  refine AX.aload_n (pc := 0) dX9_leastRest_0 rfl ?_
  refine AX.getf (pc := 1) fX9_leastRest_19 (lt_k hn (by omega)) e1 rfl dX9_leastRest_1 ?_
  refine AX.if_neN (pc := 4) (tgt := 11) dX9_leastRest_4 (by decide) (by omega) (fun hc4 => ?_) (fun hc4 => ?_)
  · refine AX.iconst (pc := 11) (v := nI 2) dX9_leastRest_11 (by decide) ?_
    refine AX.iret (pc := 12) dX9_leastRest_12 rfl rfl (by decide) (by decide) ?_
    exact ⟨sI (by unfold leN; split <;> omega), rfl⟩
  · refine AX.iconst (pc := 7) (v := nI 1) dX9_leastRest_7 (by decide) ?_
    refine AX.goto (pc := 8) (tgt := 12) dX9_leastRest_8 (by decide) ?_
    refine AX.iret (pc := 12) dX9_leastRest_12 rfl rfl (by decide) (by decide) ?_
    exact ⟨sI (by unfold leN; split <;> omega), rfl⟩
theorem nx_none {o r s : Nat} (h : r < scN s) : nxN o r s = none := by unfold nxN; rw [if_pos h]
theorem nx_b1 {o r s : Nat} (h : r = scN s ∧ enN o s = false) : nxN o r s = none := by unfold nxN; rw [if_neg (by omega), if_pos h]
theorem nx_b2 {o r s : Nat} (h : r - scN s = 1 ∧ o ≠ 0) : nxN o r s = none := by unfold nxN; rw [if_neg (by omega), if_neg (by omega), if_pos h]
theorem nx_some {o r s : Nat} (h0 : scN s ≤ r) (h1 : ¬ (r = scN s ∧ enN o s = false)) (h2 : ¬ (r - scN s = 1 ∧ o ≠ 0)) : nxN o r s = some (r - scN s) := by unfold nxN; rw [if_neg (by omega), if_neg h1, if_neg h2]
theorem c_restBehind (w : XW) (h : XH) {o : Nat} (hn : 4 ≤ h.1) (hR : RU h o) (r s : Nat) (hr : r < 1000000) (hs : s < 63) : CE w M_X9_restBehind [.ref 1, .int (nI r), .int (nI s)] h (some (.int (oI (nxN o r s)))) h := by
  refine CA.of (by decide) rfl (fun _ => Nat.le_of_ble_eq_true rfl) ?_
  obtain ⟨ho, e1, ⟨f2, e2, q2⟩, ⟨f3, e3, q3⟩⟩ := hR
  have hsc := scN_le s hs
  rcases Nat.lt_or_ge r (scN s) with hlt | hge
  · show AX w M_X9_restBehind 0 0 0 [.ref 1, .int (nI r), .int (nI s), .null] [] h _
    refine AX.iload_n (pc := 0) dX9_restBehind_0 rfl ?_
    refine AX.aload_n (pc := 1) dX9_restBehind_1 rfl ?_
    refine AX.getf (pc := 2) fX9_restBehind_9 (lt_k hn (by omega)) e1 rfl dX9_restBehind_2 ?_
    refine AX.iload_n (pc := 5) dX9_restBehind_5 rfl ?_
    refine AX.ialdN (pc := 6) (i := s) (v := (nI (scN s))) (lt_k hn (by omega)) e2 (by decide) (by omega) (q2 _ (by omega)) dX9_restBehind_6 ?_
    refine AX.isub (pc := 7) dX9_restBehind_7 ?_
    refine AX.istore_n (pc := 8) (L' := [.ref 1, .int (nI r), .int (nI s), .int (nI r - nI (scN s))]) dX9_restBehind_8 (by decide) rfl ?_
    refine AX.iload_n (pc := 9) dX9_restBehind_9 rfl ?_
    refine AX.if_lt (pc := 10) (tgt := 38) dX9_restBehind_10 (by decide) (fun hc10 => ?_) (fun q => absurd (pk_sneg (by omega) hlt) q)
    refine AX.bipush (pc := 38) (v := (-5)) dX9_restBehind_38 (by decide) ?_
    refine AX.iret (pc := 40) dX9_restBehind_40 rfl rfl (by decide) (by decide) ?_
    exact ⟨by rw [nx_none hlt]; rfl, rfl⟩
  · show AX w M_X9_restBehind 0 0 0 [.ref 1, .int (nI r), .int (nI s), .null] [] h _
    refine AX.iload_n (pc := 0) dX9_restBehind_0 rfl ?_
    refine AX.aload_n (pc := 1) dX9_restBehind_1 rfl ?_
    refine AX.getf (pc := 2) fX9_restBehind_9 (lt_k hn (by omega)) e1 rfl dX9_restBehind_2 ?_
    refine AX.iload_n (pc := 5) dX9_restBehind_5 rfl ?_
    refine AX.ialdN (pc := 6) (i := s) (v := (nI (scN s))) (lt_k hn (by omega)) e2 (by decide) (by omega) (q2 _ (by omega)) dX9_restBehind_6 ?_
    refine AX.isubN (pc := 7) (c := r - scN s) dX9_restBehind_7 (by omega) ?_
    refine AX.istore_n (pc := 8) (L' := [.ref 1, .int (nI r), .int (nI s), .int (nI (r - scN s))]) dX9_restBehind_8 (by decide) rfl ?_
    refine AX.iload_n (pc := 9) dX9_restBehind_9 rfl ?_
    refine AX.if_ltN (pc := 10) (tgt := 38) dX9_restBehind_10 (by decide) (by omega) (fun q => absurd q (by omega)) (fun hc10 => ?_)
    refine AX.iload_n (pc := 13) dX9_restBehind_13 rfl ?_
    refine AX.if_neN (pc := 14) (tgt := 26) dX9_restBehind_14 (by decide) (by omega) (fun hc14 => ?_) (fun hc14 => ?_)
    · refine AX.iload_n (pc := 26) dX9_restBehind_26 rfl ?_
      refine AX.iconst (pc := 27) (v := nI 1) dX9_restBehind_27 (by decide) ?_
      refine AX.icmp_neN (pc := 28) (tgt := 41) dX9_restBehind_28 (by decide) (by omega) (by decide) (fun hc28 => ?_) (fun hc28 => ?_)
      · refine AX.iload_n (pc := 41) dX9_restBehind_41 rfl ?_
        refine AX.iret (pc := 42) dX9_restBehind_42 rfl rfl (by decide) (by decide) ?_
        exact ⟨by rw [nx_some hge (by rintro ⟨q1, q4⟩; first | omega | simp_all) (by omega)]; rfl, rfl⟩
      · refine AX.aload_n (pc := 31) dX9_restBehind_31 rfl ?_
        refine AX.getf (pc := 32) fX9_restBehind_19 (lt_k hn (by omega)) e1 rfl dX9_restBehind_32 ?_
        refine AX.if_eqN (pc := 35) (tgt := 41) dX9_restBehind_35 (by decide) (by omega) (fun hc35 => ?_) (fun hc35 => ?_)
        · refine AX.iload_n (pc := 41) dX9_restBehind_41 rfl ?_
          refine AX.iret (pc := 42) dX9_restBehind_42 rfl rfl (by decide) (by decide) ?_
          exact ⟨by rw [nx_some hge (by rintro ⟨q1, q4⟩; first | omega | simp_all) (by omega)]; rfl, rfl⟩
        · refine AX.bipush (pc := 38) (v := (-5)) dX9_restBehind_38 (by decide) ?_
          refine AX.iret (pc := 40) dX9_restBehind_40 rfl rfl (by decide) (by decide) ?_
          exact ⟨by rw [show nxN o r s = none from by first | exact nx_b1 ⟨by omega, by assumption⟩ | exact nx_b2 ⟨by omega, by omega⟩]; rfl, rfl⟩
    · refine AX.aload_n (pc := 17) dX9_restBehind_17 rfl ?_
      refine AX.getf (pc := 18) fX9_restBehind_15 (lt_k hn (by omega)) e1 rfl dX9_restBehind_18 ?_
      refine AX.iload_n (pc := 21) dX9_restBehind_21 rfl ?_
      refine AX.zaldN (pc := 22) (i := s) (v := (bI (enN o s))) (lt_k hn (by omega)) e3 (by decide) (by omega) (q3 _ (by omega)) dX9_restBehind_22 ?_
      refine AX.if_eqB (pc := 23) (tgt := 38) dX9_restBehind_23 (by decide) (fun hc23 => ?_) (fun hc23 => ?_)
      · refine AX.bipush (pc := 38) (v := (-5)) dX9_restBehind_38 (by decide) ?_
        refine AX.iret (pc := 40) dX9_restBehind_40 rfl rfl (by decide) (by decide) ?_
        exact ⟨by rw [show nxN o r s = none from by first | exact nx_b1 ⟨by omega, by assumption⟩ | exact nx_b2 ⟨by omega, by omega⟩]; rfl, rfl⟩
      · refine AX.iload_n (pc := 26) dX9_restBehind_26 rfl ?_
        refine AX.iconst (pc := 27) (v := nI 1) dX9_restBehind_27 (by decide) ?_
        refine AX.icmp_neN (pc := 28) (tgt := 41) dX9_restBehind_28 (by decide) (by omega) (by decide) (fun hc28 => ?_) (fun hc28 => ?_)
        · refine AX.iload_n (pc := 41) dX9_restBehind_41 rfl ?_
          refine AX.iret (pc := 42) dX9_restBehind_42 rfl rfl (by decide) (by decide) ?_
          exact ⟨by rw [nx_some hge (by rintro ⟨q1, q4⟩; first | omega | simp_all) (by omega)]; rfl, rfl⟩
        · refine AX.aload_n (pc := 31) dX9_restBehind_31 rfl ?_
          refine AX.getf (pc := 32) fX9_restBehind_19 (lt_k hn (by omega)) e1 rfl dX9_restBehind_32 ?_
          refine AX.if_eqN (pc := 35) (tgt := 41) dX9_restBehind_35 (by decide) (by omega) (fun hc35 => ?_) (fun hc35 => ?_)
          · refine AX.iload_n (pc := 41) dX9_restBehind_41 rfl ?_
            refine AX.iret (pc := 42) dX9_restBehind_42 rfl rfl (by decide) (by decide) ?_
            exact ⟨by rw [nx_some hge (by rintro ⟨q1, q4⟩; first | omega | simp_all) (by omega)]; rfl, rfl⟩
          · refine AX.bipush (pc := 38) (v := (-5)) dX9_restBehind_38 (by decide) ?_
            refine AX.iret (pc := 40) dX9_restBehind_40 rfl rfl (by decide) (by decide) ?_
            exact ⟨by rw [show nxN o r s = none from by first | exact nx_b1 ⟨by omega, by assumption⟩ | exact nx_b2 ⟨by omega, by omega⟩]; rfl, rfl⟩
theorem l_markEnding (w : XW) (P : Option Value → XH → Prop) (h0 : XH) (o : Nat) (ho : o ≤ 2) (hP : ∀ h', Same [3] h0 h' → zA h' 3 63 (fun s => bI (enN o s)) → P none h') : ∀ (g i : Nat) (h : XH) (f3 : Nat → Int32), i + g = 63 → 4 ≤ h.1 → h.2 1 = .inr (8, [.ref 2, .ref 3, .int (nI o)]) → h.2 3 = .inl (1, 63, .inl f3) → (∀ j, j < i → f3 j = bI (enN o j)) → Same [3] h0 h → AX w M_X9_markEnding 0 0 2 [.ref 1, .int (nI i)] [] h P
  | 0, i, h, f3, hg, hn, e1, e3, q3, hS => by
    have e : i = 63 := by omega
    subst e
    refine AX.iload_n (pc := 2) dX9_markEnding_2 rfl ?_
    refine AX.bipush (pc := 3) (v := nI 63) dX9_markEnding_3 (by decide) ?_
    refine AX.icmp_geN (pc := 5) (tgt := 56) dX9_markEnding_5 (by decide) (by decide) (by decide) (fun hc5 => ?_) (fun q => absurd q (by decide))
    refine AX.vret (pc := 56) dX9_markEnding_56 rfl (by decide) (by decide) ?_
    exact hP h hS ⟨f3, e3, q3⟩
  | g + 1, i, h, f3, hg, hn, e1, e3, q3, hS => by
    refine AX.iload_n (pc := 2) dX9_markEnding_2 rfl ?_
    refine AX.bipush (pc := 3) (v := nI 63) dX9_markEnding_3 (by decide) ?_
    refine AX.icmp_geN (pc := 5) (tgt := 56) dX9_markEnding_5 (by decide) (by omega) (by decide) (fun q => absurd q (by omega)) (fun hc5 => ?_)
    refine AX.aload_n (pc := 8) dX9_markEnding_8 rfl ?_
    refine AX.getf (pc := 9) fX9_markEnding_15 (lt_k hn (by omega)) e1 rfl dX9_markEnding_9 ?_
    refine AX.iload_n (pc := 12) dX9_markEnding_12 rfl ?_
    refine AX.aload_n (pc := 13) dX9_markEnding_13 rfl ?_
    refine AX.getf (pc := 14) fX9_markEnding_19 (lt_k hn (by omega)) e1 rfl dX9_markEnding_14 ?_
    refine AX.if_eqN (pc := 17) (tgt := 44) dX9_markEnding_17 (by decide) (by omega) (fun hc17 => ?_) (fun hc17 => ?_)
    · refine AX.iconst (pc := 44) (v := nI 1) dX9_markEnding_44 (by decide) ?_
      refine AX.goto (pc := 45) (tgt := 49) dX9_markEnding_45 (by decide) ?_
      refine AX.zastN (pc := 49) (i := i) (g := upd f3 i (nI 1)) (lt_k hn (by omega)) e3 (by decide) (by omega) rfl rfl dX9_markEnding_49 ?_
      refine AX.iincN (c := i + 1) (pc := 50) (L' := [.ref 1, .int (nI (i + 1))]) dX9_markEnding_50 rfl (inc1 _) (by decide) rfl ?_
      refine AX.goto (pc := 53) (tgt := 2) dX9_markEnding_53 (by decide) ?_
      have q : (nI 1) = bI (enN o i) := by rw [show enN o i = true from by unfold enN; simp_all]; rfl
      exact l_markEnding w P h0 o ho hP g (i + 1) _ _ (by omega) hn (by rw [xset_ne (by decide)]; exact e1) (xset_same _ _ _) (upd_ext q3 q) (hS.set (by decide))
    · refine AX.iload_n (pc := 20) dX9_markEnding_20 rfl ?_
      refine AX.iconst (pc := 21) (v := nI 2) dX9_markEnding_21 (by decide) ?_
      refine AX.callS (pc := 22) (M2 := M_X0_isOfKind) (As := [.int (nI i), .int (nI 2)]) (rest := [.int (nI i), .ref 3]) (c_isOfKind w _ i 2 (by omega) (by decide)) xc_X9_markEnding__X0_isOfKind gX9_markEnding_X0_isOfKind rfl (Nat.le_of_ble_eq_true rfl) dX9_markEnding_22 ?_
      rintro _ h9 ⟨rfl, e9⟩
      have e9 := e9.symm
      subst e9
      show AX w M_X9_markEnding 0 0 25 [.ref 1, .int (nI i)] [.int (bI (unN i 2)), .int (nI i), .ref 3] _ _
      refine AX.if_neB (pc := 25) (tgt := 44) dX9_markEnding_25 (by decide) (fun hc25 => ?_) (fun hc25 => ?_)
      · refine AX.iconst (pc := 44) (v := nI 1) dX9_markEnding_44 (by decide) ?_
        refine AX.goto (pc := 45) (tgt := 49) dX9_markEnding_45 (by decide) ?_
        refine AX.zastN (pc := 49) (i := i) (g := upd f3 i (nI 1)) (lt_k hn (by omega)) e3 (by decide) (by omega) rfl rfl dX9_markEnding_49 ?_
        refine AX.iincN (c := i + 1) (pc := 50) (L' := [.ref 1, .int (nI (i + 1))]) dX9_markEnding_50 rfl (inc1 _) (by decide) rfl ?_
        refine AX.goto (pc := 53) (tgt := 2) dX9_markEnding_53 (by decide) ?_
        have q : (nI 1) = bI (enN o i) := by rw [show enN o i = true from by unfold enN; simp_all]; rfl
        exact l_markEnding w P h0 o ho hP g (i + 1) _ _ (by omega) hn (by rw [xset_ne (by decide)]; exact e1) (xset_same _ _ _) (upd_ext q3 q) (hS.set (by decide))
      · refine AX.aload_n (pc := 28) dX9_markEnding_28 rfl ?_
        refine AX.getf (pc := 29) fX9_markEnding_19 (lt_k hn (by omega)) e1 rfl dX9_markEnding_29 ?_
        refine AX.iconst (pc := 32) (v := nI 2) dX9_markEnding_32 (by decide) ?_
        refine AX.icmp_neN (pc := 33) (tgt := 48) dX9_markEnding_33 (by decide) (by omega) (by decide) (fun hc33 => ?_) (fun hc33 => ?_)
        · refine AX.iconst (pc := 48) (v := nI 0) dX9_markEnding_48 (by decide) ?_
          refine AX.zastN (pc := 49) (i := i) (g := upd f3 i (nI 0)) (lt_k hn (by omega)) e3 (by decide) (by omega) rfl rfl dX9_markEnding_49 ?_
          refine AX.iincN (c := i + 1) (pc := 50) (L' := [.ref 1, .int (nI (i + 1))]) dX9_markEnding_50 rfl (inc1 _) (by decide) rfl ?_
          refine AX.goto (pc := 53) (tgt := 2) dX9_markEnding_53 (by decide) ?_
          have q : (nI 0) = bI (enN o i) := by rw [show enN o i = false from by unfold enN; simp_all]; rfl
          exact l_markEnding w P h0 o ho hP g (i + 1) _ _ (by omega) hn (by rw [xset_ne (by decide)]; exact e1) (xset_same _ _ _) (upd_ext q3 q) (hS.set (by decide))
        · refine AX.iload_n (pc := 36) dX9_markEnding_36 rfl ?_
          refine AX.iconst (pc := 37) (v := nI 3) dX9_markEnding_37 (by decide) ?_
          refine AX.callS (pc := 38) (M2 := M_X0_isOfKind) (As := [.int (nI i), .int (nI 3)]) (rest := [.int (nI i), .ref 3]) (c_isOfKind w _ i 3 (by omega) (by decide)) xc_X9_markEnding__X0_isOfKind gX9_markEnding_X0_isOfKind rfl (Nat.le_of_ble_eq_true rfl) dX9_markEnding_38 ?_
          rintro _ h9 ⟨rfl, e9⟩
          have e9 := e9.symm
          subst e9
          show AX w M_X9_markEnding 0 0 41 [.ref 1, .int (nI i)] [.int (bI (unN i 3)), .int (nI i), .ref 3] _ _
          refine AX.if_eqB (pc := 41) (tgt := 48) dX9_markEnding_41 (by decide) (fun hc41 => ?_) (fun hc41 => ?_)
          · refine AX.iconst (pc := 48) (v := nI 0) dX9_markEnding_48 (by decide) ?_
            refine AX.zastN (pc := 49) (i := i) (g := upd f3 i (nI 0)) (lt_k hn (by omega)) e3 (by decide) (by omega) rfl rfl dX9_markEnding_49 ?_
            refine AX.iincN (c := i + 1) (pc := 50) (L' := [.ref 1, .int (nI (i + 1))]) dX9_markEnding_50 rfl (inc1 _) (by decide) rfl ?_
            refine AX.goto (pc := 53) (tgt := 2) dX9_markEnding_53 (by decide) ?_
            have q : (nI 0) = bI (enN o i) := by rw [show enN o i = false from by unfold enN; simp_all]; rfl
            exact l_markEnding w P h0 o ho hP g (i + 1) _ _ (by omega) hn (by rw [xset_ne (by decide)]; exact e1) (xset_same _ _ _) (upd_ext q3 q) (hS.set (by decide))
          · refine AX.iconst (pc := 44) (v := nI 1) dX9_markEnding_44 (by decide) ?_
            refine AX.goto (pc := 45) (tgt := 49) dX9_markEnding_45 (by decide) ?_
            refine AX.zastN (pc := 49) (i := i) (g := upd f3 i (nI 1)) (lt_k hn (by omega)) e3 (by decide) (by omega) rfl rfl dX9_markEnding_49 ?_
            refine AX.iincN (c := i + 1) (pc := 50) (L' := [.ref 1, .int (nI (i + 1))]) dX9_markEnding_50 rfl (inc1 _) (by decide) rfl ?_
            refine AX.goto (pc := 53) (tgt := 2) dX9_markEnding_53 (by decide) ?_
            have q : (nI 1) = bI (enN o i) := by rw [show enN o i = true from by unfold enN; simp_all]; rfl
            exact l_markEnding w P h0 o ho hP g (i + 1) _ _ (by omega) hn (by rw [xset_ne (by decide)]; exact e1) (xset_same _ _ _) (upd_ext q3 q) (hS.set (by decide))
theorem c_markEnding (w : XW) (h : XH) {o : Nat} (ho : o ≤ 2) {f3 : Nat → Int32} (hn : 4 ≤ h.1) (e1 : h.2 1 = .inr (8, [.ref 2, .ref 3, .int (nI o)])) (e3 : h.2 3 = .inl (1, 63, .inl f3)) : CA w M_X9_markEnding [.ref 1] h (fun v h' => v = none ∧ Same [3] h h' ∧ zA h' 3 63 (fun s => bI (enN o s))) := by
  refine CA.of (by decide) rfl (fun _ => Nat.le_of_ble_eq_true rfl) ?_
  show AX w M_X9_markEnding 0 0 0 [.ref 1, .null] [] h _
  refine AX.iconst (pc := 0) (v := nI 0) dX9_markEnding_0 (by decide) ?_
  refine AX.istore_n (pc := 1) (L' := [.ref 1, .int (nI 0)]) dX9_markEnding_1 (by decide) rfl ?_
  exact l_markEnding w _ h o ho (fun h' a b => ⟨rfl, a, b⟩) 63 0 h f3 (by omega) hn e1 e3 (fun j hj => absurd hj (Nat.not_lt_zero _)) Same.rf
theorem c_Rules_become (w : XW) (h : XH) {o : Nat} (hn : 4 ≤ h.1) (hR : RU h o) (o' : Nat) (ho' : o' ≤ 2) : CA w M_X9_become [.ref 1, .int (nI o')] h (fun v h' => v = some (.int (bI (decide (o' ≠ o)))) ∧ Same [1, 3] h h' ∧ RU h' o') := by
  refine CA.of (by decide) rfl (fun _ => Nat.le_of_ble_eq_true rfl) ?_
  obtain ⟨ho, e1, ⟨f2, e2, q2⟩, ⟨f3, e3, q3⟩⟩ := id hR
  show AX w M_X9_become 0 0 0 [.ref 1, .int (nI o')] [] h _
  refine AX.iload_n (pc := 0) dX9_become_0 rfl ?_
  refine AX.aload_n (pc := 1) dX9_become_1 rfl ?_
  refine AX.getf (pc := 2) fX9_become_19 (lt_k hn (by omega)) e1 rfl dX9_become_2 ?_
  refine AX.icmp_neN (pc := 5) (tgt := 10) dX9_become_5 (by decide) (by omega) (by omega) (fun hc5 => ?_) (fun hc5 => ?_)
  · refine AX.aload_n (pc := 10) dX9_become_10 rfl ?_
    refine AX.iload_n (pc := 11) dX9_become_11 rfl ?_
    refine AX.putf (pc := 12) (fs' := [.ref 2, .ref 3, .int (nI o')]) fX9_become_19 rfl (lt_k hn (by omega)) e1 (Nat.le_of_ble_eq_true rfl) rfl rfl rfl dX9_become_12 ?_
    refine AX.aload_n (pc := 15) dX9_become_15 rfl ?_
    refine AX.callV (pc := 16) (M2 := M_X9_markEnding) (As := []) (rest := []) (c_markEnding w (xset h 1 (.inr (8, [.ref 2, .ref 3, .int (nI o')]))) ho' hn (xset_same _ _ _) ((xset_ne (by decide)).trans e3)) xc_X9_become__X9_markEnding gX9_become_X9_markEnding (ci := 8) rfl (lt_k hn (by omega)) (xset_same _ _ _) rfl (Nat.le_of_ble_eq_true rfl) dX9_become_16 ?_
    rintro _ h1 ⟨rfl, hs1, hz1⟩
    show AX w M_X9_become 0 0 19 [.ref 1, .int (nI o')] [] _ _
    refine AX.iconst (pc := 19) (v := nI 1) dX9_become_19 (by decide) ?_
    refine AX.iret (pc := 20) dX9_become_20 rfl rfl (by decide) (by decide) ?_
    exact ⟨s1 (by simp [*]), (Same.set Same.rf (by decide)).trans (hs1.wide (by decide)), ho', hs1.at (by decide) (xset_same _ _ _), iA.same (h := xset h 1 (.inr (8, [.ref 2, .ref 3, .int (nI o')]))) ⟨f2, (xset_ne (by decide)).trans e2, q2⟩ hs1 (by decide), hz1⟩
  · refine AX.iconst (pc := 8) (v := nI 0) dX9_become_8 (by decide) ?_
    refine AX.iret (pc := 9) dX9_become_9 rfl rfl (by decide) (by decide) ?_
    exact ⟨s0 (by simp [*]), Same.rf, by rw [hc5]; exact hR⟩
theorem l_restsBehind (w : XW) (P : Option Value → XH → Prop) (h0 : XH) (o r a : Nat) (hr : r < 1000000) (ha : 4 ≤ a) (hP : ∀ h', Same [a] h0 h' → iA h' a 63 (fun s => oI (nxN o r s)) → P none h') : ∀ (g i : Nat) (h : XH) (f : Nat → Int32), i + g = 63 → a + 1 ≤ h.1 → RU h o → h.2 a = .inl (0, 63, .inl f) → (∀ j, j < i → f j = oI (nxN o r j)) → Same [a] h0 h → AX w M_X9_restsBehind 0 0 2 [.ref 1, .int (nI r), .ref a, .int (nI i)] [] h P
  | 0, i, h, f, hg, hn, hR, ea, qa, hS => by
    have e : i = 63 := by omega
    subst e
    refine AX.iload_n (pc := 2) dX9_restsBehind_2 rfl ?_
    refine AX.bipush (pc := 3) (v := nI 63) dX9_restsBehind_3 (by decide) ?_
    refine AX.icmp_geN (pc := 5) (tgt := 23) dX9_restsBehind_5 (by decide) (by decide) (by decide) (fun hc5 => ?_) (fun q => absurd q (by decide))
    refine AX.vret (pc := 23) dX9_restsBehind_23 rfl (by decide) (by decide) ?_
    exact hP h hS ⟨f, ea, qa⟩
  | g + 1, i, h, f, hg, hn, hR, ea, qa, hS => by
    refine AX.iload_n (pc := 2) dX9_restsBehind_2 rfl ?_
    refine AX.bipush (pc := 3) (v := nI 63) dX9_restsBehind_3 (by decide) ?_
    refine AX.icmp_geN (pc := 5) (tgt := 23) dX9_restsBehind_5 (by decide) (by omega) (by decide) (fun q => absurd q (by omega)) (fun hc5 => ?_)
    refine AX.aload_n (pc := 8) dX9_restsBehind_8 rfl ?_
    refine AX.iload_n (pc := 9) dX9_restsBehind_9 rfl ?_
    refine AX.aload_n (pc := 10) dX9_restsBehind_10 rfl ?_
    refine AX.iload_n (pc := 11) dX9_restsBehind_11 rfl ?_
    refine AX.iload_n (pc := 12) dX9_restsBehind_12 rfl ?_
    refine AX.callV (pc := 13) (M2 := M_X9_restBehind) (As := [.int (nI r), .int (nI i)]) (rest := [.int (nI i), .ref a]) (c_restBehind w h (by omega) hR r i hr (by omega)) xc_X9_restsBehind__X9_restBehind gX9_restsBehind_X9_restBehind (ci := 8) rfl (lt_k hn (by omega)) hR.2.1 rfl (Nat.le_of_ble_eq_true rfl) dX9_restsBehind_13 ?_
    rintro _ h9 ⟨rfl, e9⟩
    have e9 := e9.symm
    subst e9
    show AX w M_X9_restsBehind 0 0 16 [.ref 1, .int (nI r), .ref a, .int (nI i)] [.int (oI (nxN o r i)), .int (nI i), .ref a] _ _
    refine AX.iastN (pc := 16) (i := i) (g := upd f i (oI (nxN o r i))) (lt_k hn (by omega)) ea (by decide) (by omega) rfl dX9_restsBehind_16 ?_
    refine AX.iincN (c := i + 1) (pc := 17) (L' := [.ref 1, .int (nI r), .ref a, .int (nI (i + 1))]) dX9_restsBehind_17 rfl (inc1 _) (by decide) rfl ?_
    refine AX.goto (pc := 20) (tgt := 2) dX9_restsBehind_20 (by decide) ?_
    have hs1 : Same [a] h (xset h a (.inl (0, 63, .inl (upd f i (oI (nxN o r i)))))) := Same.set Same.rf (by simp)
    exact l_restsBehind w P h0 o r a hr ha hP g (i + 1) _ _ (by omega) hn (hR.same hs1 (by simp; omega) (by simp; omega) (by simp; omega)) (xset_same _ _ _) (upd_ext qa rfl) (hS.trans hs1)
theorem c_restsBehind (w : XW) (h : XH) {o : Nat} (hR : RU h o) (r a : Nat) (hr : r < 1000000) (ha : 4 ≤ a) (hn : a + 1 ≤ h.1) {f : Nat → Int32} (ea : h.2 a = .inl (0, 63, .inl f)) : CA w M_X9_restsBehind [.ref 1, .int (nI r), .ref a] h (fun v h' => v = none ∧ Same [a] h h' ∧ iA h' a 63 (fun s => oI (nxN o r s))) := by
  refine CA.of (by decide) rfl (fun _ => Nat.le_of_ble_eq_true rfl) ?_
  show AX w M_X9_restsBehind 0 0 0 [.ref 1, .int (nI r), .ref a, .null] [] h _
  refine AX.iconst (pc := 0) (v := nI 0) dX9_restsBehind_0 (by decide) ?_
  refine AX.istore_n (pc := 1) (L' := [.ref 1, .int (nI r), .ref a, .int (nI 0)]) dX9_restsBehind_1 (by decide) rfl ?_
  exact l_restsBehind w _ h o r a hr ha (fun h' p q => ⟨rfl, p, q⟩) 63 0 h f (by omega) hn hR ea (fun j hj => absurd hj (Nat.not_lt_zero _)) Same.rf
theorem nI_m5 {d : Nat} (h : d < 1000000) : ¬ nI d = (-5) := by
  intro q
  have h1 := nI_toInt (n := d) (by omega)
  rw [q] at h1
  have h2 : (-5 : Int32).toInt = -5 := by decide
  omega
/-- a row of SPOTS judged from a rest on, from its number i on, g of them left -/
def vdN (o : Nat) (sp : Nat → Nat) : Nat → Nat → Nat → Nat
  | 0, _, r => 1000 + r
  | g + 1, i, r => match nxN o r (sp i) with
    | none => 100 + i
    | some d => if d = 0 then (if g = 0 then i else 200 + i) else vdN o sp g (i + 1) d
theorem l_verdict (w : XW) (P : Option Value → XH → Prop) (h : XH) (o a c : Nat) (hn : 4 ≤ h.1) (ha : a < h.1) (hR : RU h o) {K : Nat} {f : Nat → Int32} (ea : h.2 a = .inl (0, K, .inl f)) (hK : K < 1000) (hc : c ≤ K) (sp : Nat → Nat) (hsp : ∀ j, j < c → f j = nI (sp j) ∧ sp j < 63) (r0 : Nat) : ∀ (g i r : Nat), i + g = c → r ≤ 501 → 0 < r → P (some (.int (nI (vdN o sp g i r)))) h → AX w M_X9_verdict 0 0 6 [.ref 1, .ref a, .int (nI c), .int (nI r0), .int (nI r), .int (nI i)] [] h P
  | 0, i, r, hg, hr, h0, hP => by
    have e : i = c := by omega
    subst e
    refine AX.iload (pc := 6) dX9_verdict_6 rfl ?_
    refine AX.iload_n (pc := 8) dX9_verdict_8 rfl ?_
    refine AX.icmp_geN (pc := 9) (tgt := 68) dX9_verdict_9 (by decide) (by omega) (by omega) (fun hc9 => ?_) (fun q => absurd q (by omega))
    refine AX.sipush (pc := 68) (v := nI 1000) dX9_verdict_68 (by decide) ?_
    refine AX.iload (pc := 71) dX9_verdict_71 rfl ?_
    refine AX.iaddN (pc := 73) (c := 1000 + r) dX9_verdict_73 rfl ?_
    refine AX.iret (pc := 74) dX9_verdict_74 rfl rfl (by decide) (by decide) ?_
    exact hP
  | g + 1, i, r, hg, hr, h0, hP => by
    obtain ⟨s1, s2⟩ := hsp i (by omega)
    have hv : vdN o sp (g + 1) i r = match nxN o r (sp i) with
      | none => 100 + i
      | some d => if d = 0 then (if g = 0 then i else 200 + i) else vdN o sp g (i + 1) d := rfl
    cases hx : nxN o r (sp i) with
    | none =>
      rw [hv, hx] at hP
      refine AX.iload (pc := 6) dX9_verdict_6 rfl ?_
      refine AX.iload_n (pc := 8) dX9_verdict_8 rfl ?_
      refine AX.icmp_geN (pc := 9) (tgt := 68) dX9_verdict_9 (by decide) (by omega) (by omega) (fun q => absurd q (by omega)) (fun hc9 => ?_)
      refine AX.aload_n (pc := 12) dX9_verdict_12 rfl ?_
      refine AX.iload (pc := 13) dX9_verdict_13 rfl ?_
      refine AX.aload_n (pc := 15) dX9_verdict_15 rfl ?_
      refine AX.iload (pc := 16) dX9_verdict_16 rfl ?_
      refine AX.ialdN (pc := 18) (i := i) (v := (nI (sp i))) ha ea (by omega) (by omega) s1 dX9_verdict_18 ?_
      refine AX.callV (pc := 19) (M2 := M_X9_restBehind) (As := [.int (nI r), .int (nI (sp i))]) (rest := []) (c_restBehind w h hn hR r (sp i) (by omega) s2) xc_X9_verdict__X9_restBehind gX9_verdict_X9_restBehind (ci := 8) rfl (lt_k hn (by omega)) hR.2.1 rfl (Nat.le_of_ble_eq_true rfl) dX9_verdict_19 ?_
      rintro _ h9 ⟨rfl, e9⟩
      have e9 := e9.symm
      subst e9
      show AX w M_X9_verdict 0 0 22 [.ref 1, .ref a, .int (nI c), .int (nI r0), .int (nI r), .int (nI i)] [.int (oI (nxN o r (sp i)))] _ _
      refine AX.topi (y := (-5)) (by rw [hx]; rfl) ?_
      refine AX.istore (pc := 22) (L' := [.ref 1, .ref a, .int (nI c), .int (nI r0), .int (-5), .int (nI i)]) dX9_verdict_22 (by decide) rfl ?_
      refine AX.iload (pc := 24) dX9_verdict_24 rfl ?_
      refine AX.bipush (pc := 26) (v := (-5)) dX9_verdict_26 (by decide) ?_
      refine AX.icmp_ne (pc := 28) (tgt := 37) dX9_verdict_28 (by decide) (fun q => absurd rfl q) (fun hc28 => ?_)
      refine AX.bipush (pc := 31) (v := nI 100) dX9_verdict_31 (by decide) ?_
      refine AX.iload (pc := 33) dX9_verdict_33 rfl ?_
      refine AX.iaddN (pc := 35) (c := 100 + i) dX9_verdict_35 rfl ?_
      refine AX.iret (pc := 36) dX9_verdict_36 rfl rfl (by decide) (by decide) ?_
      exact hP
    | some d =>
      have hd := nxN_le hx
      rw [hv, hx] at hP
      have hP : P (some (.int (nI (if d = 0 then (if g = 0 then i else 200 + i) else vdN o sp g (i + 1) d)))) h := hP
      refine AX.iload (pc := 6) dX9_verdict_6 rfl ?_
      refine AX.iload_n (pc := 8) dX9_verdict_8 rfl ?_
      refine AX.icmp_geN (pc := 9) (tgt := 68) dX9_verdict_9 (by decide) (by omega) (by omega) (fun q => absurd q (by omega)) (fun hc9 => ?_)
      refine AX.aload_n (pc := 12) dX9_verdict_12 rfl ?_
      refine AX.iload (pc := 13) dX9_verdict_13 rfl ?_
      refine AX.aload_n (pc := 15) dX9_verdict_15 rfl ?_
      refine AX.iload (pc := 16) dX9_verdict_16 rfl ?_
      refine AX.ialdN (pc := 18) (i := i) (v := (nI (sp i))) ha ea (by omega) (by omega) s1 dX9_verdict_18 ?_
      refine AX.callV (pc := 19) (M2 := M_X9_restBehind) (As := [.int (nI r), .int (nI (sp i))]) (rest := []) (c_restBehind w h hn hR r (sp i) (by omega) s2) xc_X9_verdict__X9_restBehind gX9_verdict_X9_restBehind (ci := 8) rfl (lt_k hn (by omega)) hR.2.1 rfl (Nat.le_of_ble_eq_true rfl) dX9_verdict_19 ?_
      rintro _ h9 ⟨rfl, e9⟩
      have e9 := e9.symm
      subst e9
      show AX w M_X9_verdict 0 0 22 [.ref 1, .ref a, .int (nI c), .int (nI r0), .int (nI r), .int (nI i)] [.int (oI (nxN o r (sp i)))] _ _
      refine AX.topi (y := (nI d)) (by rw [hx]; rfl) ?_
      refine AX.istore (pc := 22) (L' := [.ref 1, .ref a, .int (nI c), .int (nI r0), .int (nI d), .int (nI i)]) dX9_verdict_22 (by decide) rfl ?_
      refine AX.iload (pc := 24) dX9_verdict_24 rfl ?_
      refine AX.bipush (pc := 26) (v := (-5)) dX9_verdict_26 (by decide) ?_
      refine AX.icmp_ne (pc := 28) (tgt := 37) dX9_verdict_28 (by decide) (fun hc28 => ?_) (fun q => absurd q (nI_m5 (by omega)))
      refine AX.iload (pc := 37) dX9_verdict_37 rfl ?_
      refine AX.if_neN (pc := 39) (tgt := 62) dX9_verdict_39 (by decide) (by omega) (fun hc39 => ?_) (fun hc39 => ?_)
      · refine AX.iincN (c := i + 1) (pc := 62) (L' := [.ref 1, .ref a, .int (nI c), .int (nI r0), .int (nI d), .int (nI (i + 1))]) dX9_verdict_62 rfl (inc1 _) (by decide) rfl ?_
        refine AX.goto (pc := 65) (tgt := 6) dX9_verdict_65 (by decide) ?_
        rw [if_neg hc39] at hP
        exact l_verdict w P h o a c hn ha hR ea hK hc sp hsp r0 g (i + 1) d (by omega) (by omega) (by omega) hP
      · refine AX.iload (pc := 42) dX9_verdict_42 rfl ?_
        refine AX.iload_n (pc := 44) dX9_verdict_44 rfl ?_
        refine AX.iconst (pc := 45) (v := nI 1) dX9_verdict_45 (by decide) ?_
        refine AX.isubN (pc := 46) (c := g + i) dX9_verdict_46 (by omega) ?_
        refine AX.icmp_neN (pc := 47) (tgt := 55) dX9_verdict_47 (by decide) (by omega) (by omega) (fun hc47 => ?_) (fun hc47 => ?_)
        · refine AX.sipush (pc := 55) (v := nI 200) dX9_verdict_55 (by decide) ?_
          refine AX.iload (pc := 58) dX9_verdict_58 rfl ?_
          refine AX.iaddN (pc := 60) (c := 200 + i) dX9_verdict_60 rfl ?_
          refine AX.iret (pc := 61) dX9_verdict_61 rfl rfl (by decide) (by decide) ?_
          rw [if_pos hc39, if_neg (by omega)] at hP
          exact hP
        · refine AX.iload (pc := 50) dX9_verdict_50 rfl ?_
          refine AX.goto (pc := 52) (tgt := 61) dX9_verdict_52 (by decide) ?_
          refine AX.iret (pc := 61) dX9_verdict_61 rfl rfl (by decide) (by decide) ?_
          rw [if_pos hc39, if_pos (by omega)] at hP
          exact hP
theorem c_verdict (w : XW) (h : XH) {o : Nat} (a c r : Nat) (hn : 4 ≤ h.1) (ha : a < h.1) (hR : RU h o) {K : Nat} {f : Nat → Int32} (ea : h.2 a = .inl (0, K, .inl f)) (hK : K < 1000) (hc : c ≤ K) (sp : Nat → Nat) (hsp : ∀ j, j < c → f j = nI (sp j) ∧ sp j < 63) (hr : r ≤ 501) (h0 : 0 < r) : CA w M_X9_verdict [.ref 1, .ref a, .int (nI c), .int (nI r)] h (fun v' h'' => v' = some (.int (nI (vdN o sp c 0 r))) ∧ h'' = h) := by
  refine CA.of (by decide) rfl (fun _ => Nat.le_of_ble_eq_true rfl) ?_
  show AX w M_X9_verdict 0 0 0 [.ref 1, .ref a, .int (nI c), .int (nI r), .null, .null] [] h _
  refine AX.iload_n (pc := 0) dX9_verdict_0 rfl ?_
  refine AX.istore (pc := 1) (L' := [.ref 1, .ref a, .int (nI c), .int (nI r), .int (nI r), .null]) dX9_verdict_1 (by decide) rfl ?_
  refine AX.iconst (pc := 3) (v := nI 0) dX9_verdict_3 (by decide) ?_
  refine AX.istore (pc := 4) (L' := [.ref 1, .ref a, .int (nI c), .int (nI r), .int (nI r), .int (nI 0)]) dX9_verdict_4 (by decide) rfl ?_
  exact l_verdict w _ h o a c hn ha hR ea hK hc sp hsp r c 0 r (by omega) hr h0 ⟨rfl, rfl⟩
