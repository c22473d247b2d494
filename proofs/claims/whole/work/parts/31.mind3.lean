/-! ===== Mind: odds, a new hand, forgetting, where a dart falls ===== -/
theorem l_fillOdds (w : XW) (P : Option Value → XH → Prop) (h0 : XH) (b sd rg dk ck : Nat) (hb : b = 10 ∨ b = 26) (hs : sd ≤ 200) (hrg : rg ≤ 200) (hP : ∀ h', Same [b + 2] h0 h' → dA h' (b + 2) 315 (fun q => odW (wtN sd rg q)) → P none h') : ∀ (g i : Nat) (h : XH) (co : Nat → UInt64), i + g = 315 → b + 3 ≤ h.1 → h.2 b = .inr (3, [.ref 1, .ref 4, .int (nI sd), .int (nI rg), .ref (b + 1), .ref (b + 2), .ref (b + 3), .ref (b + 4), .ref (b + 5), .int (nI dk), .ref (b + 6), .ref (b + 11), .int (nI ck)]) → iA h (b + 1) 315 (fun q => nI (wtN sd rg q)) → h.2 (b + 2) = .inl (2, 315, .inr (.inr (.inr (.inl co)))) → (∀ j, j < i → co j = odW (wtN sd rg j)) → Same [b + 2] h0 h → AX w M_X4_fillOdds 0 0 21 [.ref b, .int (nI i)] [] h P
  | 0, i, h, co, hg, hn, eb, hw, do_, qo, hS => by
    have e : i = 315 := by omega
    subst e
    obtain ⟨cw, dw, qw⟩ := hw
    refine AX.iload_n (pc := 21) dX4_fillOdds_21 rfl ?_
    refine AX.aload_n (pc := 22) dX4_fillOdds_22 rfl ?_
    refine AX.getf (pc := 23) fX4_fillOdds_18 (lt_k hn (by omega)) eb rfl dX4_fillOdds_23 ?_
    refine AX.alen (pc := 26) (v := nI 315) (by decide) (lt_k hn (by omega)) dw rfl dX4_fillOdds_26 ?_
    refine AX.icmp_geN (pc := 27) (tgt := 53) dX4_fillOdds_27 (by decide) (by decide) (by decide) (fun hc27 => ?_) (fun q => absurd q (by decide))
    refine AX.vret (pc := 53) dX4_fillOdds_53 rfl (by decide) (by decide) ?_
    exact hP h hS ⟨co, do_, qo⟩
  | g + 1, i, h, co, hg, hn, eb, hw, do_, qo, hS => by
    obtain ⟨cw, dw, qw⟩ := id hw
    have hwt := wt_le (sd := sd) (rg := rg) (q := i) hs hrg (by omega)
    refine AX.iload_n (pc := 21) dX4_fillOdds_21 rfl ?_
    refine AX.aload_n (pc := 22) dX4_fillOdds_22 rfl ?_
    refine AX.getf (pc := 23) fX4_fillOdds_18 (lt_k hn (by omega)) eb rfl dX4_fillOdds_23 ?_
    refine AX.alen (pc := 26) (v := nI 315) (by decide) (lt_k hn (by omega)) dw rfl dX4_fillOdds_26 ?_
    refine AX.icmp_geN (pc := 27) (tgt := 53) dX4_fillOdds_27 (by decide) (by omega) (by decide) (fun q => absurd q (by omega)) (fun hc27 => ?_)
    refine AX.aload_n (pc := 30) dX4_fillOdds_30 rfl ?_
    refine AX.getf (pc := 31) fX4_fillOdds_22 (lt_k hn (by omega)) eb rfl dX4_fillOdds_31 ?_
    refine AX.iload_n (pc := 34) dX4_fillOdds_34 rfl ?_
    refine AX.aload_n (pc := 35) dX4_fillOdds_35 rfl ?_
    refine AX.getf (pc := 36) fX4_fillOdds_18 (lt_k hn (by omega)) eb rfl dX4_fillOdds_36 ?_
    refine AX.iload_n (pc := 39) dX4_fillOdds_39 rfl ?_
    refine AX.ialdN (pc := 40) (i := i) (v := (nI (wtN sd rg i))) (lt_k hn (by omega)) dw (by decide) (by omega) (qw _ (by omega)) dX4_fillOdds_40 ?_
    refine AX.i2d (pc := 41) dX4_fillOdds_41 ?_
    refine AX.ldc2d (pc := 42) (v := 4652007308841189376) dX4_fillOdds_42 cX4_fillOdds_65 ?_
    refine AX.ddiv (pc := 45) dX4_fillOdds_45 (vfn (odW_zv hwt).1) ?_
    refine AX.topd (y := odW (wtN sd rg i)) rfl ?_
    refine AX.dastN (pc := 46) (i := i) (g := vf_upd co i (odW (wtN sd rg i))) (lt_k hn (by omega)) do_ (by decide) (by omega) rfl dX4_fillOdds_46 ?_
    refine AX.iincN (c := i + 1) (pc := 47) (L' := [.ref b, .int (nI (i + 1))]) dX4_fillOdds_47 rfl (inc1 _) (by decide) rfl ?_
    refine AX.goto (pc := 50) (tgt := 21) dX4_fillOdds_50 (by decide) ?_
    have sx := Same.rest (a := b + 2) (h := h) (e := .inl (2, 315, .inr (.inr (.inr (.inl (vf_upd co i (odW (wtN sd rg i))))))))
    exact l_fillOdds w P h0 b sd rg dk ck hb hs hrg hP g (i + 1) _ _ (by omega) hn (sx.at (by simp) eb) (hw.same sx (by simp)) (xset_same _ _ _) (vupd_ext qo rfl) (hS.trans sx)
theorem c_fillOdds (w : XW) (h : XH) {b sd rg dk ck : Nat} (hb : b = 10 ∨ b = 26) (hs : sd ≤ 200) (hrg : rg ≤ 200) (hn : b + 3 ≤ h.1) (hF : FA h) (eb : h.2 b = .inr (3, [.ref 1, .ref 4, .int (nI sd), .int (nI rg), .ref (b + 1), .ref (b + 2), .ref (b + 3), .ref (b + 4), .ref (b + 5), .int (nI dk), .ref (b + 6), .ref (b + 11), .int (nI ck)])) {cw : Nat → Int32} (dw : h.2 (b + 1) = .inl (0, 315, .inl cw)) (hu : ∀ q, q < 315 → fC (q / 5) ≤ q % 5 → cw q = nI 0) {co : Nat → UInt64} (do_ : h.2 (b + 2) = .inl (2, 315, .inr (.inr (.inr (.inl co))))) : CA w M_X4_fillOdds [.ref b] h (fun v h' => v = none ∧ Same [b + 1, b + 2] h h' ∧ iA h' (b + 1) 315 (fun q => nI (wtN sd rg q)) ∧ dA h' (b + 2) 315 (fun q => odW (wtN sd rg q))) := by
  refine CA.of (by decide) rfl (fun _ => Nat.le_of_ble_eq_true rfl) ?_
  show AX w M_X4_fillOdds 0 0 0 [.ref b, .null] [] h _
  refine AX.aload_n (pc := 0) dX4_fillOdds_0 rfl ?_
  refine AX.getf (pc := 1) fX4_fillOdds_49 (lt_k hn (by omega)) eb rfl dX4_fillOdds_1 ?_
  refine AX.aload_n (pc := 4) dX4_fillOdds_4 rfl ?_
  refine AX.getf (pc := 5) fX4_fillOdds_9 (lt_k hn (by omega)) eb rfl dX4_fillOdds_5 ?_
  refine AX.aload_n (pc := 8) dX4_fillOdds_8 rfl ?_
  refine AX.getf (pc := 9) fX4_fillOdds_15 (lt_k hn (by omega)) eb rfl dX4_fillOdds_9 ?_
  refine AX.aload_n (pc := 12) dX4_fillOdds_12 rfl ?_
  refine AX.getf (pc := 13) fX4_fillOdds_18 (lt_k hn (by omega)) eb rfl dX4_fillOdds_13 ?_
  refine AX.callV (pc := 16) (M2 := M_X1_fillWeights) (As := [.int (nI sd), .int (nI rg), .ref (b + 1)]) (rest := []) (c_fillWeights w h sd rg (b + 1) hs hrg (by omega) (by omega) hF dw hu) xc_X4_fillOdds__X1_fillWeights gX4_fillOdds_X1_fillWeights (ci := 0) rfl (lt_k hn (by omega)) hF.1 rfl (Nat.le_of_ble_eq_true rfl) dX4_fillOdds_16 ?_
  rintro _ h1 ⟨rfl, s1, w1⟩
  show AX w M_X4_fillOdds 0 0 19 [.ref b, .null] [] _ _
  refine AX.iconst (pc := 19) (v := nI 0) dX4_fillOdds_19 (by decide) ?_
  refine AX.istore_n (pc := 20) (L' := [.ref b, .int (nI 0)]) dX4_fillOdds_20 (by decide) rfl ?_
  exact l_fillOdds w _ h1 b sd rg dk ck hb hs hrg (fun h' p q => ⟨rfl, (s1.wide (by simp)).trans (p.wide (by simp)), w1.same p (by simp), q⟩) 315 0 h1 co (by omega) (s1.le hn) (s1.at (by simp) eb) w1 (s1.at (by simp) do_) (fun j hj => absurd hj (Nat.not_lt_zero _)) Same.rf
theorem wt_unused {sd rg q : Nat} (h : fC (q / 5) ≤ q % 5) : wtN sd rg q = 0 := by unfold wtN; rw [if_pos h]
theorem s1_ {b : Bool} (h : b = true) : some (Value.int (nI 1)) = some (Value.int (bI b)) := s1 h
theorem c_Mind_become (w : XW) (h : XH) {b sd rg dk ck : Nat} (sd' rg' : Nat) (hs' : sd' ≤ 200) (hrg' : rg' ≤ 200) (hn : 42 ≤ h.1) (hF : FA h) (hM : MI h b sd rg dk ck) : CA w M_X4_become [.ref b, .int (nI sd'), .int (nI rg')] h (fun v h' => v = some (.int (bI (decide (¬ (sd' = sd ∧ rg' = rg))))) ∧ Same [b, b + 1, b + 2] h h' ∧ MI h' b sd' rg' dk ck) := by
  refine CA.of (by decide) rfl (fun _ => Nat.le_of_ble_eq_true rfl) ?_
  obtain ⟨hb, hs, hrg, eb, ⟨cw, dw, qw⟩, ⟨co, do_, qo⟩⟩ := id hM
  show AX w M_X4_become 0 0 0 [.ref b, .int (nI sd'), .int (nI rg')] [] h _
  refine AX.iload_n (pc := 0) dX4_become_0 rfl ?_
  refine AX.aload_n (pc := 1) dX4_become_1 rfl ?_
  refine AX.getf (pc := 2) fX4_become_9 (lt_k hn (by omega)) eb rfl dX4_become_2 ?_
  refine AX.icmp_neN (pc := 5) (tgt := 18) dX4_become_5 (by decide) (by omega) (by omega) (fun hc5 => ?_) (fun hc5 => ?_)
  · refine AX.aload_n (pc := 18) dX4_become_18 rfl ?_
    refine AX.iload_n (pc := 19) dX4_become_19 rfl ?_
    refine AX.putf (pc := 20) (fs' := [.ref 1, .ref 4, .int (nI sd'), .int (nI rg), .ref (b + 1), .ref (b + 2), .ref (b + 3), .ref (b + 4), .ref (b + 5), .int (nI dk), .ref (b + 6), .ref (b + 11), .int (nI ck)]) fX4_become_9 rfl (lt_k hn (by omega)) eb (Nat.le_of_ble_eq_true rfl) rfl rfl rfl dX4_become_20 ?_
    refine AX.aload_n (pc := 23) dX4_become_23 rfl ?_
    refine AX.iload_n (pc := 24) dX4_become_24 rfl ?_
    refine AX.putf (pc := 25) (h := xset h b (.inr (3, [.ref 1, .ref 4, .int (nI sd'), .int (nI rg), .ref (b + 1), .ref (b + 2), .ref (b + 3), .ref (b + 4), .ref (b + 5), .int (nI dk), .ref (b + 6), .ref (b + 11), .int (nI ck)]))) (a := b) (fs' := [.ref 1, .ref 4, .int (nI sd'), .int (nI rg'), .ref (b + 1), .ref (b + 2), .ref (b + 3), .ref (b + 4), .ref (b + 5), .int (nI dk), .ref (b + 6), .ref (b + 11), .int (nI ck)]) fX4_become_15 rfl (lt_k hn (by omega)) (xset_same _ _ _) (Nat.le_of_ble_eq_true rfl) rfl rfl rfl dX4_become_25 ?_
    refine AX.aload_n (pc := 28) dX4_become_28 rfl ?_
    refine AX.callV (pc := 29) (M2 := M_X4_fillOdds) (As := []) (rest := []) (c_fillOdds w (xset (xset h b (.inr (3, [.ref 1, .ref 4, .int (nI sd'), .int (nI rg), .ref (b + 1), .ref (b + 2), .ref (b + 3), .ref (b + 4), .ref (b + 5), .int (nI dk), .ref (b + 6), .ref (b + 11), .int (nI ck)]))) b (.inr (3, [.ref 1, .ref 4, .int (nI sd'), .int (nI rg'), .ref (b + 1), .ref (b + 2), .ref (b + 3), .ref (b + 4), .ref (b + 5), .int (nI dk), .ref (b + 6), .ref (b + 11), .int (nI ck)]))) hb hs' hrg' (show b + 3 ≤ h.1 by omega) (hF.same ((Same.rest (a := b)).trans Same.rest) (by simp; omega) (by simp; omega) (by simp; omega) (by simp; omega) (by simp; omega)) (xset_same _ _ _) ((xset_ne (by omega)).trans ((xset_ne (by omega)).trans dw)) (fun q x z => (qw q x).trans (by show nI (wtN sd rg q) = _; rw [wt_unused z])) ((xset_ne (by omega)).trans ((xset_ne (by omega)).trans do_))) xc_X4_become__X4_fillOdds gX4_become_X4_fillOdds (ci := 3) rfl (lt_k hn (by omega)) (xset_same _ _ _) rfl (Nat.le_of_ble_eq_true rfl) dX4_become_29 ?_
    rintro _ h1 ⟨rfl, s1, w1, o1⟩
    show AX w M_X4_become 0 0 32 [.ref b, .int (nI sd'), .int (nI rg')] [] _ _
    refine AX.iconst (pc := 32) (v := nI 1) dX4_become_32 (by decide) ?_
    refine AX.iret (pc := 33) dX4_become_33 rfl rfl (by decide) (by decide) ?_
    exact ⟨s1_ (by simp; omega), (((Same.rest (a := b)).trans Same.rest).wide (by simp)).trans (s1.wide (by simp)), hb, hs', hrg', s1.at (by simp) (xset_same _ _ _), w1, o1⟩
  · refine AX.iload_n (pc := 8) dX4_become_8 rfl ?_
    refine AX.aload_n (pc := 9) dX4_become_9 rfl ?_
    refine AX.getf (pc := 10) fX4_become_15 (lt_k hn (by omega)) eb rfl dX4_become_10 ?_
    refine AX.icmp_neN (pc := 13) (tgt := 18) dX4_become_13 (by decide) (by omega) (by omega) (fun hc13 => ?_) (fun hc13 => ?_)
    · refine AX.aload_n (pc := 18) dX4_become_18 rfl ?_
      refine AX.iload_n (pc := 19) dX4_become_19 rfl ?_
      refine AX.putf (pc := 20) (fs' := [.ref 1, .ref 4, .int (nI sd'), .int (nI rg), .ref (b + 1), .ref (b + 2), .ref (b + 3), .ref (b + 4), .ref (b + 5), .int (nI dk), .ref (b + 6), .ref (b + 11), .int (nI ck)]) fX4_become_9 rfl (lt_k hn (by omega)) eb (Nat.le_of_ble_eq_true rfl) rfl rfl rfl dX4_become_20 ?_
      refine AX.aload_n (pc := 23) dX4_become_23 rfl ?_
      refine AX.iload_n (pc := 24) dX4_become_24 rfl ?_
      refine AX.putf (pc := 25) (h := xset h b (.inr (3, [.ref 1, .ref 4, .int (nI sd'), .int (nI rg), .ref (b + 1), .ref (b + 2), .ref (b + 3), .ref (b + 4), .ref (b + 5), .int (nI dk), .ref (b + 6), .ref (b + 11), .int (nI ck)]))) (a := b) (fs' := [.ref 1, .ref 4, .int (nI sd'), .int (nI rg'), .ref (b + 1), .ref (b + 2), .ref (b + 3), .ref (b + 4), .ref (b + 5), .int (nI dk), .ref (b + 6), .ref (b + 11), .int (nI ck)]) fX4_become_15 rfl (lt_k hn (by omega)) (xset_same _ _ _) (Nat.le_of_ble_eq_true rfl) rfl rfl rfl dX4_become_25 ?_
      refine AX.aload_n (pc := 28) dX4_become_28 rfl ?_
      refine AX.callV (pc := 29) (M2 := M_X4_fillOdds) (As := []) (rest := []) (c_fillOdds w (xset (xset h b (.inr (3, [.ref 1, .ref 4, .int (nI sd'), .int (nI rg), .ref (b + 1), .ref (b + 2), .ref (b + 3), .ref (b + 4), .ref (b + 5), .int (nI dk), .ref (b + 6), .ref (b + 11), .int (nI ck)]))) b (.inr (3, [.ref 1, .ref 4, .int (nI sd'), .int (nI rg'), .ref (b + 1), .ref (b + 2), .ref (b + 3), .ref (b + 4), .ref (b + 5), .int (nI dk), .ref (b + 6), .ref (b + 11), .int (nI ck)]))) hb hs' hrg' (show b + 3 ≤ h.1 by omega) (hF.same ((Same.rest (a := b)).trans Same.rest) (by simp; omega) (by simp; omega) (by simp; omega) (by simp; omega) (by simp; omega)) (xset_same _ _ _) ((xset_ne (by omega)).trans ((xset_ne (by omega)).trans dw)) (fun q x z => (qw q x).trans (by show nI (wtN sd rg q) = _; rw [wt_unused z])) ((xset_ne (by omega)).trans ((xset_ne (by omega)).trans do_))) xc_X4_become__X4_fillOdds gX4_become_X4_fillOdds (ci := 3) rfl (lt_k hn (by omega)) (xset_same _ _ _) rfl (Nat.le_of_ble_eq_true rfl) dX4_become_29 ?_
      rintro _ h1 ⟨rfl, s1, w1, o1⟩
      show AX w M_X4_become 0 0 32 [.ref b, .int (nI sd'), .int (nI rg')] [] _ _
      refine AX.iconst (pc := 32) (v := nI 1) dX4_become_32 (by decide) ?_
      refine AX.iret (pc := 33) dX4_become_33 rfl rfl (by decide) (by decide) ?_
      exact ⟨s1_ (by simp; omega), (((Same.rest (a := b)).trans Same.rest).wide (by simp)).trans (s1.wide (by simp)), hb, hs', hrg', s1.at (by simp) (xset_same _ _ _), w1, o1⟩
    · refine AX.iconst (pc := 16) (v := nI 0) dX4_become_16 (by decide) ?_
      refine AX.iret (pc := 17) dX4_become_17 rfl rfl (by decide) (by decide) ?_
      exact ⟨s0 (by simp; omega), Same.rf, by rw [show sd' = sd by omega, show rg' = rg by omega]; exact hM⟩
theorem c_Mind_forget (w : XW) (h : XH) {o b sd rg dk ck : Nat} (hn : b + 3 ≤ h.1) (hR : RU h o) (hM : MI h b sd rg dk ck) : CA w M_X4_forget [.ref b] h (fun v h' => v = none ∧ Same [b] h h' ∧ MI h' b sd rg (leN o - 1) (leN o - 1)) := by
  refine CA.of (by decide) rfl (fun _ => Nat.le_of_ble_eq_true rfl) ?_
  obtain ⟨hb, hs, hrg, eb, qw0, qo0⟩ := id hM
  have hle : 1 ≤ leN o := by unfold leN; split <;> omega
  show AX w M_X4_forget 0 0 0 [.ref b] [] h _
  refine AX.aload_n (pc := 0) dX4_forget_0 rfl ?_
  refine AX.aload_n (pc := 1) dX4_forget_1 rfl ?_
  refine AX.getf (pc := 2) fX4_forget_45 (lt_k hn (by omega)) eb rfl dX4_forget_2 ?_
  refine AX.callV (pc := 5) (M2 := M_X9_leastRest) (As := []) (rest := [.ref b]) (c_leastRest w h (by omega) hR) xc_X4_forget__X9_leastRest gX4_forget_X9_leastRest (ci := 8) rfl (lt_k hn (by omega)) hR.2.1 rfl (Nat.le_of_ble_eq_true rfl) dX4_forget_5 ?_
  rintro _ h9 ⟨rfl, e9⟩
  have e9 := e9.symm
  subst e9
  show AX w M_X4_forget 0 0 8 [.ref b] [.int (nI (leN o)), .ref b] _ _
  refine AX.iconst (pc := 8) (v := nI 1) dX4_forget_8 (by decide) ?_
  refine AX.isubN (pc := 9) (c := leN o - 1) dX4_forget_9 (by omega) ?_
  refine AX.putf (pc := 10) (fs' := [.ref 1, .ref 4, .int (nI sd), .int (nI rg), .ref (b + 1), .ref (b + 2), .ref (b + 3), .ref (b + 4), .ref (b + 5), .int (nI (leN o - 1)), .ref (b + 6), .ref (b + 11), .int (nI ck)]) fX4_forget_73 rfl (lt_k hn (by omega)) eb (Nat.le_of_ble_eq_true rfl) rfl rfl rfl dX4_forget_10 ?_
  refine AX.aload_n (pc := 13) dX4_forget_13 rfl ?_
  refine AX.aload_n (pc := 14) dX4_forget_14 rfl ?_
  refine AX.getf (pc := 15) fX4_forget_45 (lt_k hn (by omega)) (xset_same _ _ _) rfl dX4_forget_15 ?_
  refine AX.callV (pc := 18) (M2 := M_X9_leastRest) (As := []) (rest := [.ref b]) (c_leastRest w (xset h b (.inr (3, [.ref 1, .ref 4, .int (nI sd), .int (nI rg), .ref (b + 1), .ref (b + 2), .ref (b + 3), .ref (b + 4), .ref (b + 5), .int (nI (leN o - 1)), .ref (b + 6), .ref (b + 11), .int (nI ck)]))) (show 4 ≤ h.1 by omega) (hR.same (Same.rest (a := b)) (by simp; omega) (by simp; omega) (by simp; omega))) xc_X4_forget__X9_leastRest gX4_forget_X9_leastRest (ci := 8) rfl (lt_k hn (by omega)) ((xset_ne (by omega)).trans hR.2.1) rfl (Nat.le_of_ble_eq_true rfl) dX4_forget_18 ?_
  rintro _ h9 ⟨rfl, e9⟩
  subst e9
  show AX w M_X4_forget 0 0 21 [.ref b] [.int (nI (leN o)), .ref b] _ _
  refine AX.iconst (pc := 21) (v := nI 1) dX4_forget_21 (by decide) ?_
  refine AX.isubN (pc := 22) (c := leN o - 1) dX4_forget_22 (by omega) ?_
  refine AX.putf (pc := 23) (h := xset h b (.inr (3, [.ref 1, .ref 4, .int (nI sd), .int (nI rg), .ref (b + 1), .ref (b + 2), .ref (b + 3), .ref (b + 4), .ref (b + 5), .int (nI (leN o - 1)), .ref (b + 6), .ref (b + 11), .int (nI ck)]))) (a := b) (fs' := [.ref 1, .ref 4, .int (nI sd), .int (nI rg), .ref (b + 1), .ref (b + 2), .ref (b + 3), .ref (b + 4), .ref (b + 5), .int (nI (leN o - 1)), .ref (b + 6), .ref (b + 11), .int (nI (leN o - 1))]) fX4_forget_76 rfl (lt_k hn (by omega)) (xset_same _ _ _) (Nat.le_of_ble_eq_true rfl) rfl rfl rfl dX4_forget_23 ?_
  refine AX.vret (pc := 26) dX4_forget_26 rfl (by decide) (by decide) ?_
  have sx := (Same.rest (a := b) (h := h) (e := .inr (3, [.ref 1, .ref 4, .int (nI sd), .int (nI rg), .ref (b + 1), .ref (b + 2), .ref (b + 3), .ref (b + 4), .ref (b + 5), .int (nI (leN o - 1)), .ref (b + 6), .ref (b + 11), .int (nI ck)]))).trans (Same.rest (e := .inr (3, [.ref 1, .ref 4, .int (nI sd), .int (nI rg), .ref (b + 1), .ref (b + 2), .ref (b + 3), .ref (b + 4), .ref (b + 5), .int (nI (leN o - 1)), .ref (b + 6), .ref (b + 11), .int (nI (leN o - 1))])))
  exact ⟨rfl, sx, hb, hs, hrg, xset_same _ _ _, qw0.same sx (by simp), qo0.same sx (by simp)⟩
/-- the SPOT upon which a dart at AIM a falls by the drawn number d: g FALLS left, from the k-th on -/
def fuN (sd rg a d : Nat) : Nat → Nat → Nat
  | 0, _ => a
  | g + 1, k => if d < wTo sd rg a (k + 1) then fS (5 * a + k) else fuN sd rg a d g (k + 1)
theorem fuN_lt {sd rg a d : Nat} (ha : a < 63) : ∀ g k, k + g = fC a → fuN sd rg a d g k < 63
  | 0, _, _ => ha
  | g + 1, k, h => by
    have := fC_le a
    simp only [fuN]
    split
    · exact fS_lt _ (by omega)
    · exact fuN_lt ha g (k + 1) (by omega)
theorem l_fallenUpon (w : XW) (h : XH) {b sd rg dk ck a d : Nat} (hn : 42 ≤ h.1) (hF : FA h) (hM : MI h b sd rg dk ck) (h1 : 1 ≤ a) (h2 : a < 63) (hd : d < 1000) (P : Option Value → XH → Prop) : ∀ (g k : Nat), k + g = fC a → P (some (.int (nI (fuN sd rg a d g k)))) h → AX w M_X4_fallenUpon 0 0 10 [.ref b, .int (nI a), .int (nI d), .int (nI (5 * a)), .int (nI (wTo sd rg a k)), .int (nI (5 * a + k))] [] h P
  | 0, k, hg, hP => by
    obtain ⟨hb, hs, hrg, eb, ⟨cw, dw, qw⟩, qo0⟩ := id hM
    obtain ⟨c5, d5, r5⟩ := id hF.2.1
    obtain ⟨c6, d6, r6⟩ := id hF.2.2.1
    have hc5 := fC_le a
    have e : k = fC a := by omega
    subst e
    refine AX.iload (pc := 10) dX4_fallenUpon_10 rfl ?_
    refine AX.iload_n (pc := 12) dX4_fallenUpon_12 rfl ?_
    refine AX.aload_n (pc := 13) dX4_fallenUpon_13 rfl ?_
    refine AX.getf (pc := 14) fX4_fallenUpon_49 (lt_k hn (by omega)) eb rfl dX4_fallenUpon_14 ?_
    refine AX.getf (pc := 17) fX4_fallenUpon_94 (lt_k hn (by omega)) hF.1 rfl dX4_fallenUpon_17 ?_
    refine AX.iload_n (pc := 20) dX4_fallenUpon_20 rfl ?_
    refine AX.ialdN (pc := 21) (i := a) (v := (nI (fC a))) (lt_k hn (by omega)) d5 (by decide) (by omega) (r5 _ h2) dX4_fallenUpon_21 ?_
    refine AX.iaddN (pc := 22) (c := 5 * a + (fC a)) dX4_fallenUpon_22 rfl ?_
    refine AX.icmp_geN (pc := 23) (tgt := 61) dX4_fallenUpon_23 (by decide) (by omega) (by omega) (fun hc23 => ?_) (fun q => absurd q (by omega))
    refine AX.iload_n (pc := 61) dX4_fallenUpon_61 rfl ?_
    refine AX.iret (pc := 62) dX4_fallenUpon_62 rfl rfl (by decide) (by decide) ?_
    exact hP
  | g + 1, k, hg, hP => by
    obtain ⟨hb, hs, hrg, eb, ⟨cw, dw, qw⟩, qo0⟩ := id hM
    obtain ⟨c5, d5, r5⟩ := id hF.2.1
    obtain ⟨c6, d6, r6⟩ := id hF.2.2.1
    have hc5 := fC_le a
    have hmo := wTo_mono sd rg a (k := k + 1) (j := fC a) (by omega)
    rw [wTo_all hs hrg h1 h2] at hmo
    have hw2 : wTo sd rg a (k + 1) = wTo sd rg a k + wtN sd rg (5 * a + k) := rfl
    have hz : fuN sd rg a d (g + 1) k = if d < wTo sd rg a (k + 1) then fS (5 * a + k) else fuN sd rg a d g (k + 1) := rfl
    refine AX.iload (pc := 10) dX4_fallenUpon_10 rfl ?_
    refine AX.iload_n (pc := 12) dX4_fallenUpon_12 rfl ?_
    refine AX.aload_n (pc := 13) dX4_fallenUpon_13 rfl ?_
    refine AX.getf (pc := 14) fX4_fallenUpon_49 (lt_k hn (by omega)) eb rfl dX4_fallenUpon_14 ?_
    refine AX.getf (pc := 17) fX4_fallenUpon_94 (lt_k hn (by omega)) hF.1 rfl dX4_fallenUpon_17 ?_
    refine AX.iload_n (pc := 20) dX4_fallenUpon_20 rfl ?_
    refine AX.ialdN (pc := 21) (i := a) (v := (nI (fC a))) (lt_k hn (by omega)) d5 (by decide) (by omega) (r5 _ h2) dX4_fallenUpon_21 ?_
    refine AX.iaddN (pc := 22) (c := 5 * a + (fC a)) dX4_fallenUpon_22 rfl ?_
    refine AX.icmp_geN (pc := 23) (tgt := 61) dX4_fallenUpon_23 (by decide) (by omega) (by omega) (fun q => absurd q (by omega)) (fun hc23 => ?_)
    refine AX.iload (pc := 26) dX4_fallenUpon_26 rfl ?_
    refine AX.aload_n (pc := 28) dX4_fallenUpon_28 rfl ?_
    refine AX.getf (pc := 29) fX4_fallenUpon_18 (lt_k hn (by omega)) eb rfl dX4_fallenUpon_29 ?_
    refine AX.iload (pc := 32) dX4_fallenUpon_32 rfl ?_
    refine AX.ialdN (pc := 34) (i := 5 * a + k) (v := (nI (wtN sd rg (5 * a + k)))) (lt_k hn (by omega)) dw (by decide) (by omega) (qw _ (by omega)) dX4_fallenUpon_34 ?_
    refine AX.iaddN (pc := 35) (c := wTo sd rg a k + (wtN sd rg (5 * a + k))) dX4_fallenUpon_35 rfl ?_
    refine AX.istore (pc := 36) (L' := [.ref b, .int (nI a), .int (nI d), .int (nI (5 * a)), .int (nI (wTo sd rg a k + (wtN sd rg (5 * a + k)))), .int (nI (5 * a + k))]) dX4_fallenUpon_36 (by decide) rfl ?_
    refine AX.iload (pc := 38) dX4_fallenUpon_38 rfl ?_
    refine AX.iload_n (pc := 40) dX4_fallenUpon_40 rfl ?_
    refine AX.icmp_leN (pc := 41) (tgt := 55) dX4_fallenUpon_41 (by decide) (by omega) (by omega) (fun hc41 => ?_) (fun hc41 => ?_)
    · refine AX.iincN (c := 5 * a + k + 1) (pc := 55) (L' := [.ref b, .int (nI a), .int (nI d), .int (nI (5 * a)), .int (nI (wTo sd rg a k + (wtN sd rg (5 * a + k)))), .int (nI (5 * a + k + 1))]) dX4_fallenUpon_55 rfl (inc1 _) (by decide) rfl ?_
      refine AX.goto (pc := 58) (tgt := 10) dX4_fallenUpon_58 (by decide) ?_
      rw [hz, if_neg (by omega)] at hP
      exact l_fallenUpon w h hn hF hM h1 h2 hd P g (k + 1) (by omega) hP
    · refine AX.aload_n (pc := 44) dX4_fallenUpon_44 rfl ?_
      refine AX.getf (pc := 45) fX4_fallenUpon_49 (lt_k hn (by omega)) eb rfl dX4_fallenUpon_45 ?_
      refine AX.getf (pc := 48) fX4_fallenUpon_97 (lt_k hn (by omega)) hF.1 rfl dX4_fallenUpon_48 ?_
      refine AX.iload (pc := 51) dX4_fallenUpon_51 rfl ?_
      refine AX.ialdN (pc := 53) (i := 5 * a + k) (v := (nI (fS (5 * a + k)))) (lt_k hn (by omega)) d6 (by decide) (by omega) (r6 _ (by omega)) dX4_fallenUpon_53 ?_
      refine AX.iret (pc := 54) dX4_fallenUpon_54 rfl rfl (by decide) (by decide) ?_
      rw [hz, if_pos (by omega)] at hP
      exact hP
theorem c_fallenUpon (w : XW) (h : XH) {b sd rg dk ck a d : Nat} (hn : 42 ≤ h.1) (hF : FA h) (hM : MI h b sd rg dk ck) (h1 : 1 ≤ a) (h2 : a < 63) (hd : d < 1000) : CA w M_X4_fallenUpon [.ref b, .int (nI a), .int (nI d)] h (fun v' h'' => v' = some (.int (nI (fuN sd rg a d (fC a) 0))) ∧ h'' = h) := by
  refine CA.of (by decide) rfl (fun _ => Nat.le_of_ble_eq_true rfl) ?_
  show AX w M_X4_fallenUpon 0 0 0 [.ref b, .int (nI a), .int (nI d), .null, .null, .null] [] h _
  refine AX.iload_n (pc := 0) dX4_fallenUpon_0 rfl ?_
  refine AX.iconst (pc := 1) (v := nI 5) dX4_fallenUpon_1 (by decide) ?_
  refine AX.imul (pc := 2) dX4_fallenUpon_2 ?_
  refine AX.topi (y := (nI (5 * a))) (by rw [pk_mul, Nat.mul_comm]) ?_
  refine AX.istore_n (pc := 3) (L' := [.ref b, .int (nI a), .int (nI d), .int (nI (5 * a)), .null, .null]) dX4_fallenUpon_3 (by decide) rfl ?_
  refine AX.iconst (pc := 4) (v := nI 0) dX4_fallenUpon_4 (by decide) ?_
  refine AX.istore (pc := 5) (L' := [.ref b, .int (nI a), .int (nI d), .int (nI (5 * a)), .int (nI 0), .null]) dX4_fallenUpon_5 (by decide) rfl ?_
  refine AX.iload_n (pc := 7) dX4_fallenUpon_7 rfl ?_
  refine AX.istore (pc := 8) (L' := [.ref b, .int (nI a), .int (nI d), .int (nI (5 * a)), .int (nI 0), .int (nI (5 * a))]) dX4_fallenUpon_8 (by decide) rfl ?_
  exact l_fallenUpon w h hn hF hM h1 h2 hd _ (fC a) 0 (by omega) ⟨rfl, rfl⟩
