/-! ===== Falls.fillWeights ===== -/
/-- what the row of weights holds: unused places 0; the first m AIMS done -/
def wOK (sd rg m : Nat) (f : Nat → Int32) : Prop := (∀ q, q < 315 → fC (q / 5) ≤ q % 5 → f q = nI 0) ∧ ∀ q, q < 5 * m → f q = nI (wtN sd rg q)
theorem wOK.one {sd rg : Nat} {f : Nat → Int32} (h : ∀ q, q < 315 → fC (q / 5) ≤ q % 5 → f q = nI 0) : wOK sd rg 1 f := by
  refine ⟨h, fun q hq => ?_⟩
  have e : q / 5 = 0 := by omega
  have e2 : fC (q / 5) ≤ q % 5 := by rw [e]; exact Nat.zero_le _
  rw [h q (by omega) e2]
  unfold wtN
  rw [if_pos e2]
theorem wOK.next {sd rg m : Nat} {f : Nat → Int32} (h1 : 1 ≤ m) (hm : m < 63) (h : wOK sd rg m f) (hi : ∀ j, 0 < j → j < fC m → f (5 * m + j) = nI (wtN sd rg (5 * m + j))) : wOK sd rg (m + 1) (upd f (5 * m) (nI (1000 - wSm sd rg m (fC m - 1)))) := by
  have hp := fC_pos h1 hm
  have hu : ∀ q, q < 315 → fC (q / 5) ≤ q % 5 → upd f (5 * m) (nI (1000 - wSm sd rg m (fC m - 1))) q = nI 0 := by
    intro q hq h2
    rw [upd_off (by rintro rfl; rw [show 5 * m / 5 = m by omega, show 5 * m % 5 = 0 by omega] at h2; omega)]
    exact h.1 q hq h2
  refine ⟨hu, fun q hq => ?_⟩
  by_cases e : q = 5 * m
  · subst e
    rw [upd_at, wt_self hp]
  · by_cases e2 : q < 5 * m
    · rw [upd_off e]; exact h.2 q e2
    · obtain ⟨j, hj, rfl⟩ : ∃ j, j < 5 ∧ q = 5 * m + j := ⟨q - 5 * m, by omega, by omega⟩
      by_cases h3 : j < fC m
      · rw [upd_off e]; exact hi j (by omega) h3
      · rw [hu _ (by omega) (by rw [div5 _ _ hj, mod5 _ _ hj]; omega), wt_none hj (by omega)]
theorem l_fwIn (w : XW) (P : Option Value → XH → Prop) (h0 : XH) (sd rg wa m : Nat) (hs : sd ≤ 200) (hr : rg ≤ 200) (h1 : 1 ≤ m) (hm : m < 63) (hwa : 9 ≤ wa)
    (hK : ∀ (h : XH) (f : Nat → Int32), wa + 1 ≤ h.1 → FA h → h.2 wa = .inl (0, 315, .inl f) → wOK sd rg (m + 1) f → Same [wa] h0 h → AX w M_X1_fillWeights 0 0 3 [.ref 4, .int (nI sd), .int (nI rg), .ref wa, .int (nI (m + 1)), .null, .null, .null] [] h P) :
    ∀ (g i : Nat) (h : XH) (f : Nat → Int32), i + 1 + g = fC m → wa + 1 ≤ h.1 → FA h → h.2 wa = .inl (0, 315, .inl f) → wOK sd rg m f → (∀ j, 0 < j → j ≤ i → f (5 * m + j) = nI (wtN sd rg (5 * m + j))) → Same [wa] h0 h →
      AX w M_X1_fillWeights 0 0 27 [.ref 4, .int (nI sd), .int (nI rg), .ref wa, .int (nI m), .int (nI (5 * m)), .int (nI (1000 - wSm sd rg m i)), .int (nI (5 * m + (i + 1)))] [] h P
  | 0, i, h, f, hg, hn, hF, ea, hO, hi, hS => by
    have hc5 := fC_le m
    have hi0 : i = fC m - 1 := by omega
    subst hi0
    obtain ⟨c5, d5, r5⟩ := hF.2.1
    obtain ⟨c7, d7, r7⟩ := hF.2.2.2.1
    obtain ⟨c8, d8, r8⟩ := hF.2.2.2.2
    refine AX.iload (pc := 27) dX1_fillWeights_27 rfl ?_
    refine AX.iload (pc := 29) dX1_fillWeights_29 rfl ?_
    refine AX.aload_n (pc := 31) dX1_fillWeights_31 rfl ?_
    refine AX.getf (pc := 32) fX1_fillWeights_9 (lt_k hn (by omega)) hF.1 rfl dX1_fillWeights_32 ?_
    refine AX.iload (pc := 35) dX1_fillWeights_35 rfl ?_
    refine AX.ialdN (pc := 37) (i := m) (v := (nI (fC m))) (lt_k hn (by omega)) d5 (by decide) (by omega) (r5 _ hm) dX1_fillWeights_37 ?_
    refine AX.iaddN (pc := 38) (c := 5 * m + (fC m)) dX1_fillWeights_38 rfl ?_
    refine AX.icmp_geN (pc := 39) (tgt := 80) dX1_fillWeights_39 (by decide) (by omega) (by omega) (fun hc39 => ?_) (fun q => absurd q (by omega))
    refine AX.aload_n (pc := 80) dX1_fillWeights_80 rfl ?_
    refine AX.iload (pc := 81) dX1_fillWeights_81 rfl ?_
    refine AX.iload (pc := 83) dX1_fillWeights_83 rfl ?_
    refine AX.iastN (pc := 85) (i := 5 * m) (g := upd f (5 * m) (nI (1000 - wSm sd rg m (fC m - 1)))) (lt_k hn (by omega)) ea (by decide) (by omega) rfl dX1_fillWeights_85 ?_
    refine AX.iincN (c := m + 1) (pc := 86) (L' := [.ref 4, .int (nI sd), .int (nI rg), .ref wa, .int (nI (m + 1)), .int (nI (5 * m)), .int (nI (1000 - wSm sd rg m (fC m - 1))), .int (nI (5 * m + (fC m - 1 + 1)))]) dX1_fillWeights_86 rfl (inc1 _) (by decide) rfl ?_
    refine AX.goto (pc := 89) (tgt := 3) dX1_fillWeights_89 (by decide) ?_
    refine AX.sub (L' := [.ref 4, .int (nI sd), .int (nI rg), .ref wa, .int (nI (m + 1)), .null, .null, .null]) ⟨Or.inr rfl, Or.inr rfl, Or.inr rfl, Or.inr rfl, Or.inr rfl, Or.inl rfl, Or.inl rfl, Or.inl rfl, trivial⟩ ?_
    exact hK _ _ hn (hF.same Same.rest (by simp; omega) (by simp; omega) (by simp; omega) (by simp; omega) (by simp; omega)) (xset_same _ _ _) (wOK.next h1 hm hO (fun j x y => hi j x (by omega))) (hS.trans Same.rest)
  | g + 1, i, h, f, hg, hn, hF, ea, hO, hi, hS => by
    have hc5 := fC_le m
    obtain ⟨c5, d5, r5⟩ := hF.2.1
    obtain ⟨c7, d7, r7⟩ := hF.2.2.2.1
    obtain ⟨c8, d8, r8⟩ := hF.2.2.2.2
    refine AX.iload (pc := 27) dX1_fillWeights_27 rfl ?_
    refine AX.iload (pc := 29) dX1_fillWeights_29 rfl ?_
    refine AX.aload_n (pc := 31) dX1_fillWeights_31 rfl ?_
    refine AX.getf (pc := 32) fX1_fillWeights_9 (lt_k hn (by omega)) hF.1 rfl dX1_fillWeights_32 ?_
    refine AX.iload (pc := 35) dX1_fillWeights_35 rfl ?_
    refine AX.ialdN (pc := 37) (i := m) (v := (nI (fC m))) (lt_k hn (by omega)) d5 (by decide) (by omega) (r5 _ hm) dX1_fillWeights_37 ?_
    refine AX.iaddN (pc := 38) (c := 5 * m + (fC m)) dX1_fillWeights_38 rfl ?_
    refine AX.icmp_geN (pc := 39) (tgt := 80) dX1_fillWeights_39 (by decide) (by omega) (by omega) (fun q => absurd q (by omega)) (fun hc39 => ?_)
    refine AX.aload_n (pc := 42) dX1_fillWeights_42 rfl ?_
    refine AX.iload (pc := 43) dX1_fillWeights_43 rfl ?_
    refine AX.aload_n (pc := 45) dX1_fillWeights_45 rfl ?_
    refine AX.getf (pc := 46) fX1_fillWeights_18 (lt_k hn (by omega)) hF.1 rfl dX1_fillWeights_46 ?_
    refine AX.iload (pc := 49) dX1_fillWeights_49 rfl ?_
    refine AX.ialdN (pc := 51) (i := 5 * m + (i + 1)) (v := (nI (fTS (5 * m + (i + 1))))) (lt_k hn (by omega)) d7 (by decide) (by omega) (r7 _ (by omega)) dX1_fillWeights_51 ?_
    refine AX.iload_n (pc := 52) dX1_fillWeights_52 rfl ?_
    refine AX.imulN (pc := 53) (c := (fTS (5 * m + (i + 1))) * sd) dX1_fillWeights_53 rfl ?_
    refine AX.aload_n (pc := 54) dX1_fillWeights_54 rfl ?_
    refine AX.getf (pc := 55) fX1_fillWeights_21 (lt_k hn (by omega)) hF.1 rfl dX1_fillWeights_55 ?_
    refine AX.iload (pc := 58) dX1_fillWeights_58 rfl ?_
    refine AX.ialdN (pc := 60) (i := 5 * m + (i + 1)) (v := (nI (fTR (5 * m + (i + 1))))) (lt_k hn (by omega)) d8 (by decide) (by omega) (r8 _ (by omega)) dX1_fillWeights_60 ?_
    refine AX.iload_n (pc := 61) dX1_fillWeights_61 rfl ?_
    refine AX.imulN (pc := 62) (c := (fTR (5 * m + (i + 1))) * rg) dX1_fillWeights_62 rfl ?_
    refine AX.iaddN (pc := 63) (c := (fTS (5 * m + (i + 1))) * sd + ((fTR (5 * m + (i + 1))) * rg)) dX1_fillWeights_63 rfl ?_
    refine AX.iastN (pc := 64) (i := 5 * m + (i + 1)) (g := upd f (5 * m + (i + 1)) (nI ((fTS (5 * m + (i + 1))) * sd + ((fTR (5 * m + (i + 1))) * rg)))) (lt_k hn (by omega)) ea (by decide) (by omega) rfl dX1_fillWeights_64 ?_
    refine AX.iload (pc := 65) dX1_fillWeights_65 rfl ?_
    refine AX.aload_n (pc := 67) dX1_fillWeights_67 rfl ?_
    refine AX.iload (pc := 68) dX1_fillWeights_68 rfl ?_
    refine AX.ialdN (pc := 70) (i := 5 * m + (i + 1)) (v := (nI (fTS (5 * m + (i + 1)) * sd + fTR (5 * m + (i + 1)) * rg))) (lt_k hn (by omega)) (xset_same _ _ _) (by decide) (by omega) (upd_at _ _ _) dX1_fillWeights_70 ?_
    refine AX.isubN (pc := 71) (c := 1000 - wSm sd rg m (i + 1)) dX1_fillWeights_71 (by have := wSm_le hs hr hm (k := i + 1) (by omega); simp only [wSm] at *; omega) ?_
    refine AX.istore (pc := 72) (L' := [.ref 4, .int (nI sd), .int (nI rg), .ref wa, .int (nI m), .int (nI (5 * m)), .int (nI (1000 - wSm sd rg m (i + 1))), .int (nI (5 * m + (i + 1)))]) dX1_fillWeights_72 (by decide) rfl ?_
    refine AX.iincN (c := 5 * m + (i + 1) + 1) (pc := 74) (L' := [.ref 4, .int (nI sd), .int (nI rg), .ref wa, .int (nI m), .int (nI (5 * m)), .int (nI (1000 - wSm sd rg m (i + 1))), .int (nI (5 * m + (i + 1) + 1))]) dX1_fillWeights_74 rfl (inc1 _) (by decide) rfl ?_
    refine AX.goto (pc := 77) (tgt := 27) dX1_fillWeights_77 (by decide) ?_
    have hx : fTS (5 * m + (i + 1)) * sd + fTR (5 * m + (i + 1)) * rg = wtN sd rg (5 * m + (i + 1)) := (wt_at (by omega) (by omega)).symm
    refine l_fwIn w P h0 sd rg wa m hs hr h1 hm hwa hK g (i + 1) _ _ (by omega) hn (hF.same Same.rest (by simp; omega) (by simp; omega) (by simp; omega) (by simp; omega) (by simp; omega)) (xset_same _ _ _) ⟨fun q x z => ?_, fun q x => ?_⟩ (fun j x z => ?_) (hS.trans Same.rest)
    · rw [upd_off (by rintro rfl; rw [div5 _ _ (by omega), mod5 _ _ (by omega)] at z; omega)]; exact hO.1 q x z
    · rw [upd_off (by omega)]; exact hO.2 q x
    · by_cases e : j = i + 1
      · subst e; rw [upd_at, hx]
      · rw [upd_off (by omega)]; exact hi j x (by omega)
theorem l_fwOut (w : XW) (P : Option Value → XH → Prop) (h0 : XH) (sd rg wa : Nat) (hs : sd ≤ 200) (hr : rg ≤ 200) (hwa : 9 ≤ wa) (hP : ∀ h', Same [wa] h0 h' → iA h' wa 315 (fun q => nI (wtN sd rg q)) → P none h') :
    ∀ (g m : Nat) (h : XH) (f : Nat → Int32), m + g = 63 → 1 ≤ m → wa + 1 ≤ h.1 → FA h → h.2 wa = .inl (0, 315, .inl f) → wOK sd rg m f → Same [wa] h0 h → AX w M_X1_fillWeights 0 0 3 [.ref 4, .int (nI sd), .int (nI rg), .ref wa, .int (nI m), .null, .null, .null] [] h P
  | 0, m, h, f, hg, h1, hn, hF, ea, hO, hS => by
    have e : m = 63 := by omega
    subst e
    refine AX.iload (pc := 3) dX1_fillWeights_3 rfl ?_
    refine AX.bipush (pc := 5) (v := nI 63) dX1_fillWeights_5 (by decide) ?_
    refine AX.icmp_geN (pc := 7) (tgt := 92) dX1_fillWeights_7 (by decide) (by decide) (by decide) (fun hc7 => ?_) (fun q => absurd q (by decide))
    refine AX.vret (pc := 92) dX1_fillWeights_92 rfl (by decide) (by decide) ?_
    exact hP h hS ⟨f, ea, fun j hj => hO.2 j (by omega)⟩
  | g + 1, m, h, f, hg, h1, hn, hF, ea, hO, hS => by
    have hp := fC_pos h1 (by omega)
    refine AX.iload (pc := 3) dX1_fillWeights_3 rfl ?_
    refine AX.bipush (pc := 5) (v := nI 63) dX1_fillWeights_5 (by decide) ?_
    refine AX.icmp_geN (pc := 7) (tgt := 92) dX1_fillWeights_7 (by decide) (by omega) (by decide) (fun q => absurd q (by omega)) (fun hc7 => ?_)
    refine AX.iload (pc := 10) dX1_fillWeights_10 rfl ?_
    refine AX.iconst (pc := 12) (v := nI 5) dX1_fillWeights_12 (by decide) ?_
    refine AX.imul (pc := 13) dX1_fillWeights_13 ?_
    refine AX.topi (y := (nI (5 * m))) (by rw [pk_mul, Nat.mul_comm]) ?_
    refine AX.istore (pc := 14) (L' := [.ref 4, .int (nI sd), .int (nI rg), .ref wa, .int (nI m), .int (nI (5 * m)), .null, .null]) dX1_fillWeights_14 (by decide) rfl ?_
    refine AX.sipush (pc := 16) (v := nI 1000) dX1_fillWeights_16 (by decide) ?_
    refine AX.istore (pc := 19) (L' := [.ref 4, .int (nI sd), .int (nI rg), .ref wa, .int (nI m), .int (nI (5 * m)), .int (nI 1000), .null]) dX1_fillWeights_19 (by decide) rfl ?_
    refine AX.iload (pc := 21) dX1_fillWeights_21 rfl ?_
    refine AX.iconst (pc := 23) (v := nI 1) dX1_fillWeights_23 (by decide) ?_
    refine AX.iaddN (pc := 24) (c := 5 * m + 1) dX1_fillWeights_24 rfl ?_
    refine AX.istore (pc := 25) (L' := [.ref 4, .int (nI sd), .int (nI rg), .ref wa, .int (nI m), .int (nI (5 * m)), .int (nI 1000), .int (nI (5 * m + 1))]) dX1_fillWeights_25 (by decide) rfl ?_
    exact l_fwIn w P h0 sd rg wa m hs hr h1 (by omega) hwa (fun h f a b c d e => l_fwOut w P h0 sd rg wa hs hr hwa hP g (m + 1) h f (by omega) (by omega) a b c d e) (fC m - 1) 0 h f (by omega) hn hF ea hO (fun j x y => by omega) hS
theorem c_fillWeights (w : XW) (h : XH) (sd rg wa : Nat) (hs : sd ≤ 200) (hr : rg ≤ 200) (hwa : 9 ≤ wa) (hn : wa + 1 ≤ h.1) (hF : FA h) {f : Nat → Int32} (ea : h.2 wa = .inl (0, 315, .inl f)) (hu : ∀ q, q < 315 → fC (q / 5) ≤ q % 5 → f q = nI 0) : CA w M_X1_fillWeights [.ref 4, .int (nI sd), .int (nI rg), .ref wa] h (fun v h' => v = none ∧ Same [wa] h h' ∧ iA h' wa 315 (fun q => nI (wtN sd rg q))) := by
  refine CA.of (by decide) rfl (fun _ => Nat.le_of_ble_eq_true rfl) ?_
  show AX w M_X1_fillWeights 0 0 0 [.ref 4, .int (nI sd), .int (nI rg), .ref wa, .null, .null, .null, .null] [] h _
  refine AX.iconst (pc := 0) (v := nI 1) dX1_fillWeights_0 (by decide) ?_
  refine AX.istore (pc := 1) (L' := [.ref 4, .int (nI sd), .int (nI rg), .ref wa, .int (nI 1), .null, .null, .null]) dX1_fillWeights_1 (by decide) rfl ?_
  exact l_fwOut w _ h sd rg wa hs hr hwa (fun h' a b => ⟨rfl, a, b⟩) 62 1 h f (by omega) (by omega) hn hF ea (wOK.one hu) Same.rf
