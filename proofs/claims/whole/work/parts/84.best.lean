/-! ===== THE REFERENCE: the best AIM in THE RACE ===== -/
theorem km1_gt_lin {O G z : Int} {n : Nat} (hG : 0 < G) (hOG : O = 1073741824 * G) (hn : n ≤ 10001) (h1 : -(((31 * n : Nat) : Int) * G) ≤ z) : -O < z := by
  have : ((31 * n : Nat) : Int) * G ≤ 310031 * G := Int.mul_le_mul_of_nonneg_right (by omega) (by omega)
  omega
theorem km1_gtR {x : UInt64} {n : Nat} (h : rB n x) (hn : n ≤ 10001) : FP.dcmp x KM1 = some .gt := by
  have k : DF KM1 ∧ zv KM1 = -(FP.Core.one64 : Int) := by
    have e : FP.Core.val64 KM1 = .fin true 4503599627370496 (-52) := by decide +kernel
    refine ⟨⟨_, _, _, e⟩, ?_⟩
    unfold zv
    rw [e]
    decide +kernel
  have h1 := (dgt_zv h.1 k.1).mpr (by rw [k.2]; exact km1_gt_lin gr_posI one_grI hn h.2.1)
  unfold dgt at h1
  exact of_decide_eq_true h1
theorem l_br0 (w : XW) (P : Option Value → XH → Prop) (h0 : XH) {v qq : Nat → Int32} {f2 : Nat → UInt64} {H : Nat → Nat × Nat} {o r q n : Nat} (hn0 : 118 ≤ h0.1) (hN0 : iA h0 89 19 qq) (ho12 : qq 12 = nI o) (ho : o ≤ 2) (hB0 : BL h0 H) (e0 : h0.2 103 = .inl (2, 625, .inr (.inr (.inr (.inl f2))))) (hs : (H 0).1 ≤ 200) (hrg : (H 0).2 ≤ 200) (hn1 : n ≤ 10000) (hV : ∀ d, d < r → leN o ≤ d → rB n (f2 (25 * d + q))) (hy : rB n (f2 (25 * r + q))) (r1 : 1 ≤ r) (r2 : r ≤ 24) (q1 : 1 ≤ q) (q2 : q ≤ 24) (hP : ∀ (h' : XH), Same [87] h0 h' → MO h' (upd v 3 (nI (csel (fun a => vlN (rcS o (H 0).1 (H 0).2 (fun d => f2 (25 * d + q)) r a (fC a)) (f2 (25 * r + q))) 61).1)) → P (some (.double (csel (fun a => vlN (rcS o (H 0).1 (H 0).2 (fun d => f2 (25 * d + q)) r a (fC a)) (f2 (25 * r + q))) 61).2)) h') : ∀ (g k : Nat) (h : XH), k + g = 61 → MO h (upd v 3 (nI (csel (fun a => vlN (rcS o (H 0).1 (H 0).2 (fun d => f2 (25 * d + q)) r a (fC a)) (f2 (25 * r + q))) k).1)) → Same [87] h0 h → AX w M_X12_bestRace 0 0 8 [.ref 87, .int (nI 0), .int (nI r), .int (nI q), .double ((csel (fun a => vlN (rcS o (H 0).1 (H 0).2 (fun d => f2 (25 * d + q)) r a (fC a)) (f2 (25 * r + q))) k).2), .null, .int (nI (k + 2)), .null, .null] [] h P
  | 0, k, h, hg, hO, hS => by
    have e : k = 61 := by omega
    subst e
    refine AX.iload (pc := 8) dX12_bestRace_8 rfl ?_
    refine AX.bipush (pc := 10) (v := nI 62) dX12_bestRace_10 (by decide) ?_
    refine AX.icmp_gtN (pc := 12) (tgt := 70) dX12_bestRace_12 (by decide) (by decide) (by decide) (fun hc12 => ?_) (fun q => absurd q (by decide))
    refine AX.dload (pc := 70) dX12_bestRace_70 rfl ?_
    refine AX.dret (pc := 72) dX12_bestRace_72 rfl (by decide) (by decide) ?_
    exact hP h hS hO
  | g + 1, k, h, hg, hO, hS => by
    have hn := hS.le hn0
    have hz_ : ∀ a, 1 ≤ a → a < 63 → vOK (rcS o (H 0).1 (H 0).2 (fun d => f2 (25 * d + q)) r a (fC a)) (f2 (25 * r + q)) ∧ rB (n + 1) (vlN (rcS o (H 0).1 (H 0).2 (fun d => f2 (25 * d + q)) r a (fC a)) (f2 (25 * r + q))) ∧ (rcS o (H 0).1 (H 0).2 (fun d => f2 (25 * d + q)) r a (fC a)).2 ≤ 1000 := fun a a1 a2 => zOK_rc hs hrg hV a n _ a1 a2 (Nat.le_refl _) hn1 hy
    have hz : csel (fun a => vlN (rcS o (H 0).1 (H 0).2 (fun d => f2 (25 * d + q)) r a (fC a)) (f2 (25 * r + q))) (k + 1) = if dgt (vlN (rcS o (H 0).1 (H 0).2 (fun d => f2 (25 * d + q)) r (k + 2) (fC (k + 2))) (f2 (25 * r + q))) (csel (fun a => vlN (rcS o (H 0).1 (H 0).2 (fun d => f2 (25 * d + q)) r a (fC a)) (f2 (25 * r + q))) k).2 = true then (k + 2, vlN (rcS o (H 0).1 (H 0).2 (fun d => f2 (25 * d + q)) r (k + 2) (fC (k + 2))) (f2 (25 * r + q))) else csel (fun a => vlN (rcS o (H 0).1 (H 0).2 (fun d => f2 (25 * d + q)) r a (fC a)) (f2 (25 * r + q))) k := rfl
    refine AX.iload (pc := 8) dX12_bestRace_8 rfl ?_
    refine AX.bipush (pc := 10) (v := nI 62) dX12_bestRace_10 (by decide) ?_
    refine AX.icmp_gtN (pc := 12) (tgt := 70) dX12_bestRace_12 (by decide) (by omega) (by decide) (fun q => absurd q (by omega)) (fun hc12 => ?_)
    refine AX.aload_n (pc := 15) dX12_bestRace_15 rfl ?_
    refine AX.iload_n (pc := 16) dX12_bestRace_16 rfl ?_
    refine AX.iload (pc := 17) dX12_bestRace_17 rfl ?_
    refine AX.iload_n (pc := 19) dX12_bestRace_19 rfl ?_
    refine AX.iload_n (pc := 20) dX12_bestRace_20 rfl ?_
    refine AX.callV (pc := 21) (M2 := M_X12_raceValue) (As := [.int (nI 0), .int (nI (k + 2)), .int (nI r), .int (nI q)]) (rest := []) (c_rv0 w h hn (v := _) hO (hN0.same hS (by simp)) ho12 ho (hB0.same hS (by simp) (by simp) (by simp)) (hS.at (by simp) e0) hs hrg hn1 hV (hz_ (k + 2) (show 1 ≤ k + 2 by omega) (show k + 2 < 63 by omega)).1 (hz_ (k + 2) (show 1 ≤ k + 2 by omega) (show k + 2 < 63 by omega)).2.2 r1 r2 q1 q2 (show 1 ≤ k + 2 by omega) (show k + 2 < 63 by omega)) xc_X12_bestRace__X12_raceValue gX12_bestRace_X12_raceValue (ci := 11) rfl (lt_k hn (by omega)) hO rfl (Nat.le_of_ble_eq_true rfl) dX12_bestRace_21 ?_
    rintro _ h9 ⟨rfl, e9⟩
    have e9 := e9.symm
    subst e9
    show AX w M_X12_bestRace 0 0 24 [.ref 87, .int (nI 0), .int (nI r), .int (nI q), .double ((csel (fun a => vlN (rcS o (H 0).1 (H 0).2 (fun d => f2 (25 * d + q)) r a (fC a)) (f2 (25 * r + q))) k).2), .null, .int (nI (k + 2)), .null, .null] [.double (vlN (rcS o (H 0).1 (H 0).2 (fun d => f2 (25 * d + q)) r (k + 2) (fC (k + 2))) (f2 (25 * r + q)))] _ _
    refine AX.dstore (pc := 24) (L' := [.ref 87, .int (nI 0), .int (nI r), .int (nI q), .double ((csel (fun a => vlN (rcS o (H 0).1 (H 0).2 (fun d => f2 (25 * d + q)) r a (fC a)) (f2 (25 * r + q))) k).2), .null, .int (nI (k + 2)), .double (vlN (rcS o (H 0).1 (H 0).2 (fun d => f2 (25 * d + q)) r (k + 2) (fC (k + 2))) (f2 (25 * r + q))), .null]) dX12_bestRace_24 (by decide) rfl ?_
    refine AX.aload_n (pc := 26) dX12_bestRace_26 rfl ?_
    refine AX.dload (pc := 27) dX12_bestRace_27 rfl ?_
    refine AX.dload (pc := 29) dX12_bestRace_29 rfl ?_
    refine AX.dcmp (pc := 31) dX12_bestRace_31 ?_
    refine AX.if_le (pc := 32) (tgt := 40) dX12_bestRace_32 (by decide) (fun hc32 => ?_) (fun hc32 => ?_)
    · refine AX.aload_n (pc := 40) dX12_bestRace_40 rfl ?_
      refine AX.getf (pc := 41) fX12_bestRace_224 (lt_k hn (by omega)) hO rfl dX12_bestRace_41 ?_
      refine AX.putf (pc := 44) (fs' := [.ref 88, .ref 89, .ref 90, .int (v 0), .int (v 1), .ref 91, .ref 92, .ref 93, .ref 94, .ref 95, .ref 96, .ref 97, .ref 98, .ref 99, .ref 100, .ref 101, .int (v 2), .ref 102, .ref 103, .ref 104, .ref 105, .ref 106, .ref 107, .ref 108, .int (nI ((csel (fun a => vlN (rcS o (H 0).1 (H 0).2 (fun d => f2 (25 * d + q)) r a (fC a)) (f2 (25 * r + q))) k).1)), .ref 109, .int (v 4), .ref 110, .ref 111, .int (v 5), .ref 112, .int (v 6), .int (v 7), .int (v 8), .ref 113, .int (v 9), .ref 114, .ref 115, .ref 116, .ref 117]) fX12_bestRace_224 rfl (lt_k hn (by omega)) hO (Nat.le_of_ble_eq_true rfl) rfl rfl rfl dX12_bestRace_44 ?_
      refine AX.dload (pc := 47) dX12_bestRace_47 rfl ?_
      refine AX.dload (pc := 49) dX12_bestRace_49 rfl ?_
      refine AX.dcmp (pc := 51) dX12_bestRace_51 ?_
      refine AX.if_le (pc := 52) (tgt := 60) dX12_bestRace_52 (by decide) (fun hc52 => ?_) (fun q => absurd hc32 q)
      refine AX.dload (pc := 60) dX12_bestRace_60 rfl ?_
      refine AX.dstore (pc := 62) (L' := [.ref 87, .int (nI 0), .int (nI r), .int (nI q), .double ((csel (fun a => vlN (rcS o (H 0).1 (H 0).2 (fun d => f2 (25 * d + q)) r a (fC a)) (f2 (25 * r + q))) k).2), .null, .int (nI (k + 2)), .double (vlN (rcS o (H 0).1 (H 0).2 (fun d => f2 (25 * d + q)) r (k + 2) (fC (k + 2))) (f2 (25 * r + q))), .null]) dX12_bestRace_62 (by decide) rfl ?_
      refine AX.iincN (c := k + 3) (pc := 64) (L' := [.ref 87, .int (nI 0), .int (nI r), .int (nI q), .double ((csel (fun a => vlN (rcS o (H 0).1 (H 0).2 (fun d => f2 (25 * d + q)) r a (fC a)) (f2 (25 * r + q))) k).2), .null, .int (nI (k + 3)), .double (vlN (rcS o (H 0).1 (H 0).2 (fun d => f2 (25 * d + q)) r (k + 2) (fC (k + 2))) (f2 (25 * r + q))), .null]) dX12_bestRace_64 rfl (inc1 _) (by decide) rfl ?_
      refine AX.goto (pc := 67) (tgt := 8) dX12_bestRace_67 (by decide) ?_
      have sx : Same [87] h (xset h 87 (.inr (11, [.ref 88, .ref 89, .ref 90, .int (v 0), .int (v 1), .ref 91, .ref 92, .ref 93, .ref 94, .ref 95, .ref 96, .ref 97, .ref 98, .ref 99, .ref 100, .ref 101, .int (v 2), .ref 102, .ref 103, .ref 104, .ref 105, .ref 106, .ref 107, .ref 108, .int (nI ((csel (fun a => vlN (rcS o (H 0).1 (H 0).2 (fun d => f2 (25 * d + q)) r a (fC a)) (f2 (25 * r + q))) k).1)), .ref 109, .int (v 4), .ref 110, .ref 111, .int (v 5), .ref 112, .int (v 6), .int (v 7), .int (v 8), .ref 113, .int (v 9), .ref 114, .ref 115, .ref 116, .ref 117]))) := Same.rest
      have hz : csel (fun a => vlN (rcS o (H 0).1 (H 0).2 (fun d => f2 (25 * d + q)) r a (fC a)) (f2 (25 * r + q))) (k + 1) = csel (fun a => vlN (rcS o (H 0).1 (H 0).2 (fun d => f2 (25 * d + q)) r a (fC a)) (f2 (25 * r + q))) k := by rw [hz]; exact if_neg (fun q => cmpl_yes hc32 (of_decide_eq_true q))
      have ih := l_br0 w P h0 hn0 hN0 ho12 ho hB0 e0 hs hrg hn1 hV hy r1 r2 q1 q2 hP g (k + 1) (xset h 87 (.inr (11, [.ref 88, .ref 89, .ref 90, .int (v 0), .int (v 1), .ref 91, .ref 92, .ref 93, .ref 94, .ref 95, .ref 96, .ref 97, .ref 98, .ref 99, .ref 100, .ref 101, .int (v 2), .ref 102, .ref 103, .ref 104, .ref 105, .ref 106, .ref 107, .ref 108, .int (nI ((csel (fun a => vlN (rcS o (H 0).1 (H 0).2 (fun d => f2 (25 * d + q)) r a (fC a)) (f2 (25 * r + q))) k).1)), .ref 109, .int (v 4), .ref 110, .ref 111, .int (v 5), .ref 112, .int (v 6), .int (v 7), .int (v 8), .ref 113, .int (v 9), .ref 114, .ref 115, .ref 116, .ref 117]))) (by omega) (by rw [hz]; exact xset_same _ _ _) (hS.trans sx)
      rw [hz] at ih
      refine AX.sub (L' := [.ref 87, .int (nI 0), .int (nI r), .int (nI q), .double ((csel (fun a => vlN (rcS o (H 0).1 (H 0).2 (fun d => f2 (25 * d + q)) r a (fC a)) (f2 (25 * r + q))) k).2), .null, .int (nI (k + 1 + 2)), .null, .null]) ⟨Or.inr rfl, Or.inr rfl, Or.inr rfl, Or.inr rfl, Or.inr rfl, Or.inl rfl, Or.inr rfl, Or.inl rfl, Or.inl rfl, trivial⟩ ?_
      exact ih
    · refine AX.iload (pc := 35) dX12_bestRace_35 rfl ?_
      refine AX.goto (pc := 37) (tgt := 44) dX12_bestRace_37 (by decide) ?_
      refine AX.putf (pc := 44) (fs' := [.ref 88, .ref 89, .ref 90, .int (v 0), .int (v 1), .ref 91, .ref 92, .ref 93, .ref 94, .ref 95, .ref 96, .ref 97, .ref 98, .ref 99, .ref 100, .ref 101, .int (v 2), .ref 102, .ref 103, .ref 104, .ref 105, .ref 106, .ref 107, .ref 108, .int (nI (k + 2)), .ref 109, .int (v 4), .ref 110, .ref 111, .int (v 5), .ref 112, .int (v 6), .int (v 7), .int (v 8), .ref 113, .int (v 9), .ref 114, .ref 115, .ref 116, .ref 117]) fX12_bestRace_224 rfl (lt_k hn (by omega)) hO (Nat.le_of_ble_eq_true rfl) rfl rfl rfl dX12_bestRace_44 ?_
      refine AX.dload (pc := 47) dX12_bestRace_47 rfl ?_
      refine AX.dload (pc := 49) dX12_bestRace_49 rfl ?_
      refine AX.dcmp (pc := 51) dX12_bestRace_51 ?_
      refine AX.if_le (pc := 52) (tgt := 60) dX12_bestRace_52 (by decide) (fun q => absurd q hc32) (fun hc52 => ?_)
      refine AX.dload (pc := 55) dX12_bestRace_55 rfl ?_
      refine AX.goto (pc := 57) (tgt := 62) dX12_bestRace_57 (by decide) ?_
      refine AX.dstore (pc := 62) (L' := [.ref 87, .int (nI 0), .int (nI r), .int (nI q), .double (vlN (rcS o (H 0).1 (H 0).2 (fun d => f2 (25 * d + q)) r (k + 2) (fC (k + 2))) (f2 (25 * r + q))), .null, .int (nI (k + 2)), .double (vlN (rcS o (H 0).1 (H 0).2 (fun d => f2 (25 * d + q)) r (k + 2) (fC (k + 2))) (f2 (25 * r + q))), .null]) dX12_bestRace_62 (by decide) rfl ?_
      refine AX.iincN (c := k + 3) (pc := 64) (L' := [.ref 87, .int (nI 0), .int (nI r), .int (nI q), .double (vlN (rcS o (H 0).1 (H 0).2 (fun d => f2 (25 * d + q)) r (k + 2) (fC (k + 2))) (f2 (25 * r + q))), .null, .int (nI (k + 3)), .double (vlN (rcS o (H 0).1 (H 0).2 (fun d => f2 (25 * d + q)) r (k + 2) (fC (k + 2))) (f2 (25 * r + q))), .null]) dX12_bestRace_64 rfl (inc1 _) (by decide) rfl ?_
      refine AX.goto (pc := 67) (tgt := 8) dX12_bestRace_67 (by decide) ?_
      have sx : Same [87] h (xset h 87 (.inr (11, [.ref 88, .ref 89, .ref 90, .int (v 0), .int (v 1), .ref 91, .ref 92, .ref 93, .ref 94, .ref 95, .ref 96, .ref 97, .ref 98, .ref 99, .ref 100, .ref 101, .int (v 2), .ref 102, .ref 103, .ref 104, .ref 105, .ref 106, .ref 107, .ref 108, .int (nI (k + 2)), .ref 109, .int (v 4), .ref 110, .ref 111, .int (v 5), .ref 112, .int (v 6), .int (v 7), .int (v 8), .ref 113, .int (v 9), .ref 114, .ref 115, .ref 116, .ref 117]))) := Same.rest
      have hz : csel (fun a => vlN (rcS o (H 0).1 (H 0).2 (fun d => f2 (25 * d + q)) r a (fC a)) (f2 (25 * r + q))) (k + 1) = (k + 2, vlN (rcS o (H 0).1 (H 0).2 (fun d => f2 (25 * d + q)) r (k + 2) (fC (k + 2))) (f2 (25 * r + q))) := by rw [hz]; exact if_pos (decide_eq_true (cmpl_not hc32))
      have ih := l_br0 w P h0 hn0 hN0 ho12 ho hB0 e0 hs hrg hn1 hV hy r1 r2 q1 q2 hP g (k + 1) (xset h 87 (.inr (11, [.ref 88, .ref 89, .ref 90, .int (v 0), .int (v 1), .ref 91, .ref 92, .ref 93, .ref 94, .ref 95, .ref 96, .ref 97, .ref 98, .ref 99, .ref 100, .ref 101, .int (v 2), .ref 102, .ref 103, .ref 104, .ref 105, .ref 106, .ref 107, .ref 108, .int (nI (k + 2)), .ref 109, .int (v 4), .ref 110, .ref 111, .int (v 5), .ref 112, .int (v 6), .int (v 7), .int (v 8), .ref 113, .int (v 9), .ref 114, .ref 115, .ref 116, .ref 117]))) (by omega) (by rw [hz]; exact xset_same _ _ _) (hS.trans sx)
      rw [hz] at ih
      refine AX.sub (L' := [.ref 87, .int (nI 0), .int (nI r), .int (nI q), .double (vlN (rcS o (H 0).1 (H 0).2 (fun d => f2 (25 * d + q)) r (k + 2) (fC (k + 2))) (f2 (25 * r + q))), .null, .int (nI (k + 1 + 2)), .null, .null]) ⟨Or.inr rfl, Or.inr rfl, Or.inr rfl, Or.inr rfl, Or.inr rfl, Or.inl rfl, Or.inr rfl, Or.inl rfl, Or.inl rfl, trivial⟩ ?_
      exact ih
theorem c_best0 (w : XW) (h : XH) {v qq : Nat → Int32} {f2 : Nat → UInt64} {H : Nat → Nat × Nat} {o r q n : Nat} (hn0 : 118 ≤ h.1) (hN0 : iA h 89 19 qq) (ho12 : qq 12 = nI o) (ho : o ≤ 2) (hB0 : BL h H) (e0 : h.2 103 = .inl (2, 625, .inr (.inr (.inr (.inl f2))))) (hs : (H 0).1 ≤ 200) (hrg : (H 0).2 ≤ 200) (hn1 : n ≤ 10000) (hV : ∀ d, d < r → leN o ≤ d → rB n (f2 (25 * d + q))) (hy : rB n (f2 (25 * r + q))) (r1 : 1 ≤ r) (r2 : r ≤ 24) (q1 : 1 ≤ q) (q2 : q ≤ 24) (hO : MO h v) : CA w M_X12_bestRace [.ref 87, .int (nI 0), .int (nI r), .int (nI q)] h (fun v' h' => v' = some (.double (swV (fun a => rcS o (H 0).1 (H 0).2 (fun d => f2 (25 * d + q)) r a (fC a)) (f2 (25 * r + q)))) ∧ Same [87] h h' ∧ MO h' (upd v 3 (nI (swA (fun a => rcS o (H 0).1 (H 0).2 (fun d => f2 (25 * d + q)) r a (fC a)) (f2 (25 * r + q))).1))) := by
  refine CA.of (by decide) rfl (fun _ => Nat.le_of_ble_eq_true rfl) ?_
  have hn := hn0
  have hS : Same [87] h h := Same.rf
  have hz_ : ∀ a, 1 ≤ a → a < 63 → vOK (rcS o (H 0).1 (H 0).2 (fun d => f2 (25 * d + q)) r a (fC a)) (f2 (25 * r + q)) ∧ rB (n + 1) (vlN (rcS o (H 0).1 (H 0).2 (fun d => f2 (25 * d + q)) r a (fC a)) (f2 (25 * r + q))) ∧ (rcS o (H 0).1 (H 0).2 (fun d => f2 (25 * d + q)) r a (fC a)).2 ≤ 1000 := fun a a1 a2 => zOK_rc hs hrg hV a n _ a1 a2 (Nat.le_refl _) hn1 hy
  have hgt := km1_gtR (hz_ 1 (by omega) (by omega)).2.1 (by omega)
  show AX w M_X12_bestRace 0 0 0 [.ref 87, .int (nI 0), .int (nI r), .int (nI q), .null, .null, .null, .null, .null] [] h _
  refine AX.ldc2d (pc := 0) (v := 13830554455654793216) dX12_bestRace_0 cX12_bestRace_158 ?_
  refine AX.dstore (pc := 3) (L' := [.ref 87, .int (nI 0), .int (nI r), .int (nI q), .double 13830554455654793216, .null, .null, .null, .null]) dX12_bestRace_3 (by decide) rfl ?_
  refine AX.iconst (pc := 5) (v := nI 1) dX12_bestRace_5 (by decide) ?_
  refine AX.istore (pc := 6) (L' := [.ref 87, .int (nI 0), .int (nI r), .int (nI q), .double 13830554455654793216, .null, .int (nI 1), .null, .null]) dX12_bestRace_6 (by decide) rfl ?_
  refine AX.iload (pc := 8) dX12_bestRace_8 rfl ?_
  refine AX.bipush (pc := 10) (v := nI 62) dX12_bestRace_10 (by decide) ?_
  refine AX.icmp_gtN (pc := 12) (tgt := 70) dX12_bestRace_12 (by decide) (by decide) (by decide) (fun q => absurd q (by decide)) (fun hc12 => ?_)
  refine AX.aload_n (pc := 15) dX12_bestRace_15 rfl ?_
  refine AX.iload_n (pc := 16) dX12_bestRace_16 rfl ?_
  refine AX.iload (pc := 17) dX12_bestRace_17 rfl ?_
  refine AX.iload_n (pc := 19) dX12_bestRace_19 rfl ?_
  refine AX.iload_n (pc := 20) dX12_bestRace_20 rfl ?_
  refine AX.callV (pc := 21) (M2 := M_X12_raceValue) (As := [.int (nI 0), .int (nI 1), .int (nI r), .int (nI q)]) (rest := []) (c_rv0 w h hn (v := _) hO (hN0.same hS (by simp)) ho12 ho (hB0.same hS (by simp) (by simp) (by simp)) (hS.at (by simp) e0) hs hrg hn1 hV (hz_ 1 (show 1 ≤ 1 by omega) (show 1 < 63 by omega)).1 (hz_ 1 (show 1 ≤ 1 by omega) (show 1 < 63 by omega)).2.2 r1 r2 q1 q2 (show 1 ≤ 1 by omega) (show 1 < 63 by omega)) xc_X12_bestRace__X12_raceValue gX12_bestRace_X12_raceValue (ci := 11) rfl (lt_k hn (by omega)) hO rfl (Nat.le_of_ble_eq_true rfl) dX12_bestRace_21 ?_
  rintro _ h9 ⟨rfl, e9⟩
  have e9 := e9.symm
  subst e9
  show AX w M_X12_bestRace 0 0 24 [.ref 87, .int (nI 0), .int (nI r), .int (nI q), .double 13830554455654793216, .null, .int (nI 1), .null, .null] [.double (vlN (rcS o (H 0).1 (H 0).2 (fun d => f2 (25 * d + q)) r 1 (fC 1)) (f2 (25 * r + q)))] _ _
  refine AX.dstore (pc := 24) (L' := [.ref 87, .int (nI 0), .int (nI r), .int (nI q), .double 13830554455654793216, .null, .int (nI 1), .double (vlN (rcS o (H 0).1 (H 0).2 (fun d => f2 (25 * d + q)) r 1 (fC 1)) (f2 (25 * r + q))), .null]) dX12_bestRace_24 (by decide) rfl ?_
  refine AX.aload_n (pc := 26) dX12_bestRace_26 rfl ?_
  refine AX.dload (pc := 27) dX12_bestRace_27 rfl ?_
  refine AX.dload (pc := 29) dX12_bestRace_29 rfl ?_
  refine AX.dcmp (pc := 31) dX12_bestRace_31 ?_
  refine AX.if_le (pc := 32) (tgt := 40) dX12_bestRace_32 (by decide) (fun q => absurd q (cmpl_gt hgt)) (fun hc32 => ?_)
  refine AX.iload (pc := 35) dX12_bestRace_35 rfl ?_
  refine AX.goto (pc := 37) (tgt := 44) dX12_bestRace_37 (by decide) ?_
  refine AX.putf (pc := 44) (fs' := [.ref 88, .ref 89, .ref 90, .int (v 0), .int (v 1), .ref 91, .ref 92, .ref 93, .ref 94, .ref 95, .ref 96, .ref 97, .ref 98, .ref 99, .ref 100, .ref 101, .int (v 2), .ref 102, .ref 103, .ref 104, .ref 105, .ref 106, .ref 107, .ref 108, .int (nI 1), .ref 109, .int (v 4), .ref 110, .ref 111, .int (v 5), .ref 112, .int (v 6), .int (v 7), .int (v 8), .ref 113, .int (v 9), .ref 114, .ref 115, .ref 116, .ref 117]) fX12_bestRace_224 rfl (lt_k hn (by omega)) hO (Nat.le_of_ble_eq_true rfl) rfl rfl rfl dX12_bestRace_44 ?_
  refine AX.dload (pc := 47) dX12_bestRace_47 rfl ?_
  refine AX.dload (pc := 49) dX12_bestRace_49 rfl ?_
  refine AX.dcmp (pc := 51) dX12_bestRace_51 ?_
  refine AX.if_le (pc := 52) (tgt := 60) dX12_bestRace_52 (by decide) (fun q => absurd q (cmpl_gt hgt)) (fun hc52 => ?_)
  refine AX.dload (pc := 55) dX12_bestRace_55 rfl ?_
  refine AX.goto (pc := 57) (tgt := 62) dX12_bestRace_57 (by decide) ?_
  refine AX.dstore (pc := 62) (L' := [.ref 87, .int (nI 0), .int (nI r), .int (nI q), .double (vlN (rcS o (H 0).1 (H 0).2 (fun d => f2 (25 * d + q)) r 1 (fC 1)) (f2 (25 * r + q))), .null, .int (nI 1), .double (vlN (rcS o (H 0).1 (H 0).2 (fun d => f2 (25 * d + q)) r 1 (fC 1)) (f2 (25 * r + q))), .null]) dX12_bestRace_62 (by decide) rfl ?_
  refine AX.iincN (c := 2) (pc := 64) (L' := [.ref 87, .int (nI 0), .int (nI r), .int (nI q), .double (vlN (rcS o (H 0).1 (H 0).2 (fun d => f2 (25 * d + q)) r 1 (fC 1)) (f2 (25 * r + q))), .null, .int (nI 2), .double (vlN (rcS o (H 0).1 (H 0).2 (fun d => f2 (25 * d + q)) r 1 (fC 1)) (f2 (25 * r + q))), .null]) dX12_bestRace_64 rfl (inc1 _) (by decide) rfl ?_
  refine AX.goto (pc := 67) (tgt := 8) dX12_bestRace_67 (by decide) ?_
  have sx : Same [87] h (xset h 87 (.inr (11, [.ref 88, .ref 89, .ref 90, .int (v 0), .int (v 1), .ref 91, .ref 92, .ref 93, .ref 94, .ref 95, .ref 96, .ref 97, .ref 98, .ref 99, .ref 100, .ref 101, .int (v 2), .ref 102, .ref 103, .ref 104, .ref 105, .ref 106, .ref 107, .ref 108, .int (nI 1), .ref 109, .int (v 4), .ref 110, .ref 111, .int (v 5), .ref 112, .int (v 6), .int (v 7), .int (v 8), .ref 113, .int (v 9), .ref 114, .ref 115, .ref 116, .ref 117]))) := Same.rest
  have ih := l_br0 w (fun v' h' => v' = some (.double (swV (fun a => rcS o (H 0).1 (H 0).2 (fun d => f2 (25 * d + q)) r a (fC a)) (f2 (25 * r + q)))) ∧ Same [87] h h' ∧ MO h' (upd v 3 (nI (swA (fun a => rcS o (H 0).1 (H 0).2 (fun d => f2 (25 * d + q)) r a (fC a)) (f2 (25 * r + q))).1))) h (v := v) hn0 hN0 ho12 ho hB0 e0 hs hrg hn1 hV hy r1 r2 q1 q2 (fun h2 t2 O2 => ⟨by rw [(csel_in (fun a => vlN (rcS o (H 0).1 (H 0).2 (fun d => f2 (25 * d + q)) r a (fC a)) (f2 (25 * r + q))) 61).2.2]; rfl, t2, O2⟩) 61 0 (xset h 87 (.inr (11, [.ref 88, .ref 89, .ref 90, .int (v 0), .int (v 1), .ref 91, .ref 92, .ref 93, .ref 94, .ref 95, .ref 96, .ref 97, .ref 98, .ref 99, .ref 100, .ref 101, .int (v 2), .ref 102, .ref 103, .ref 104, .ref 105, .ref 106, .ref 107, .ref 108, .int (nI 1), .ref 109, .int (v 4), .ref 110, .ref 111, .int (v 5), .ref 112, .int (v 6), .int (v 7), .int (v 8), .ref 113, .int (v 9), .ref 114, .ref 115, .ref 116, .ref 117]))) rfl (by exact xset_same _ _ _) (hS.trans sx)
  refine AX.sub (L' := [.ref 87, .int (nI 0), .int (nI r), .int (nI q), .double (vlN (rcS o (H 0).1 (H 0).2 (fun d => f2 (25 * d + q)) r 1 (fC 1)) (f2 (25 * r + q))), .null, .int (nI 2), .null, .null]) ⟨Or.inr rfl, Or.inr rfl, Or.inr rfl, Or.inr rfl, Or.inr rfl, Or.inl rfl, Or.inr rfl, Or.inl rfl, Or.inl rfl, trivial⟩ ?_
  exact ih
theorem l_br1 (w : XW) (P : Option Value → XH → Prop) (h0 : XH) {v qq : Nat → Int32} {f1 : Nat → UInt64} {H : Nat → Nat × Nat} {o r q n : Nat} (hn0 : 118 ≤ h0.1) (hN0 : iA h0 89 19 qq) (ho12 : qq 12 = nI o) (ho : o ≤ 2) (hB0 : BL h0 H) (e0 : h0.2 102 = .inl (2, 625, .inr (.inr (.inr (.inl f1))))) (hs : (H 1).1 ≤ 200) (hrg : (H 1).2 ≤ 200) (hn1 : n ≤ 10000) (hV : ∀ d, d < q → leN o ≤ d → rB n (f1 (25 * r + d))) (hy : rB n (f1 (25 * r + q))) (r1 : 1 ≤ r) (r2 : r ≤ 24) (q1 : 1 ≤ q) (q2 : q ≤ 24) (hP : ∀ (h' : XH), Same [87] h0 h' → MO h' (upd v 3 (nI (csel (fun a => vlN (rcS o (H 1).1 (H 1).2 (fun d => f1 (25 * r + d)) q a (fC a)) (f1 (25 * r + q))) 61).1)) → P (some (.double (csel (fun a => vlN (rcS o (H 1).1 (H 1).2 (fun d => f1 (25 * r + d)) q a (fC a)) (f1 (25 * r + q))) 61).2)) h') : ∀ (g k : Nat) (h : XH), k + g = 61 → MO h (upd v 3 (nI (csel (fun a => vlN (rcS o (H 1).1 (H 1).2 (fun d => f1 (25 * r + d)) q a (fC a)) (f1 (25 * r + q))) k).1)) → Same [87] h0 h → AX w M_X12_bestRace 0 0 8 [.ref 87, .int (nI 1), .int (nI r), .int (nI q), .double ((csel (fun a => vlN (rcS o (H 1).1 (H 1).2 (fun d => f1 (25 * r + d)) q a (fC a)) (f1 (25 * r + q))) k).2), .null, .int (nI (k + 2)), .null, .null] [] h P
  | 0, k, h, hg, hO, hS => by
    have e : k = 61 := by omega
    subst e
    refine AX.iload (pc := 8) dX12_bestRace_8 rfl ?_
    refine AX.bipush (pc := 10) (v := nI 62) dX12_bestRace_10 (by decide) ?_
    refine AX.icmp_gtN (pc := 12) (tgt := 70) dX12_bestRace_12 (by decide) (by decide) (by decide) (fun hc12 => ?_) (fun q => absurd q (by decide))
    refine AX.dload (pc := 70) dX12_bestRace_70 rfl ?_
    refine AX.dret (pc := 72) dX12_bestRace_72 rfl (by decide) (by decide) ?_
    exact hP h hS hO
  | g + 1, k, h, hg, hO, hS => by
    have hn := hS.le hn0
    have hz_ : ∀ a, 1 ≤ a → a < 63 → vOK (rcS o (H 1).1 (H 1).2 (fun d => f1 (25 * r + d)) q a (fC a)) (f1 (25 * r + q)) ∧ rB (n + 1) (vlN (rcS o (H 1).1 (H 1).2 (fun d => f1 (25 * r + d)) q a (fC a)) (f1 (25 * r + q))) ∧ (rcS o (H 1).1 (H 1).2 (fun d => f1 (25 * r + d)) q a (fC a)).2 ≤ 1000 := fun a a1 a2 => zOK_rc hs hrg hV a n _ a1 a2 (Nat.le_refl _) hn1 hy
    have hz : csel (fun a => vlN (rcS o (H 1).1 (H 1).2 (fun d => f1 (25 * r + d)) q a (fC a)) (f1 (25 * r + q))) (k + 1) = if dgt (vlN (rcS o (H 1).1 (H 1).2 (fun d => f1 (25 * r + d)) q (k + 2) (fC (k + 2))) (f1 (25 * r + q))) (csel (fun a => vlN (rcS o (H 1).1 (H 1).2 (fun d => f1 (25 * r + d)) q a (fC a)) (f1 (25 * r + q))) k).2 = true then (k + 2, vlN (rcS o (H 1).1 (H 1).2 (fun d => f1 (25 * r + d)) q (k + 2) (fC (k + 2))) (f1 (25 * r + q))) else csel (fun a => vlN (rcS o (H 1).1 (H 1).2 (fun d => f1 (25 * r + d)) q a (fC a)) (f1 (25 * r + q))) k := rfl
    refine AX.iload (pc := 8) dX12_bestRace_8 rfl ?_
    refine AX.bipush (pc := 10) (v := nI 62) dX12_bestRace_10 (by decide) ?_
    refine AX.icmp_gtN (pc := 12) (tgt := 70) dX12_bestRace_12 (by decide) (by omega) (by decide) (fun q => absurd q (by omega)) (fun hc12 => ?_)
    refine AX.aload_n (pc := 15) dX12_bestRace_15 rfl ?_
    refine AX.iload_n (pc := 16) dX12_bestRace_16 rfl ?_
    refine AX.iload (pc := 17) dX12_bestRace_17 rfl ?_
    refine AX.iload_n (pc := 19) dX12_bestRace_19 rfl ?_
    refine AX.iload_n (pc := 20) dX12_bestRace_20 rfl ?_
    refine AX.callV (pc := 21) (M2 := M_X12_raceValue) (As := [.int (nI 1), .int (nI (k + 2)), .int (nI r), .int (nI q)]) (rest := []) (c_rv1 w h hn (v := _) hO (hN0.same hS (by simp)) ho12 ho (hB0.same hS (by simp) (by simp) (by simp)) (hS.at (by simp) e0) hs hrg hn1 hV (hz_ (k + 2) (show 1 ≤ k + 2 by omega) (show k + 2 < 63 by omega)).1 (hz_ (k + 2) (show 1 ≤ k + 2 by omega) (show k + 2 < 63 by omega)).2.2 r1 r2 q1 q2 (show 1 ≤ k + 2 by omega) (show k + 2 < 63 by omega)) xc_X12_bestRace__X12_raceValue gX12_bestRace_X12_raceValue (ci := 11) rfl (lt_k hn (by omega)) hO rfl (Nat.le_of_ble_eq_true rfl) dX12_bestRace_21 ?_
    rintro _ h9 ⟨rfl, e9⟩
    have e9 := e9.symm
    subst e9
    show AX w M_X12_bestRace 0 0 24 [.ref 87, .int (nI 1), .int (nI r), .int (nI q), .double ((csel (fun a => vlN (rcS o (H 1).1 (H 1).2 (fun d => f1 (25 * r + d)) q a (fC a)) (f1 (25 * r + q))) k).2), .null, .int (nI (k + 2)), .null, .null] [.double (vlN (rcS o (H 1).1 (H 1).2 (fun d => f1 (25 * r + d)) q (k + 2) (fC (k + 2))) (f1 (25 * r + q)))] _ _
    refine AX.dstore (pc := 24) (L' := [.ref 87, .int (nI 1), .int (nI r), .int (nI q), .double ((csel (fun a => vlN (rcS o (H 1).1 (H 1).2 (fun d => f1 (25 * r + d)) q a (fC a)) (f1 (25 * r + q))) k).2), .null, .int (nI (k + 2)), .double (vlN (rcS o (H 1).1 (H 1).2 (fun d => f1 (25 * r + d)) q (k + 2) (fC (k + 2))) (f1 (25 * r + q))), .null]) dX12_bestRace_24 (by decide) rfl ?_
    refine AX.aload_n (pc := 26) dX12_bestRace_26 rfl ?_
    refine AX.dload (pc := 27) dX12_bestRace_27 rfl ?_
    refine AX.dload (pc := 29) dX12_bestRace_29 rfl ?_
    refine AX.dcmp (pc := 31) dX12_bestRace_31 ?_
    refine AX.if_le (pc := 32) (tgt := 40) dX12_bestRace_32 (by decide) (fun hc32 => ?_) (fun hc32 => ?_)
    · refine AX.aload_n (pc := 40) dX12_bestRace_40 rfl ?_
      refine AX.getf (pc := 41) fX12_bestRace_224 (lt_k hn (by omega)) hO rfl dX12_bestRace_41 ?_
      refine AX.putf (pc := 44) (fs' := [.ref 88, .ref 89, .ref 90, .int (v 0), .int (v 1), .ref 91, .ref 92, .ref 93, .ref 94, .ref 95, .ref 96, .ref 97, .ref 98, .ref 99, .ref 100, .ref 101, .int (v 2), .ref 102, .ref 103, .ref 104, .ref 105, .ref 106, .ref 107, .ref 108, .int (nI ((csel (fun a => vlN (rcS o (H 1).1 (H 1).2 (fun d => f1 (25 * r + d)) q a (fC a)) (f1 (25 * r + q))) k).1)), .ref 109, .int (v 4), .ref 110, .ref 111, .int (v 5), .ref 112, .int (v 6), .int (v 7), .int (v 8), .ref 113, .int (v 9), .ref 114, .ref 115, .ref 116, .ref 117]) fX12_bestRace_224 rfl (lt_k hn (by omega)) hO (Nat.le_of_ble_eq_true rfl) rfl rfl rfl dX12_bestRace_44 ?_
      refine AX.dload (pc := 47) dX12_bestRace_47 rfl ?_
      refine AX.dload (pc := 49) dX12_bestRace_49 rfl ?_
      refine AX.dcmp (pc := 51) dX12_bestRace_51 ?_
      refine AX.if_le (pc := 52) (tgt := 60) dX12_bestRace_52 (by decide) (fun hc52 => ?_) (fun q => absurd hc32 q)
      refine AX.dload (pc := 60) dX12_bestRace_60 rfl ?_
      refine AX.dstore (pc := 62) (L' := [.ref 87, .int (nI 1), .int (nI r), .int (nI q), .double ((csel (fun a => vlN (rcS o (H 1).1 (H 1).2 (fun d => f1 (25 * r + d)) q a (fC a)) (f1 (25 * r + q))) k).2), .null, .int (nI (k + 2)), .double (vlN (rcS o (H 1).1 (H 1).2 (fun d => f1 (25 * r + d)) q (k + 2) (fC (k + 2))) (f1 (25 * r + q))), .null]) dX12_bestRace_62 (by decide) rfl ?_
      refine AX.iincN (c := k + 3) (pc := 64) (L' := [.ref 87, .int (nI 1), .int (nI r), .int (nI q), .double ((csel (fun a => vlN (rcS o (H 1).1 (H 1).2 (fun d => f1 (25 * r + d)) q a (fC a)) (f1 (25 * r + q))) k).2), .null, .int (nI (k + 3)), .double (vlN (rcS o (H 1).1 (H 1).2 (fun d => f1 (25 * r + d)) q (k + 2) (fC (k + 2))) (f1 (25 * r + q))), .null]) dX12_bestRace_64 rfl (inc1 _) (by decide) rfl ?_
      refine AX.goto (pc := 67) (tgt := 8) dX12_bestRace_67 (by decide) ?_
      have sx : Same [87] h (xset h 87 (.inr (11, [.ref 88, .ref 89, .ref 90, .int (v 0), .int (v 1), .ref 91, .ref 92, .ref 93, .ref 94, .ref 95, .ref 96, .ref 97, .ref 98, .ref 99, .ref 100, .ref 101, .int (v 2), .ref 102, .ref 103, .ref 104, .ref 105, .ref 106, .ref 107, .ref 108, .int (nI ((csel (fun a => vlN (rcS o (H 1).1 (H 1).2 (fun d => f1 (25 * r + d)) q a (fC a)) (f1 (25 * r + q))) k).1)), .ref 109, .int (v 4), .ref 110, .ref 111, .int (v 5), .ref 112, .int (v 6), .int (v 7), .int (v 8), .ref 113, .int (v 9), .ref 114, .ref 115, .ref 116, .ref 117]))) := Same.rest
      have hz : csel (fun a => vlN (rcS o (H 1).1 (H 1).2 (fun d => f1 (25 * r + d)) q a (fC a)) (f1 (25 * r + q))) (k + 1) = csel (fun a => vlN (rcS o (H 1).1 (H 1).2 (fun d => f1 (25 * r + d)) q a (fC a)) (f1 (25 * r + q))) k := by rw [hz]; exact if_neg (fun q => cmpl_yes hc32 (of_decide_eq_true q))
      have ih := l_br1 w P h0 hn0 hN0 ho12 ho hB0 e0 hs hrg hn1 hV hy r1 r2 q1 q2 hP g (k + 1) (xset h 87 (.inr (11, [.ref 88, .ref 89, .ref 90, .int (v 0), .int (v 1), .ref 91, .ref 92, .ref 93, .ref 94, .ref 95, .ref 96, .ref 97, .ref 98, .ref 99, .ref 100, .ref 101, .int (v 2), .ref 102, .ref 103, .ref 104, .ref 105, .ref 106, .ref 107, .ref 108, .int (nI ((csel (fun a => vlN (rcS o (H 1).1 (H 1).2 (fun d => f1 (25 * r + d)) q a (fC a)) (f1 (25 * r + q))) k).1)), .ref 109, .int (v 4), .ref 110, .ref 111, .int (v 5), .ref 112, .int (v 6), .int (v 7), .int (v 8), .ref 113, .int (v 9), .ref 114, .ref 115, .ref 116, .ref 117]))) (by omega) (by rw [hz]; exact xset_same _ _ _) (hS.trans sx)
      rw [hz] at ih
      refine AX.sub (L' := [.ref 87, .int (nI 1), .int (nI r), .int (nI q), .double ((csel (fun a => vlN (rcS o (H 1).1 (H 1).2 (fun d => f1 (25 * r + d)) q a (fC a)) (f1 (25 * r + q))) k).2), .null, .int (nI (k + 1 + 2)), .null, .null]) ⟨Or.inr rfl, Or.inr rfl, Or.inr rfl, Or.inr rfl, Or.inr rfl, Or.inl rfl, Or.inr rfl, Or.inl rfl, Or.inl rfl, trivial⟩ ?_
      exact ih
    · refine AX.iload (pc := 35) dX12_bestRace_35 rfl ?_
      refine AX.goto (pc := 37) (tgt := 44) dX12_bestRace_37 (by decide) ?_
      refine AX.putf (pc := 44) (fs' := [.ref 88, .ref 89, .ref 90, .int (v 0), .int (v 1), .ref 91, .ref 92, .ref 93, .ref 94, .ref 95, .ref 96, .ref 97, .ref 98, .ref 99, .ref 100, .ref 101, .int (v 2), .ref 102, .ref 103, .ref 104, .ref 105, .ref 106, .ref 107, .ref 108, .int (nI (k + 2)), .ref 109, .int (v 4), .ref 110, .ref 111, .int (v 5), .ref 112, .int (v 6), .int (v 7), .int (v 8), .ref 113, .int (v 9), .ref 114, .ref 115, .ref 116, .ref 117]) fX12_bestRace_224 rfl (lt_k hn (by omega)) hO (Nat.le_of_ble_eq_true rfl) rfl rfl rfl dX12_bestRace_44 ?_
      refine AX.dload (pc := 47) dX12_bestRace_47 rfl ?_
      refine AX.dload (pc := 49) dX12_bestRace_49 rfl ?_
      refine AX.dcmp (pc := 51) dX12_bestRace_51 ?_
      refine AX.if_le (pc := 52) (tgt := 60) dX12_bestRace_52 (by decide) (fun q => absurd q hc32) (fun hc52 => ?_)
      refine AX.dload (pc := 55) dX12_bestRace_55 rfl ?_
      refine AX.goto (pc := 57) (tgt := 62) dX12_bestRace_57 (by decide) ?_
      refine AX.dstore (pc := 62) (L' := [.ref 87, .int (nI 1), .int (nI r), .int (nI q), .double (vlN (rcS o (H 1).1 (H 1).2 (fun d => f1 (25 * r + d)) q (k + 2) (fC (k + 2))) (f1 (25 * r + q))), .null, .int (nI (k + 2)), .double (vlN (rcS o (H 1).1 (H 1).2 (fun d => f1 (25 * r + d)) q (k + 2) (fC (k + 2))) (f1 (25 * r + q))), .null]) dX12_bestRace_62 (by decide) rfl ?_
      refine AX.iincN (c := k + 3) (pc := 64) (L' := [.ref 87, .int (nI 1), .int (nI r), .int (nI q), .double (vlN (rcS o (H 1).1 (H 1).2 (fun d => f1 (25 * r + d)) q (k + 2) (fC (k + 2))) (f1 (25 * r + q))), .null, .int (nI (k + 3)), .double (vlN (rcS o (H 1).1 (H 1).2 (fun d => f1 (25 * r + d)) q (k + 2) (fC (k + 2))) (f1 (25 * r + q))), .null]) dX12_bestRace_64 rfl (inc1 _) (by decide) rfl ?_
      refine AX.goto (pc := 67) (tgt := 8) dX12_bestRace_67 (by decide) ?_
      have sx : Same [87] h (xset h 87 (.inr (11, [.ref 88, .ref 89, .ref 90, .int (v 0), .int (v 1), .ref 91, .ref 92, .ref 93, .ref 94, .ref 95, .ref 96, .ref 97, .ref 98, .ref 99, .ref 100, .ref 101, .int (v 2), .ref 102, .ref 103, .ref 104, .ref 105, .ref 106, .ref 107, .ref 108, .int (nI (k + 2)), .ref 109, .int (v 4), .ref 110, .ref 111, .int (v 5), .ref 112, .int (v 6), .int (v 7), .int (v 8), .ref 113, .int (v 9), .ref 114, .ref 115, .ref 116, .ref 117]))) := Same.rest
      have hz : csel (fun a => vlN (rcS o (H 1).1 (H 1).2 (fun d => f1 (25 * r + d)) q a (fC a)) (f1 (25 * r + q))) (k + 1) = (k + 2, vlN (rcS o (H 1).1 (H 1).2 (fun d => f1 (25 * r + d)) q (k + 2) (fC (k + 2))) (f1 (25 * r + q))) := by rw [hz]; exact if_pos (decide_eq_true (cmpl_not hc32))
      have ih := l_br1 w P h0 hn0 hN0 ho12 ho hB0 e0 hs hrg hn1 hV hy r1 r2 q1 q2 hP g (k + 1) (xset h 87 (.inr (11, [.ref 88, .ref 89, .ref 90, .int (v 0), .int (v 1), .ref 91, .ref 92, .ref 93, .ref 94, .ref 95, .ref 96, .ref 97, .ref 98, .ref 99, .ref 100, .ref 101, .int (v 2), .ref 102, .ref 103, .ref 104, .ref 105, .ref 106, .ref 107, .ref 108, .int (nI (k + 2)), .ref 109, .int (v 4), .ref 110, .ref 111, .int (v 5), .ref 112, .int (v 6), .int (v 7), .int (v 8), .ref 113, .int (v 9), .ref 114, .ref 115, .ref 116, .ref 117]))) (by omega) (by rw [hz]; exact xset_same _ _ _) (hS.trans sx)
      rw [hz] at ih
      refine AX.sub (L' := [.ref 87, .int (nI 1), .int (nI r), .int (nI q), .double (vlN (rcS o (H 1).1 (H 1).2 (fun d => f1 (25 * r + d)) q (k + 2) (fC (k + 2))) (f1 (25 * r + q))), .null, .int (nI (k + 1 + 2)), .null, .null]) ⟨Or.inr rfl, Or.inr rfl, Or.inr rfl, Or.inr rfl, Or.inr rfl, Or.inl rfl, Or.inr rfl, Or.inl rfl, Or.inl rfl, trivial⟩ ?_
      exact ih
theorem c_best1 (w : XW) (h : XH) {v qq : Nat → Int32} {f1 : Nat → UInt64} {H : Nat → Nat × Nat} {o r q n : Nat} (hn0 : 118 ≤ h.1) (hN0 : iA h 89 19 qq) (ho12 : qq 12 = nI o) (ho : o ≤ 2) (hB0 : BL h H) (e0 : h.2 102 = .inl (2, 625, .inr (.inr (.inr (.inl f1))))) (hs : (H 1).1 ≤ 200) (hrg : (H 1).2 ≤ 200) (hn1 : n ≤ 10000) (hV : ∀ d, d < q → leN o ≤ d → rB n (f1 (25 * r + d))) (hy : rB n (f1 (25 * r + q))) (r1 : 1 ≤ r) (r2 : r ≤ 24) (q1 : 1 ≤ q) (q2 : q ≤ 24) (hO : MO h v) : CA w M_X12_bestRace [.ref 87, .int (nI 1), .int (nI r), .int (nI q)] h (fun v' h' => v' = some (.double (swV (fun a => rcS o (H 1).1 (H 1).2 (fun d => f1 (25 * r + d)) q a (fC a)) (f1 (25 * r + q)))) ∧ Same [87] h h' ∧ MO h' (upd v 3 (nI (swA (fun a => rcS o (H 1).1 (H 1).2 (fun d => f1 (25 * r + d)) q a (fC a)) (f1 (25 * r + q))).1))) := by
  refine CA.of (by decide) rfl (fun _ => Nat.le_of_ble_eq_true rfl) ?_
  have hn := hn0
  have hS : Same [87] h h := Same.rf
  have hz_ : ∀ a, 1 ≤ a → a < 63 → vOK (rcS o (H 1).1 (H 1).2 (fun d => f1 (25 * r + d)) q a (fC a)) (f1 (25 * r + q)) ∧ rB (n + 1) (vlN (rcS o (H 1).1 (H 1).2 (fun d => f1 (25 * r + d)) q a (fC a)) (f1 (25 * r + q))) ∧ (rcS o (H 1).1 (H 1).2 (fun d => f1 (25 * r + d)) q a (fC a)).2 ≤ 1000 := fun a a1 a2 => zOK_rc hs hrg hV a n _ a1 a2 (Nat.le_refl _) hn1 hy
  have hgt := km1_gtR (hz_ 1 (by omega) (by omega)).2.1 (by omega)
  show AX w M_X12_bestRace 0 0 0 [.ref 87, .int (nI 1), .int (nI r), .int (nI q), .null, .null, .null, .null, .null] [] h _
  refine AX.ldc2d (pc := 0) (v := 13830554455654793216) dX12_bestRace_0 cX12_bestRace_158 ?_
  refine AX.dstore (pc := 3) (L' := [.ref 87, .int (nI 1), .int (nI r), .int (nI q), .double 13830554455654793216, .null, .null, .null, .null]) dX12_bestRace_3 (by decide) rfl ?_
  refine AX.iconst (pc := 5) (v := nI 1) dX12_bestRace_5 (by decide) ?_
  refine AX.istore (pc := 6) (L' := [.ref 87, .int (nI 1), .int (nI r), .int (nI q), .double 13830554455654793216, .null, .int (nI 1), .null, .null]) dX12_bestRace_6 (by decide) rfl ?_
  refine AX.iload (pc := 8) dX12_bestRace_8 rfl ?_
  refine AX.bipush (pc := 10) (v := nI 62) dX12_bestRace_10 (by decide) ?_
  refine AX.icmp_gtN (pc := 12) (tgt := 70) dX12_bestRace_12 (by decide) (by decide) (by decide) (fun q => absurd q (by decide)) (fun hc12 => ?_)
  refine AX.aload_n (pc := 15) dX12_bestRace_15 rfl ?_
  refine AX.iload_n (pc := 16) dX12_bestRace_16 rfl ?_
  refine AX.iload (pc := 17) dX12_bestRace_17 rfl ?_
  refine AX.iload_n (pc := 19) dX12_bestRace_19 rfl ?_
  refine AX.iload_n (pc := 20) dX12_bestRace_20 rfl ?_
  refine AX.callV (pc := 21) (M2 := M_X12_raceValue) (As := [.int (nI 1), .int (nI 1), .int (nI r), .int (nI q)]) (rest := []) (c_rv1 w h hn (v := _) hO (hN0.same hS (by simp)) ho12 ho (hB0.same hS (by simp) (by simp) (by simp)) (hS.at (by simp) e0) hs hrg hn1 hV (hz_ 1 (show 1 ≤ 1 by omega) (show 1 < 63 by omega)).1 (hz_ 1 (show 1 ≤ 1 by omega) (show 1 < 63 by omega)).2.2 r1 r2 q1 q2 (show 1 ≤ 1 by omega) (show 1 < 63 by omega)) xc_X12_bestRace__X12_raceValue gX12_bestRace_X12_raceValue (ci := 11) rfl (lt_k hn (by omega)) hO rfl (Nat.le_of_ble_eq_true rfl) dX12_bestRace_21 ?_
  rintro _ h9 ⟨rfl, e9⟩
  have e9 := e9.symm
  subst e9
  show AX w M_X12_bestRace 0 0 24 [.ref 87, .int (nI 1), .int (nI r), .int (nI q), .double 13830554455654793216, .null, .int (nI 1), .null, .null] [.double (vlN (rcS o (H 1).1 (H 1).2 (fun d => f1 (25 * r + d)) q 1 (fC 1)) (f1 (25 * r + q)))] _ _
  refine AX.dstore (pc := 24) (L' := [.ref 87, .int (nI 1), .int (nI r), .int (nI q), .double 13830554455654793216, .null, .int (nI 1), .double (vlN (rcS o (H 1).1 (H 1).2 (fun d => f1 (25 * r + d)) q 1 (fC 1)) (f1 (25 * r + q))), .null]) dX12_bestRace_24 (by decide) rfl ?_
  refine AX.aload_n (pc := 26) dX12_bestRace_26 rfl ?_
  refine AX.dload (pc := 27) dX12_bestRace_27 rfl ?_
  refine AX.dload (pc := 29) dX12_bestRace_29 rfl ?_
  refine AX.dcmp (pc := 31) dX12_bestRace_31 ?_
  refine AX.if_le (pc := 32) (tgt := 40) dX12_bestRace_32 (by decide) (fun q => absurd q (cmpl_gt hgt)) (fun hc32 => ?_)
  refine AX.iload (pc := 35) dX12_bestRace_35 rfl ?_
  refine AX.goto (pc := 37) (tgt := 44) dX12_bestRace_37 (by decide) ?_
  refine AX.putf (pc := 44) (fs' := [.ref 88, .ref 89, .ref 90, .int (v 0), .int (v 1), .ref 91, .ref 92, .ref 93, .ref 94, .ref 95, .ref 96, .ref 97, .ref 98, .ref 99, .ref 100, .ref 101, .int (v 2), .ref 102, .ref 103, .ref 104, .ref 105, .ref 106, .ref 107, .ref 108, .int (nI 1), .ref 109, .int (v 4), .ref 110, .ref 111, .int (v 5), .ref 112, .int (v 6), .int (v 7), .int (v 8), .ref 113, .int (v 9), .ref 114, .ref 115, .ref 116, .ref 117]) fX12_bestRace_224 rfl (lt_k hn (by omega)) hO (Nat.le_of_ble_eq_true rfl) rfl rfl rfl dX12_bestRace_44 ?_
  refine AX.dload (pc := 47) dX12_bestRace_47 rfl ?_
  refine AX.dload (pc := 49) dX12_bestRace_49 rfl ?_
  refine AX.dcmp (pc := 51) dX12_bestRace_51 ?_
  refine AX.if_le (pc := 52) (tgt := 60) dX12_bestRace_52 (by decide) (fun q => absurd q (cmpl_gt hgt)) (fun hc52 => ?_)
  refine AX.dload (pc := 55) dX12_bestRace_55 rfl ?_
  refine AX.goto (pc := 57) (tgt := 62) dX12_bestRace_57 (by decide) ?_
  refine AX.dstore (pc := 62) (L' := [.ref 87, .int (nI 1), .int (nI r), .int (nI q), .double (vlN (rcS o (H 1).1 (H 1).2 (fun d => f1 (25 * r + d)) q 1 (fC 1)) (f1 (25 * r + q))), .null, .int (nI 1), .double (vlN (rcS o (H 1).1 (H 1).2 (fun d => f1 (25 * r + d)) q 1 (fC 1)) (f1 (25 * r + q))), .null]) dX12_bestRace_62 (by decide) rfl ?_
  refine AX.iincN (c := 2) (pc := 64) (L' := [.ref 87, .int (nI 1), .int (nI r), .int (nI q), .double (vlN (rcS o (H 1).1 (H 1).2 (fun d => f1 (25 * r + d)) q 1 (fC 1)) (f1 (25 * r + q))), .null, .int (nI 2), .double (vlN (rcS o (H 1).1 (H 1).2 (fun d => f1 (25 * r + d)) q 1 (fC 1)) (f1 (25 * r + q))), .null]) dX12_bestRace_64 rfl (inc1 _) (by decide) rfl ?_
  refine AX.goto (pc := 67) (tgt := 8) dX12_bestRace_67 (by decide) ?_
  have sx : Same [87] h (xset h 87 (.inr (11, [.ref 88, .ref 89, .ref 90, .int (v 0), .int (v 1), .ref 91, .ref 92, .ref 93, .ref 94, .ref 95, .ref 96, .ref 97, .ref 98, .ref 99, .ref 100, .ref 101, .int (v 2), .ref 102, .ref 103, .ref 104, .ref 105, .ref 106, .ref 107, .ref 108, .int (nI 1), .ref 109, .int (v 4), .ref 110, .ref 111, .int (v 5), .ref 112, .int (v 6), .int (v 7), .int (v 8), .ref 113, .int (v 9), .ref 114, .ref 115, .ref 116, .ref 117]))) := Same.rest
  have ih := l_br1 w (fun v' h' => v' = some (.double (swV (fun a => rcS o (H 1).1 (H 1).2 (fun d => f1 (25 * r + d)) q a (fC a)) (f1 (25 * r + q)))) ∧ Same [87] h h' ∧ MO h' (upd v 3 (nI (swA (fun a => rcS o (H 1).1 (H 1).2 (fun d => f1 (25 * r + d)) q a (fC a)) (f1 (25 * r + q))).1))) h (v := v) hn0 hN0 ho12 ho hB0 e0 hs hrg hn1 hV hy r1 r2 q1 q2 (fun h2 t2 O2 => ⟨by rw [(csel_in (fun a => vlN (rcS o (H 1).1 (H 1).2 (fun d => f1 (25 * r + d)) q a (fC a)) (f1 (25 * r + q))) 61).2.2]; rfl, t2, O2⟩) 61 0 (xset h 87 (.inr (11, [.ref 88, .ref 89, .ref 90, .int (v 0), .int (v 1), .ref 91, .ref 92, .ref 93, .ref 94, .ref 95, .ref 96, .ref 97, .ref 98, .ref 99, .ref 100, .ref 101, .int (v 2), .ref 102, .ref 103, .ref 104, .ref 105, .ref 106, .ref 107, .ref 108, .int (nI 1), .ref 109, .int (v 4), .ref 110, .ref 111, .int (v 5), .ref 112, .int (v 6), .int (v 7), .int (v 8), .ref 113, .int (v 9), .ref 114, .ref 115, .ref 116, .ref 117]))) rfl (by exact xset_same _ _ _) (hS.trans sx)
  refine AX.sub (L' := [.ref 87, .int (nI 1), .int (nI r), .int (nI q), .double (vlN (rcS o (H 1).1 (H 1).2 (fun d => f1 (25 * r + d)) q 1 (fC 1)) (f1 (25 * r + q))), .null, .int (nI 2), .null, .null]) ⟨Or.inr rfl, Or.inr rfl, Or.inr rfl, Or.inr rfl, Or.inr rfl, Or.inl rfl, Or.inr rfl, Or.inl rfl, Or.inl rfl, trivial⟩ ?_
  exact ih
