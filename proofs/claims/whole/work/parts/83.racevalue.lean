/-! ===== THE REFERENCE: the value of an AIM in THE RACE ===== -/
theorem BB.at {H : Nat → Nat × Nat} {m s x : Nat → Int32} (X : BB H 126 m s x) {u a : Nat} (hu : u ≤ 1) (h1 : 1 ≤ a) (h2 : a < 63) : m (63 * u + a) = nI (fC a) ∧ ∀ i, i < fC a → s (5 * (63 * u + a) + i) = nI (fS (5 * a + i)) ∧ x (5 * (63 * u + a) + i) = nI (wtN (H u).1 (H u).2 (5 * a + i)) := by
  have k := X (63 * u + a) (by omega) (by omega)
  rw [show (63 * u + a) % 63 = a by omega, show (63 * u + a) / 63 = u by omega] at k
  exact k
theorem BB.at0 {H : Nat → Nat × Nat} {m s x : Nat → Int32} (X : BB H 126 m s x) {a : Nat} (h1 : 1 ≤ a) (h2 : a < 63) : m a = nI (fC a) ∧ ∀ i, i < fC a → s (5 * a + i) = nI (fS (5 * a + i)) ∧ x (5 * a + i) = nI (wtN (H 0).1 (H 0).2 (5 * a + i)) := by
  have k := X.at (u := 0) (by decide) h1 h2
  rw [Nat.mul_zero, Nat.zero_add] at k
  exact k
theorem BB.at1 {H : Nat → Nat × Nat} {m s x : Nat → Int32} (X : BB H 126 m s x) {a : Nat} (h1 : 1 ≤ a) (h2 : a < 63) : m (63 + a) = nI (fC a) ∧ ∀ i, i < fC a → s (5 * (63 + a) + i) = nI (fS (5 * a + i)) ∧ x (5 * (63 + a) + i) = nI (wtN (H 1).1 (H 1).2 (5 * a + i)) := by
  have k := X.at (u := 1) (by decide) h1 h2
  rw [Nat.mul_one] at k
  exact k
theorem c_lostBy0 (w : XW) (h : XH) {v : Nat → Int32} {f2 : Nat → UInt64} {r q : Nat} (hn : 118 ≤ h.1) (hO : MO h v) (e : h.2 103 = .inl (2, 625, .inr (.inr (.inr (.inl f2))))) (hr : r ≤ 24) (hq : q ≤ 24) (hd : DF (FP.dsub FP.dconst1 (f2 (25 * r + q)))) : CA w M_X12_lostBy [.ref 87, .int (nI 0), .int (nI r), .int (nI q)] h (fun v' h'' => v' = some (.double (FP.dsub FP.dconst1 (f2 (25 * r + q)))) ∧ h'' = h) := by
  refine CA.of (by decide) rfl (fun _ => Nat.le_of_ble_eq_true rfl) ?_
  show AX w M_X12_lostBy 0 0 0 [.ref 87, .int (nI 0), .int (nI r), .int (nI q)] [] h _
  refine AX.dconst1 (pc := 0) dX12_lostBy_0 ?_
  refine AX.iload_n (pc := 1) dX12_lostBy_1 rfl ?_
  refine AX.if_neN (pc := 2) (tgt := 19) dX12_lostBy_2 (by decide) (by decide) (fun q => absurd q (by decide)) (fun hc2 => ?_)
  refine AX.aload_n (pc := 5) dX12_lostBy_5 rfl ?_
  refine AX.getf (pc := 6) fX12_lostBy_56 (lt_k hn (by omega)) hO rfl dX12_lostBy_6 ?_
  refine AX.bipush (pc := 9) (v := nI 25) dX12_lostBy_9 (by decide) ?_
  refine AX.iload_n (pc := 11) dX12_lostBy_11 rfl ?_
  refine AX.imulN (pc := 12) (c := 25 * r) dX12_lostBy_12 rfl ?_
  refine AX.iload_n (pc := 13) dX12_lostBy_13 rfl ?_
  refine AX.iaddN (pc := 14) (c := 25 * r + q) dX12_lostBy_14 rfl ?_
  refine AX.daldN (pc := 15) (i := 25 * r + q) (v := (f2 (25 * r + q))) (lt_k hn (by omega)) e (by decide) (by omega) rfl dX12_lostBy_15 ?_
  refine AX.goto (pc := 16) (tgt := 30) dX12_lostBy_16 (by decide) ?_
  refine AX.dsub (pc := 30) dX12_lostBy_30 (vfn hd) ?_
  refine AX.dret (pc := 31) dX12_lostBy_31 rfl (by decide) (by decide) ?_
  exact ⟨rfl, rfl⟩
theorem c_lostBy1 (w : XW) (h : XH) {v : Nat → Int32} {f1 : Nat → UInt64} {r q : Nat} (hn : 118 ≤ h.1) (hO : MO h v) (e : h.2 102 = .inl (2, 625, .inr (.inr (.inr (.inl f1))))) (hr : r ≤ 24) (hq : q ≤ 24) (hd : DF (FP.dsub FP.dconst1 (f1 (25 * r + q)))) : CA w M_X12_lostBy [.ref 87, .int (nI 1), .int (nI r), .int (nI q)] h (fun v' h'' => v' = some (.double (FP.dsub FP.dconst1 (f1 (25 * r + q)))) ∧ h'' = h) := by
  refine CA.of (by decide) rfl (fun _ => Nat.le_of_ble_eq_true rfl) ?_
  show AX w M_X12_lostBy 0 0 0 [.ref 87, .int (nI 1), .int (nI r), .int (nI q)] [] h _
  refine AX.dconst1 (pc := 0) dX12_lostBy_0 ?_
  refine AX.iload_n (pc := 1) dX12_lostBy_1 rfl ?_
  refine AX.if_neN (pc := 2) (tgt := 19) dX12_lostBy_2 (by decide) (by decide) (fun hc2 => ?_) (fun q => absurd q (by decide))
  refine AX.aload_n (pc := 19) dX12_lostBy_19 rfl ?_
  refine AX.getf (pc := 20) fX12_lostBy_53 (lt_k hn (by omega)) hO rfl dX12_lostBy_20 ?_
  refine AX.bipush (pc := 23) (v := nI 25) dX12_lostBy_23 (by decide) ?_
  refine AX.iload_n (pc := 25) dX12_lostBy_25 rfl ?_
  refine AX.imulN (pc := 26) (c := 25 * r) dX12_lostBy_26 rfl ?_
  refine AX.iload_n (pc := 27) dX12_lostBy_27 rfl ?_
  refine AX.iaddN (pc := 28) (c := 25 * r + q) dX12_lostBy_28 rfl ?_
  refine AX.daldN (pc := 29) (i := 25 * r + q) (v := (f1 (25 * r + q))) (lt_k hn (by omega)) e (by decide) (by omega) rfl dX12_lostBy_29 ?_
  refine AX.dsub (pc := 30) dX12_lostBy_30 (vfn hd) ?_
  refine AX.dret (pc := 31) dX12_lostBy_31 rfl (by decide) (by decide) ?_
  exact ⟨rfl, rfl⟩
theorem l_rv0 (w : XW) (h : XH) {v qq : Nat → Int32} {f2 : Nat → UInt64} {H : Nat → Nat × Nat} {o r q a n : Nat} (hn : 118 ≤ h.1) (hO : MO h v) (hN : iA h 89 19 qq) (ho12 : qq 12 = nI o) (ho : o ≤ 2) (hB : BL h H) (e1 : h.2 103 = .inl (2, 625, .inr (.inr (.inr (.inl f2))))) (hs : (H 0).1 ≤ 200) (hrg : (H 0).2 ≤ 200) (hn1 : n ≤ 10000) (hV : ∀ d, d < r → leN o ≤ d → rB n (f2 (25 * d + q))) (hy : vOK (rcS o (H 0).1 (H 0).2 (fun d => f2 (25 * d + q)) r a (fC a)) (f2 (25 * r + q))) (hy2 : (rcS o (H 0).1 (H 0).2 (fun d => f2 (25 * d + q)) r a (fC a)).2 ≤ 1000) (r1 : 1 ≤ r) (r2 : r ≤ 24) (q1 : 1 ≤ q) (q2 : q ≤ 24) (h1 : 1 ≤ a) (h2 : a < 63) (P : Option Value → XH → Prop) (hP : P (some (.double (vlN (rcS o (H 0).1 (H 0).2 (fun d => f2 (25 * d + q)) r a (fC a)) (f2 (25 * r + q))))) h) : ∀ (g k : Nat), k + g = fC a → AX w M_X12_raceValue 0 0 17 [.ref 87, .int (nI 0), .int (nI a), .int (nI r), .int (nI q), .double ((rcS o (H 0).1 (H 0).2 (fun d => f2 (25 * d + q)) r a k).1), .null, .int (nI ((rcS o (H 0).1 (H 0).2 (fun d => f2 (25 * d + q)) r a k).2)), .int (nI a), .int (nI k), .null, .null, .null, .null, .null] [] h P
  | 0, k, hg => by
    have e : k = fC a := by omega
    subst e
    obtain ⟨m, s, x, e106, e107, e108, hb⟩ := id hB
    obtain ⟨bm, bs⟩ := hb.at0 h1 h2
    have hc5 := fC_le a
    refine AX.iload (pc := 17) dX12_raceValue_17 rfl ?_
    refine AX.aload_n (pc := 19) dX12_raceValue_19 rfl ?_
    refine AX.getf (pc := 20) fX12_raceValue_66 (lt_k hn (by omega)) hO rfl dX12_raceValue_20 ?_
    refine AX.iload (pc := 23) dX12_raceValue_23 rfl ?_
    refine AX.ialdN (pc := 25) (i := a) (v := (nI (fC a))) (lt_k hn (by omega)) e106 (by decide) (by omega) bm dX12_raceValue_25 ?_
    refine AX.icmp_geN (pc := 26) (tgt := 159) dX12_raceValue_26 (by decide) (by omega) (by omega) (fun hc26 => ?_) (fun q => absurd q (Nat.lt_irrefl _))
    refine AX.dload (pc := 159) dX12_raceValue_159 rfl ?_
    refine AX.iload (pc := 161) dX12_raceValue_161 rfl ?_
    refine AX.i2d (pc := 163) dX12_raceValue_163 ?_
    refine AX.ldc2d (pc := 164) (v := 4652007308841189376) dX12_raceValue_164 cX12_raceValue_156 ?_
    refine AX.ddiv (pc := 167) dX12_raceValue_167 (vfn (odW_zv hy2).1) ?_
    refine AX.topd (y := odW (rcS o (H 0).1 (H 0).2 (fun d => f2 (25 * d + q)) r a (fC a)).2) rfl ?_
    refine AX.aload_n (pc := 168) dX12_raceValue_168 rfl ?_
    refine AX.iload_n (pc := 169) dX12_raceValue_169 rfl ?_
    refine AX.iload_n (pc := 170) dX12_raceValue_170 rfl ?_
    refine AX.iload (pc := 171) dX12_raceValue_171 rfl ?_
    refine AX.callV (pc := 173) (M2 := M_X12_lostBy) (As := [.int (nI 0), .int (nI r), .int (nI q)]) (rest := [.double (odW (rcS o (H 0).1 (H 0).2 (fun d => f2 (25 * d + q)) r a (fC a)).2), .double ((rcS o (H 0).1 (H 0).2 (fun d => f2 (25 * d + q)) r a (fC a)).1)]) (c_lostBy0 w h hn hO e1 (show r ≤ 24 by omega) (show q ≤ 24 by omega) hy.1) xc_X12_raceValue__X12_lostBy gX12_raceValue_X12_lostBy (ci := 11) rfl (lt_k hn (by omega)) hO rfl (Nat.le_of_ble_eq_true rfl) dX12_raceValue_173 ?_
    rintro _ h9 ⟨rfl, e9⟩
    have e9 := e9.symm
    subst e9
    show AX w M_X12_raceValue 0 0 176 [.ref 87, .int (nI 0), .int (nI a), .int (nI r), .int (nI q), .double ((rcS o (H 0).1 (H 0).2 (fun d => f2 (25 * d + q)) r a (fC a)).1), .null, .int (nI ((rcS o (H 0).1 (H 0).2 (fun d => f2 (25 * d + q)) r a (fC a)).2)), .int (nI a), .int (nI (fC a)), .null, .null, .null, .null, .null] [.double (FP.dsub FP.dconst1 (f2 (25 * r + q))), .double (odW (rcS o (H 0).1 (H 0).2 (fun d => f2 (25 * d + q)) r a (fC a)).2), .double ((rcS o (H 0).1 (H 0).2 (fun d => f2 (25 * d + q)) r a (fC a)).1)] _ _
    refine AX.dmul (pc := 176) dX12_raceValue_176 (vfn hy.2.1) ?_
    refine AX.dadd (pc := 177) dX12_raceValue_177 (vfn hy.2.2) ?_
    refine AX.dret (pc := 178) dX12_raceValue_178 rfl (by decide) (by decide) ?_
    exact hP
  | g + 1, k, hg => by
    obtain ⟨m, s, x, e106, e107, e108, hb⟩ := id hB
    obtain ⟨bm, bs⟩ := hb.at0 h1 h2
    have hc5 := fC_le a
    have h63 := fS_lt (5 * a + k) (by omega)
    have hwt := wt_le (sd := (H 0).1) (rg := (H 0).2) (q := 5 * a + k) hs hrg (by omega)
    have hS := rcS_ok (o := o) (V := (fun d => f2 (25 * d + q))) hs hrg h1 h2 hn1 hV k (by omega)
    have hS1 := rcS_ok (o := o) (V := (fun d => f2 (25 * d + q))) hs hrg h1 h2 hn1 hV (k + 1) (by omega)
    have hmo := wTo_mono (H 0).1 (H 0).2 a (k := k) (j := fC a) (by omega)
    rw [wTo_all hs hrg h1 h2] at hmo
    have hz : rcS o (H 0).1 (H 0).2 (fun d => f2 (25 * d + q)) r a (k + 1) = match nxN o r (fS (5 * a + k)) with
      | none => ((rcS o (H 0).1 (H 0).2 (fun d => f2 (25 * d + q)) r a k).1, (rcS o (H 0).1 (H 0).2 (fun d => f2 (25 * d + q)) r a k).2 + wtN (H 0).1 (H 0).2 (5 * a + k))
      | some d => if fS (5 * a + k) = 0 then ((rcS o (H 0).1 (H 0).2 (fun d => f2 (25 * d + q)) r a k).1, (rcS o (H 0).1 (H 0).2 (fun d => f2 (25 * d + q)) r a k).2 + wtN (H 0).1 (H 0).2 (5 * a + k)) else if d = 0 then (FP.dadd (rcS o (H 0).1 (H 0).2 (fun d => f2 (25 * d + q)) r a k).1 (odW (wtN (H 0).1 (H 0).2 (5 * a + k))), (rcS o (H 0).1 (H 0).2 (fun d => f2 (25 * d + q)) r a k).2) else (FP.dadd (rcS o (H 0).1 (H 0).2 (fun d => f2 (25 * d + q)) r a k).1 (FP.dmul (odW (wtN (H 0).1 (H 0).2 (5 * a + k))) (FP.dsub FP.dconst1 (f2 (25 * d + q)))), (rcS o (H 0).1 (H 0).2 (fun d => f2 (25 * d + q)) r a k).2) := rfl
    have ih := l_rv0 w h hn hO hN ho12 ho hB e1 hs hrg hn1 hV hy hy2 r1 r2 q1 q2 h1 h2 P hP g (k + 1) (by omega)
    cases hx : nxN o r (fS (5 * a + k)) with
    | none =>
      rw [hx] at hz
      rw [hz] at ih
      refine AX.iload (pc := 17) dX12_raceValue_17 rfl ?_
      refine AX.aload_n (pc := 19) dX12_raceValue_19 rfl ?_
      refine AX.getf (pc := 20) fX12_raceValue_66 (lt_k hn (by omega)) hO rfl dX12_raceValue_20 ?_
      refine AX.iload (pc := 23) dX12_raceValue_23 rfl ?_
      refine AX.ialdN (pc := 25) (i := a) (v := (nI (fC a))) (lt_k hn (by omega)) e106 (by decide) (by omega) bm dX12_raceValue_25 ?_
      refine AX.icmp_geN (pc := 26) (tgt := 159) dX12_raceValue_26 (by decide) (by omega) (by omega) (fun q => absurd q (by omega)) (fun hc26 => ?_)
      refine AX.aload_n (pc := 29) dX12_raceValue_29 rfl ?_
      refine AX.getf (pc := 30) fX12_raceValue_69 (lt_k hn (by omega)) hO rfl dX12_raceValue_30 ?_
      refine AX.iconst (pc := 33) (v := nI 5) dX12_raceValue_33 (by decide) ?_
      refine AX.iload (pc := 34) dX12_raceValue_34 rfl ?_
      refine AX.imulN (pc := 36) (c := 5 * a) dX12_raceValue_36 rfl ?_
      refine AX.iload (pc := 37) dX12_raceValue_37 rfl ?_
      refine AX.iaddN (pc := 39) (c := 5 * a + k) dX12_raceValue_39 rfl ?_
      refine AX.ialdN (pc := 40) (i := 5 * a + k) (v := (nI (fS (5 * a + k)))) (lt_k hn (by omega)) e107 (by decide) (by omega) ((bs k (by omega)).1) dX12_raceValue_40 ?_
      refine AX.istore (pc := 41) (L' := [.ref 87, .int (nI 0), .int (nI a), .int (nI r), .int (nI q), .double ((rcS o (H 0).1 (H 0).2 (fun d => f2 (25 * d + q)) r a k).1), .null, .int (nI ((rcS o (H 0).1 (H 0).2 (fun d => f2 (25 * d + q)) r a k).2)), .int (nI a), .int (nI k), .int (nI (fS (5 * a + k))), .null, .null, .null, .null]) dX12_raceValue_41 (by decide) rfl ?_
      refine AX.aload_n (pc := 43) dX12_raceValue_43 rfl ?_
      refine AX.getf (pc := 44) fX12_raceValue_72 (lt_k hn (by omega)) hO rfl dX12_raceValue_44 ?_
      refine AX.iconst (pc := 47) (v := nI 5) dX12_raceValue_47 (by decide) ?_
      refine AX.iload (pc := 48) dX12_raceValue_48 rfl ?_
      refine AX.imulN (pc := 50) (c := 5 * a) dX12_raceValue_50 rfl ?_
      refine AX.iload (pc := 51) dX12_raceValue_51 rfl ?_
      refine AX.iaddN (pc := 53) (c := 5 * a + k) dX12_raceValue_53 rfl ?_
      refine AX.ialdN (pc := 54) (i := 5 * a + k) (v := (nI (wtN (H 0).1 (H 0).2 (5 * a + k)))) (lt_k hn (by omega)) e108 (by decide) (by omega) ((bs k (by omega)).2) dX12_raceValue_54 ?_
      refine AX.istore (pc := 55) (L' := [.ref 87, .int (nI 0), .int (nI a), .int (nI r), .int (nI q), .double ((rcS o (H 0).1 (H 0).2 (fun d => f2 (25 * d + q)) r a k).1), .null, .int (nI ((rcS o (H 0).1 (H 0).2 (fun d => f2 (25 * d + q)) r a k).2)), .int (nI a), .int (nI k), .int (nI (fS (5 * a + k))), .int (nI (wtN (H 0).1 (H 0).2 (5 * a + k))), .null, .null, .null]) dX12_raceValue_55 (by decide) rfl ?_
      refine AX.aload_n (pc := 57) dX12_raceValue_57 rfl ?_
      refine AX.iload_n (pc := 58) dX12_raceValue_58 rfl ?_
      refine AX.if_neN (pc := 59) (tgt := 66) dX12_raceValue_59 (by decide) (by decide) (fun q => absurd q (by decide)) (fun hc59 => ?_)
      refine AX.iload_n (pc := 62) dX12_raceValue_62 rfl ?_
      refine AX.goto (pc := 63) (tgt := 68) dX12_raceValue_63 (by decide) ?_
      refine AX.iload (pc := 68) dX12_raceValue_68 rfl ?_
      refine AX.callV (pc := 70) (M2 := M_X12_nextRest) (As := [.int (nI r), .int (nI (fS (5 * a + k)))]) (rest := []) (c_nextRest w h hn hO hN ho12 ho r (fS (5 * a + k)) (by omega) h63) xc_X12_raceValue__X12_nextRest gX12_raceValue_X12_nextRest (ci := 11) rfl (lt_k hn (by omega)) hO rfl (Nat.le_of_ble_eq_true rfl) dX12_raceValue_70 ?_
      rintro _ h9 ⟨rfl, e9⟩
      have e9 := e9.symm
      subst e9
      rw [hx]
      show AX w M_X12_raceValue 0 0 73 [.ref 87, .int (nI 0), .int (nI a), .int (nI r), .int (nI q), .double ((rcS o (H 0).1 (H 0).2 (fun d => f2 (25 * d + q)) r a k).1), .null, .int (nI ((rcS o (H 0).1 (H 0).2 (fun d => f2 (25 * d + q)) r a k).2)), .int (nI a), .int (nI k), .int (nI (fS (5 * a + k))), .int (nI (wtN (H 0).1 (H 0).2 (5 * a + k))), .null, .null, .null] [.int (-5)] _ _
      refine AX.istore (pc := 73) (L' := [.ref 87, .int (nI 0), .int (nI a), .int (nI r), .int (nI q), .double ((rcS o (H 0).1 (H 0).2 (fun d => f2 (25 * d + q)) r a k).1), .null, .int (nI ((rcS o (H 0).1 (H 0).2 (fun d => f2 (25 * d + q)) r a k).2)), .int (nI a), .int (nI k), .int (nI (fS (5 * a + k))), .int (nI (wtN (H 0).1 (H 0).2 (5 * a + k))), .int (-5), .null, .null]) dX12_raceValue_73 (by decide) rfl ?_
      refine AX.iload (pc := 75) dX12_raceValue_75 rfl ?_
      refine AX.i2d (pc := 77) dX12_raceValue_77 ?_
      refine AX.ldc2d (pc := 78) (v := 4652007308841189376) dX12_raceValue_78 cX12_raceValue_156 ?_
      refine AX.ddiv (pc := 81) dX12_raceValue_81 (vfn (odW_zv hwt).1) ?_
      refine AX.topd (y := odW (wtN (H 0).1 (H 0).2 (5 * a + k))) rfl ?_
      refine AX.dstore (pc := 82) (L' := [.ref 87, .int (nI 0), .int (nI a), .int (nI r), .int (nI q), .double ((rcS o (H 0).1 (H 0).2 (fun d => f2 (25 * d + q)) r a k).1), .null, .int (nI ((rcS o (H 0).1 (H 0).2 (fun d => f2 (25 * d + q)) r a k).2)), .int (nI a), .int (nI k), .int (nI (fS (5 * a + k))), .int (nI (wtN (H 0).1 (H 0).2 (5 * a + k))), .int (-5), .double (odW (wtN (H 0).1 (H 0).2 (5 * a + k))), .null]) dX12_raceValue_82 (by decide) rfl ?_
      refine AX.iload (pc := 84) dX12_raceValue_84 rfl ?_
      refine AX.if_lt (pc := 86) (tgt := 94) dX12_raceValue_86 (by decide) (fun hc86 => ?_) (fun q => absurd (by decide) q)
      refine AX.iload (pc := 94) dX12_raceValue_94 rfl ?_
      refine AX.iload (pc := 96) dX12_raceValue_96 rfl ?_
      refine AX.iaddN (pc := 98) (c := (rcS o (H 0).1 (H 0).2 (fun d => f2 (25 * d + q)) r a k).2 + (wtN (H 0).1 (H 0).2 (5 * a + k))) dX12_raceValue_98 rfl ?_
      refine AX.istore (pc := 99) (L' := [.ref 87, .int (nI 0), .int (nI a), .int (nI r), .int (nI q), .double ((rcS o (H 0).1 (H 0).2 (fun d => f2 (25 * d + q)) r a k).1), .null, .int (nI ((rcS o (H 0).1 (H 0).2 (fun d => f2 (25 * d + q)) r a k).2 + (wtN (H 0).1 (H 0).2 (5 * a + k)))), .int (nI a), .int (nI k), .int (nI (fS (5 * a + k))), .int (nI (wtN (H 0).1 (H 0).2 (5 * a + k))), .int (-5), .double (odW (wtN (H 0).1 (H 0).2 (5 * a + k))), .null]) dX12_raceValue_99 (by decide) rfl ?_
      refine AX.goto (pc := 101) (tgt := 153) dX12_raceValue_101 (by decide) ?_
      refine AX.iincN (c := k + 1) (pc := 153) (L' := [.ref 87, .int (nI 0), .int (nI a), .int (nI r), .int (nI q), .double ((rcS o (H 0).1 (H 0).2 (fun d => f2 (25 * d + q)) r a k).1), .null, .int (nI ((rcS o (H 0).1 (H 0).2 (fun d => f2 (25 * d + q)) r a k).2 + (wtN (H 0).1 (H 0).2 (5 * a + k)))), .int (nI a), .int (nI (k + 1)), .int (nI (fS (5 * a + k))), .int (nI (wtN (H 0).1 (H 0).2 (5 * a + k))), .int (-5), .double (odW (wtN (H 0).1 (H 0).2 (5 * a + k))), .null]) dX12_raceValue_153 rfl (inc1 _) (by decide) rfl ?_
      refine AX.goto (pc := 156) (tgt := 17) dX12_raceValue_156 (by decide) ?_
      refine AX.sub (L' := [.ref 87, .int (nI 0), .int (nI a), .int (nI r), .int (nI q), .double ((rcS o (H 0).1 (H 0).2 (fun d => f2 (25 * d + q)) r a k).1), .null, .int (nI ((rcS o (H 0).1 (H 0).2 (fun d => f2 (25 * d + q)) r a k).2 + (wtN (H 0).1 (H 0).2 (5 * a + k)))), .int (nI a), .int (nI (k + 1)), .null, .null, .null, .null, .null]) ⟨Or.inr rfl, Or.inr rfl, Or.inr rfl, Or.inr rfl, Or.inr rfl, Or.inr rfl, Or.inl rfl, Or.inr rfl, Or.inr rfl, Or.inr rfl, Or.inl rfl, Or.inl rfl, Or.inl rfl, Or.inl rfl, Or.inl rfl, trivial⟩ ?_
      exact ih
    | some d =>
      have hd := nxN_eq hx
      rw [hx] at hz
      by_cases hf0 : fS (5 * a + k) = 0
      · have hz : rcS o (H 0).1 (H 0).2 (fun d => f2 (25 * d + q)) r a (k + 1) = ((rcS o (H 0).1 (H 0).2 (fun d => f2 (25 * d + q)) r a k).1, (rcS o (H 0).1 (H 0).2 (fun d => f2 (25 * d + q)) r a k).2 + wtN (H 0).1 (H 0).2 (5 * a + k)) := by rw [hz]; exact if_pos hf0
        rw [hz] at ih
        refine AX.iload (pc := 17) dX12_raceValue_17 rfl ?_
        refine AX.aload_n (pc := 19) dX12_raceValue_19 rfl ?_
        refine AX.getf (pc := 20) fX12_raceValue_66 (lt_k hn (by omega)) hO rfl dX12_raceValue_20 ?_
        refine AX.iload (pc := 23) dX12_raceValue_23 rfl ?_
        refine AX.ialdN (pc := 25) (i := a) (v := (nI (fC a))) (lt_k hn (by omega)) e106 (by decide) (by omega) bm dX12_raceValue_25 ?_
        refine AX.icmp_geN (pc := 26) (tgt := 159) dX12_raceValue_26 (by decide) (by omega) (by omega) (fun q => absurd q (by omega)) (fun hc26 => ?_)
        refine AX.aload_n (pc := 29) dX12_raceValue_29 rfl ?_
        refine AX.getf (pc := 30) fX12_raceValue_69 (lt_k hn (by omega)) hO rfl dX12_raceValue_30 ?_
        refine AX.iconst (pc := 33) (v := nI 5) dX12_raceValue_33 (by decide) ?_
        refine AX.iload (pc := 34) dX12_raceValue_34 rfl ?_
        refine AX.imulN (pc := 36) (c := 5 * a) dX12_raceValue_36 rfl ?_
        refine AX.iload (pc := 37) dX12_raceValue_37 rfl ?_
        refine AX.iaddN (pc := 39) (c := 5 * a + k) dX12_raceValue_39 rfl ?_
        refine AX.ialdN (pc := 40) (i := 5 * a + k) (v := (nI (fS (5 * a + k)))) (lt_k hn (by omega)) e107 (by decide) (by omega) ((bs k (by omega)).1) dX12_raceValue_40 ?_
        refine AX.istore (pc := 41) (L' := [.ref 87, .int (nI 0), .int (nI a), .int (nI r), .int (nI q), .double ((rcS o (H 0).1 (H 0).2 (fun d => f2 (25 * d + q)) r a k).1), .null, .int (nI ((rcS o (H 0).1 (H 0).2 (fun d => f2 (25 * d + q)) r a k).2)), .int (nI a), .int (nI k), .int (nI (fS (5 * a + k))), .null, .null, .null, .null]) dX12_raceValue_41 (by decide) rfl ?_
        refine AX.aload_n (pc := 43) dX12_raceValue_43 rfl ?_
        refine AX.getf (pc := 44) fX12_raceValue_72 (lt_k hn (by omega)) hO rfl dX12_raceValue_44 ?_
        refine AX.iconst (pc := 47) (v := nI 5) dX12_raceValue_47 (by decide) ?_
        refine AX.iload (pc := 48) dX12_raceValue_48 rfl ?_
        refine AX.imulN (pc := 50) (c := 5 * a) dX12_raceValue_50 rfl ?_
        refine AX.iload (pc := 51) dX12_raceValue_51 rfl ?_
        refine AX.iaddN (pc := 53) (c := 5 * a + k) dX12_raceValue_53 rfl ?_
        refine AX.ialdN (pc := 54) (i := 5 * a + k) (v := (nI (wtN (H 0).1 (H 0).2 (5 * a + k)))) (lt_k hn (by omega)) e108 (by decide) (by omega) ((bs k (by omega)).2) dX12_raceValue_54 ?_
        refine AX.istore (pc := 55) (L' := [.ref 87, .int (nI 0), .int (nI a), .int (nI r), .int (nI q), .double ((rcS o (H 0).1 (H 0).2 (fun d => f2 (25 * d + q)) r a k).1), .null, .int (nI ((rcS o (H 0).1 (H 0).2 (fun d => f2 (25 * d + q)) r a k).2)), .int (nI a), .int (nI k), .int (nI (fS (5 * a + k))), .int (nI (wtN (H 0).1 (H 0).2 (5 * a + k))), .null, .null, .null]) dX12_raceValue_55 (by decide) rfl ?_
        refine AX.aload_n (pc := 57) dX12_raceValue_57 rfl ?_
        refine AX.iload_n (pc := 58) dX12_raceValue_58 rfl ?_
        refine AX.if_neN (pc := 59) (tgt := 66) dX12_raceValue_59 (by decide) (by decide) (fun q => absurd q (by decide)) (fun hc59 => ?_)
        refine AX.iload_n (pc := 62) dX12_raceValue_62 rfl ?_
        refine AX.goto (pc := 63) (tgt := 68) dX12_raceValue_63 (by decide) ?_
        refine AX.iload (pc := 68) dX12_raceValue_68 rfl ?_
        refine AX.callV (pc := 70) (M2 := M_X12_nextRest) (As := [.int (nI r), .int (nI (fS (5 * a + k)))]) (rest := []) (c_nextRest w h hn hO hN ho12 ho r (fS (5 * a + k)) (by omega) h63) xc_X12_raceValue__X12_nextRest gX12_raceValue_X12_nextRest (ci := 11) rfl (lt_k hn (by omega)) hO rfl (Nat.le_of_ble_eq_true rfl) dX12_raceValue_70 ?_
        rintro _ h9 ⟨rfl, e9⟩
        have e9 := e9.symm
        subst e9
        rw [hx]
        show AX w M_X12_raceValue 0 0 73 [.ref 87, .int (nI 0), .int (nI a), .int (nI r), .int (nI q), .double ((rcS o (H 0).1 (H 0).2 (fun d => f2 (25 * d + q)) r a k).1), .null, .int (nI ((rcS o (H 0).1 (H 0).2 (fun d => f2 (25 * d + q)) r a k).2)), .int (nI a), .int (nI k), .int (nI (fS (5 * a + k))), .int (nI (wtN (H 0).1 (H 0).2 (5 * a + k))), .null, .null, .null] [.int (nI d)] _ _
        refine AX.istore (pc := 73) (L' := [.ref 87, .int (nI 0), .int (nI a), .int (nI r), .int (nI q), .double ((rcS o (H 0).1 (H 0).2 (fun d => f2 (25 * d + q)) r a k).1), .null, .int (nI ((rcS o (H 0).1 (H 0).2 (fun d => f2 (25 * d + q)) r a k).2)), .int (nI a), .int (nI k), .int (nI (fS (5 * a + k))), .int (nI (wtN (H 0).1 (H 0).2 (5 * a + k))), .int (nI d), .null, .null]) dX12_raceValue_73 (by decide) rfl ?_
        refine AX.iload (pc := 75) dX12_raceValue_75 rfl ?_
        refine AX.i2d (pc := 77) dX12_raceValue_77 ?_
        refine AX.ldc2d (pc := 78) (v := 4652007308841189376) dX12_raceValue_78 cX12_raceValue_156 ?_
        refine AX.ddiv (pc := 81) dX12_raceValue_81 (vfn (odW_zv hwt).1) ?_
        refine AX.topd (y := odW (wtN (H 0).1 (H 0).2 (5 * a + k))) rfl ?_
        refine AX.dstore (pc := 82) (L' := [.ref 87, .int (nI 0), .int (nI a), .int (nI r), .int (nI q), .double ((rcS o (H 0).1 (H 0).2 (fun d => f2 (25 * d + q)) r a k).1), .null, .int (nI ((rcS o (H 0).1 (H 0).2 (fun d => f2 (25 * d + q)) r a k).2)), .int (nI a), .int (nI k), .int (nI (fS (5 * a + k))), .int (nI (wtN (H 0).1 (H 0).2 (5 * a + k))), .int (nI d), .double (odW (wtN (H 0).1 (H 0).2 (5 * a + k))), .null]) dX12_raceValue_82 (by decide) rfl ?_
        refine AX.iload (pc := 84) dX12_raceValue_84 rfl ?_
        refine AX.if_ltN (pc := 86) (tgt := 94) dX12_raceValue_86 (by decide) (by omega) (fun q => absurd q (by omega)) (fun hc86 => ?_)
        refine AX.iload (pc := 89) dX12_raceValue_89 rfl ?_
        refine AX.if_neN (pc := 91) (tgt := 104) dX12_raceValue_91 (by decide) (by omega) (fun q => absurd q (by omega)) (fun hc91 => ?_)
        refine AX.iload (pc := 94) dX12_raceValue_94 rfl ?_
        refine AX.iload (pc := 96) dX12_raceValue_96 rfl ?_
        refine AX.iaddN (pc := 98) (c := (rcS o (H 0).1 (H 0).2 (fun d => f2 (25 * d + q)) r a k).2 + (wtN (H 0).1 (H 0).2 (5 * a + k))) dX12_raceValue_98 rfl ?_
        refine AX.istore (pc := 99) (L' := [.ref 87, .int (nI 0), .int (nI a), .int (nI r), .int (nI q), .double ((rcS o (H 0).1 (H 0).2 (fun d => f2 (25 * d + q)) r a k).1), .null, .int (nI ((rcS o (H 0).1 (H 0).2 (fun d => f2 (25 * d + q)) r a k).2 + (wtN (H 0).1 (H 0).2 (5 * a + k)))), .int (nI a), .int (nI k), .int (nI (fS (5 * a + k))), .int (nI (wtN (H 0).1 (H 0).2 (5 * a + k))), .int (nI d), .double (odW (wtN (H 0).1 (H 0).2 (5 * a + k))), .null]) dX12_raceValue_99 (by decide) rfl ?_
        refine AX.goto (pc := 101) (tgt := 153) dX12_raceValue_101 (by decide) ?_
        refine AX.iincN (c := k + 1) (pc := 153) (L' := [.ref 87, .int (nI 0), .int (nI a), .int (nI r), .int (nI q), .double ((rcS o (H 0).1 (H 0).2 (fun d => f2 (25 * d + q)) r a k).1), .null, .int (nI ((rcS o (H 0).1 (H 0).2 (fun d => f2 (25 * d + q)) r a k).2 + (wtN (H 0).1 (H 0).2 (5 * a + k)))), .int (nI a), .int (nI (k + 1)), .int (nI (fS (5 * a + k))), .int (nI (wtN (H 0).1 (H 0).2 (5 * a + k))), .int (nI d), .double (odW (wtN (H 0).1 (H 0).2 (5 * a + k))), .null]) dX12_raceValue_153 rfl (inc1 _) (by decide) rfl ?_
        refine AX.goto (pc := 156) (tgt := 17) dX12_raceValue_156 (by decide) ?_
        refine AX.sub (L' := [.ref 87, .int (nI 0), .int (nI a), .int (nI r), .int (nI q), .double ((rcS o (H 0).1 (H 0).2 (fun d => f2 (25 * d + q)) r a k).1), .null, .int (nI ((rcS o (H 0).1 (H 0).2 (fun d => f2 (25 * d + q)) r a k).2 + (wtN (H 0).1 (H 0).2 (5 * a + k)))), .int (nI a), .int (nI (k + 1)), .null, .null, .null, .null, .null]) ⟨Or.inr rfl, Or.inr rfl, Or.inr rfl, Or.inr rfl, Or.inr rfl, Or.inr rfl, Or.inl rfl, Or.inr rfl, Or.inr rfl, Or.inr rfl, Or.inl rfl, Or.inl rfl, Or.inl rfl, Or.inl rfl, Or.inl rfl, trivial⟩ ?_
        exact ih
      · have hsc : 0 < scN (fS (5 * a + k)) := by
          have : ∀ s, s < 63 → s ≠ 0 → 0 < scN s := by decide
          exact this _ h63 hf0
        by_cases hd0 : d = 0
        · have hz : rcS o (H 0).1 (H 0).2 (fun d => f2 (25 * d + q)) r a (k + 1) = (FP.dadd (rcS o (H 0).1 (H 0).2 (fun d => f2 (25 * d + q)) r a k).1 (odW (wtN (H 0).1 (H 0).2 (5 * a + k))), (rcS o (H 0).1 (H 0).2 (fun d => f2 (25 * d + q)) r a k).2) := by rw [hz]; exact (if_neg hf0).trans (if_pos hd0)
          rw [hz] at ih hS1
          refine AX.iload (pc := 17) dX12_raceValue_17 rfl ?_
          refine AX.aload_n (pc := 19) dX12_raceValue_19 rfl ?_
          refine AX.getf (pc := 20) fX12_raceValue_66 (lt_k hn (by omega)) hO rfl dX12_raceValue_20 ?_
          refine AX.iload (pc := 23) dX12_raceValue_23 rfl ?_
          refine AX.ialdN (pc := 25) (i := a) (v := (nI (fC a))) (lt_k hn (by omega)) e106 (by decide) (by omega) bm dX12_raceValue_25 ?_
          refine AX.icmp_geN (pc := 26) (tgt := 159) dX12_raceValue_26 (by decide) (by omega) (by omega) (fun q => absurd q (by omega)) (fun hc26 => ?_)
          refine AX.aload_n (pc := 29) dX12_raceValue_29 rfl ?_
          refine AX.getf (pc := 30) fX12_raceValue_69 (lt_k hn (by omega)) hO rfl dX12_raceValue_30 ?_
          refine AX.iconst (pc := 33) (v := nI 5) dX12_raceValue_33 (by decide) ?_
          refine AX.iload (pc := 34) dX12_raceValue_34 rfl ?_
          refine AX.imulN (pc := 36) (c := 5 * a) dX12_raceValue_36 rfl ?_
          refine AX.iload (pc := 37) dX12_raceValue_37 rfl ?_
          refine AX.iaddN (pc := 39) (c := 5 * a + k) dX12_raceValue_39 rfl ?_
          refine AX.ialdN (pc := 40) (i := 5 * a + k) (v := (nI (fS (5 * a + k)))) (lt_k hn (by omega)) e107 (by decide) (by omega) ((bs k (by omega)).1) dX12_raceValue_40 ?_
          refine AX.istore (pc := 41) (L' := [.ref 87, .int (nI 0), .int (nI a), .int (nI r), .int (nI q), .double ((rcS o (H 0).1 (H 0).2 (fun d => f2 (25 * d + q)) r a k).1), .null, .int (nI ((rcS o (H 0).1 (H 0).2 (fun d => f2 (25 * d + q)) r a k).2)), .int (nI a), .int (nI k), .int (nI (fS (5 * a + k))), .null, .null, .null, .null]) dX12_raceValue_41 (by decide) rfl ?_
          refine AX.aload_n (pc := 43) dX12_raceValue_43 rfl ?_
          refine AX.getf (pc := 44) fX12_raceValue_72 (lt_k hn (by omega)) hO rfl dX12_raceValue_44 ?_
          refine AX.iconst (pc := 47) (v := nI 5) dX12_raceValue_47 (by decide) ?_
          refine AX.iload (pc := 48) dX12_raceValue_48 rfl ?_
          refine AX.imulN (pc := 50) (c := 5 * a) dX12_raceValue_50 rfl ?_
          refine AX.iload (pc := 51) dX12_raceValue_51 rfl ?_
          refine AX.iaddN (pc := 53) (c := 5 * a + k) dX12_raceValue_53 rfl ?_
          refine AX.ialdN (pc := 54) (i := 5 * a + k) (v := (nI (wtN (H 0).1 (H 0).2 (5 * a + k)))) (lt_k hn (by omega)) e108 (by decide) (by omega) ((bs k (by omega)).2) dX12_raceValue_54 ?_
          refine AX.istore (pc := 55) (L' := [.ref 87, .int (nI 0), .int (nI a), .int (nI r), .int (nI q), .double ((rcS o (H 0).1 (H 0).2 (fun d => f2 (25 * d + q)) r a k).1), .null, .int (nI ((rcS o (H 0).1 (H 0).2 (fun d => f2 (25 * d + q)) r a k).2)), .int (nI a), .int (nI k), .int (nI (fS (5 * a + k))), .int (nI (wtN (H 0).1 (H 0).2 (5 * a + k))), .null, .null, .null]) dX12_raceValue_55 (by decide) rfl ?_
          refine AX.aload_n (pc := 57) dX12_raceValue_57 rfl ?_
          refine AX.iload_n (pc := 58) dX12_raceValue_58 rfl ?_
          refine AX.if_neN (pc := 59) (tgt := 66) dX12_raceValue_59 (by decide) (by decide) (fun q => absurd q (by decide)) (fun hc59 => ?_)
          refine AX.iload_n (pc := 62) dX12_raceValue_62 rfl ?_
          refine AX.goto (pc := 63) (tgt := 68) dX12_raceValue_63 (by decide) ?_
          refine AX.iload (pc := 68) dX12_raceValue_68 rfl ?_
          refine AX.callV (pc := 70) (M2 := M_X12_nextRest) (As := [.int (nI r), .int (nI (fS (5 * a + k)))]) (rest := []) (c_nextRest w h hn hO hN ho12 ho r (fS (5 * a + k)) (by omega) h63) xc_X12_raceValue__X12_nextRest gX12_raceValue_X12_nextRest (ci := 11) rfl (lt_k hn (by omega)) hO rfl (Nat.le_of_ble_eq_true rfl) dX12_raceValue_70 ?_
          rintro _ h9 ⟨rfl, e9⟩
          have e9 := e9.symm
          subst e9
          rw [hx]
          show AX w M_X12_raceValue 0 0 73 [.ref 87, .int (nI 0), .int (nI a), .int (nI r), .int (nI q), .double ((rcS o (H 0).1 (H 0).2 (fun d => f2 (25 * d + q)) r a k).1), .null, .int (nI ((rcS o (H 0).1 (H 0).2 (fun d => f2 (25 * d + q)) r a k).2)), .int (nI a), .int (nI k), .int (nI (fS (5 * a + k))), .int (nI (wtN (H 0).1 (H 0).2 (5 * a + k))), .null, .null, .null] [.int (nI d)] _ _
          refine AX.istore (pc := 73) (L' := [.ref 87, .int (nI 0), .int (nI a), .int (nI r), .int (nI q), .double ((rcS o (H 0).1 (H 0).2 (fun d => f2 (25 * d + q)) r a k).1), .null, .int (nI ((rcS o (H 0).1 (H 0).2 (fun d => f2 (25 * d + q)) r a k).2)), .int (nI a), .int (nI k), .int (nI (fS (5 * a + k))), .int (nI (wtN (H 0).1 (H 0).2 (5 * a + k))), .int (nI d), .null, .null]) dX12_raceValue_73 (by decide) rfl ?_
          refine AX.iload (pc := 75) dX12_raceValue_75 rfl ?_
          refine AX.i2d (pc := 77) dX12_raceValue_77 ?_
          refine AX.ldc2d (pc := 78) (v := 4652007308841189376) dX12_raceValue_78 cX12_raceValue_156 ?_
          refine AX.ddiv (pc := 81) dX12_raceValue_81 (vfn (odW_zv hwt).1) ?_
          refine AX.topd (y := odW (wtN (H 0).1 (H 0).2 (5 * a + k))) rfl ?_
          refine AX.dstore (pc := 82) (L' := [.ref 87, .int (nI 0), .int (nI a), .int (nI r), .int (nI q), .double ((rcS o (H 0).1 (H 0).2 (fun d => f2 (25 * d + q)) r a k).1), .null, .int (nI ((rcS o (H 0).1 (H 0).2 (fun d => f2 (25 * d + q)) r a k).2)), .int (nI a), .int (nI k), .int (nI (fS (5 * a + k))), .int (nI (wtN (H 0).1 (H 0).2 (5 * a + k))), .int (nI d), .double (odW (wtN (H 0).1 (H 0).2 (5 * a + k))), .null]) dX12_raceValue_82 (by decide) rfl ?_
          refine AX.iload (pc := 84) dX12_raceValue_84 rfl ?_
          refine AX.if_ltN (pc := 86) (tgt := 94) dX12_raceValue_86 (by decide) (by omega) (fun q => absurd q (by omega)) (fun hc86 => ?_)
          refine AX.iload (pc := 89) dX12_raceValue_89 rfl ?_
          refine AX.if_neN (pc := 91) (tgt := 104) dX12_raceValue_91 (by decide) (by omega) (fun hc91 => ?_) (fun q => absurd q (by omega))
          refine AX.iload (pc := 104) dX12_raceValue_104 rfl ?_
          refine AX.if_neN (pc := 106) (tgt := 119) dX12_raceValue_106 (by decide) (by omega) (fun q => absurd q (by omega)) (fun hc106 => ?_)
          refine AX.dload (pc := 109) dX12_raceValue_109 rfl ?_
          refine AX.dload (pc := 111) dX12_raceValue_111 rfl ?_
          refine AX.dadd (pc := 113) dX12_raceValue_113 (vfn hS1.1) ?_
          refine AX.dstore (pc := 114) (L' := [.ref 87, .int (nI 0), .int (nI a), .int (nI r), .int (nI q), .double (FP.dadd ((rcS o (H 0).1 (H 0).2 (fun d => f2 (25 * d + q)) r a k).1) (odW (wtN (H 0).1 (H 0).2 (5 * a + k)))), .null, .int (nI ((rcS o (H 0).1 (H 0).2 (fun d => f2 (25 * d + q)) r a k).2)), .int (nI a), .int (nI k), .int (nI (fS (5 * a + k))), .int (nI (wtN (H 0).1 (H 0).2 (5 * a + k))), .int (nI d), .double (odW (wtN (H 0).1 (H 0).2 (5 * a + k))), .null]) dX12_raceValue_114 (by decide) rfl ?_
          refine AX.goto (pc := 116) (tgt := 153) dX12_raceValue_116 (by decide) ?_
          refine AX.iincN (c := k + 1) (pc := 153) (L' := [.ref 87, .int (nI 0), .int (nI a), .int (nI r), .int (nI q), .double (FP.dadd ((rcS o (H 0).1 (H 0).2 (fun d => f2 (25 * d + q)) r a k).1) (odW (wtN (H 0).1 (H 0).2 (5 * a + k)))), .null, .int (nI ((rcS o (H 0).1 (H 0).2 (fun d => f2 (25 * d + q)) r a k).2)), .int (nI a), .int (nI (k + 1)), .int (nI (fS (5 * a + k))), .int (nI (wtN (H 0).1 (H 0).2 (5 * a + k))), .int (nI d), .double (odW (wtN (H 0).1 (H 0).2 (5 * a + k))), .null]) dX12_raceValue_153 rfl (inc1 _) (by decide) rfl ?_
          refine AX.goto (pc := 156) (tgt := 17) dX12_raceValue_156 (by decide) ?_
          refine AX.sub (L' := [.ref 87, .int (nI 0), .int (nI a), .int (nI r), .int (nI q), .double (FP.dadd ((rcS o (H 0).1 (H 0).2 (fun d => f2 (25 * d + q)) r a k).1) (odW (wtN (H 0).1 (H 0).2 (5 * a + k)))), .null, .int (nI ((rcS o (H 0).1 (H 0).2 (fun d => f2 (25 * d + q)) r a k).2)), .int (nI a), .int (nI (k + 1)), .null, .null, .null, .null, .null]) ⟨Or.inr rfl, Or.inr rfl, Or.inr rfl, Or.inr rfl, Or.inr rfl, Or.inr rfl, Or.inl rfl, Or.inr rfl, Or.inr rfl, Or.inr rfl, Or.inl rfl, Or.inl rfl, Or.inl rfl, Or.inl rfl, Or.inl rfl, trivial⟩ ?_
          exact ih
        · have hz : rcS o (H 0).1 (H 0).2 (fun d => f2 (25 * d + q)) r a (k + 1) = (FP.dadd (rcS o (H 0).1 (H 0).2 (fun d => f2 (25 * d + q)) r a k).1 (FP.dmul (odW (wtN (H 0).1 (H 0).2 (5 * a + k))) (FP.dsub FP.dconst1 (f2 (25 * d + q)))), (rcS o (H 0).1 (H 0).2 (fun d => f2 (25 * d + q)) r a k).2) := by rw [hz]; exact (if_neg hf0).trans (if_neg hd0)
          rw [hz] at ih hS1
          have hVd := hV d (by omega) (by unfold leN; split <;> omega)
          refine AX.iload (pc := 17) dX12_raceValue_17 rfl ?_
          refine AX.aload_n (pc := 19) dX12_raceValue_19 rfl ?_
          refine AX.getf (pc := 20) fX12_raceValue_66 (lt_k hn (by omega)) hO rfl dX12_raceValue_20 ?_
          refine AX.iload (pc := 23) dX12_raceValue_23 rfl ?_
          refine AX.ialdN (pc := 25) (i := a) (v := (nI (fC a))) (lt_k hn (by omega)) e106 (by decide) (by omega) bm dX12_raceValue_25 ?_
          refine AX.icmp_geN (pc := 26) (tgt := 159) dX12_raceValue_26 (by decide) (by omega) (by omega) (fun q => absurd q (by omega)) (fun hc26 => ?_)
          refine AX.aload_n (pc := 29) dX12_raceValue_29 rfl ?_
          refine AX.getf (pc := 30) fX12_raceValue_69 (lt_k hn (by omega)) hO rfl dX12_raceValue_30 ?_
          refine AX.iconst (pc := 33) (v := nI 5) dX12_raceValue_33 (by decide) ?_
          refine AX.iload (pc := 34) dX12_raceValue_34 rfl ?_
          refine AX.imulN (pc := 36) (c := 5 * a) dX12_raceValue_36 rfl ?_
          refine AX.iload (pc := 37) dX12_raceValue_37 rfl ?_
          refine AX.iaddN (pc := 39) (c := 5 * a + k) dX12_raceValue_39 rfl ?_
          refine AX.ialdN (pc := 40) (i := 5 * a + k) (v := (nI (fS (5 * a + k)))) (lt_k hn (by omega)) e107 (by decide) (by omega) ((bs k (by omega)).1) dX12_raceValue_40 ?_
          refine AX.istore (pc := 41) (L' := [.ref 87, .int (nI 0), .int (nI a), .int (nI r), .int (nI q), .double ((rcS o (H 0).1 (H 0).2 (fun d => f2 (25 * d + q)) r a k).1), .null, .int (nI ((rcS o (H 0).1 (H 0).2 (fun d => f2 (25 * d + q)) r a k).2)), .int (nI a), .int (nI k), .int (nI (fS (5 * a + k))), .null, .null, .null, .null]) dX12_raceValue_41 (by decide) rfl ?_
          refine AX.aload_n (pc := 43) dX12_raceValue_43 rfl ?_
          refine AX.getf (pc := 44) fX12_raceValue_72 (lt_k hn (by omega)) hO rfl dX12_raceValue_44 ?_
          refine AX.iconst (pc := 47) (v := nI 5) dX12_raceValue_47 (by decide) ?_
          refine AX.iload (pc := 48) dX12_raceValue_48 rfl ?_
          refine AX.imulN (pc := 50) (c := 5 * a) dX12_raceValue_50 rfl ?_
          refine AX.iload (pc := 51) dX12_raceValue_51 rfl ?_
          refine AX.iaddN (pc := 53) (c := 5 * a + k) dX12_raceValue_53 rfl ?_
          refine AX.ialdN (pc := 54) (i := 5 * a + k) (v := (nI (wtN (H 0).1 (H 0).2 (5 * a + k)))) (lt_k hn (by omega)) e108 (by decide) (by omega) ((bs k (by omega)).2) dX12_raceValue_54 ?_
          refine AX.istore (pc := 55) (L' := [.ref 87, .int (nI 0), .int (nI a), .int (nI r), .int (nI q), .double ((rcS o (H 0).1 (H 0).2 (fun d => f2 (25 * d + q)) r a k).1), .null, .int (nI ((rcS o (H 0).1 (H 0).2 (fun d => f2 (25 * d + q)) r a k).2)), .int (nI a), .int (nI k), .int (nI (fS (5 * a + k))), .int (nI (wtN (H 0).1 (H 0).2 (5 * a + k))), .null, .null, .null]) dX12_raceValue_55 (by decide) rfl ?_
          refine AX.aload_n (pc := 57) dX12_raceValue_57 rfl ?_
          refine AX.iload_n (pc := 58) dX12_raceValue_58 rfl ?_
          refine AX.if_neN (pc := 59) (tgt := 66) dX12_raceValue_59 (by decide) (by decide) (fun q => absurd q (by decide)) (fun hc59 => ?_)
          refine AX.iload_n (pc := 62) dX12_raceValue_62 rfl ?_
          refine AX.goto (pc := 63) (tgt := 68) dX12_raceValue_63 (by decide) ?_
          refine AX.iload (pc := 68) dX12_raceValue_68 rfl ?_
          refine AX.callV (pc := 70) (M2 := M_X12_nextRest) (As := [.int (nI r), .int (nI (fS (5 * a + k)))]) (rest := []) (c_nextRest w h hn hO hN ho12 ho r (fS (5 * a + k)) (by omega) h63) xc_X12_raceValue__X12_nextRest gX12_raceValue_X12_nextRest (ci := 11) rfl (lt_k hn (by omega)) hO rfl (Nat.le_of_ble_eq_true rfl) dX12_raceValue_70 ?_
          rintro _ h9 ⟨rfl, e9⟩
          have e9 := e9.symm
          subst e9
          rw [hx]
          show AX w M_X12_raceValue 0 0 73 [.ref 87, .int (nI 0), .int (nI a), .int (nI r), .int (nI q), .double ((rcS o (H 0).1 (H 0).2 (fun d => f2 (25 * d + q)) r a k).1), .null, .int (nI ((rcS o (H 0).1 (H 0).2 (fun d => f2 (25 * d + q)) r a k).2)), .int (nI a), .int (nI k), .int (nI (fS (5 * a + k))), .int (nI (wtN (H 0).1 (H 0).2 (5 * a + k))), .null, .null, .null] [.int (nI d)] _ _
          refine AX.istore (pc := 73) (L' := [.ref 87, .int (nI 0), .int (nI a), .int (nI r), .int (nI q), .double ((rcS o (H 0).1 (H 0).2 (fun d => f2 (25 * d + q)) r a k).1), .null, .int (nI ((rcS o (H 0).1 (H 0).2 (fun d => f2 (25 * d + q)) r a k).2)), .int (nI a), .int (nI k), .int (nI (fS (5 * a + k))), .int (nI (wtN (H 0).1 (H 0).2 (5 * a + k))), .int (nI d), .null, .null]) dX12_raceValue_73 (by decide) rfl ?_
          refine AX.iload (pc := 75) dX12_raceValue_75 rfl ?_
          refine AX.i2d (pc := 77) dX12_raceValue_77 ?_
          refine AX.ldc2d (pc := 78) (v := 4652007308841189376) dX12_raceValue_78 cX12_raceValue_156 ?_
          refine AX.ddiv (pc := 81) dX12_raceValue_81 (vfn (odW_zv hwt).1) ?_
          refine AX.topd (y := odW (wtN (H 0).1 (H 0).2 (5 * a + k))) rfl ?_
          refine AX.dstore (pc := 82) (L' := [.ref 87, .int (nI 0), .int (nI a), .int (nI r), .int (nI q), .double ((rcS o (H 0).1 (H 0).2 (fun d => f2 (25 * d + q)) r a k).1), .null, .int (nI ((rcS o (H 0).1 (H 0).2 (fun d => f2 (25 * d + q)) r a k).2)), .int (nI a), .int (nI k), .int (nI (fS (5 * a + k))), .int (nI (wtN (H 0).1 (H 0).2 (5 * a + k))), .int (nI d), .double (odW (wtN (H 0).1 (H 0).2 (5 * a + k))), .null]) dX12_raceValue_82 (by decide) rfl ?_
          refine AX.iload (pc := 84) dX12_raceValue_84 rfl ?_
          refine AX.if_ltN (pc := 86) (tgt := 94) dX12_raceValue_86 (by decide) (by omega) (fun q => absurd q (by omega)) (fun hc86 => ?_)
          refine AX.iload (pc := 89) dX12_raceValue_89 rfl ?_
          refine AX.if_neN (pc := 91) (tgt := 104) dX12_raceValue_91 (by decide) (by omega) (fun hc91 => ?_) (fun q => absurd q (by omega))
          refine AX.iload (pc := 104) dX12_raceValue_104 rfl ?_
          refine AX.if_neN (pc := 106) (tgt := 119) dX12_raceValue_106 (by decide) (by omega) (fun hc106 => ?_) (fun q => absurd q (by omega))
          refine AX.dload (pc := 119) dX12_raceValue_119 rfl ?_
          refine AX.dload (pc := 121) dX12_raceValue_121 rfl ?_
          refine AX.aload_n (pc := 123) dX12_raceValue_123 rfl ?_
          refine AX.iload_n (pc := 124) dX12_raceValue_124 rfl ?_
          refine AX.iload_n (pc := 125) dX12_raceValue_125 rfl ?_
          refine AX.if_neN (pc := 126) (tgt := 134) dX12_raceValue_126 (by decide) (by decide) (fun q => absurd q (by decide)) (fun hc126 => ?_)
          refine AX.iload (pc := 129) dX12_raceValue_129 rfl ?_
          refine AX.goto (pc := 131) (tgt := 135) dX12_raceValue_131 (by decide) ?_
          refine AX.iload_n (pc := 135) dX12_raceValue_135 rfl ?_
          refine AX.if_neN (pc := 136) (tgt := 144) dX12_raceValue_136 (by decide) (by decide) (fun q => absurd q (by decide)) (fun hc136 => ?_)
          refine AX.iload (pc := 139) dX12_raceValue_139 rfl ?_
          refine AX.goto (pc := 141) (tgt := 146) dX12_raceValue_141 (by decide) ?_
          refine AX.callV (pc := 146) (M2 := M_X12_lostBy) (As := [.int (nI 0), .int (nI d), .int (nI q)]) (rest := [.double (odW (wtN (H 0).1 (H 0).2 (5 * a + k))), .double ((rcS o (H 0).1 (H 0).2 (fun d => f2 (25 * d + q)) r a k).1)]) (c_lostBy0 w h hn hO e1 (show d ≤ 24 by omega) (show q ≤ 24 by omega) (sub1_ok hn1 hVd).1) xc_X12_raceValue__X12_lostBy gX12_raceValue_X12_lostBy (ci := 11) rfl (lt_k hn (by omega)) hO rfl (Nat.le_of_ble_eq_true rfl) dX12_raceValue_146 ?_
          rintro _ h9 ⟨rfl, e9⟩
          have e9 := e9.symm
          subst e9
          show AX w M_X12_raceValue 0 0 149 [.ref 87, .int (nI 0), .int (nI a), .int (nI r), .int (nI q), .double ((rcS o (H 0).1 (H 0).2 (fun d => f2 (25 * d + q)) r a k).1), .null, .int (nI ((rcS o (H 0).1 (H 0).2 (fun d => f2 (25 * d + q)) r a k).2)), .int (nI a), .int (nI k), .int (nI (fS (5 * a + k))), .int (nI (wtN (H 0).1 (H 0).2 (5 * a + k))), .int (nI d), .double (odW (wtN (H 0).1 (H 0).2 (5 * a + k))), .null] [.double (FP.dsub FP.dconst1 (f2 (25 * d + q))), .double (odW (wtN (H 0).1 (H 0).2 (5 * a + k))), .double ((rcS o (H 0).1 (H 0).2 (fun d => f2 (25 * d + q)) r a k).1)] _ _
          refine AX.dmul (pc := 149) dX12_raceValue_149 (vfn (odd_mulU hwt hn1 (sub1_ok hn1 hVd)).1) ?_
          refine AX.dadd (pc := 150) dX12_raceValue_150 (vfn hS1.1) ?_
          refine AX.dstore (pc := 151) (L' := [.ref 87, .int (nI 0), .int (nI a), .int (nI r), .int (nI q), .double (FP.dadd ((rcS o (H 0).1 (H 0).2 (fun d => f2 (25 * d + q)) r a k).1) (FP.dmul (odW (wtN (H 0).1 (H 0).2 (5 * a + k))) (FP.dsub FP.dconst1 (f2 (25 * d + q))))), .null, .int (nI ((rcS o (H 0).1 (H 0).2 (fun d => f2 (25 * d + q)) r a k).2)), .int (nI a), .int (nI k), .int (nI (fS (5 * a + k))), .int (nI (wtN (H 0).1 (H 0).2 (5 * a + k))), .int (nI d), .double (odW (wtN (H 0).1 (H 0).2 (5 * a + k))), .null]) dX12_raceValue_151 (by decide) rfl ?_
          refine AX.iincN (c := k + 1) (pc := 153) (L' := [.ref 87, .int (nI 0), .int (nI a), .int (nI r), .int (nI q), .double (FP.dadd ((rcS o (H 0).1 (H 0).2 (fun d => f2 (25 * d + q)) r a k).1) (FP.dmul (odW (wtN (H 0).1 (H 0).2 (5 * a + k))) (FP.dsub FP.dconst1 (f2 (25 * d + q))))), .null, .int (nI ((rcS o (H 0).1 (H 0).2 (fun d => f2 (25 * d + q)) r a k).2)), .int (nI a), .int (nI (k + 1)), .int (nI (fS (5 * a + k))), .int (nI (wtN (H 0).1 (H 0).2 (5 * a + k))), .int (nI d), .double (odW (wtN (H 0).1 (H 0).2 (5 * a + k))), .null]) dX12_raceValue_153 rfl (inc1 _) (by decide) rfl ?_
          refine AX.goto (pc := 156) (tgt := 17) dX12_raceValue_156 (by decide) ?_
          refine AX.sub (L' := [.ref 87, .int (nI 0), .int (nI a), .int (nI r), .int (nI q), .double (FP.dadd ((rcS o (H 0).1 (H 0).2 (fun d => f2 (25 * d + q)) r a k).1) (FP.dmul (odW (wtN (H 0).1 (H 0).2 (5 * a + k))) (FP.dsub FP.dconst1 (f2 (25 * d + q))))), .null, .int (nI ((rcS o (H 0).1 (H 0).2 (fun d => f2 (25 * d + q)) r a k).2)), .int (nI a), .int (nI (k + 1)), .null, .null, .null, .null, .null]) ⟨Or.inr rfl, Or.inr rfl, Or.inr rfl, Or.inr rfl, Or.inr rfl, Or.inr rfl, Or.inl rfl, Or.inr rfl, Or.inr rfl, Or.inr rfl, Or.inl rfl, Or.inl rfl, Or.inl rfl, Or.inl rfl, Or.inl rfl, trivial⟩ ?_
          exact ih
theorem c_rv0 (w : XW) (h : XH) {v qq : Nat → Int32} {f2 : Nat → UInt64} {H : Nat → Nat × Nat} {o r q a n : Nat} (hn : 118 ≤ h.1) (hO : MO h v) (hN : iA h 89 19 qq) (ho12 : qq 12 = nI o) (ho : o ≤ 2) (hB : BL h H) (e1 : h.2 103 = .inl (2, 625, .inr (.inr (.inr (.inl f2))))) (hs : (H 0).1 ≤ 200) (hrg : (H 0).2 ≤ 200) (hn1 : n ≤ 10000) (hV : ∀ d, d < r → leN o ≤ d → rB n (f2 (25 * d + q))) (hy : vOK (rcS o (H 0).1 (H 0).2 (fun d => f2 (25 * d + q)) r a (fC a)) (f2 (25 * r + q))) (hy2 : (rcS o (H 0).1 (H 0).2 (fun d => f2 (25 * d + q)) r a (fC a)).2 ≤ 1000) (r1 : 1 ≤ r) (r2 : r ≤ 24) (q1 : 1 ≤ q) (q2 : q ≤ 24) (h1 : 1 ≤ a) (h2 : a < 63) : CA w M_X12_raceValue [.ref 87, .int (nI 0), .int (nI a), .int (nI r), .int (nI q)] h (fun v' h'' => v' = some (.double (vlN (rcS o (H 0).1 (H 0).2 (fun d => f2 (25 * d + q)) r a (fC a)) (f2 (25 * r + q)))) ∧ h'' = h) := by
  refine CA.of (by decide) rfl (fun _ => Nat.le_of_ble_eq_true rfl) ?_
  show AX w M_X12_raceValue 0 0 0 [.ref 87, .int (nI 0), .int (nI a), .int (nI r), .int (nI q), .null, .null, .null, .null, .null, .null, .null, .null, .null, .null] [] h _
  refine AX.dconst0 (pc := 0) dX12_raceValue_0 ?_
  refine AX.dstore (pc := 1) (L' := [.ref 87, .int (nI 0), .int (nI a), .int (nI r), .int (nI q), .double FP.dconst0, .null, .null, .null, .null, .null, .null, .null, .null, .null]) dX12_raceValue_1 (by decide) rfl ?_
  refine AX.iconst (pc := 3) (v := nI 0) dX12_raceValue_3 (by decide) ?_
  refine AX.istore (pc := 4) (L' := [.ref 87, .int (nI 0), .int (nI a), .int (nI r), .int (nI q), .double FP.dconst0, .null, .int (nI 0), .null, .null, .null, .null, .null, .null, .null]) dX12_raceValue_4 (by decide) rfl ?_
  refine AX.bipush (pc := 6) (v := nI 63) dX12_raceValue_6 (by decide) ?_
  refine AX.iload_n (pc := 8) dX12_raceValue_8 rfl ?_
  refine AX.imulN (pc := 9) (c := 0) dX12_raceValue_9 rfl ?_
  refine AX.iload_n (pc := 10) dX12_raceValue_10 rfl ?_
  refine AX.iaddN (pc := 11) (c := a) dX12_raceValue_11 (Nat.zero_add _) ?_
  refine AX.istore (pc := 12) (L' := [.ref 87, .int (nI 0), .int (nI a), .int (nI r), .int (nI q), .double FP.dconst0, .null, .int (nI 0), .int (nI a), .null, .null, .null, .null, .null, .null]) dX12_raceValue_12 (by decide) rfl ?_
  refine AX.iconst (pc := 14) (v := nI 0) dX12_raceValue_14 (by decide) ?_
  refine AX.istore (pc := 15) (L' := [.ref 87, .int (nI 0), .int (nI a), .int (nI r), .int (nI q), .double FP.dconst0, .null, .int (nI 0), .int (nI a), .int (nI 0), .null, .null, .null, .null, .null]) dX12_raceValue_15 (by decide) rfl ?_
  exact l_rv0 w h hn hO hN ho12 ho hB e1 hs hrg hn1 hV hy hy2 r1 r2 q1 q2 h1 h2 _ ⟨rfl, rfl⟩ (fC a) 0 (by omega)
theorem l_rv1 (w : XW) (h : XH) {v qq : Nat → Int32} {f1 : Nat → UInt64} {H : Nat → Nat × Nat} {o r q a n : Nat} (hn : 118 ≤ h.1) (hO : MO h v) (hN : iA h 89 19 qq) (ho12 : qq 12 = nI o) (ho : o ≤ 2) (hB : BL h H) (e1 : h.2 102 = .inl (2, 625, .inr (.inr (.inr (.inl f1))))) (hs : (H 1).1 ≤ 200) (hrg : (H 1).2 ≤ 200) (hn1 : n ≤ 10000) (hV : ∀ d, d < q → leN o ≤ d → rB n (f1 (25 * r + d))) (hy : vOK (rcS o (H 1).1 (H 1).2 (fun d => f1 (25 * r + d)) q a (fC a)) (f1 (25 * r + q))) (hy2 : (rcS o (H 1).1 (H 1).2 (fun d => f1 (25 * r + d)) q a (fC a)).2 ≤ 1000) (r1 : 1 ≤ r) (r2 : r ≤ 24) (q1 : 1 ≤ q) (q2 : q ≤ 24) (h1 : 1 ≤ a) (h2 : a < 63) (P : Option Value → XH → Prop) (hP : P (some (.double (vlN (rcS o (H 1).1 (H 1).2 (fun d => f1 (25 * r + d)) q a (fC a)) (f1 (25 * r + q))))) h) : ∀ (g k : Nat), k + g = fC a → AX w M_X12_raceValue 0 0 17 [.ref 87, .int (nI 1), .int (nI a), .int (nI r), .int (nI q), .double ((rcS o (H 1).1 (H 1).2 (fun d => f1 (25 * r + d)) q a k).1), .null, .int (nI ((rcS o (H 1).1 (H 1).2 (fun d => f1 (25 * r + d)) q a k).2)), .int (nI (63 + a)), .int (nI k), .null, .null, .null, .null, .null] [] h P
  | 0, k, hg => by
    have e : k = fC a := by omega
    subst e
    obtain ⟨m, s, x, e106, e107, e108, hb⟩ := id hB
    obtain ⟨bm, bs⟩ := hb.at1 h1 h2
    have hc5 := fC_le a
    refine AX.iload (pc := 17) dX12_raceValue_17 rfl ?_
    refine AX.aload_n (pc := 19) dX12_raceValue_19 rfl ?_
    refine AX.getf (pc := 20) fX12_raceValue_66 (lt_k hn (by omega)) hO rfl dX12_raceValue_20 ?_
    refine AX.iload (pc := 23) dX12_raceValue_23 rfl ?_
    refine AX.ialdN (pc := 25) (i := 63 + a) (v := (nI (fC a))) (lt_k hn (by omega)) e106 (by decide) (by omega) bm dX12_raceValue_25 ?_
    refine AX.icmp_geN (pc := 26) (tgt := 159) dX12_raceValue_26 (by decide) (by omega) (by omega) (fun hc26 => ?_) (fun q => absurd q (Nat.lt_irrefl _))
    refine AX.dload (pc := 159) dX12_raceValue_159 rfl ?_
    refine AX.iload (pc := 161) dX12_raceValue_161 rfl ?_
    refine AX.i2d (pc := 163) dX12_raceValue_163 ?_
    refine AX.ldc2d (pc := 164) (v := 4652007308841189376) dX12_raceValue_164 cX12_raceValue_156 ?_
    refine AX.ddiv (pc := 167) dX12_raceValue_167 (vfn (odW_zv hy2).1) ?_
    refine AX.topd (y := odW (rcS o (H 1).1 (H 1).2 (fun d => f1 (25 * r + d)) q a (fC a)).2) rfl ?_
    refine AX.aload_n (pc := 168) dX12_raceValue_168 rfl ?_
    refine AX.iload_n (pc := 169) dX12_raceValue_169 rfl ?_
    refine AX.iload_n (pc := 170) dX12_raceValue_170 rfl ?_
    refine AX.iload (pc := 171) dX12_raceValue_171 rfl ?_
    refine AX.callV (pc := 173) (M2 := M_X12_lostBy) (As := [.int (nI 1), .int (nI r), .int (nI q)]) (rest := [.double (odW (rcS o (H 1).1 (H 1).2 (fun d => f1 (25 * r + d)) q a (fC a)).2), .double ((rcS o (H 1).1 (H 1).2 (fun d => f1 (25 * r + d)) q a (fC a)).1)]) (c_lostBy1 w h hn hO e1 (show r ≤ 24 by omega) (show q ≤ 24 by omega) hy.1) xc_X12_raceValue__X12_lostBy gX12_raceValue_X12_lostBy (ci := 11) rfl (lt_k hn (by omega)) hO rfl (Nat.le_of_ble_eq_true rfl) dX12_raceValue_173 ?_
    rintro _ h9 ⟨rfl, e9⟩
    have e9 := e9.symm
    subst e9
    show AX w M_X12_raceValue 0 0 176 [.ref 87, .int (nI 1), .int (nI a), .int (nI r), .int (nI q), .double ((rcS o (H 1).1 (H 1).2 (fun d => f1 (25 * r + d)) q a (fC a)).1), .null, .int (nI ((rcS o (H 1).1 (H 1).2 (fun d => f1 (25 * r + d)) q a (fC a)).2)), .int (nI (63 + a)), .int (nI (fC a)), .null, .null, .null, .null, .null] [.double (FP.dsub FP.dconst1 (f1 (25 * r + q))), .double (odW (rcS o (H 1).1 (H 1).2 (fun d => f1 (25 * r + d)) q a (fC a)).2), .double ((rcS o (H 1).1 (H 1).2 (fun d => f1 (25 * r + d)) q a (fC a)).1)] _ _
    refine AX.dmul (pc := 176) dX12_raceValue_176 (vfn hy.2.1) ?_
    refine AX.dadd (pc := 177) dX12_raceValue_177 (vfn hy.2.2) ?_
    refine AX.dret (pc := 178) dX12_raceValue_178 rfl (by decide) (by decide) ?_
    exact hP
  | g + 1, k, hg => by
    obtain ⟨m, s, x, e106, e107, e108, hb⟩ := id hB
    obtain ⟨bm, bs⟩ := hb.at1 h1 h2
    have hc5 := fC_le a
    have h63 := fS_lt (5 * a + k) (by omega)
    have hwt := wt_le (sd := (H 1).1) (rg := (H 1).2) (q := 5 * a + k) hs hrg (by omega)
    have hS := rcS_ok (o := o) (V := (fun d => f1 (25 * r + d))) hs hrg h1 h2 hn1 hV k (by omega)
    have hS1 := rcS_ok (o := o) (V := (fun d => f1 (25 * r + d))) hs hrg h1 h2 hn1 hV (k + 1) (by omega)
    have hmo := wTo_mono (H 1).1 (H 1).2 a (k := k) (j := fC a) (by omega)
    rw [wTo_all hs hrg h1 h2] at hmo
    have hz : rcS o (H 1).1 (H 1).2 (fun d => f1 (25 * r + d)) q a (k + 1) = match nxN o q (fS (5 * a + k)) with
      | none => ((rcS o (H 1).1 (H 1).2 (fun d => f1 (25 * r + d)) q a k).1, (rcS o (H 1).1 (H 1).2 (fun d => f1 (25 * r + d)) q a k).2 + wtN (H 1).1 (H 1).2 (5 * a + k))
      | some d => if fS (5 * a + k) = 0 then ((rcS o (H 1).1 (H 1).2 (fun d => f1 (25 * r + d)) q a k).1, (rcS o (H 1).1 (H 1).2 (fun d => f1 (25 * r + d)) q a k).2 + wtN (H 1).1 (H 1).2 (5 * a + k)) else if d = 0 then (FP.dadd (rcS o (H 1).1 (H 1).2 (fun d => f1 (25 * r + d)) q a k).1 (odW (wtN (H 1).1 (H 1).2 (5 * a + k))), (rcS o (H 1).1 (H 1).2 (fun d => f1 (25 * r + d)) q a k).2) else (FP.dadd (rcS o (H 1).1 (H 1).2 (fun d => f1 (25 * r + d)) q a k).1 (FP.dmul (odW (wtN (H 1).1 (H 1).2 (5 * a + k))) (FP.dsub FP.dconst1 (f1 (25 * r + d)))), (rcS o (H 1).1 (H 1).2 (fun d => f1 (25 * r + d)) q a k).2) := rfl
    have ih := l_rv1 w h hn hO hN ho12 ho hB e1 hs hrg hn1 hV hy hy2 r1 r2 q1 q2 h1 h2 P hP g (k + 1) (by omega)
    cases hx : nxN o q (fS (5 * a + k)) with
    | none =>
      rw [hx] at hz
      rw [hz] at ih
      refine AX.iload (pc := 17) dX12_raceValue_17 rfl ?_
      refine AX.aload_n (pc := 19) dX12_raceValue_19 rfl ?_
      refine AX.getf (pc := 20) fX12_raceValue_66 (lt_k hn (by omega)) hO rfl dX12_raceValue_20 ?_
      refine AX.iload (pc := 23) dX12_raceValue_23 rfl ?_
      refine AX.ialdN (pc := 25) (i := 63 + a) (v := (nI (fC a))) (lt_k hn (by omega)) e106 (by decide) (by omega) bm dX12_raceValue_25 ?_
      refine AX.icmp_geN (pc := 26) (tgt := 159) dX12_raceValue_26 (by decide) (by omega) (by omega) (fun q => absurd q (by omega)) (fun hc26 => ?_)
      refine AX.aload_n (pc := 29) dX12_raceValue_29 rfl ?_
      refine AX.getf (pc := 30) fX12_raceValue_69 (lt_k hn (by omega)) hO rfl dX12_raceValue_30 ?_
      refine AX.iconst (pc := 33) (v := nI 5) dX12_raceValue_33 (by decide) ?_
      refine AX.iload (pc := 34) dX12_raceValue_34 rfl ?_
      refine AX.imulN (pc := 36) (c := 5 * (63 + a)) dX12_raceValue_36 rfl ?_
      refine AX.iload (pc := 37) dX12_raceValue_37 rfl ?_
      refine AX.iaddN (pc := 39) (c := 5 * (63 + a) + k) dX12_raceValue_39 rfl ?_
      refine AX.ialdN (pc := 40) (i := 5 * (63 + a) + k) (v := (nI (fS (5 * a + k)))) (lt_k hn (by omega)) e107 (by decide) (by omega) ((bs k (by omega)).1) dX12_raceValue_40 ?_
      refine AX.istore (pc := 41) (L' := [.ref 87, .int (nI 1), .int (nI a), .int (nI r), .int (nI q), .double ((rcS o (H 1).1 (H 1).2 (fun d => f1 (25 * r + d)) q a k).1), .null, .int (nI ((rcS o (H 1).1 (H 1).2 (fun d => f1 (25 * r + d)) q a k).2)), .int (nI (63 + a)), .int (nI k), .int (nI (fS (5 * a + k))), .null, .null, .null, .null]) dX12_raceValue_41 (by decide) rfl ?_
      refine AX.aload_n (pc := 43) dX12_raceValue_43 rfl ?_
      refine AX.getf (pc := 44) fX12_raceValue_72 (lt_k hn (by omega)) hO rfl dX12_raceValue_44 ?_
      refine AX.iconst (pc := 47) (v := nI 5) dX12_raceValue_47 (by decide) ?_
      refine AX.iload (pc := 48) dX12_raceValue_48 rfl ?_
      refine AX.imulN (pc := 50) (c := 5 * (63 + a)) dX12_raceValue_50 rfl ?_
      refine AX.iload (pc := 51) dX12_raceValue_51 rfl ?_
      refine AX.iaddN (pc := 53) (c := 5 * (63 + a) + k) dX12_raceValue_53 rfl ?_
      refine AX.ialdN (pc := 54) (i := 5 * (63 + a) + k) (v := (nI (wtN (H 1).1 (H 1).2 (5 * a + k)))) (lt_k hn (by omega)) e108 (by decide) (by omega) ((bs k (by omega)).2) dX12_raceValue_54 ?_
      refine AX.istore (pc := 55) (L' := [.ref 87, .int (nI 1), .int (nI a), .int (nI r), .int (nI q), .double ((rcS o (H 1).1 (H 1).2 (fun d => f1 (25 * r + d)) q a k).1), .null, .int (nI ((rcS o (H 1).1 (H 1).2 (fun d => f1 (25 * r + d)) q a k).2)), .int (nI (63 + a)), .int (nI k), .int (nI (fS (5 * a + k))), .int (nI (wtN (H 1).1 (H 1).2 (5 * a + k))), .null, .null, .null]) dX12_raceValue_55 (by decide) rfl ?_
      refine AX.aload_n (pc := 57) dX12_raceValue_57 rfl ?_
      refine AX.iload_n (pc := 58) dX12_raceValue_58 rfl ?_
      refine AX.if_neN (pc := 59) (tgt := 66) dX12_raceValue_59 (by decide) (by decide) (fun hc59 => ?_) (fun q => absurd q (by decide))
      refine AX.iload (pc := 66) dX12_raceValue_66 rfl ?_
      refine AX.iload (pc := 68) dX12_raceValue_68 rfl ?_
      refine AX.callV (pc := 70) (M2 := M_X12_nextRest) (As := [.int (nI q), .int (nI (fS (5 * a + k)))]) (rest := []) (c_nextRest w h hn hO hN ho12 ho q (fS (5 * a + k)) (by omega) h63) xc_X12_raceValue__X12_nextRest gX12_raceValue_X12_nextRest (ci := 11) rfl (lt_k hn (by omega)) hO rfl (Nat.le_of_ble_eq_true rfl) dX12_raceValue_70 ?_
      rintro _ h9 ⟨rfl, e9⟩
      have e9 := e9.symm
      subst e9
      rw [hx]
      show AX w M_X12_raceValue 0 0 73 [.ref 87, .int (nI 1), .int (nI a), .int (nI r), .int (nI q), .double ((rcS o (H 1).1 (H 1).2 (fun d => f1 (25 * r + d)) q a k).1), .null, .int (nI ((rcS o (H 1).1 (H 1).2 (fun d => f1 (25 * r + d)) q a k).2)), .int (nI (63 + a)), .int (nI k), .int (nI (fS (5 * a + k))), .int (nI (wtN (H 1).1 (H 1).2 (5 * a + k))), .null, .null, .null] [.int (-5)] _ _
      refine AX.istore (pc := 73) (L' := [.ref 87, .int (nI 1), .int (nI a), .int (nI r), .int (nI q), .double ((rcS o (H 1).1 (H 1).2 (fun d => f1 (25 * r + d)) q a k).1), .null, .int (nI ((rcS o (H 1).1 (H 1).2 (fun d => f1 (25 * r + d)) q a k).2)), .int (nI (63 + a)), .int (nI k), .int (nI (fS (5 * a + k))), .int (nI (wtN (H 1).1 (H 1).2 (5 * a + k))), .int (-5), .null, .null]) dX12_raceValue_73 (by decide) rfl ?_
      refine AX.iload (pc := 75) dX12_raceValue_75 rfl ?_
      refine AX.i2d (pc := 77) dX12_raceValue_77 ?_
      refine AX.ldc2d (pc := 78) (v := 4652007308841189376) dX12_raceValue_78 cX12_raceValue_156 ?_
      refine AX.ddiv (pc := 81) dX12_raceValue_81 (vfn (odW_zv hwt).1) ?_
      refine AX.topd (y := odW (wtN (H 1).1 (H 1).2 (5 * a + k))) rfl ?_
      refine AX.dstore (pc := 82) (L' := [.ref 87, .int (nI 1), .int (nI a), .int (nI r), .int (nI q), .double ((rcS o (H 1).1 (H 1).2 (fun d => f1 (25 * r + d)) q a k).1), .null, .int (nI ((rcS o (H 1).1 (H 1).2 (fun d => f1 (25 * r + d)) q a k).2)), .int (nI (63 + a)), .int (nI k), .int (nI (fS (5 * a + k))), .int (nI (wtN (H 1).1 (H 1).2 (5 * a + k))), .int (-5), .double (odW (wtN (H 1).1 (H 1).2 (5 * a + k))), .null]) dX12_raceValue_82 (by decide) rfl ?_
      refine AX.iload (pc := 84) dX12_raceValue_84 rfl ?_
      refine AX.if_lt (pc := 86) (tgt := 94) dX12_raceValue_86 (by decide) (fun hc86 => ?_) (fun q => absurd (by decide) q)
      refine AX.iload (pc := 94) dX12_raceValue_94 rfl ?_
      refine AX.iload (pc := 96) dX12_raceValue_96 rfl ?_
      refine AX.iaddN (pc := 98) (c := (rcS o (H 1).1 (H 1).2 (fun d => f1 (25 * r + d)) q a k).2 + (wtN (H 1).1 (H 1).2 (5 * a + k))) dX12_raceValue_98 rfl ?_
      refine AX.istore (pc := 99) (L' := [.ref 87, .int (nI 1), .int (nI a), .int (nI r), .int (nI q), .double ((rcS o (H 1).1 (H 1).2 (fun d => f1 (25 * r + d)) q a k).1), .null, .int (nI ((rcS o (H 1).1 (H 1).2 (fun d => f1 (25 * r + d)) q a k).2 + (wtN (H 1).1 (H 1).2 (5 * a + k)))), .int (nI (63 + a)), .int (nI k), .int (nI (fS (5 * a + k))), .int (nI (wtN (H 1).1 (H 1).2 (5 * a + k))), .int (-5), .double (odW (wtN (H 1).1 (H 1).2 (5 * a + k))), .null]) dX12_raceValue_99 (by decide) rfl ?_
      refine AX.goto (pc := 101) (tgt := 153) dX12_raceValue_101 (by decide) ?_
      refine AX.iincN (c := k + 1) (pc := 153) (L' := [.ref 87, .int (nI 1), .int (nI a), .int (nI r), .int (nI q), .double ((rcS o (H 1).1 (H 1).2 (fun d => f1 (25 * r + d)) q a k).1), .null, .int (nI ((rcS o (H 1).1 (H 1).2 (fun d => f1 (25 * r + d)) q a k).2 + (wtN (H 1).1 (H 1).2 (5 * a + k)))), .int (nI (63 + a)), .int (nI (k + 1)), .int (nI (fS (5 * a + k))), .int (nI (wtN (H 1).1 (H 1).2 (5 * a + k))), .int (-5), .double (odW (wtN (H 1).1 (H 1).2 (5 * a + k))), .null]) dX12_raceValue_153 rfl (inc1 _) (by decide) rfl ?_
      refine AX.goto (pc := 156) (tgt := 17) dX12_raceValue_156 (by decide) ?_
      refine AX.sub (L' := [.ref 87, .int (nI 1), .int (nI a), .int (nI r), .int (nI q), .double ((rcS o (H 1).1 (H 1).2 (fun d => f1 (25 * r + d)) q a k).1), .null, .int (nI ((rcS o (H 1).1 (H 1).2 (fun d => f1 (25 * r + d)) q a k).2 + (wtN (H 1).1 (H 1).2 (5 * a + k)))), .int (nI (63 + a)), .int (nI (k + 1)), .null, .null, .null, .null, .null]) ⟨Or.inr rfl, Or.inr rfl, Or.inr rfl, Or.inr rfl, Or.inr rfl, Or.inr rfl, Or.inl rfl, Or.inr rfl, Or.inr rfl, Or.inr rfl, Or.inl rfl, Or.inl rfl, Or.inl rfl, Or.inl rfl, Or.inl rfl, trivial⟩ ?_
      exact ih
    | some d =>
      have hd := nxN_eq hx
      rw [hx] at hz
      by_cases hf0 : fS (5 * a + k) = 0
      · have hz : rcS o (H 1).1 (H 1).2 (fun d => f1 (25 * r + d)) q a (k + 1) = ((rcS o (H 1).1 (H 1).2 (fun d => f1 (25 * r + d)) q a k).1, (rcS o (H 1).1 (H 1).2 (fun d => f1 (25 * r + d)) q a k).2 + wtN (H 1).1 (H 1).2 (5 * a + k)) := by rw [hz]; exact if_pos hf0
        rw [hz] at ih
        refine AX.iload (pc := 17) dX12_raceValue_17 rfl ?_
        refine AX.aload_n (pc := 19) dX12_raceValue_19 rfl ?_
        refine AX.getf (pc := 20) fX12_raceValue_66 (lt_k hn (by omega)) hO rfl dX12_raceValue_20 ?_
        refine AX.iload (pc := 23) dX12_raceValue_23 rfl ?_
        refine AX.ialdN (pc := 25) (i := 63 + a) (v := (nI (fC a))) (lt_k hn (by omega)) e106 (by decide) (by omega) bm dX12_raceValue_25 ?_
        refine AX.icmp_geN (pc := 26) (tgt := 159) dX12_raceValue_26 (by decide) (by omega) (by omega) (fun q => absurd q (by omega)) (fun hc26 => ?_)
        refine AX.aload_n (pc := 29) dX12_raceValue_29 rfl ?_
        refine AX.getf (pc := 30) fX12_raceValue_69 (lt_k hn (by omega)) hO rfl dX12_raceValue_30 ?_
        refine AX.iconst (pc := 33) (v := nI 5) dX12_raceValue_33 (by decide) ?_
        refine AX.iload (pc := 34) dX12_raceValue_34 rfl ?_
        refine AX.imulN (pc := 36) (c := 5 * (63 + a)) dX12_raceValue_36 rfl ?_
        refine AX.iload (pc := 37) dX12_raceValue_37 rfl ?_
        refine AX.iaddN (pc := 39) (c := 5 * (63 + a) + k) dX12_raceValue_39 rfl ?_
        refine AX.ialdN (pc := 40) (i := 5 * (63 + a) + k) (v := (nI (fS (5 * a + k)))) (lt_k hn (by omega)) e107 (by decide) (by omega) ((bs k (by omega)).1) dX12_raceValue_40 ?_
        refine AX.istore (pc := 41) (L' := [.ref 87, .int (nI 1), .int (nI a), .int (nI r), .int (nI q), .double ((rcS o (H 1).1 (H 1).2 (fun d => f1 (25 * r + d)) q a k).1), .null, .int (nI ((rcS o (H 1).1 (H 1).2 (fun d => f1 (25 * r + d)) q a k).2)), .int (nI (63 + a)), .int (nI k), .int (nI (fS (5 * a + k))), .null, .null, .null, .null]) dX12_raceValue_41 (by decide) rfl ?_
        refine AX.aload_n (pc := 43) dX12_raceValue_43 rfl ?_
        refine AX.getf (pc := 44) fX12_raceValue_72 (lt_k hn (by omega)) hO rfl dX12_raceValue_44 ?_
        refine AX.iconst (pc := 47) (v := nI 5) dX12_raceValue_47 (by decide) ?_
        refine AX.iload (pc := 48) dX12_raceValue_48 rfl ?_
        refine AX.imulN (pc := 50) (c := 5 * (63 + a)) dX12_raceValue_50 rfl ?_
        refine AX.iload (pc := 51) dX12_raceValue_51 rfl ?_
        refine AX.iaddN (pc := 53) (c := 5 * (63 + a) + k) dX12_raceValue_53 rfl ?_
        refine AX.ialdN (pc := 54) (i := 5 * (63 + a) + k) (v := (nI (wtN (H 1).1 (H 1).2 (5 * a + k)))) (lt_k hn (by omega)) e108 (by decide) (by omega) ((bs k (by omega)).2) dX12_raceValue_54 ?_
        refine AX.istore (pc := 55) (L' := [.ref 87, .int (nI 1), .int (nI a), .int (nI r), .int (nI q), .double ((rcS o (H 1).1 (H 1).2 (fun d => f1 (25 * r + d)) q a k).1), .null, .int (nI ((rcS o (H 1).1 (H 1).2 (fun d => f1 (25 * r + d)) q a k).2)), .int (nI (63 + a)), .int (nI k), .int (nI (fS (5 * a + k))), .int (nI (wtN (H 1).1 (H 1).2 (5 * a + k))), .null, .null, .null]) dX12_raceValue_55 (by decide) rfl ?_
        refine AX.aload_n (pc := 57) dX12_raceValue_57 rfl ?_
        refine AX.iload_n (pc := 58) dX12_raceValue_58 rfl ?_
        refine AX.if_neN (pc := 59) (tgt := 66) dX12_raceValue_59 (by decide) (by decide) (fun hc59 => ?_) (fun q => absurd q (by decide))
        refine AX.iload (pc := 66) dX12_raceValue_66 rfl ?_
        refine AX.iload (pc := 68) dX12_raceValue_68 rfl ?_
        refine AX.callV (pc := 70) (M2 := M_X12_nextRest) (As := [.int (nI q), .int (nI (fS (5 * a + k)))]) (rest := []) (c_nextRest w h hn hO hN ho12 ho q (fS (5 * a + k)) (by omega) h63) xc_X12_raceValue__X12_nextRest gX12_raceValue_X12_nextRest (ci := 11) rfl (lt_k hn (by omega)) hO rfl (Nat.le_of_ble_eq_true rfl) dX12_raceValue_70 ?_
        rintro _ h9 ⟨rfl, e9⟩
        have e9 := e9.symm
        subst e9
        rw [hx]
        show AX w M_X12_raceValue 0 0 73 [.ref 87, .int (nI 1), .int (nI a), .int (nI r), .int (nI q), .double ((rcS o (H 1).1 (H 1).2 (fun d => f1 (25 * r + d)) q a k).1), .null, .int (nI ((rcS o (H 1).1 (H 1).2 (fun d => f1 (25 * r + d)) q a k).2)), .int (nI (63 + a)), .int (nI k), .int (nI (fS (5 * a + k))), .int (nI (wtN (H 1).1 (H 1).2 (5 * a + k))), .null, .null, .null] [.int (nI d)] _ _
        refine AX.istore (pc := 73) (L' := [.ref 87, .int (nI 1), .int (nI a), .int (nI r), .int (nI q), .double ((rcS o (H 1).1 (H 1).2 (fun d => f1 (25 * r + d)) q a k).1), .null, .int (nI ((rcS o (H 1).1 (H 1).2 (fun d => f1 (25 * r + d)) q a k).2)), .int (nI (63 + a)), .int (nI k), .int (nI (fS (5 * a + k))), .int (nI (wtN (H 1).1 (H 1).2 (5 * a + k))), .int (nI d), .null, .null]) dX12_raceValue_73 (by decide) rfl ?_
        refine AX.iload (pc := 75) dX12_raceValue_75 rfl ?_
        refine AX.i2d (pc := 77) dX12_raceValue_77 ?_
        refine AX.ldc2d (pc := 78) (v := 4652007308841189376) dX12_raceValue_78 cX12_raceValue_156 ?_
        refine AX.ddiv (pc := 81) dX12_raceValue_81 (vfn (odW_zv hwt).1) ?_
        refine AX.topd (y := odW (wtN (H 1).1 (H 1).2 (5 * a + k))) rfl ?_
        refine AX.dstore (pc := 82) (L' := [.ref 87, .int (nI 1), .int (nI a), .int (nI r), .int (nI q), .double ((rcS o (H 1).1 (H 1).2 (fun d => f1 (25 * r + d)) q a k).1), .null, .int (nI ((rcS o (H 1).1 (H 1).2 (fun d => f1 (25 * r + d)) q a k).2)), .int (nI (63 + a)), .int (nI k), .int (nI (fS (5 * a + k))), .int (nI (wtN (H 1).1 (H 1).2 (5 * a + k))), .int (nI d), .double (odW (wtN (H 1).1 (H 1).2 (5 * a + k))), .null]) dX12_raceValue_82 (by decide) rfl ?_
        refine AX.iload (pc := 84) dX12_raceValue_84 rfl ?_
        refine AX.if_ltN (pc := 86) (tgt := 94) dX12_raceValue_86 (by decide) (by omega) (fun q => absurd q (by omega)) (fun hc86 => ?_)
        refine AX.iload (pc := 89) dX12_raceValue_89 rfl ?_
        refine AX.if_neN (pc := 91) (tgt := 104) dX12_raceValue_91 (by decide) (by omega) (fun q => absurd q (by omega)) (fun hc91 => ?_)
        refine AX.iload (pc := 94) dX12_raceValue_94 rfl ?_
        refine AX.iload (pc := 96) dX12_raceValue_96 rfl ?_
        refine AX.iaddN (pc := 98) (c := (rcS o (H 1).1 (H 1).2 (fun d => f1 (25 * r + d)) q a k).2 + (wtN (H 1).1 (H 1).2 (5 * a + k))) dX12_raceValue_98 rfl ?_
        refine AX.istore (pc := 99) (L' := [.ref 87, .int (nI 1), .int (nI a), .int (nI r), .int (nI q), .double ((rcS o (H 1).1 (H 1).2 (fun d => f1 (25 * r + d)) q a k).1), .null, .int (nI ((rcS o (H 1).1 (H 1).2 (fun d => f1 (25 * r + d)) q a k).2 + (wtN (H 1).1 (H 1).2 (5 * a + k)))), .int (nI (63 + a)), .int (nI k), .int (nI (fS (5 * a + k))), .int (nI (wtN (H 1).1 (H 1).2 (5 * a + k))), .int (nI d), .double (odW (wtN (H 1).1 (H 1).2 (5 * a + k))), .null]) dX12_raceValue_99 (by decide) rfl ?_
        refine AX.goto (pc := 101) (tgt := 153) dX12_raceValue_101 (by decide) ?_
        refine AX.iincN (c := k + 1) (pc := 153) (L' := [.ref 87, .int (nI 1), .int (nI a), .int (nI r), .int (nI q), .double ((rcS o (H 1).1 (H 1).2 (fun d => f1 (25 * r + d)) q a k).1), .null, .int (nI ((rcS o (H 1).1 (H 1).2 (fun d => f1 (25 * r + d)) q a k).2 + (wtN (H 1).1 (H 1).2 (5 * a + k)))), .int (nI (63 + a)), .int (nI (k + 1)), .int (nI (fS (5 * a + k))), .int (nI (wtN (H 1).1 (H 1).2 (5 * a + k))), .int (nI d), .double (odW (wtN (H 1).1 (H 1).2 (5 * a + k))), .null]) dX12_raceValue_153 rfl (inc1 _) (by decide) rfl ?_
        refine AX.goto (pc := 156) (tgt := 17) dX12_raceValue_156 (by decide) ?_
        refine AX.sub (L' := [.ref 87, .int (nI 1), .int (nI a), .int (nI r), .int (nI q), .double ((rcS o (H 1).1 (H 1).2 (fun d => f1 (25 * r + d)) q a k).1), .null, .int (nI ((rcS o (H 1).1 (H 1).2 (fun d => f1 (25 * r + d)) q a k).2 + (wtN (H 1).1 (H 1).2 (5 * a + k)))), .int (nI (63 + a)), .int (nI (k + 1)), .null, .null, .null, .null, .null]) ⟨Or.inr rfl, Or.inr rfl, Or.inr rfl, Or.inr rfl, Or.inr rfl, Or.inr rfl, Or.inl rfl, Or.inr rfl, Or.inr rfl, Or.inr rfl, Or.inl rfl, Or.inl rfl, Or.inl rfl, Or.inl rfl, Or.inl rfl, trivial⟩ ?_
        exact ih
      · have hsc : 0 < scN (fS (5 * a + k)) := by
          have : ∀ s, s < 63 → s ≠ 0 → 0 < scN s := by decide
          exact this _ h63 hf0
        by_cases hd0 : d = 0
        · have hz : rcS o (H 1).1 (H 1).2 (fun d => f1 (25 * r + d)) q a (k + 1) = (FP.dadd (rcS o (H 1).1 (H 1).2 (fun d => f1 (25 * r + d)) q a k).1 (odW (wtN (H 1).1 (H 1).2 (5 * a + k))), (rcS o (H 1).1 (H 1).2 (fun d => f1 (25 * r + d)) q a k).2) := by rw [hz]; exact (if_neg hf0).trans (if_pos hd0)
          rw [hz] at ih hS1
          refine AX.iload (pc := 17) dX12_raceValue_17 rfl ?_
          refine AX.aload_n (pc := 19) dX12_raceValue_19 rfl ?_
          refine AX.getf (pc := 20) fX12_raceValue_66 (lt_k hn (by omega)) hO rfl dX12_raceValue_20 ?_
          refine AX.iload (pc := 23) dX12_raceValue_23 rfl ?_
          refine AX.ialdN (pc := 25) (i := 63 + a) (v := (nI (fC a))) (lt_k hn (by omega)) e106 (by decide) (by omega) bm dX12_raceValue_25 ?_
          refine AX.icmp_geN (pc := 26) (tgt := 159) dX12_raceValue_26 (by decide) (by omega) (by omega) (fun q => absurd q (by omega)) (fun hc26 => ?_)
          refine AX.aload_n (pc := 29) dX12_raceValue_29 rfl ?_
          refine AX.getf (pc := 30) fX12_raceValue_69 (lt_k hn (by omega)) hO rfl dX12_raceValue_30 ?_
          refine AX.iconst (pc := 33) (v := nI 5) dX12_raceValue_33 (by decide) ?_
          refine AX.iload (pc := 34) dX12_raceValue_34 rfl ?_
          refine AX.imulN (pc := 36) (c := 5 * (63 + a)) dX12_raceValue_36 rfl ?_
          refine AX.iload (pc := 37) dX12_raceValue_37 rfl ?_
          refine AX.iaddN (pc := 39) (c := 5 * (63 + a) + k) dX12_raceValue_39 rfl ?_
          refine AX.ialdN (pc := 40) (i := 5 * (63 + a) + k) (v := (nI (fS (5 * a + k)))) (lt_k hn (by omega)) e107 (by decide) (by omega) ((bs k (by omega)).1) dX12_raceValue_40 ?_
          refine AX.istore (pc := 41) (L' := [.ref 87, .int (nI 1), .int (nI a), .int (nI r), .int (nI q), .double ((rcS o (H 1).1 (H 1).2 (fun d => f1 (25 * r + d)) q a k).1), .null, .int (nI ((rcS o (H 1).1 (H 1).2 (fun d => f1 (25 * r + d)) q a k).2)), .int (nI (63 + a)), .int (nI k), .int (nI (fS (5 * a + k))), .null, .null, .null, .null]) dX12_raceValue_41 (by decide) rfl ?_
          refine AX.aload_n (pc := 43) dX12_raceValue_43 rfl ?_
          refine AX.getf (pc := 44) fX12_raceValue_72 (lt_k hn (by omega)) hO rfl dX12_raceValue_44 ?_
          refine AX.iconst (pc := 47) (v := nI 5) dX12_raceValue_47 (by decide) ?_
          refine AX.iload (pc := 48) dX12_raceValue_48 rfl ?_
          refine AX.imulN (pc := 50) (c := 5 * (63 + a)) dX12_raceValue_50 rfl ?_
          refine AX.iload (pc := 51) dX12_raceValue_51 rfl ?_
          refine AX.iaddN (pc := 53) (c := 5 * (63 + a) + k) dX12_raceValue_53 rfl ?_
          refine AX.ialdN (pc := 54) (i := 5 * (63 + a) + k) (v := (nI (wtN (H 1).1 (H 1).2 (5 * a + k)))) (lt_k hn (by omega)) e108 (by decide) (by omega) ((bs k (by omega)).2) dX12_raceValue_54 ?_
          refine AX.istore (pc := 55) (L' := [.ref 87, .int (nI 1), .int (nI a), .int (nI r), .int (nI q), .double ((rcS o (H 1).1 (H 1).2 (fun d => f1 (25 * r + d)) q a k).1), .null, .int (nI ((rcS o (H 1).1 (H 1).2 (fun d => f1 (25 * r + d)) q a k).2)), .int (nI (63 + a)), .int (nI k), .int (nI (fS (5 * a + k))), .int (nI (wtN (H 1).1 (H 1).2 (5 * a + k))), .null, .null, .null]) dX12_raceValue_55 (by decide) rfl ?_
          refine AX.aload_n (pc := 57) dX12_raceValue_57 rfl ?_
          refine AX.iload_n (pc := 58) dX12_raceValue_58 rfl ?_
          refine AX.if_neN (pc := 59) (tgt := 66) dX12_raceValue_59 (by decide) (by decide) (fun hc59 => ?_) (fun q => absurd q (by decide))
          refine AX.iload (pc := 66) dX12_raceValue_66 rfl ?_
          refine AX.iload (pc := 68) dX12_raceValue_68 rfl ?_
          refine AX.callV (pc := 70) (M2 := M_X12_nextRest) (As := [.int (nI q), .int (nI (fS (5 * a + k)))]) (rest := []) (c_nextRest w h hn hO hN ho12 ho q (fS (5 * a + k)) (by omega) h63) xc_X12_raceValue__X12_nextRest gX12_raceValue_X12_nextRest (ci := 11) rfl (lt_k hn (by omega)) hO rfl (Nat.le_of_ble_eq_true rfl) dX12_raceValue_70 ?_
          rintro _ h9 ⟨rfl, e9⟩
          have e9 := e9.symm
          subst e9
          rw [hx]
          show AX w M_X12_raceValue 0 0 73 [.ref 87, .int (nI 1), .int (nI a), .int (nI r), .int (nI q), .double ((rcS o (H 1).1 (H 1).2 (fun d => f1 (25 * r + d)) q a k).1), .null, .int (nI ((rcS o (H 1).1 (H 1).2 (fun d => f1 (25 * r + d)) q a k).2)), .int (nI (63 + a)), .int (nI k), .int (nI (fS (5 * a + k))), .int (nI (wtN (H 1).1 (H 1).2 (5 * a + k))), .null, .null, .null] [.int (nI d)] _ _
          refine AX.istore (pc := 73) (L' := [.ref 87, .int (nI 1), .int (nI a), .int (nI r), .int (nI q), .double ((rcS o (H 1).1 (H 1).2 (fun d => f1 (25 * r + d)) q a k).1), .null, .int (nI ((rcS o (H 1).1 (H 1).2 (fun d => f1 (25 * r + d)) q a k).2)), .int (nI (63 + a)), .int (nI k), .int (nI (fS (5 * a + k))), .int (nI (wtN (H 1).1 (H 1).2 (5 * a + k))), .int (nI d), .null, .null]) dX12_raceValue_73 (by decide) rfl ?_
          refine AX.iload (pc := 75) dX12_raceValue_75 rfl ?_
          refine AX.i2d (pc := 77) dX12_raceValue_77 ?_
          refine AX.ldc2d (pc := 78) (v := 4652007308841189376) dX12_raceValue_78 cX12_raceValue_156 ?_
          refine AX.ddiv (pc := 81) dX12_raceValue_81 (vfn (odW_zv hwt).1) ?_
          refine AX.topd (y := odW (wtN (H 1).1 (H 1).2 (5 * a + k))) rfl ?_
          refine AX.dstore (pc := 82) (L' := [.ref 87, .int (nI 1), .int (nI a), .int (nI r), .int (nI q), .double ((rcS o (H 1).1 (H 1).2 (fun d => f1 (25 * r + d)) q a k).1), .null, .int (nI ((rcS o (H 1).1 (H 1).2 (fun d => f1 (25 * r + d)) q a k).2)), .int (nI (63 + a)), .int (nI k), .int (nI (fS (5 * a + k))), .int (nI (wtN (H 1).1 (H 1).2 (5 * a + k))), .int (nI d), .double (odW (wtN (H 1).1 (H 1).2 (5 * a + k))), .null]) dX12_raceValue_82 (by decide) rfl ?_
          refine AX.iload (pc := 84) dX12_raceValue_84 rfl ?_
          refine AX.if_ltN (pc := 86) (tgt := 94) dX12_raceValue_86 (by decide) (by omega) (fun q => absurd q (by omega)) (fun hc86 => ?_)
          refine AX.iload (pc := 89) dX12_raceValue_89 rfl ?_
          refine AX.if_neN (pc := 91) (tgt := 104) dX12_raceValue_91 (by decide) (by omega) (fun hc91 => ?_) (fun q => absurd q (by omega))
          refine AX.iload (pc := 104) dX12_raceValue_104 rfl ?_
          refine AX.if_neN (pc := 106) (tgt := 119) dX12_raceValue_106 (by decide) (by omega) (fun q => absurd q (by omega)) (fun hc106 => ?_)
          refine AX.dload (pc := 109) dX12_raceValue_109 rfl ?_
          refine AX.dload (pc := 111) dX12_raceValue_111 rfl ?_
          refine AX.dadd (pc := 113) dX12_raceValue_113 (vfn hS1.1) ?_
          refine AX.dstore (pc := 114) (L' := [.ref 87, .int (nI 1), .int (nI a), .int (nI r), .int (nI q), .double (FP.dadd ((rcS o (H 1).1 (H 1).2 (fun d => f1 (25 * r + d)) q a k).1) (odW (wtN (H 1).1 (H 1).2 (5 * a + k)))), .null, .int (nI ((rcS o (H 1).1 (H 1).2 (fun d => f1 (25 * r + d)) q a k).2)), .int (nI (63 + a)), .int (nI k), .int (nI (fS (5 * a + k))), .int (nI (wtN (H 1).1 (H 1).2 (5 * a + k))), .int (nI d), .double (odW (wtN (H 1).1 (H 1).2 (5 * a + k))), .null]) dX12_raceValue_114 (by decide) rfl ?_
          refine AX.goto (pc := 116) (tgt := 153) dX12_raceValue_116 (by decide) ?_
          refine AX.iincN (c := k + 1) (pc := 153) (L' := [.ref 87, .int (nI 1), .int (nI a), .int (nI r), .int (nI q), .double (FP.dadd ((rcS o (H 1).1 (H 1).2 (fun d => f1 (25 * r + d)) q a k).1) (odW (wtN (H 1).1 (H 1).2 (5 * a + k)))), .null, .int (nI ((rcS o (H 1).1 (H 1).2 (fun d => f1 (25 * r + d)) q a k).2)), .int (nI (63 + a)), .int (nI (k + 1)), .int (nI (fS (5 * a + k))), .int (nI (wtN (H 1).1 (H 1).2 (5 * a + k))), .int (nI d), .double (odW (wtN (H 1).1 (H 1).2 (5 * a + k))), .null]) dX12_raceValue_153 rfl (inc1 _) (by decide) rfl ?_
          refine AX.goto (pc := 156) (tgt := 17) dX12_raceValue_156 (by decide) ?_
          refine AX.sub (L' := [.ref 87, .int (nI 1), .int (nI a), .int (nI r), .int (nI q), .double (FP.dadd ((rcS o (H 1).1 (H 1).2 (fun d => f1 (25 * r + d)) q a k).1) (odW (wtN (H 1).1 (H 1).2 (5 * a + k)))), .null, .int (nI ((rcS o (H 1).1 (H 1).2 (fun d => f1 (25 * r + d)) q a k).2)), .int (nI (63 + a)), .int (nI (k + 1)), .null, .null, .null, .null, .null]) ⟨Or.inr rfl, Or.inr rfl, Or.inr rfl, Or.inr rfl, Or.inr rfl, Or.inr rfl, Or.inl rfl, Or.inr rfl, Or.inr rfl, Or.inr rfl, Or.inl rfl, Or.inl rfl, Or.inl rfl, Or.inl rfl, Or.inl rfl, trivial⟩ ?_
          exact ih
        · have hz : rcS o (H 1).1 (H 1).2 (fun d => f1 (25 * r + d)) q a (k + 1) = (FP.dadd (rcS o (H 1).1 (H 1).2 (fun d => f1 (25 * r + d)) q a k).1 (FP.dmul (odW (wtN (H 1).1 (H 1).2 (5 * a + k))) (FP.dsub FP.dconst1 (f1 (25 * r + d)))), (rcS o (H 1).1 (H 1).2 (fun d => f1 (25 * r + d)) q a k).2) := by rw [hz]; exact (if_neg hf0).trans (if_neg hd0)
          rw [hz] at ih hS1
          have hVd := hV d (by omega) (by unfold leN; split <;> omega)
          refine AX.iload (pc := 17) dX12_raceValue_17 rfl ?_
          refine AX.aload_n (pc := 19) dX12_raceValue_19 rfl ?_
          refine AX.getf (pc := 20) fX12_raceValue_66 (lt_k hn (by omega)) hO rfl dX12_raceValue_20 ?_
          refine AX.iload (pc := 23) dX12_raceValue_23 rfl ?_
          refine AX.ialdN (pc := 25) (i := 63 + a) (v := (nI (fC a))) (lt_k hn (by omega)) e106 (by decide) (by omega) bm dX12_raceValue_25 ?_
          refine AX.icmp_geN (pc := 26) (tgt := 159) dX12_raceValue_26 (by decide) (by omega) (by omega) (fun q => absurd q (by omega)) (fun hc26 => ?_)
          refine AX.aload_n (pc := 29) dX12_raceValue_29 rfl ?_
          refine AX.getf (pc := 30) fX12_raceValue_69 (lt_k hn (by omega)) hO rfl dX12_raceValue_30 ?_
          refine AX.iconst (pc := 33) (v := nI 5) dX12_raceValue_33 (by decide) ?_
          refine AX.iload (pc := 34) dX12_raceValue_34 rfl ?_
          refine AX.imulN (pc := 36) (c := 5 * (63 + a)) dX12_raceValue_36 rfl ?_
          refine AX.iload (pc := 37) dX12_raceValue_37 rfl ?_
          refine AX.iaddN (pc := 39) (c := 5 * (63 + a) + k) dX12_raceValue_39 rfl ?_
          refine AX.ialdN (pc := 40) (i := 5 * (63 + a) + k) (v := (nI (fS (5 * a + k)))) (lt_k hn (by omega)) e107 (by decide) (by omega) ((bs k (by omega)).1) dX12_raceValue_40 ?_
          refine AX.istore (pc := 41) (L' := [.ref 87, .int (nI 1), .int (nI a), .int (nI r), .int (nI q), .double ((rcS o (H 1).1 (H 1).2 (fun d => f1 (25 * r + d)) q a k).1), .null, .int (nI ((rcS o (H 1).1 (H 1).2 (fun d => f1 (25 * r + d)) q a k).2)), .int (nI (63 + a)), .int (nI k), .int (nI (fS (5 * a + k))), .null, .null, .null, .null]) dX12_raceValue_41 (by decide) rfl ?_
          refine AX.aload_n (pc := 43) dX12_raceValue_43 rfl ?_
          refine AX.getf (pc := 44) fX12_raceValue_72 (lt_k hn (by omega)) hO rfl dX12_raceValue_44 ?_
          refine AX.iconst (pc := 47) (v := nI 5) dX12_raceValue_47 (by decide) ?_
          refine AX.iload (pc := 48) dX12_raceValue_48 rfl ?_
          refine AX.imulN (pc := 50) (c := 5 * (63 + a)) dX12_raceValue_50 rfl ?_
          refine AX.iload (pc := 51) dX12_raceValue_51 rfl ?_
          refine AX.iaddN (pc := 53) (c := 5 * (63 + a) + k) dX12_raceValue_53 rfl ?_
          refine AX.ialdN (pc := 54) (i := 5 * (63 + a) + k) (v := (nI (wtN (H 1).1 (H 1).2 (5 * a + k)))) (lt_k hn (by omega)) e108 (by decide) (by omega) ((bs k (by omega)).2) dX12_raceValue_54 ?_
          refine AX.istore (pc := 55) (L' := [.ref 87, .int (nI 1), .int (nI a), .int (nI r), .int (nI q), .double ((rcS o (H 1).1 (H 1).2 (fun d => f1 (25 * r + d)) q a k).1), .null, .int (nI ((rcS o (H 1).1 (H 1).2 (fun d => f1 (25 * r + d)) q a k).2)), .int (nI (63 + a)), .int (nI k), .int (nI (fS (5 * a + k))), .int (nI (wtN (H 1).1 (H 1).2 (5 * a + k))), .null, .null, .null]) dX12_raceValue_55 (by decide) rfl ?_
          refine AX.aload_n (pc := 57) dX12_raceValue_57 rfl ?_
          refine AX.iload_n (pc := 58) dX12_raceValue_58 rfl ?_
          refine AX.if_neN (pc := 59) (tgt := 66) dX12_raceValue_59 (by decide) (by decide) (fun hc59 => ?_) (fun q => absurd q (by decide))
          refine AX.iload (pc := 66) dX12_raceValue_66 rfl ?_
          refine AX.iload (pc := 68) dX12_raceValue_68 rfl ?_
          refine AX.callV (pc := 70) (M2 := M_X12_nextRest) (As := [.int (nI q), .int (nI (fS (5 * a + k)))]) (rest := []) (c_nextRest w h hn hO hN ho12 ho q (fS (5 * a + k)) (by omega) h63) xc_X12_raceValue__X12_nextRest gX12_raceValue_X12_nextRest (ci := 11) rfl (lt_k hn (by omega)) hO rfl (Nat.le_of_ble_eq_true rfl) dX12_raceValue_70 ?_
          rintro _ h9 ⟨rfl, e9⟩
          have e9 := e9.symm
          subst e9
          rw [hx]
          show AX w M_X12_raceValue 0 0 73 [.ref 87, .int (nI 1), .int (nI a), .int (nI r), .int (nI q), .double ((rcS o (H 1).1 (H 1).2 (fun d => f1 (25 * r + d)) q a k).1), .null, .int (nI ((rcS o (H 1).1 (H 1).2 (fun d => f1 (25 * r + d)) q a k).2)), .int (nI (63 + a)), .int (nI k), .int (nI (fS (5 * a + k))), .int (nI (wtN (H 1).1 (H 1).2 (5 * a + k))), .null, .null, .null] [.int (nI d)] _ _
          refine AX.istore (pc := 73) (L' := [.ref 87, .int (nI 1), .int (nI a), .int (nI r), .int (nI q), .double ((rcS o (H 1).1 (H 1).2 (fun d => f1 (25 * r + d)) q a k).1), .null, .int (nI ((rcS o (H 1).1 (H 1).2 (fun d => f1 (25 * r + d)) q a k).2)), .int (nI (63 + a)), .int (nI k), .int (nI (fS (5 * a + k))), .int (nI (wtN (H 1).1 (H 1).2 (5 * a + k))), .int (nI d), .null, .null]) dX12_raceValue_73 (by decide) rfl ?_
          refine AX.iload (pc := 75) dX12_raceValue_75 rfl ?_
          refine AX.i2d (pc := 77) dX12_raceValue_77 ?_
          refine AX.ldc2d (pc := 78) (v := 4652007308841189376) dX12_raceValue_78 cX12_raceValue_156 ?_
          refine AX.ddiv (pc := 81) dX12_raceValue_81 (vfn (odW_zv hwt).1) ?_
          refine AX.topd (y := odW (wtN (H 1).1 (H 1).2 (5 * a + k))) rfl ?_
          refine AX.dstore (pc := 82) (L' := [.ref 87, .int (nI 1), .int (nI a), .int (nI r), .int (nI q), .double ((rcS o (H 1).1 (H 1).2 (fun d => f1 (25 * r + d)) q a k).1), .null, .int (nI ((rcS o (H 1).1 (H 1).2 (fun d => f1 (25 * r + d)) q a k).2)), .int (nI (63 + a)), .int (nI k), .int (nI (fS (5 * a + k))), .int (nI (wtN (H 1).1 (H 1).2 (5 * a + k))), .int (nI d), .double (odW (wtN (H 1).1 (H 1).2 (5 * a + k))), .null]) dX12_raceValue_82 (by decide) rfl ?_
          refine AX.iload (pc := 84) dX12_raceValue_84 rfl ?_
          refine AX.if_ltN (pc := 86) (tgt := 94) dX12_raceValue_86 (by decide) (by omega) (fun q => absurd q (by omega)) (fun hc86 => ?_)
          refine AX.iload (pc := 89) dX12_raceValue_89 rfl ?_
          refine AX.if_neN (pc := 91) (tgt := 104) dX12_raceValue_91 (by decide) (by omega) (fun hc91 => ?_) (fun q => absurd q (by omega))
          refine AX.iload (pc := 104) dX12_raceValue_104 rfl ?_
          refine AX.if_neN (pc := 106) (tgt := 119) dX12_raceValue_106 (by decide) (by omega) (fun hc106 => ?_) (fun q => absurd q (by omega))
          refine AX.dload (pc := 119) dX12_raceValue_119 rfl ?_
          refine AX.dload (pc := 121) dX12_raceValue_121 rfl ?_
          refine AX.aload_n (pc := 123) dX12_raceValue_123 rfl ?_
          refine AX.iload_n (pc := 124) dX12_raceValue_124 rfl ?_
          refine AX.iload_n (pc := 125) dX12_raceValue_125 rfl ?_
          refine AX.if_neN (pc := 126) (tgt := 134) dX12_raceValue_126 (by decide) (by decide) (fun hc126 => ?_) (fun q => absurd q (by decide))
          refine AX.iload_n (pc := 134) dX12_raceValue_134 rfl ?_
          refine AX.iload_n (pc := 135) dX12_raceValue_135 rfl ?_
          refine AX.if_neN (pc := 136) (tgt := 144) dX12_raceValue_136 (by decide) (by decide) (fun hc136 => ?_) (fun q => absurd q (by decide))
          refine AX.iload (pc := 144) dX12_raceValue_144 rfl ?_
          refine AX.callV (pc := 146) (M2 := M_X12_lostBy) (As := [.int (nI 1), .int (nI r), .int (nI d)]) (rest := [.double (odW (wtN (H 1).1 (H 1).2 (5 * a + k))), .double ((rcS o (H 1).1 (H 1).2 (fun d => f1 (25 * r + d)) q a k).1)]) (c_lostBy1 w h hn hO e1 (show r ≤ 24 by omega) (show d ≤ 24 by omega) (sub1_ok hn1 hVd).1) xc_X12_raceValue__X12_lostBy gX12_raceValue_X12_lostBy (ci := 11) rfl (lt_k hn (by omega)) hO rfl (Nat.le_of_ble_eq_true rfl) dX12_raceValue_146 ?_
          rintro _ h9 ⟨rfl, e9⟩
          have e9 := e9.symm
          subst e9
          show AX w M_X12_raceValue 0 0 149 [.ref 87, .int (nI 1), .int (nI a), .int (nI r), .int (nI q), .double ((rcS o (H 1).1 (H 1).2 (fun d => f1 (25 * r + d)) q a k).1), .null, .int (nI ((rcS o (H 1).1 (H 1).2 (fun d => f1 (25 * r + d)) q a k).2)), .int (nI (63 + a)), .int (nI k), .int (nI (fS (5 * a + k))), .int (nI (wtN (H 1).1 (H 1).2 (5 * a + k))), .int (nI d), .double (odW (wtN (H 1).1 (H 1).2 (5 * a + k))), .null] [.double (FP.dsub FP.dconst1 (f1 (25 * r + d))), .double (odW (wtN (H 1).1 (H 1).2 (5 * a + k))), .double ((rcS o (H 1).1 (H 1).2 (fun d => f1 (25 * r + d)) q a k).1)] _ _
          refine AX.dmul (pc := 149) dX12_raceValue_149 (vfn (odd_mulU hwt hn1 (sub1_ok hn1 hVd)).1) ?_
          refine AX.dadd (pc := 150) dX12_raceValue_150 (vfn hS1.1) ?_
          refine AX.dstore (pc := 151) (L' := [.ref 87, .int (nI 1), .int (nI a), .int (nI r), .int (nI q), .double (FP.dadd ((rcS o (H 1).1 (H 1).2 (fun d => f1 (25 * r + d)) q a k).1) (FP.dmul (odW (wtN (H 1).1 (H 1).2 (5 * a + k))) (FP.dsub FP.dconst1 (f1 (25 * r + d))))), .null, .int (nI ((rcS o (H 1).1 (H 1).2 (fun d => f1 (25 * r + d)) q a k).2)), .int (nI (63 + a)), .int (nI k), .int (nI (fS (5 * a + k))), .int (nI (wtN (H 1).1 (H 1).2 (5 * a + k))), .int (nI d), .double (odW (wtN (H 1).1 (H 1).2 (5 * a + k))), .null]) dX12_raceValue_151 (by decide) rfl ?_
          refine AX.iincN (c := k + 1) (pc := 153) (L' := [.ref 87, .int (nI 1), .int (nI a), .int (nI r), .int (nI q), .double (FP.dadd ((rcS o (H 1).1 (H 1).2 (fun d => f1 (25 * r + d)) q a k).1) (FP.dmul (odW (wtN (H 1).1 (H 1).2 (5 * a + k))) (FP.dsub FP.dconst1 (f1 (25 * r + d))))), .null, .int (nI ((rcS o (H 1).1 (H 1).2 (fun d => f1 (25 * r + d)) q a k).2)), .int (nI (63 + a)), .int (nI (k + 1)), .int (nI (fS (5 * a + k))), .int (nI (wtN (H 1).1 (H 1).2 (5 * a + k))), .int (nI d), .double (odW (wtN (H 1).1 (H 1).2 (5 * a + k))), .null]) dX12_raceValue_153 rfl (inc1 _) (by decide) rfl ?_
          refine AX.goto (pc := 156) (tgt := 17) dX12_raceValue_156 (by decide) ?_
          refine AX.sub (L' := [.ref 87, .int (nI 1), .int (nI a), .int (nI r), .int (nI q), .double (FP.dadd ((rcS o (H 1).1 (H 1).2 (fun d => f1 (25 * r + d)) q a k).1) (FP.dmul (odW (wtN (H 1).1 (H 1).2 (5 * a + k))) (FP.dsub FP.dconst1 (f1 (25 * r + d))))), .null, .int (nI ((rcS o (H 1).1 (H 1).2 (fun d => f1 (25 * r + d)) q a k).2)), .int (nI (63 + a)), .int (nI (k + 1)), .null, .null, .null, .null, .null]) ⟨Or.inr rfl, Or.inr rfl, Or.inr rfl, Or.inr rfl, Or.inr rfl, Or.inr rfl, Or.inl rfl, Or.inr rfl, Or.inr rfl, Or.inr rfl, Or.inl rfl, Or.inl rfl, Or.inl rfl, Or.inl rfl, Or.inl rfl, trivial⟩ ?_
          exact ih
theorem c_rv1 (w : XW) (h : XH) {v qq : Nat → Int32} {f1 : Nat → UInt64} {H : Nat → Nat × Nat} {o r q a n : Nat} (hn : 118 ≤ h.1) (hO : MO h v) (hN : iA h 89 19 qq) (ho12 : qq 12 = nI o) (ho : o ≤ 2) (hB : BL h H) (e1 : h.2 102 = .inl (2, 625, .inr (.inr (.inr (.inl f1))))) (hs : (H 1).1 ≤ 200) (hrg : (H 1).2 ≤ 200) (hn1 : n ≤ 10000) (hV : ∀ d, d < q → leN o ≤ d → rB n (f1 (25 * r + d))) (hy : vOK (rcS o (H 1).1 (H 1).2 (fun d => f1 (25 * r + d)) q a (fC a)) (f1 (25 * r + q))) (hy2 : (rcS o (H 1).1 (H 1).2 (fun d => f1 (25 * r + d)) q a (fC a)).2 ≤ 1000) (r1 : 1 ≤ r) (r2 : r ≤ 24) (q1 : 1 ≤ q) (q2 : q ≤ 24) (h1 : 1 ≤ a) (h2 : a < 63) : CA w M_X12_raceValue [.ref 87, .int (nI 1), .int (nI a), .int (nI r), .int (nI q)] h (fun v' h'' => v' = some (.double (vlN (rcS o (H 1).1 (H 1).2 (fun d => f1 (25 * r + d)) q a (fC a)) (f1 (25 * r + q)))) ∧ h'' = h) := by
  refine CA.of (by decide) rfl (fun _ => Nat.le_of_ble_eq_true rfl) ?_
  show AX w M_X12_raceValue 0 0 0 [.ref 87, .int (nI 1), .int (nI a), .int (nI r), .int (nI q), .null, .null, .null, .null, .null, .null, .null, .null, .null, .null] [] h _
  refine AX.dconst0 (pc := 0) dX12_raceValue_0 ?_
  refine AX.dstore (pc := 1) (L' := [.ref 87, .int (nI 1), .int (nI a), .int (nI r), .int (nI q), .double FP.dconst0, .null, .null, .null, .null, .null, .null, .null, .null, .null]) dX12_raceValue_1 (by decide) rfl ?_
  refine AX.iconst (pc := 3) (v := nI 0) dX12_raceValue_3 (by decide) ?_
  refine AX.istore (pc := 4) (L' := [.ref 87, .int (nI 1), .int (nI a), .int (nI r), .int (nI q), .double FP.dconst0, .null, .int (nI 0), .null, .null, .null, .null, .null, .null, .null]) dX12_raceValue_4 (by decide) rfl ?_
  refine AX.bipush (pc := 6) (v := nI 63) dX12_raceValue_6 (by decide) ?_
  refine AX.iload_n (pc := 8) dX12_raceValue_8 rfl ?_
  refine AX.imulN (pc := 9) (c := 63) dX12_raceValue_9 rfl ?_
  refine AX.iload_n (pc := 10) dX12_raceValue_10 rfl ?_
  refine AX.iaddN (pc := 11) (c := 63 + a) dX12_raceValue_11 rfl ?_
  refine AX.istore (pc := 12) (L' := [.ref 87, .int (nI 1), .int (nI a), .int (nI r), .int (nI q), .double FP.dconst0, .null, .int (nI 0), .int (nI (63 + a)), .null, .null, .null, .null, .null, .null]) dX12_raceValue_12 (by decide) rfl ?_
  refine AX.iconst (pc := 14) (v := nI 0) dX12_raceValue_14 (by decide) ?_
  refine AX.istore (pc := 15) (L' := [.ref 87, .int (nI 1), .int (nI a), .int (nI r), .int (nI q), .double FP.dconst0, .null, .int (nI 0), .int (nI (63 + a)), .int (nI 0), .null, .null, .null, .null, .null]) dX12_raceValue_15 (by decide) rfl ?_
  exact l_rv1 w h hn hO hN ho12 ho hB e1 hs hrg hn1 hV hy hy2 r1 r2 q1 q2 h1 h2 _ ⟨rfl, rfl⟩ (fC a) 0 (by omega)
