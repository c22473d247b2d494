/-! ===== THE REFERENCE: CHANCES asked ===== -/
theorem upd4 (v : Nat → Int32) (y x y' x' : Int32) : upd (upd (upd (upd v 2 y) 1 x) 2 y') 1 x' = upd (upd v 2 y') 1 x' := by
  funext j
  simp only [upd]
  by_cases h1 : j = 1
  · simp [h1]
  · by_cases h2 : j = 2
    · simp [h2]
    · simp [h1, h2]
def CPd (fc : Nat → UInt64) (o sd rg r j rr : Nat) : Prop := (∀ d, 1 ≤ d → d ≤ r → fc d = FP.dconst0) ∧ ∀ i, 1 ≤ i → i ≤ 3 → ∀ d, leN o ≤ d → d ≤ r → (i < j ∨ (i = j ∧ d < rr)) → fc (181 * i + d) = cN o sd rg i d
theorem cN_0 (o sd rg r : Nat) (h : r ≠ 0) : cN o sd rg 0 r = FP.dconst0 := by
  unfold cN
  simp only [cT, if_neg h]
theorem cN_z (o sd rg k : Nat) : cN o sd rg k 0 = FP.dconst1 := by
  unfold cN
  cases k with
  | zero => simp only [cT, if_true]
  | succ k => simp only [cT, if_true]
theorem CPd.c {fc : Nat → UInt64} {o sd rg r r' j rr : Nat} (H : CPd fc o sd rg r (j + 1) rr) (hj : j ≤ 2) (hr : r' ≤ r) : cOK o sd rg j r' (fun d => if d = 0 then FP.dconst1 else fc (181 * j + d)) := fun d h1 h2 => by
  by_cases e : d = 0
  · subst e; rw [cN_z]; rfl
  · show (if d = 0 then FP.dconst1 else fc (181 * j + d)) = _
    rw [if_neg e]
    cases j with
    | zero => rw [cN_0 _ _ _ _ e, Nat.mul_zero, Nat.zero_add]; exact H.1 d (by omega) (by omega)
    | succ j => exact H.2 (j + 1) (by omega) (by omega) d (by omega) (by omega) (Or.inl (by omega))
theorem CPd.next {fc : Nat → UInt64} {o sd rg r j rr : Nat} (H : CPd fc o sd rg r (j + 1) rr) (hr : r ≤ 180) (h1 : rr ≤ r) : CPd (vf_upd fc (181 * (j + 1) + rr) (cN o sd rg (j + 1) rr)) o sd rg r (j + 1) (rr + 1) := by
  refine ⟨fun d d1 d2 => by rw [vupd_off (by omega)]; exact H.1 d d1 d2, fun i i1 i2 d d1 d2 hc => ?_⟩
  by_cases e : i = j + 1 ∧ d = rr
  · obtain ⟨rfl, rfl⟩ := e
    exact vupd_at _ _ _
  · rw [vupd_off (by omega)]
    exact H.2 i i1 i2 d d1 d2 (by omega)
theorem CPd.up {fc : Nat → UInt64} {o sd rg r j : Nat} (H : CPd fc o sd rg r j (r + 1)) : CPd fc o sd rg r (j + 1) (leN o) :=
  ⟨H.1, fun i i1 i2 d d1 d2 hc => H.2 i i1 i2 d d1 d2 (by omega)⟩
theorem l_chZero (w : XW) (P : Option Value → XH → Prop) (h0 : XH) {v : Nat → Int32} {u r k : Nat} (hn0 : 118 ≤ h0.1) (hO0 : MO h0 v) (hr : r ≤ 180) (hP : ∀ (h' : XH) (fc : Nat → UInt64), Same [101] h0 h' → h'.2 101 = .inl (2, 724, .inr (.inr (.inr (.inl fc)))) → (∀ d, d ≤ r → fc d = FP.dconst0) → AX w M_X12_chanceAt 0 0 28 [.ref 87, .int (nI u), .int (nI r), .int (nI k), .null, .null] [] h' P) : ∀ (g i : Nat) (h : XH) (fc : Nat → UInt64), i + g = r + 1 → h.2 101 = .inl (2, 724, .inr (.inr (.inr (.inl fc)))) → (∀ d, d < i → fc d = FP.dconst0) → Same [101] h0 h → AX w M_X12_chanceAt 0 0 8 [.ref 87, .int (nI u), .int (nI r), .int (nI k), .int (nI i), .null] [] h P
  | 0, i, h, fc, hg, ec, qc, hS => by
    have hn := hS.le hn0
    have hO := hO0.same hS (by simp)
    refine AX.iload (pc := 8) dX12_chanceAt_8 rfl ?_
    refine AX.iload_n (pc := 10) dX12_chanceAt_10 rfl ?_
    refine AX.icmp_gtN (pc := 11) (tgt := 28) dX12_chanceAt_11 (by decide) (by omega) (by omega) (fun hc11 => ?_) (fun q => absurd q (by omega))
    refine AX.sub (L' := [.ref 87, .int (nI u), .int (nI r), .int (nI k), .null, .null]) ⟨Or.inr rfl, Or.inr rfl, Or.inr rfl, Or.inr rfl, Or.inl rfl, Or.inl rfl, trivial⟩ ?_
    exact hP h fc hS ec (fun d hd => qc d (by omega))
  | g + 1, i, h, fc, hg, ec, qc, hS => by
    have hn := hS.le hn0
    have hO := hO0.same hS (by simp)
    refine AX.iload (pc := 8) dX12_chanceAt_8 rfl ?_
    refine AX.iload_n (pc := 10) dX12_chanceAt_10 rfl ?_
    refine AX.icmp_gtN (pc := 11) (tgt := 28) dX12_chanceAt_11 (by decide) (by omega) (by omega) (fun q => absurd q (by omega)) (fun hc11 => ?_)
    refine AX.aload_n (pc := 14) dX12_chanceAt_14 rfl ?_
    refine AX.getf (pc := 15) fX12_chanceAt_50 (lt_k hn (by omega)) hO rfl dX12_chanceAt_15 ?_
    refine AX.iload (pc := 18) dX12_chanceAt_18 rfl ?_
    refine AX.dconst0 (pc := 20) dX12_chanceAt_20 ?_
    refine AX.dastN (pc := 21) (i := i) (g := vf_upd fc i FP.dconst0) (lt_k hn (by omega)) ec (by decide) (by omega) rfl dX12_chanceAt_21 ?_
    refine AX.iincN (c := i + 1) (pc := 22) (L' := [.ref 87, .int (nI u), .int (nI r), .int (nI k), .int (nI (i + 1)), .null]) dX12_chanceAt_22 rfl (inc1 _) (by decide) rfl ?_
    refine AX.goto (pc := 25) (tgt := 8) dX12_chanceAt_25 (by decide) ?_
    exact l_chZero w P h0 hn0 hO0 hr hP g (i + 1) _ _ (by omega) (xset_same _ _ _) (vupd_ext (g := fun _ => FP.dconst0) qc rfl) (hS.trans Same.rest)
theorem l_chIn (w : XW) (P : Option Value → XH → Prop) (h0 : XH) {v q : Nat → Int32} {u o sd rg r k j : Nat} (hn0 : 118 ≤ h0.1) (hN0 : iA h0 89 19 q) (ho12 : q 12 = nI o) (ho : o ≤ 2) (hA0 : AL h0 63 sd rg) (hs : sd ≤ 200) (hrg : rg ≤ 200) (hr : r ≤ 180) (hj : j ≤ 2) (hP : ∀ (h' : XH) (x y : Int32) (f fw : Nat → Int32) (fc : Nat → UInt64), Same [87, 91, 92, 101] h0 h' → MO h' (upd (upd v 2 y) 1 x) → h'.2 91 = .inl (0, 5, .inl f) → h'.2 92 = .inl (0, 5, .inl fw) → h'.2 101 = .inl (2, 724, .inr (.inr (.inr (.inl fc)))) → CPd fc o sd rg r (j + 1) (r + 1) → AX w M_X12_chanceAt 0 0 63 [.ref 87, .int (nI u), .int (nI r), .int (nI k), .int (nI (j + 1)), .null] [] h' P) : ∀ (g rr : Nat) (h' : XH) (x y : Int32) (f fw : Nat → Int32) (fc : Nat → UInt64), rr + g = r + 1 → leN o ≤ rr → MO h' (upd (upd v 2 y) 1 x) → h'.2 91 = .inl (0, 5, .inl f) → h'.2 92 = .inl (0, 5, .inl fw) → h'.2 101 = .inl (2, 724, .inr (.inr (.inr (.inl fc)))) → CPd fc o sd rg r (j + 1) rr → Same [87, 91, 92, 101] h0 h' → AX w M_X12_chanceAt 0 0 43 [.ref 87, .int (nI u), .int (nI r), .int (nI k), .int (nI (j + 1)), .int (nI rr)] [] h' P
  | 0, rr, h, x, y, f, fw, fc, hg, hl, hO, e91, e92, ec, hC, hS => by
    have hn := hS.le hn0
    have hlp := leN_pos o
    have e : rr = r + 1 := by omega
    subst e
    refine AX.iload (pc := 43) dX12_chanceAt_43 rfl ?_
    refine AX.iload_n (pc := 45) dX12_chanceAt_45 rfl ?_
    refine AX.icmp_gtN (pc := 46) (tgt := 63) dX12_chanceAt_46 (by decide) (by omega) (by omega) (fun hc46 => ?_) (fun q => absurd q (by omega))
    refine AX.sub (L' := [.ref 87, .int (nI u), .int (nI r), .int (nI k), .int (nI (j + 1)), .null]) ⟨Or.inr rfl, Or.inr rfl, Or.inr rfl, Or.inr rfl, Or.inr rfl, Or.inl rfl, trivial⟩ ?_
    exact hP h x y f fw fc hS hO e91 e92 ec hC
  | g + 1, rr, h, x, y, f, fw, fc, hg, hl, hO, e91, e92, ec, hC, hS => by
    have hn := hS.le hn0
    have hlp := leN_pos o
    refine AX.iload (pc := 43) dX12_chanceAt_43 rfl ?_
    refine AX.iload_n (pc := 45) dX12_chanceAt_45 rfl ?_
    refine AX.icmp_gtN (pc := 46) (tgt := 63) dX12_chanceAt_46 (by decide) (by omega) (by omega) (fun q => absurd q (by omega)) (fun hc46 => ?_)
    refine AX.aload_n (pc := 49) dX12_chanceAt_49 rfl ?_
    refine AX.iload (pc := 50) dX12_chanceAt_50 rfl ?_
    refine AX.iload (pc := 52) dX12_chanceAt_52 rfl ?_
    refine AX.callV (pc := 54) (M2 := M_X12_layChance) (As := [.int (nI rr), .int (nI (j + 1))]) (rest := []) (c_layChance w h hn hO (hN0.same hS (by simp)) ho12 ho (hA0.same hS (by simp) (by simp) (by simp)) e91 e92 ec hs hrg (hC.c hj (show rr ≤ r by omega)) hj (show rr ≤ 180 by omega) (by omega)) xc_X12_chanceAt__X12_layChance gX12_chanceAt_X12_layChance (ci := 11) rfl (lt_k hn (by omega)) hO rfl (Nat.le_of_ble_eq_true rfl) dX12_chanceAt_54 ?_
    rintro _ h1 ⟨rfl, s1, ⟨x1, O1⟩, ⟨f1, fw1, z91, z92⟩, z101⟩
    rw [upd4] at O1
    show AX w M_X12_chanceAt 0 0 57 [.ref 87, .int (nI u), .int (nI r), .int (nI k), .int (nI (j + 1)), .int (nI rr)] [] _ _
    refine AX.iincN (c := rr + 1) (pc := 57) (L' := [.ref 87, .int (nI u), .int (nI r), .int (nI k), .int (nI (j + 1)), .int (nI (rr + 1))]) dX12_chanceAt_57 rfl (inc1 _) (by decide) rfl ?_
    refine AX.goto (pc := 60) (tgt := 43) dX12_chanceAt_60 (by decide) ?_
    exact l_chIn w P h0 hn0 hN0 ho12 ho hA0 hs hrg hr hj hP g (rr + 1) h1 x1 _ f1 fw1 _ (by omega) (by omega) O1 z91 z92 z101 (hC.next hr (by omega)) (hS.trans s1)
theorem l_chOut (w : XW) (P : Option Value → XH → Prop) (h0 : XH) {v q : Nat → Int32} {u o sd rg r k : Nat} (hn0 : 118 ≤ h0.1) (hN0 : iA h0 89 19 q) (ho12 : q 12 = nI o) (ho : o ≤ 2) (hA0 : AL h0 63 sd rg) (hs : sd ≤ 200) (hrg : rg ≤ 200) (hr : r ≤ 180) (hk : k ≤ 3) (hl0 : leN o ≤ r) (hP : ∀ (h' : XH) (x y : Int32) (f fw : Nat → Int32) (fc : Nat → UInt64), Same [87, 91, 92, 101] h0 h' → MO h' (upd (upd v 2 y) 1 x) → h'.2 91 = .inl (0, 5, .inl f) → h'.2 92 = .inl (0, 5, .inl fw) → h'.2 101 = .inl (2, 724, .inr (.inr (.inr (.inl fc)))) → CPd fc o sd rg r k (leN o) → AX w M_X12_chanceAt 0 0 69 [.ref 87, .int (nI u), .int (nI r), .int (nI k), .null, .null] [] h' P) : ∀ (g j : Nat) (h' : XH) (x y : Int32) (f fw : Nat → Int32) (fc : Nat → UInt64), g = k - j → 1 ≤ j → j ≤ 4 → MO h' (upd (upd v 2 y) 1 x) → h'.2 91 = .inl (0, 5, .inl f) → h'.2 92 = .inl (0, 5, .inl fw) → h'.2 101 = .inl (2, 724, .inr (.inr (.inr (.inl fc)))) → CPd fc o sd rg r j (leN o) → Same [87, 91, 92, 101] h0 h' → AX w M_X12_chanceAt 0 0 31 [.ref 87, .int (nI u), .int (nI r), .int (nI k), .int (nI j), .null] [] h' P
  | 0, j, h, x, y, f, fw, fc, hg, hj1, hj4, hO, e91, e92, ec, hC, hS => by
    have hn := hS.le hn0
    have hlp := leN_pos o
    have hkj : k ≤ j := by omega
    refine AX.iload (pc := 31) dX12_chanceAt_31 rfl ?_
    refine AX.iload_n (pc := 33) dX12_chanceAt_33 rfl ?_
    refine AX.icmp_geN (pc := 34) (tgt := 69) dX12_chanceAt_34 (by decide) (by omega) (by omega) (fun hc34 => ?_) (fun q => absurd q (by omega))
    refine AX.sub (L' := [.ref 87, .int (nI u), .int (nI r), .int (nI k), .null, .null]) ⟨Or.inr rfl, Or.inr rfl, Or.inr rfl, Or.inr rfl, Or.inl rfl, Or.inl rfl, trivial⟩ ?_
    exact hP h x y f fw fc hS hO e91 e92 ec ⟨hC.1, fun i i1 i2 d d1 d2 hc => hC.2 i i1 i2 d d1 d2 (by omega)⟩
  | g + 1, j, h, x, y, f, fw, fc, hg, hj1, hj4, hO, e91, e92, ec, hC, hS => by
    have hn := hS.le hn0
    have hlp := leN_pos o
    obtain ⟨j, rfl⟩ : ∃ j2, j = j2 + 1 := ⟨j - 1, by omega⟩
    refine AX.iload (pc := 31) dX12_chanceAt_31 rfl ?_
    refine AX.iload_n (pc := 33) dX12_chanceAt_33 rfl ?_
    refine AX.icmp_geN (pc := 34) (tgt := 69) dX12_chanceAt_34 (by decide) (by omega) (by omega) (fun q => absurd q (by omega)) (fun hc34 => ?_)
    refine AX.aload_n (pc := 37) dX12_chanceAt_37 rfl ?_
    refine AX.callV (pc := 38) (M2 := M_X12_leastRest) (As := []) (rest := []) (c_mLeast w h hn hO (hN0.same hS (by simp)) ho12 ho) xc_X12_chanceAt__X12_leastRest gX12_chanceAt_X12_leastRest (ci := 11) rfl (lt_k hn (by omega)) hO rfl (Nat.le_of_ble_eq_true rfl) dX12_chanceAt_38 ?_
    rintro _ h9 ⟨rfl, e9⟩
    have e9 := e9.symm
    subst e9
    show AX w M_X12_chanceAt 0 0 41 [.ref 87, .int (nI u), .int (nI r), .int (nI k), .int (nI (j + 1)), .null] [.int (nI (leN o))] _ _
    refine AX.istore (pc := 41) (L' := [.ref 87, .int (nI u), .int (nI r), .int (nI k), .int (nI (j + 1)), .int (nI (leN o))]) dX12_chanceAt_41 (by decide) rfl ?_
    refine l_chIn w P h0 (v := v) (q := q) (k := k) hn0 hN0 ho12 ho hA0 hs hrg hr (show j ≤ 2 by omega) (fun h2 x2 y2 f2 fw2 fc2 t2 O2 z91 z92 z101 C2 => ?_) (r + 1 - leN o) (leN o) h x y f fw fc (by omega) (Nat.le_refl _) hO e91 e92 ec hC hS
    refine AX.iincN (c := j + 1 + 1) (pc := 63) (L' := [.ref 87, .int (nI u), .int (nI r), .int (nI k), .int (nI (j + 1 + 1)), .null]) dX12_chanceAt_63 rfl (inc1 _) (by decide) rfl ?_
    refine AX.goto (pc := 66) (tgt := 31) dX12_chanceAt_66 (by decide) ?_
    exact l_chOut w P h0 hn0 hN0 ho12 ho hA0 hs hrg hr hk hl0 hP g (j + 1 + 1) h2 x2 y2 f2 fw2 fc2 (by omega) (by omega) (by omega) O2 z91 z92 z101 C2.up t2
theorem c_mChanceAt (w : XW) (h : XH) {s : SS} {n o u r k : Nat} {a b : Nat × Nat} (c : MS h s) (l : LV (sq s) n o a b) (hu : u ≤ 1) (k1 : leN o ≤ r) (k2 : r ≤ 180) (k3 : k ≤ 3) : CA w M_X12_chanceAt [.ref 87, .int (nI u), .int (nI r), .int (nI k)] h (fun v' h' => v' = some (.double (cN o (hh a b u).1 (hh a b u).2 k r)) ∧ Same [87, 91, 92, 98, 99, 100, 101] h h' ∧ MS h' s ∧ (1 ≤ k → ∃ v2, MO h' v2 ∧ v2 2 = nI (cA_ o (hh a b u).1 (hh a b u).2 k r))) := by
  refine CA.of (by decide) rfl (fun _ => Nat.le_of_ble_eq_true rfl) ?_
  obtain ⟨v, hO, hv⟩ := id c.ob
  obtain ⟨hs1, hr1, hs2, hr2⟩ := l.hq hu
  obtain ⟨⟨a1, x1⟩, ⟨a2, x2⟩, ⟨a3, x3⟩, ⟨a4, x4⟩, ⟨a5, x5⟩⟩ := id c.fx
  obtain ⟨fc0, e101⟩ := c.ch
  have hlp := leN_pos o
  show AX w M_X12_chanceAt 0 0 0 [.ref 87, .int (nI u), .int (nI r), .int (nI k), .null, .null] [] h _
  refine AX.aload_n (pc := 0) dX12_chanceAt_0 rfl ?_
  refine AX.iload_n (pc := 1) dX12_chanceAt_1 rfl ?_
  refine AX.callV (pc := 2) (M2 := M_X12_keepFalls) (As := [.int (nI u)]) (rest := []) (c_keepFalls w h c.hn hO c.nw c.rg x1 x2 x3 x4 x5 hu hs1 hr1 hs2 hr2) xc_X12_chanceAt__X12_keepFalls gX12_chanceAt_X12_keepFalls (ci := 11) rfl (lt_k c.hn (by omega)) hO rfl (Nat.le_of_ble_eq_true rfl) dX12_chanceAt_2 ?_
  rintro _ h1 ⟨rfl, s1, ⟨xx, O1⟩, F1, A1⟩
  obtain ⟨f1, fw1, y91, y92⟩ := F1.arr
  show AX w M_X12_chanceAt 0 0 5 [.ref 87, .int (nI u), .int (nI r), .int (nI k), .null, .null] [] _ _
  refine AX.iconst (pc := 5) (v := nI 0) dX12_chanceAt_5 (by decide) ?_
  refine AX.istore (pc := 6) (L' := [.ref 87, .int (nI u), .int (nI r), .int (nI k), .int (nI 0), .null]) dX12_chanceAt_6 (by decide) rfl ?_
  refine l_chZero w _ h1 (v := upd v 1 xx) (s1.le c.hn) O1 k2 (fun h2 fc2 s2 z101 q2 => ?_) (r + 1) 0 h1 fc0 (Nat.zero_add _) (s1.at (by simp) e101) (fun d hd => absurd hd (Nat.not_lt_zero _)) Same.rf
  refine AX.iconst (pc := 28) (v := nI 1) dX12_chanceAt_28 (by decide) ?_
  refine AX.istore (pc := 29) (L' := [.ref 87, .int (nI u), .int (nI r), .int (nI k), .int (nI 1), .null]) dX12_chanceAt_29 (by decide) rfl ?_
  have hn2 := s2.le (s1.le c.hn)
  refine l_chOut w _ h2 (v := v) (q := sq s) (o := o) (sd := (hh a b u).1) (rg := (hh a b u).2) (k := k) hn2 (c.nw.same ((s1.wide (T := [87, 91, 92, 98, 99, 100, 101]) (by decide)).trans (s2.wide (by decide))) (by simp)) l.q12 l.ho (A1.same s2 (by simp) (by simp) (by simp)) hs2 hr2 k2 k3 k1 (fun h3 x3_ y3 f3 fw3 fc3 t3 O3 w91 w92 w101 C3 => ?_) (k - 1) 1 h2 xx (v 2) f1 fw1 fc2 rfl (Nat.le_refl _) (by decide) (by rw [upd_self]; exact O1.same s2 (by simp)) (s2.at (by simp) y91) (s2.at (by simp) y92) z101 ⟨fun d d1 d2 => q2 d d2, fun i i1 i2 d d1 d2 hc => by omega⟩ Same.rf
  have st : Same [87, 91, 92, 98, 99, 100, 101] h h3 := (s1.wide (by decide)).trans ((s2.wide (by decide)).trans (t3.wide (by decide)))
  have A3 := (A1.same s2 (by simp) (by simp) (by simp)).same t3 (by simp) (by simp) (by simp)
  obtain ⟨m98, m99, m100, b98, b99, b100, -⟩ := id A3
  by_cases hk0 : k = 0
  · subst hk0
    refine AX.iload_n (pc := 69) dX12_chanceAt_69 rfl ?_
    refine AX.if_leN (pc := 70) (tgt := 79) dX12_chanceAt_70 (by decide) (by decide) (fun hc70 => ?_) (fun q => absurd q (by decide))
    refine AX.aload_n (pc := 79) dX12_chanceAt_79 rfl ?_
    refine AX.getf (pc := 80) fX12_chanceAt_50 (lt_k (st.le c.hn) (by omega)) O3 rfl dX12_chanceAt_80 ?_
    refine AX.sipush (pc := 83) (v := nI 181) dX12_chanceAt_83 (by decide) ?_
    refine AX.iload_n (pc := 86) dX12_chanceAt_86 rfl ?_
    refine AX.imulN (pc := 87) (c := 0) dX12_chanceAt_87 rfl ?_
    refine AX.iload_n (pc := 88) dX12_chanceAt_88 rfl ?_
    refine AX.iaddN (pc := 89) (c := r) dX12_chanceAt_89 (Nat.zero_add _) ?_
    refine AX.daldN (pc := 90) (i := r) (v := (cN o (hh a b u).1 (hh a b u).2 0 r)) (lt_k (st.le c.hn) (by omega)) w101 (by decide) (by omega) ((congrArg fc3 (by omega)).trans ((C3.1 r (by omega) (Nat.le_refl _)).trans (cN_0 _ _ _ _ (by omega)).symm)) dX12_chanceAt_90 ?_
    refine AX.dret (pc := 91) dX12_chanceAt_91 rfl (by decide) (by decide) ?_
    have c3 : MS h3 s := c.chan st (MS.obv (v := upd v 2 y3) ⟨hv.1, hv.2.1, hv.2.2⟩ 1 (by decide) O3) ⟨⟨_, w91⟩, ⟨_, w92⟩, ⟨_, b98⟩, ⟨_, b99⟩, ⟨_, b100⟩⟩ ⟨_, w101⟩
    exact ⟨rfl, st, c3, fun z => absurd z (by decide)⟩
  · obtain ⟨j, rfl⟩ : ∃ j, k = j + 1 := ⟨k - 1, by omega⟩
    refine AX.iload_n (pc := 69) dX12_chanceAt_69 rfl ?_
    refine AX.if_leN (pc := 70) (tgt := 79) dX12_chanceAt_70 (by decide) (by omega) (fun q => absurd q (by omega)) (fun hc70 => ?_)
    refine AX.aload_n (pc := 73) dX12_chanceAt_73 rfl ?_
    refine AX.iload_n (pc := 74) dX12_chanceAt_74 rfl ?_
    refine AX.iload_n (pc := 75) dX12_chanceAt_75 rfl ?_
    refine AX.callV (pc := 76) (M2 := M_X12_layChance) (As := [.int (nI r), .int (nI (j + 1))]) (rest := []) (c_layChance w h3 (st.le c.hn) O3 (c.nw.same st (by simp)) l.q12 l.ho A3 w91 w92 w101 hs2 hr2 (C3.c (by omega) (Nat.le_refl _)) (by omega) k2 (by omega)) xc_X12_chanceAt__X12_layChance gX12_chanceAt_X12_layChance (ci := 11) rfl (lt_k (st.le c.hn) (by omega)) O3 rfl (Nat.le_of_ble_eq_true rfl) dX12_chanceAt_76 ?_
    rintro _ h4 ⟨rfl, s4, ⟨x4_, O4⟩, ⟨f4, fw4, z491, z492⟩, z4⟩
    rw [upd4] at O4
    show AX w M_X12_chanceAt 0 0 79 [.ref 87, .int (nI u), .int (nI r), .int (nI (j + 1)), .null, .null] [] _ _
    refine AX.aload_n (pc := 79) dX12_chanceAt_79 rfl ?_
    refine AX.getf (pc := 80) fX12_chanceAt_50 (lt_k (s4.le (st.le c.hn)) (by omega)) O4 rfl dX12_chanceAt_80 ?_
    refine AX.sipush (pc := 83) (v := nI 181) dX12_chanceAt_83 (by decide) ?_
    refine AX.iload_n (pc := 86) dX12_chanceAt_86 rfl ?_
    refine AX.imulN (pc := 87) (c := 181 * (j + 1)) dX12_chanceAt_87 rfl ?_
    refine AX.iload_n (pc := 88) dX12_chanceAt_88 rfl ?_
    refine AX.iaddN (pc := 89) (c := 181 * (j + 1) + r) dX12_chanceAt_89 rfl ?_
    refine AX.daldN (pc := 90) (i := 181 * (j + 1) + r) (v := (cN o (hh a b u).1 (hh a b u).2 (j + 1) r)) (lt_k (s4.le (st.le c.hn)) (by omega)) z4 (by decide) (by omega) (vupd_at _ _ _) dX12_chanceAt_90 ?_
    refine AX.dret (pc := 91) dX12_chanceAt_91 rfl (by decide) (by decide) ?_
    have st4 : Same [87, 91, 92, 98, 99, 100, 101] h h4 := st.trans (s4.wide (by decide))
    have c4 : MS h4 s := c.chan st4 (MS.obv (v := upd v 2 (nI (cA_ o (hh a b u).1 (hh a b u).2 (j + 1) r))) ⟨hv.1, hv.2.1, hv.2.2⟩ 1 (by decide) O4) ⟨⟨_, z491⟩, ⟨_, z492⟩, ⟨_, s4.at (by simp) b98⟩, ⟨_, s4.at (by simp) b99⟩, ⟨_, s4.at (by simp) b100⟩⟩ ⟨_, z4⟩
    exact ⟨rfl, st4, c4, fun _ => ⟨_, O4, rfl⟩⟩
theorem c_mChance (w : XW) (h : XH) {s : SS} {n o : Nat} {a b : Nat × Nat} (c : MS h s) (l : LV (sq s) n o a b) (x : Int32) (r : Int32) (k : Int32) : CA w M_X12_chance [.ref 87, .int x, .int r, .int k] h (fun v' h'' => v' = some (.long (aChance o a b x r k)) ∧ Same mdS h h'' ∧ MS h'' s) := by
  obtain ⟨v, hO, hv⟩ := id c.ob
  obtain ⟨f89, e89, q89⟩ := id c.nw
  by_cases h_x : inR 0 1 x
  · obtain ⟨xn, rfl, l_x, u_x⟩ := inR_nat (by decide) h_x
    by_cases h_r : inR (leN o) 180 r
    · obtain ⟨rn, rfl, l_r, u_r⟩ := inR_nat (by decide) h_r
      have p_r := leN_pos o
      by_cases h_k : inR 0 3 k
      · obtain ⟨kn, rfl, l_k, u_k⟩ := inR_nat (by decide) h_k
        obtain ⟨hs1, hr1, hs2, hr2⟩ := l.hq u_x
        have dd := cN_ok (o := o) hs2 hr2 kn rn (by omega)
        refine CA.of (by decide) rfl (fun _ => Nat.le_of_ble_eq_true rfl) ?_
        show AX w M_X12_chance 0 0 0 [.ref 87, .int (nI xn), .int (nI rn), .int (nI kn)] [] h _
        refine AX.iload_n (pc := 0) dX12_chance_0 rfl ?_
        refine AX.callS (pc := 1) (M2 := M_X12_isPlayer) (As := [.int (nI xn)]) (rest := []) (c_mPlayer w h (nI xn)) xc_X12_chance__X12_isPlayer gX12_chance_X12_isPlayer rfl (Nat.le_of_ble_eq_true rfl) dX12_chance_1 ?_
        rintro _ h9 ⟨rfl, e9⟩
        have e9 := e9.symm
        subst e9
        rw [decide_eq_true h_x]
        show AX w M_X12_chance 0 0 4 [.ref 87, .int (nI xn), .int (nI rn), .int (nI kn)] [.int (bI true)] _ _
        refine AX.if_eqB (pc := 4) (tgt := 43) dX12_chance_4 (by decide) (fun q => absurd q (by decide)) (fun hc4 => ?_)
        refine AX.aload_n (pc := 7) dX12_chance_7 rfl ?_
        refine AX.iload_n (pc := 8) dX12_chance_8 rfl ?_
        refine AX.sipush (pc := 9) (v := nI 180) dX12_chance_9 (by decide) ?_
        refine AX.callV (pc := 12) (M2 := M_X12_isRest) (As := [.int (nI rn), .int (nI 180)]) (rest := []) (c_mRest w h c l (nI rn) 180 (by decide)) xc_X12_chance__X12_isRest gX12_chance_X12_isRest (ci := 11) rfl (lt_k c.hn (by omega)) hO rfl (Nat.le_of_ble_eq_true rfl) dX12_chance_12 ?_
        rintro _ h9 ⟨rfl, e9⟩
        have e9 := e9.symm
        subst e9
        rw [decide_eq_true h_r]
        show AX w M_X12_chance 0 0 15 [.ref 87, .int (nI xn), .int (nI rn), .int (nI kn)] [.int (bI true)] _ _
        refine AX.if_eqB (pc := 15) (tgt := 43) dX12_chance_15 (by decide) (fun q => absurd q (by decide)) (fun hc15 => ?_)
        refine AX.iload_n (pc := 18) dX12_chance_18 rfl ?_
        refine AX.i2l (pc := 19) dX12_chance_19 ?_
        refine AX.lconst (pc := 20) (v := 0) dX12_chance_20 (by decide) ?_
        refine AX.ldc2 (pc := 21) (v := 3) dX12_chance_21 cX12_chance_114 ?_
        refine AX.callS (pc := 24) (M2 := M_X12_in) (As := [.long ((nI kn).toInt64), .long 0, .long 3]) (rest := []) (c_in w h ((nI kn).toInt64) (0) (3)) xc_X12_chance__X12_in gX12_chance_X12_in rfl (Nat.le_of_ble_eq_true rfl) dX12_chance_24 ?_
        rintro _ h9 ⟨rfl, e9⟩
        have e9 := e9.symm
        subst e9
        rw [decide_eq_true ((in_iff (by decide) (by decide)).mpr h_k)]
        show AX w M_X12_chance 0 0 27 [.ref 87, .int (nI xn), .int (nI rn), .int (nI kn)] [.int (bI true)] _ _
        refine AX.if_eqB (pc := 27) (tgt := 43) dX12_chance_27 (by decide) (fun q => absurd q (by decide)) (fun hc27 => ?_)
        refine AX.aload_n (pc := 30) dX12_chance_30 rfl ?_
        refine AX.iload_n (pc := 31) dX12_chance_31 rfl ?_
        refine AX.iload_n (pc := 32) dX12_chance_32 rfl ?_
        refine AX.iload_n (pc := 33) dX12_chance_33 rfl ?_
        refine AX.callV (pc := 34) (M2 := M_X12_chanceAt) (As := [.int (nI xn), .int (nI rn), .int (nI kn)]) (rest := []) (c_mChanceAt w h c l u_x l_r u_r u_k) xc_X12_chance__X12_chanceAt gX12_chance_X12_chanceAt (ci := 11) rfl (lt_k c.hn (by omega)) hO rfl (Nat.le_of_ble_eq_true rfl) dX12_chance_34 ?_
        rintro _ h1 ⟨rfl, s1, c1, hk9⟩
        show AX w M_X12_chance 0 0 37 [.ref 87, .int (nI xn), .int (nI rn), .int (nI kn)] [.double (cN o (hh a b xn).1 (hh a b xn).2 kn rn)] _ _
        refine AX.callS (pc := 37) (M2 := M_Jxe99ae_doubleToLongBits_ccdee) (As := [.double (cN o (hh a b xn).1 (hh a b xn).2 kn rn)]) (rest := []) (c_d2bits w h1 dd.1) xc_X12_chance__Jxe99ae_doubleToLongBits_ccdee gX12_chance_Jxe99ae_doubleToLongBits_ccdee rfl (Nat.le_of_ble_eq_true rfl) dX12_chance_37 ?_
        rintro _ h9 ⟨rfl, e9⟩
        have e9 := e9.symm
        subst e9
        show AX w M_X12_chance 0 0 40 [.ref 87, .int (nI xn), .int (nI rn), .int (nI kn)] [.long ((cN o (hh a b xn).1 (hh a b xn).2 kn rn).toInt64)] _ _
        refine AX.goto (pc := 40) (tgt := 46) dX12_chance_40 (by decide) ?_
        refine AX.lret (pc := 46) dX12_chance_46 rfl (by decide) (by decide) ?_
        exact ⟨by unfold aChance; rw [if_pos h_x, if_pos h_r, if_pos h_k, show pl a b (nI xn) = hh a b xn from by unfold pl; rw [nI_nat (show xn < 2147483648 by omega)], nI_nat (show rn < 2147483648 by omega), nI_nat (show kn < 2147483648 by omega)]; try rfl, mdS_lt s1 (by decide), c1⟩
      · refine CA.of (by decide) rfl (fun _ => Nat.le_of_ble_eq_true rfl) ?_
        show AX w M_X12_chance 0 0 0 [.ref 87, .int (nI xn), .int (nI rn), .int k] [] h _
        refine AX.iload_n (pc := 0) dX12_chance_0 rfl ?_
        refine AX.callS (pc := 1) (M2 := M_X12_isPlayer) (As := [.int (nI xn)]) (rest := []) (c_mPlayer w h (nI xn)) xc_X12_chance__X12_isPlayer gX12_chance_X12_isPlayer rfl (Nat.le_of_ble_eq_true rfl) dX12_chance_1 ?_
        rintro _ h9 ⟨rfl, e9⟩
        have e9 := e9.symm
        subst e9
        rw [decide_eq_true h_x]
        show AX w M_X12_chance 0 0 4 [.ref 87, .int (nI xn), .int (nI rn), .int k] [.int (bI true)] _ _
        refine AX.if_eqB (pc := 4) (tgt := 43) dX12_chance_4 (by decide) (fun q => absurd q (by decide)) (fun hc4 => ?_)
        refine AX.aload_n (pc := 7) dX12_chance_7 rfl ?_
        refine AX.iload_n (pc := 8) dX12_chance_8 rfl ?_
        refine AX.sipush (pc := 9) (v := nI 180) dX12_chance_9 (by decide) ?_
        refine AX.callV (pc := 12) (M2 := M_X12_isRest) (As := [.int (nI rn), .int (nI 180)]) (rest := []) (c_mRest w h c l (nI rn) 180 (by decide)) xc_X12_chance__X12_isRest gX12_chance_X12_isRest (ci := 11) rfl (lt_k c.hn (by omega)) hO rfl (Nat.le_of_ble_eq_true rfl) dX12_chance_12 ?_
        rintro _ h9 ⟨rfl, e9⟩
        have e9 := e9.symm
        subst e9
        rw [decide_eq_true h_r]
        show AX w M_X12_chance 0 0 15 [.ref 87, .int (nI xn), .int (nI rn), .int k] [.int (bI true)] _ _
        refine AX.if_eqB (pc := 15) (tgt := 43) dX12_chance_15 (by decide) (fun q => absurd q (by decide)) (fun hc15 => ?_)
        refine AX.iload_n (pc := 18) dX12_chance_18 rfl ?_
        refine AX.i2l (pc := 19) dX12_chance_19 ?_
        refine AX.lconst (pc := 20) (v := 0) dX12_chance_20 (by decide) ?_
        refine AX.ldc2 (pc := 21) (v := 3) dX12_chance_21 cX12_chance_114 ?_
        refine AX.callS (pc := 24) (M2 := M_X12_in) (As := [.long k.toInt64, .long 0, .long 3]) (rest := []) (c_in w h (k.toInt64) (0) (3)) xc_X12_chance__X12_in gX12_chance_X12_in rfl (Nat.le_of_ble_eq_true rfl) dX12_chance_24 ?_
        rintro _ h9 ⟨rfl, e9⟩
        have e9 := e9.symm
        subst e9
        rw [decide_eq_false (fun q => h_k ((in_iff (by decide) (by decide)).mp q))]
        show AX w M_X12_chance 0 0 27 [.ref 87, .int (nI xn), .int (nI rn), .int k] [.int (bI false)] _ _
        refine AX.if_eqB (pc := 27) (tgt := 43) dX12_chance_27 (by decide) (fun hc27 => ?_) (fun q => absurd q (by decide))
        refine AX.ldc2 (pc := 43) (v := (-9000000000000000000)) dX12_chance_43 cX12_chance_196 ?_
        refine AX.lret (pc := 46) dX12_chance_46 rfl (by decide) (by decide) ?_
        exact ⟨by unfold aChance; rw [if_pos h_x, if_pos h_r, if_neg h_k]; try rfl, Same.rf, c⟩
    · refine CA.of (by decide) rfl (fun _ => Nat.le_of_ble_eq_true rfl) ?_
      show AX w M_X12_chance 0 0 0 [.ref 87, .int (nI xn), .int r, .int k] [] h _
      refine AX.iload_n (pc := 0) dX12_chance_0 rfl ?_
      refine AX.callS (pc := 1) (M2 := M_X12_isPlayer) (As := [.int (nI xn)]) (rest := []) (c_mPlayer w h (nI xn)) xc_X12_chance__X12_isPlayer gX12_chance_X12_isPlayer rfl (Nat.le_of_ble_eq_true rfl) dX12_chance_1 ?_
      rintro _ h9 ⟨rfl, e9⟩
      have e9 := e9.symm
      subst e9
      rw [decide_eq_true h_x]
      show AX w M_X12_chance 0 0 4 [.ref 87, .int (nI xn), .int r, .int k] [.int (bI true)] _ _
      refine AX.if_eqB (pc := 4) (tgt := 43) dX12_chance_4 (by decide) (fun q => absurd q (by decide)) (fun hc4 => ?_)
      refine AX.aload_n (pc := 7) dX12_chance_7 rfl ?_
      refine AX.iload_n (pc := 8) dX12_chance_8 rfl ?_
      refine AX.sipush (pc := 9) (v := nI 180) dX12_chance_9 (by decide) ?_
      refine AX.callV (pc := 12) (M2 := M_X12_isRest) (As := [.int r, .int (nI 180)]) (rest := []) (c_mRest w h c l r 180 (by decide)) xc_X12_chance__X12_isRest gX12_chance_X12_isRest (ci := 11) rfl (lt_k c.hn (by omega)) hO rfl (Nat.le_of_ble_eq_true rfl) dX12_chance_12 ?_
      rintro _ h9 ⟨rfl, e9⟩
      have e9 := e9.symm
      subst e9
      rw [decide_eq_false h_r]
      show AX w M_X12_chance 0 0 15 [.ref 87, .int (nI xn), .int r, .int k] [.int (bI false)] _ _
      refine AX.if_eqB (pc := 15) (tgt := 43) dX12_chance_15 (by decide) (fun hc15 => ?_) (fun q => absurd q (by decide))
      refine AX.ldc2 (pc := 43) (v := (-9000000000000000000)) dX12_chance_43 cX12_chance_196 ?_
      refine AX.lret (pc := 46) dX12_chance_46 rfl (by decide) (by decide) ?_
      exact ⟨by unfold aChance; rw [if_pos h_x, if_neg h_r]; try rfl, Same.rf, c⟩
  · refine CA.of (by decide) rfl (fun _ => Nat.le_of_ble_eq_true rfl) ?_
    show AX w M_X12_chance 0 0 0 [.ref 87, .int x, .int r, .int k] [] h _
    refine AX.iload_n (pc := 0) dX12_chance_0 rfl ?_
    refine AX.callS (pc := 1) (M2 := M_X12_isPlayer) (As := [.int x]) (rest := []) (c_mPlayer w h x) xc_X12_chance__X12_isPlayer gX12_chance_X12_isPlayer rfl (Nat.le_of_ble_eq_true rfl) dX12_chance_1 ?_
    rintro _ h9 ⟨rfl, e9⟩
    have e9 := e9.symm
    subst e9
    rw [decide_eq_false h_x]
    show AX w M_X12_chance 0 0 4 [.ref 87, .int x, .int r, .int k] [.int (bI false)] _ _
    refine AX.if_eqB (pc := 4) (tgt := 43) dX12_chance_4 (by decide) (fun hc4 => ?_) (fun q => absurd q (by decide))
    refine AX.ldc2 (pc := 43) (v := (-9000000000000000000)) dX12_chance_43 cX12_chance_196 ?_
    refine AX.lret (pc := 46) dX12_chance_46 rfl (by decide) (by decide) ?_
    exact ⟨by unfold aChance; rw [if_neg h_x]; try rfl, Same.rf, c⟩
theorem c_mChAim (w : XW) (h : XH) {s : SS} {n o : Nat} {a b : Nat × Nat} (c : MS h s) (l : LV (sq s) n o a b) (x : Int32) (r : Int32) (k : Int32) : CA w M_X12_chanceAim [.ref 87, .int x, .int r, .int k] h (fun v' h'' => v' = some (.int (aChAim o a b x r k)) ∧ Same mdS h h'' ∧ MS h'' s) := by
  obtain ⟨v, hO, hv⟩ := id c.ob
  obtain ⟨f89, e89, q89⟩ := id c.nw
  by_cases h_x : inR 0 1 x
  · obtain ⟨xn, rfl, l_x, u_x⟩ := inR_nat (by decide) h_x
    by_cases h_r : inR (leN o) 180 r
    · obtain ⟨rn, rfl, l_r, u_r⟩ := inR_nat (by decide) h_r
      have p_r := leN_pos o
      by_cases h_k : inR 1 3 k
      · obtain ⟨kn, rfl, l_k, u_k⟩ := inR_nat (by decide) h_k
        refine CA.of (by decide) rfl (fun _ => Nat.le_of_ble_eq_true rfl) ?_
        show AX w M_X12_chanceAim 0 0 0 [.ref 87, .int (nI xn), .int (nI rn), .int (nI kn)] [] h _
        refine AX.iload_n (pc := 0) dX12_chanceAim_0 rfl ?_
        refine AX.callS (pc := 1) (M2 := M_X12_isPlayer) (As := [.int (nI xn)]) (rest := []) (c_mPlayer w h (nI xn)) xc_X12_chanceAim__X12_isPlayer gX12_chanceAim_X12_isPlayer rfl (Nat.le_of_ble_eq_true rfl) dX12_chanceAim_1 ?_
        rintro _ h9 ⟨rfl, e9⟩
        have e9 := e9.symm
        subst e9
        rw [decide_eq_true h_x]
        show AX w M_X12_chanceAim 0 0 4 [.ref 87, .int (nI xn), .int (nI rn), .int (nI kn)] [.int (bI true)] _ _
        refine AX.if_eqB (pc := 4) (tgt := 30) dX12_chanceAim_4 (by decide) (fun q => absurd q (by decide)) (fun hc4 => ?_)
        refine AX.aload_n (pc := 7) dX12_chanceAim_7 rfl ?_
        refine AX.iload_n (pc := 8) dX12_chanceAim_8 rfl ?_
        refine AX.sipush (pc := 9) (v := nI 180) dX12_chanceAim_9 (by decide) ?_
        refine AX.callV (pc := 12) (M2 := M_X12_isRest) (As := [.int (nI rn), .int (nI 180)]) (rest := []) (c_mRest w h c l (nI rn) 180 (by decide)) xc_X12_chanceAim__X12_isRest gX12_chanceAim_X12_isRest (ci := 11) rfl (lt_k c.hn (by omega)) hO rfl (Nat.le_of_ble_eq_true rfl) dX12_chanceAim_12 ?_
        rintro _ h9 ⟨rfl, e9⟩
        have e9 := e9.symm
        subst e9
        rw [decide_eq_true h_r]
        show AX w M_X12_chanceAim 0 0 15 [.ref 87, .int (nI xn), .int (nI rn), .int (nI kn)] [.int (bI true)] _ _
        refine AX.if_eqB (pc := 15) (tgt := 30) dX12_chanceAim_15 (by decide) (fun q => absurd q (by decide)) (fun hc15 => ?_)
        refine AX.iload_n (pc := 18) dX12_chanceAim_18 rfl ?_
        refine AX.i2l (pc := 19) dX12_chanceAim_19 ?_
        refine AX.lconst (pc := 20) (v := 1) dX12_chanceAim_20 (by decide) ?_
        refine AX.ldc2 (pc := 21) (v := 3) dX12_chanceAim_21 cX12_chanceAim_114 ?_
        refine AX.callS (pc := 24) (M2 := M_X12_in) (As := [.long ((nI kn).toInt64), .long 1, .long 3]) (rest := []) (c_in w h ((nI kn).toInt64) (1) (3)) xc_X12_chanceAim__X12_in gX12_chanceAim_X12_in rfl (Nat.le_of_ble_eq_true rfl) dX12_chanceAim_24 ?_
        rintro _ h9 ⟨rfl, e9⟩
        have e9 := e9.symm
        subst e9
        rw [decide_eq_true ((in_iff (by decide) (by decide)).mpr h_k)]
        show AX w M_X12_chanceAim 0 0 27 [.ref 87, .int (nI xn), .int (nI rn), .int (nI kn)] [.int (bI true)] _ _
        refine AX.if_neB (pc := 27) (tgt := 32) dX12_chanceAim_27 (by decide) (fun hc27 => ?_) (fun q => absurd q (by decide))
        refine AX.aload_n (pc := 32) dX12_chanceAim_32 rfl ?_
        refine AX.iload_n (pc := 33) dX12_chanceAim_33 rfl ?_
        refine AX.iload_n (pc := 34) dX12_chanceAim_34 rfl ?_
        refine AX.iload_n (pc := 35) dX12_chanceAim_35 rfl ?_
        refine AX.callV (pc := 36) (M2 := M_X12_chanceAt) (As := [.int (nI xn), .int (nI rn), .int (nI kn)]) (rest := []) (c_mChanceAt w h c l u_x l_r u_r u_k) xc_X12_chanceAim__X12_chanceAt gX12_chanceAim_X12_chanceAt (ci := 11) rfl (lt_k c.hn (by omega)) hO rfl (Nat.le_of_ble_eq_true rfl) dX12_chanceAim_36 ?_
        rintro _ h1 ⟨rfl, s1, c1, hk9⟩
        obtain ⟨v2, O2, e2⟩ := hk9 l_k
        have eO2 : h1.2 87 = .inr (11, [.ref 88, .ref 89, .ref 90, .int (v2 0), .int (v2 1), .ref 91, .ref 92, .ref 93, .ref 94, .ref 95, .ref 96, .ref 97, .ref 98, .ref 99, .ref 100, .ref 101, .int (v2 2), .ref 102, .ref 103, .ref 104, .ref 105, .ref 106, .ref 107, .ref 108, .int (v2 3), .ref 109, .int (v2 4), .ref 110, .ref 111, .int (v2 5), .ref 112, .int (v2 6), .int (v2 7), .int (v2 8), .ref 113, .int (v2 9), .ref 114, .ref 115, .ref 116, .ref 117]) := O2
        rw [e2] at eO2
        show AX w M_X12_chanceAim 0 0 39 [.ref 87, .int (nI xn), .int (nI rn), .int (nI kn)] [.double (cN o (hh a b xn).1 (hh a b xn).2 kn rn)] _ _
        refine AX.pop2 (pc := 39) dX12_chanceAim_39 rfl ?_
        refine AX.aload_n (pc := 40) dX12_chanceAim_40 rfl ?_
        refine AX.getf (pc := 41) fX12_chanceAim_207 (lt_k (s1.le c.hn) (by omega)) eO2 rfl dX12_chanceAim_41 ?_
        refine AX.iret (pc := 44) dX12_chanceAim_44 rfl rfl (by decide) (by decide) ?_
        exact ⟨by unfold aChAim; rw [if_pos h_x, if_pos h_r, if_pos h_k, show pl a b (nI xn) = hh a b xn from by unfold pl; rw [nI_nat (show xn < 2147483648 by omega)], nI_nat (show rn < 2147483648 by omega), nI_nat (show kn < 2147483648 by omega)]; try rfl, mdS_lt s1 (by decide), c1⟩
      · refine CA.of (by decide) rfl (fun _ => Nat.le_of_ble_eq_true rfl) ?_
        show AX w M_X12_chanceAim 0 0 0 [.ref 87, .int (nI xn), .int (nI rn), .int k] [] h _
        refine AX.iload_n (pc := 0) dX12_chanceAim_0 rfl ?_
        refine AX.callS (pc := 1) (M2 := M_X12_isPlayer) (As := [.int (nI xn)]) (rest := []) (c_mPlayer w h (nI xn)) xc_X12_chanceAim__X12_isPlayer gX12_chanceAim_X12_isPlayer rfl (Nat.le_of_ble_eq_true rfl) dX12_chanceAim_1 ?_
        rintro _ h9 ⟨rfl, e9⟩
        have e9 := e9.symm
        subst e9
        rw [decide_eq_true h_x]
        show AX w M_X12_chanceAim 0 0 4 [.ref 87, .int (nI xn), .int (nI rn), .int k] [.int (bI true)] _ _
        refine AX.if_eqB (pc := 4) (tgt := 30) dX12_chanceAim_4 (by decide) (fun q => absurd q (by decide)) (fun hc4 => ?_)
        refine AX.aload_n (pc := 7) dX12_chanceAim_7 rfl ?_
        refine AX.iload_n (pc := 8) dX12_chanceAim_8 rfl ?_
        refine AX.sipush (pc := 9) (v := nI 180) dX12_chanceAim_9 (by decide) ?_
        refine AX.callV (pc := 12) (M2 := M_X12_isRest) (As := [.int (nI rn), .int (nI 180)]) (rest := []) (c_mRest w h c l (nI rn) 180 (by decide)) xc_X12_chanceAim__X12_isRest gX12_chanceAim_X12_isRest (ci := 11) rfl (lt_k c.hn (by omega)) hO rfl (Nat.le_of_ble_eq_true rfl) dX12_chanceAim_12 ?_
        rintro _ h9 ⟨rfl, e9⟩
        have e9 := e9.symm
        subst e9
        rw [decide_eq_true h_r]
        show AX w M_X12_chanceAim 0 0 15 [.ref 87, .int (nI xn), .int (nI rn), .int k] [.int (bI true)] _ _
        refine AX.if_eqB (pc := 15) (tgt := 30) dX12_chanceAim_15 (by decide) (fun q => absurd q (by decide)) (fun hc15 => ?_)
        refine AX.iload_n (pc := 18) dX12_chanceAim_18 rfl ?_
        refine AX.i2l (pc := 19) dX12_chanceAim_19 ?_
        refine AX.lconst (pc := 20) (v := 1) dX12_chanceAim_20 (by decide) ?_
        refine AX.ldc2 (pc := 21) (v := 3) dX12_chanceAim_21 cX12_chanceAim_114 ?_
        refine AX.callS (pc := 24) (M2 := M_X12_in) (As := [.long k.toInt64, .long 1, .long 3]) (rest := []) (c_in w h (k.toInt64) (1) (3)) xc_X12_chanceAim__X12_in gX12_chanceAim_X12_in rfl (Nat.le_of_ble_eq_true rfl) dX12_chanceAim_24 ?_
        rintro _ h9 ⟨rfl, e9⟩
        have e9 := e9.symm
        subst e9
        rw [decide_eq_false (fun q => h_k ((in_iff (by decide) (by decide)).mp q))]
        show AX w M_X12_chanceAim 0 0 27 [.ref 87, .int (nI xn), .int (nI rn), .int k] [.int (bI false)] _ _
        refine AX.if_neB (pc := 27) (tgt := 32) dX12_chanceAim_27 (by decide) (fun q => absurd q (by decide)) (fun hc27 => ?_)
        refine AX.iconst (pc := 30) (v := (-1)) dX12_chanceAim_30 (by decide) ?_
        refine AX.iret (pc := 31) dX12_chanceAim_31 rfl rfl (by decide) (by decide) ?_
        exact ⟨by unfold aChAim; rw [if_pos h_x, if_pos h_r, if_neg h_k]; try rfl, Same.rf, c⟩
    · refine CA.of (by decide) rfl (fun _ => Nat.le_of_ble_eq_true rfl) ?_
      show AX w M_X12_chanceAim 0 0 0 [.ref 87, .int (nI xn), .int r, .int k] [] h _
      refine AX.iload_n (pc := 0) dX12_chanceAim_0 rfl ?_
      refine AX.callS (pc := 1) (M2 := M_X12_isPlayer) (As := [.int (nI xn)]) (rest := []) (c_mPlayer w h (nI xn)) xc_X12_chanceAim__X12_isPlayer gX12_chanceAim_X12_isPlayer rfl (Nat.le_of_ble_eq_true rfl) dX12_chanceAim_1 ?_
      rintro _ h9 ⟨rfl, e9⟩
      have e9 := e9.symm
      subst e9
      rw [decide_eq_true h_x]
      show AX w M_X12_chanceAim 0 0 4 [.ref 87, .int (nI xn), .int r, .int k] [.int (bI true)] _ _
      refine AX.if_eqB (pc := 4) (tgt := 30) dX12_chanceAim_4 (by decide) (fun q => absurd q (by decide)) (fun hc4 => ?_)
      refine AX.aload_n (pc := 7) dX12_chanceAim_7 rfl ?_
      refine AX.iload_n (pc := 8) dX12_chanceAim_8 rfl ?_
      refine AX.sipush (pc := 9) (v := nI 180) dX12_chanceAim_9 (by decide) ?_
      refine AX.callV (pc := 12) (M2 := M_X12_isRest) (As := [.int r, .int (nI 180)]) (rest := []) (c_mRest w h c l r 180 (by decide)) xc_X12_chanceAim__X12_isRest gX12_chanceAim_X12_isRest (ci := 11) rfl (lt_k c.hn (by omega)) hO rfl (Nat.le_of_ble_eq_true rfl) dX12_chanceAim_12 ?_
      rintro _ h9 ⟨rfl, e9⟩
      have e9 := e9.symm
      subst e9
      rw [decide_eq_false h_r]
      show AX w M_X12_chanceAim 0 0 15 [.ref 87, .int (nI xn), .int r, .int k] [.int (bI false)] _ _
      refine AX.if_eqB (pc := 15) (tgt := 30) dX12_chanceAim_15 (by decide) (fun hc15 => ?_) (fun q => absurd q (by decide))
      refine AX.iconst (pc := 30) (v := (-1)) dX12_chanceAim_30 (by decide) ?_
      refine AX.iret (pc := 31) dX12_chanceAim_31 rfl rfl (by decide) (by decide) ?_
      exact ⟨by unfold aChAim; rw [if_pos h_x, if_neg h_r]; try rfl, Same.rf, c⟩
  · refine CA.of (by decide) rfl (fun _ => Nat.le_of_ble_eq_true rfl) ?_
    show AX w M_X12_chanceAim 0 0 0 [.ref 87, .int x, .int r, .int k] [] h _
    refine AX.iload_n (pc := 0) dX12_chanceAim_0 rfl ?_
    refine AX.callS (pc := 1) (M2 := M_X12_isPlayer) (As := [.int x]) (rest := []) (c_mPlayer w h x) xc_X12_chanceAim__X12_isPlayer gX12_chanceAim_X12_isPlayer rfl (Nat.le_of_ble_eq_true rfl) dX12_chanceAim_1 ?_
    rintro _ h9 ⟨rfl, e9⟩
    have e9 := e9.symm
    subst e9
    rw [decide_eq_false h_x]
    show AX w M_X12_chanceAim 0 0 4 [.ref 87, .int x, .int r, .int k] [.int (bI false)] _ _
    refine AX.if_eqB (pc := 4) (tgt := 30) dX12_chanceAim_4 (by decide) (fun hc4 => ?_) (fun q => absurd q (by decide))
    refine AX.iconst (pc := 30) (v := (-1)) dX12_chanceAim_30 (by decide) ?_
    refine AX.iret (pc := 31) dX12_chanceAim_31 rfl rfl (by decide) (by decide) ?_
    exact ⟨by unfold aChAim; rw [if_neg h_x]; try rfl, Same.rf, c⟩
