/-! ===== THE FACE: DARTS, AIMS, CHANCES, THE RACE ===== -/
def aDarts (o : Nat) (a b : Nat × Nat) (x r : Int32) : Int64 := if inR 0 1 x then if inD o r then (dD o (pl a b x).1 (pl a b x).2 r.toNatClampNeg).toInt64 else -9000000000000000000 else -9000000000000000000
def aCut (o : Nat) (a b : Nat × Nat) (x r : Int32) : Int32 := if inR 0 1 x then if inD o r then (FP.d2f (dD o (pl a b x).1 (pl a b x).2 r.toNatClampNeg)).toInt32 else -1 else -1
def aThou (o : Nat) (a b : Nat × Nat) (x r : Int32) : Int32 := if inR 0 1 x then if inD o r then FP.d2i (FP.dmul (dD o (pl a b x).1 (pl a b x).2 r.toNatClampNeg) K1000) else -1 else -1
def aAim (o : Nat) (a b : Nat × Nat) (x r : Int32) : Int32 := if inR 0 1 x then if inR (leN o) 501 r then nI (dA_ o (pl a b x).1 (pl a b x).2 r.toNatClampNeg) else -1 else -1
def aChance (o : Nat) (a b : Nat × Nat) (x r k : Int32) : Int64 := if inR 0 1 x then if inR (leN o) 180 r then if inR 0 3 k then (cN o (pl a b x).1 (pl a b x).2 k.toNatClampNeg r.toNatClampNeg).toInt64 else -9000000000000000000 else -9000000000000000000 else -9000000000000000000
def aChAim (o : Nat) (a b : Nat × Nat) (x r k : Int32) : Int32 := if inR 0 1 x then if inR (leN o) 180 r then if inR 1 3 k then nI (cA_ o (pl a b x).1 (pl a b x).2 k.toNatClampNeg r.toNatClampNeg) else -1 else -1 else -1
def aRace (o : Nat) (a b : Nat × Nat) (r q x : Int32) : Int64 := if inR (leN o) 24 r then if inR (leN o) 24 q then if inR 0 1 x then (if x.toNatClampNeg = 0 then (rcV o (hh a b) r.toNatClampNeg q.toNatClampNeg).1 else (rcV o (hh a b) r.toNatClampNeg q.toNatClampNeg).2.1).toInt64 else -9000000000000000000 else -9000000000000000000 else -9000000000000000000
def aRAim (o : Nat) (a b : Nat × Nat) (r q x : Int32) : Int32 := if inR (leN o) 24 r then if inR (leN o) 24 q then if inR 0 1 x then nI (if x.toNatClampNeg = 0 then (rcV o (hh a b) r.toNatClampNeg q.toNatClampNeg).2.2.1 else (rcV o (hh a b) r.toNatClampNeg q.toNatClampNeg).2.2.2.1) else -1 else -1 else -1
def aStill (o : Nat) (a b : Nat × Nat) (r q : Int32) : Int32 := if inR (leN o) 24 r then if inR (leN o) 24 q then bI (rcV o (hh a b) r.toNatClampNeg q.toNatClampNeg).2.2.2.2 else -1 else -1
def aPerc (o : Nat) (a b : Nat × Nat) (r q : Int32) : Int32 := if inR (leN o) 24 r then if inR (leN o) 24 q then FP.f2i (FP.d2f (FP.dmul (rcV o (hh a b) r.toNatClampNeg q.toNatClampNeg).1 4636737291354636288)) else -1 else -1
theorem CSo.rx {h : XH} {s : SS} {o : Nat} {a b : Nat × Nat} (c : CSo h s o a b) : RX h o (hh a b) ∧ hOK (hh a b) := by
  obtain ⟨dk0, ck0, fn0, m0a, -⟩ := id c.m0
  obtain ⟨dk1, ck1, fn1, m1a, -⟩ := id c.m1
  have k : hOK (hh a b) := fun u => by
    unfold hh
    split
    · exact ⟨m0a.2.1, m0a.2.2.1⟩
    · exact ⟨m1a.2.1, m1a.2.2.1⟩
  exact ⟨⟨c.ru, c.fa, c.rs, k, ⟨_, _, m0a⟩, ⟨_, _, m1a⟩⟩, k⟩
theorem c_darts (w : XW) (h : XH) {s : SS} {o : Nat} {a b : Nat × Nat} (c : CSo h s o a b) (x : Int32) (r : Int32) : CA w M_X11_darts [.ref 0, .int x, .int r] h (fun v' h'' => v' = some (.long (aDarts o a b x r)) ∧ Same clS h h'' ∧ CSo h'' s o a b) := by
  obtain ⟨dk0, ck0, fn0, m0a, m0b, m0c, m0d⟩ := id c.m0
  obtain ⟨dk1, ck1, fn1, m1a, m1b, m1c, m1d⟩ := id c.m1
  obtain ⟨f9, e9_, q9⟩ := id c.rs.2.1
  by_cases h_x : inR 0 1 x
  · obtain ⟨xn, rfl, l_x, u_x⟩ := inR_nat (by decide) h_x
    by_cases h_r : inD o r
    · obtain ⟨rn, rfl, l_r, u_r⟩ := inD_nat h_r
      rcases (show xn = 0 ∨ xn = 1 by omega) with rfl | rfl
      · have dd := dD_df c.ru.1 m0a.2.1 m0a.2.2.1 u_r l_r
        refine CA.of (by decide) rfl (fun _ => Nat.le_of_ble_eq_true rfl) ?_
        show AX w M_X11_darts 0 0 0 [.ref 0, .int (nI 0), .int (nI rn)] [] h _
        refine AX.iload_n (pc := 0) dX11_darts_0 rfl ?_
        refine AX.callS (pc := 1) (M2 := M_X11_isPlayer) (As := [.int (nI 0)]) (rest := []) (c_isPlayer w h (nI 0)) xc_X11_darts__X11_isPlayer gX11_darts_X11_isPlayer rfl (Nat.le_of_ble_eq_true rfl) dX11_darts_1 ?_
        rintro _ h9 ⟨rfl, e9⟩
        have e9 := e9.symm
        subst e9
        rw [decide_eq_true (play_iff.mpr h_x)]
        show AX w M_X11_darts 0 0 4 [.ref 0, .int (nI 0), .int (nI rn)] [.int (bI true)] _ _
        refine AX.if_eqB (pc := 4) (tgt := 15) dX11_darts_4 (by decide) (fun q => absurd q (by decide)) (fun hc4 => ?_)
        refine AX.aload_n (pc := 7) dX11_darts_7 rfl ?_
        refine AX.iload_n (pc := 8) dX11_darts_8 rfl ?_
        refine AX.callV (pc := 9) (M2 := M_X11_isDartsRest) (As := [.int (nI rn)]) (rest := []) (c_isDartsRest w h (nI rn) c.hn c.dm c.ru) xc_X11_darts__X11_isDartsRest gX11_darts_X11_isDartsRest (ci := 10) rfl (lt_k c.hn (by omega)) c.dm rfl (Nat.le_of_ble_eq_true rfl) dX11_darts_9 ?_
        rintro _ h9 ⟨rfl, e9⟩
        have e9 := e9.symm
        subst e9
        rw [decide_eq_true (drest_iff.mpr h_r)]
        show AX w M_X11_darts 0 0 12 [.ref 0, .int (nI 0), .int (nI rn)] [.int (bI true)] _ _
        refine AX.if_neB (pc := 12) (tgt := 19) dX11_darts_12 (by decide) (fun hc12 => ?_) (fun q => absurd q (by decide))
        refine AX.aload_n (pc := 19) dX11_darts_19 rfl ?_
        refine AX.getf (pc := 20) fX11_darts_28 (lt_k c.hn (by omega)) c.dm rfl dX11_darts_20 ?_
        refine AX.iload_n (pc := 23) dX11_darts_23 rfl ?_
        refine AX.aaldN (pc := 24) (i := 0) (b := 10) (by decide) (lt_k c.hn (by omega)) e9_ (by decide) (by decide) (q9 _ (by decide)) dX11_darts_24 ?_
        refine AX.iload_n (pc := 25) dX11_darts_25 rfl ?_
        refine AX.callV (pc := 26) (M2 := M_X4_dartsAt) (As := [.int (nI rn)]) (rest := []) (c_dartsAt w h (show 42 ≤ h.1 by have := c.hn; omega) c.ru.1 c.ru c.fa m0a m0d m0b rn u_r l_r) xc_X11_darts__X4_dartsAt gX11_darts_X4_dartsAt (ci := 3) rfl (lt_k c.hn (by omega)) m0a.2.2.2.1 rfl (Nat.le_of_ble_eq_true rfl) dX11_darts_26 ?_
        rintro _ h1 ⟨rfl, s1, M1, K1, fn9, N1⟩
        have c1 : CSo h1 s o a b := c.mind0 s1 (by decide) ⟨_, _, fn9, M1, K1, m0c.same s1 (by simp) (by simp) (by simp; omega), N1⟩
        show AX w M_X11_darts 0 0 29 [.ref 0, .int (nI 0), .int (nI rn)] [.double (dD o a.1 a.2 rn)] _ _
        refine AX.callS (pc := 29) (M2 := M_X11_bitsOfDouble) (As := [.double (dD o a.1 a.2 rn)]) (rest := []) (c_bitsOfDouble w h1 (df_lt dd.1) dd.2) xc_X11_darts__X11_bitsOfDouble gX11_darts_X11_bitsOfDouble rfl (Nat.le_of_ble_eq_true rfl) dX11_darts_29 ?_
        rintro _ h9 ⟨rfl, e9⟩
        have e9 := e9.symm
        subst e9
        show AX w M_X11_darts 0 0 32 [.ref 0, .int (nI 0), .int (nI rn)] [.long ((dD o a.1 a.2 rn).toInt64)] _ _
        refine AX.lret (pc := 32) dX11_darts_32 rfl (by decide) (by decide) ?_
        exact ⟨by unfold aDarts; rw [if_pos h_x, if_pos h_r, nI_nat (show rn < 2147483648 by omega)]; try rfl, clS_in s1 (by decide), c1⟩
      · have dd := dD_df c.ru.1 m1a.2.1 m1a.2.2.1 u_r l_r
        refine CA.of (by decide) rfl (fun _ => Nat.le_of_ble_eq_true rfl) ?_
        show AX w M_X11_darts 0 0 0 [.ref 0, .int (nI 1), .int (nI rn)] [] h _
        refine AX.iload_n (pc := 0) dX11_darts_0 rfl ?_
        refine AX.callS (pc := 1) (M2 := M_X11_isPlayer) (As := [.int (nI 1)]) (rest := []) (c_isPlayer w h (nI 1)) xc_X11_darts__X11_isPlayer gX11_darts_X11_isPlayer rfl (Nat.le_of_ble_eq_true rfl) dX11_darts_1 ?_
        rintro _ h9 ⟨rfl, e9⟩
        have e9 := e9.symm
        subst e9
        rw [decide_eq_true (play_iff.mpr h_x)]
        show AX w M_X11_darts 0 0 4 [.ref 0, .int (nI 1), .int (nI rn)] [.int (bI true)] _ _
        refine AX.if_eqB (pc := 4) (tgt := 15) dX11_darts_4 (by decide) (fun q => absurd q (by decide)) (fun hc4 => ?_)
        refine AX.aload_n (pc := 7) dX11_darts_7 rfl ?_
        refine AX.iload_n (pc := 8) dX11_darts_8 rfl ?_
        refine AX.callV (pc := 9) (M2 := M_X11_isDartsRest) (As := [.int (nI rn)]) (rest := []) (c_isDartsRest w h (nI rn) c.hn c.dm c.ru) xc_X11_darts__X11_isDartsRest gX11_darts_X11_isDartsRest (ci := 10) rfl (lt_k c.hn (by omega)) c.dm rfl (Nat.le_of_ble_eq_true rfl) dX11_darts_9 ?_
        rintro _ h9 ⟨rfl, e9⟩
        have e9 := e9.symm
        subst e9
        rw [decide_eq_true (drest_iff.mpr h_r)]
        show AX w M_X11_darts 0 0 12 [.ref 0, .int (nI 1), .int (nI rn)] [.int (bI true)] _ _
        refine AX.if_neB (pc := 12) (tgt := 19) dX11_darts_12 (by decide) (fun hc12 => ?_) (fun q => absurd q (by decide))
        refine AX.aload_n (pc := 19) dX11_darts_19 rfl ?_
        refine AX.getf (pc := 20) fX11_darts_28 (lt_k c.hn (by omega)) c.dm rfl dX11_darts_20 ?_
        refine AX.iload_n (pc := 23) dX11_darts_23 rfl ?_
        refine AX.aaldN (pc := 24) (i := 1) (b := 26) (by decide) (lt_k c.hn (by omega)) e9_ (by decide) (by decide) (q9 _ (by decide)) dX11_darts_24 ?_
        refine AX.iload_n (pc := 25) dX11_darts_25 rfl ?_
        refine AX.callV (pc := 26) (M2 := M_X4_dartsAt) (As := [.int (nI rn)]) (rest := []) (c_dartsAt w h (show 42 ≤ h.1 by have := c.hn; omega) c.ru.1 c.ru c.fa m1a m1d m1b rn u_r l_r) xc_X11_darts__X4_dartsAt gX11_darts_X4_dartsAt (ci := 3) rfl (lt_k c.hn (by omega)) m1a.2.2.2.1 rfl (Nat.le_of_ble_eq_true rfl) dX11_darts_26 ?_
        rintro _ h1 ⟨rfl, s1, M1, K1, fn9, N1⟩
        have c1 : CSo h1 s o a b := c.mind1 s1 (by decide) ⟨_, _, fn9, M1, K1, m1c.same s1 (by simp) (by simp) (by simp; omega), N1⟩
        show AX w M_X11_darts 0 0 29 [.ref 0, .int (nI 1), .int (nI rn)] [.double (dD o b.1 b.2 rn)] _ _
        refine AX.callS (pc := 29) (M2 := M_X11_bitsOfDouble) (As := [.double (dD o b.1 b.2 rn)]) (rest := []) (c_bitsOfDouble w h1 (df_lt dd.1) dd.2) xc_X11_darts__X11_bitsOfDouble gX11_darts_X11_bitsOfDouble rfl (Nat.le_of_ble_eq_true rfl) dX11_darts_29 ?_
        rintro _ h9 ⟨rfl, e9⟩
        have e9 := e9.symm
        subst e9
        show AX w M_X11_darts 0 0 32 [.ref 0, .int (nI 1), .int (nI rn)] [.long ((dD o b.1 b.2 rn).toInt64)] _ _
        refine AX.lret (pc := 32) dX11_darts_32 rfl (by decide) (by decide) ?_
        exact ⟨by unfold aDarts; rw [if_pos h_x, if_pos h_r, nI_nat (show rn < 2147483648 by omega)]; try rfl, clS_in s1 (by decide), c1⟩
    · refine CA.of (by decide) rfl (fun _ => Nat.le_of_ble_eq_true rfl) ?_
      show AX w M_X11_darts 0 0 0 [.ref 0, .int (nI xn), .int r] [] h _
      refine AX.iload_n (pc := 0) dX11_darts_0 rfl ?_
      refine AX.callS (pc := 1) (M2 := M_X11_isPlayer) (As := [.int (nI xn)]) (rest := []) (c_isPlayer w h (nI xn)) xc_X11_darts__X11_isPlayer gX11_darts_X11_isPlayer rfl (Nat.le_of_ble_eq_true rfl) dX11_darts_1 ?_
      rintro _ h9 ⟨rfl, e9⟩
      have e9 := e9.symm
      subst e9
      rw [decide_eq_true (play_iff.mpr h_x)]
      show AX w M_X11_darts 0 0 4 [.ref 0, .int (nI xn), .int r] [.int (bI true)] _ _
      refine AX.if_eqB (pc := 4) (tgt := 15) dX11_darts_4 (by decide) (fun q => absurd q (by decide)) (fun hc4 => ?_)
      refine AX.aload_n (pc := 7) dX11_darts_7 rfl ?_
      refine AX.iload_n (pc := 8) dX11_darts_8 rfl ?_
      refine AX.callV (pc := 9) (M2 := M_X11_isDartsRest) (As := [.int r]) (rest := []) (c_isDartsRest w h r c.hn c.dm c.ru) xc_X11_darts__X11_isDartsRest gX11_darts_X11_isDartsRest (ci := 10) rfl (lt_k c.hn (by omega)) c.dm rfl (Nat.le_of_ble_eq_true rfl) dX11_darts_9 ?_
      rintro _ h9 ⟨rfl, e9⟩
      have e9 := e9.symm
      subst e9
      rw [decide_eq_false (fun q => h_r (drest_iff.mp q))]
      show AX w M_X11_darts 0 0 12 [.ref 0, .int (nI xn), .int r] [.int (bI false)] _ _
      refine AX.if_neB (pc := 12) (tgt := 19) dX11_darts_12 (by decide) (fun q => absurd q (by decide)) (fun hc12 => ?_)
      refine AX.ldc2 (pc := 15) (v := (-9000000000000000000)) dX11_darts_15 cX11_darts_156 ?_
      refine AX.lret (pc := 18) dX11_darts_18 rfl (by decide) (by decide) ?_
      exact ⟨by unfold aDarts; rw [if_pos h_x, if_neg h_r]; try rfl, Same.rf, c⟩
  · refine CA.of (by decide) rfl (fun _ => Nat.le_of_ble_eq_true rfl) ?_
    show AX w M_X11_darts 0 0 0 [.ref 0, .int x, .int r] [] h _
    refine AX.iload_n (pc := 0) dX11_darts_0 rfl ?_
    refine AX.callS (pc := 1) (M2 := M_X11_isPlayer) (As := [.int x]) (rest := []) (c_isPlayer w h x) xc_X11_darts__X11_isPlayer gX11_darts_X11_isPlayer rfl (Nat.le_of_ble_eq_true rfl) dX11_darts_1 ?_
    rintro _ h9 ⟨rfl, e9⟩
    have e9 := e9.symm
    subst e9
    rw [decide_eq_false (fun q => h_x (play_iff.mp q))]
    show AX w M_X11_darts 0 0 4 [.ref 0, .int x, .int r] [.int (bI false)] _ _
    refine AX.if_eqB (pc := 4) (tgt := 15) dX11_darts_4 (by decide) (fun hc4 => ?_) (fun q => absurd q (by decide))
    refine AX.ldc2 (pc := 15) (v := (-9000000000000000000)) dX11_darts_15 cX11_darts_156 ?_
    refine AX.lret (pc := 18) dX11_darts_18 rfl (by decide) (by decide) ?_
    exact ⟨by unfold aDarts; rw [if_neg h_x]; try rfl, Same.rf, c⟩
theorem d2f_dD {o sd rg r : Nat} (ho : o ≤ 2) (hs : sd ≤ 200) (hr : rg ≤ 200) (h1 : r ≤ 501) (h2 : r = 0 ∨ leN o ≤ r) : (FP.d2f (dD o sd rg r)).toNat % 2147483648 < 2139095040 ∧ ((FP.d2f (dD o sd rg r)).toNat = 0 ∨ 8388608 ≤ (FP.d2f (dD o sd rg r)).toNat % 2147483648) := by
  by_cases e : r = 0
  · subst e
    rw [dD_zero]
    decide +kernel
  · obtain ⟨d1, d2, d3, -⟩ := dD_ok ho hs hr r h1 (by omega)
    have hO := one_posI
    have d4 : ((6 * r : Nat) : Int) * (FP.Core.one64 : Int) ≤ 4096 * (FP.Core.one64 : Int) := Int.mul_le_mul_of_nonneg_right (by omega) (Int.le_of_lt hO)
    obtain ⟨k1, k2, k3⟩ := d2f_in d1 d2 (by omega)
    rw [d2f_eq k1]
    omega
theorem c_dartsCut (w : XW) (h : XH) {s : SS} {o : Nat} {a b : Nat × Nat} (c : CSo h s o a b) (x : Int32) (r : Int32) : CA w M_X11_dartsCut [.ref 0, .int x, .int r] h (fun v' h'' => v' = some (.int (aCut o a b x r)) ∧ Same clS h h'' ∧ CSo h'' s o a b) := by
  obtain ⟨dk0, ck0, fn0, m0a, m0b, m0c, m0d⟩ := id c.m0
  obtain ⟨dk1, ck1, fn1, m1a, m1b, m1c, m1d⟩ := id c.m1
  obtain ⟨f9, e9_, q9⟩ := id c.rs.2.1
  by_cases h_x : inR 0 1 x
  · obtain ⟨xn, rfl, l_x, u_x⟩ := inR_nat (by decide) h_x
    by_cases h_r : inD o r
    · obtain ⟨rn, rfl, l_r, u_r⟩ := inD_nat h_r
      rcases (show xn = 0 ∨ xn = 1 by omega) with rfl | rfl
      · have dc := d2f_dD c.ru.1 m0a.2.1 m0a.2.2.1 u_r l_r
        refine CA.of (by decide) rfl (fun _ => Nat.le_of_ble_eq_true rfl) ?_
        show AX w M_X11_dartsCut 0 0 0 [.ref 0, .int (nI 0), .int (nI rn)] [] h _
        refine AX.iload_n (pc := 0) dX11_dartsCut_0 rfl ?_
        refine AX.callS (pc := 1) (M2 := M_X11_isPlayer) (As := [.int (nI 0)]) (rest := []) (c_isPlayer w h (nI 0)) xc_X11_dartsCut__X11_isPlayer gX11_dartsCut_X11_isPlayer rfl (Nat.le_of_ble_eq_true rfl) dX11_dartsCut_1 ?_
        rintro _ h9 ⟨rfl, e9⟩
        have e9 := e9.symm
        subst e9
        rw [decide_eq_true (play_iff.mpr h_x)]
        show AX w M_X11_dartsCut 0 0 4 [.ref 0, .int (nI 0), .int (nI rn)] [.int (bI true)] _ _
        refine AX.if_eqB (pc := 4) (tgt := 15) dX11_dartsCut_4 (by decide) (fun q => absurd q (by decide)) (fun hc4 => ?_)
        refine AX.aload_n (pc := 7) dX11_dartsCut_7 rfl ?_
        refine AX.iload_n (pc := 8) dX11_dartsCut_8 rfl ?_
        refine AX.callV (pc := 9) (M2 := M_X11_isDartsRest) (As := [.int (nI rn)]) (rest := []) (c_isDartsRest w h (nI rn) c.hn c.dm c.ru) xc_X11_dartsCut__X11_isDartsRest gX11_dartsCut_X11_isDartsRest (ci := 10) rfl (lt_k c.hn (by omega)) c.dm rfl (Nat.le_of_ble_eq_true rfl) dX11_dartsCut_9 ?_
        rintro _ h9 ⟨rfl, e9⟩
        have e9 := e9.symm
        subst e9
        rw [decide_eq_true (drest_iff.mpr h_r)]
        show AX w M_X11_dartsCut 0 0 12 [.ref 0, .int (nI 0), .int (nI rn)] [.int (bI true)] _ _
        refine AX.if_neB (pc := 12) (tgt := 17) dX11_dartsCut_12 (by decide) (fun hc12 => ?_) (fun q => absurd q (by decide))
        refine AX.aload_n (pc := 17) dX11_dartsCut_17 rfl ?_
        refine AX.getf (pc := 18) fX11_dartsCut_28 (lt_k c.hn (by omega)) c.dm rfl dX11_dartsCut_18 ?_
        refine AX.iload_n (pc := 21) dX11_dartsCut_21 rfl ?_
        refine AX.aaldN (pc := 22) (i := 0) (b := 10) (by decide) (lt_k c.hn (by omega)) e9_ (by decide) (by decide) (q9 _ (by decide)) dX11_dartsCut_22 ?_
        refine AX.iload_n (pc := 23) dX11_dartsCut_23 rfl ?_
        refine AX.callV (pc := 24) (M2 := M_X4_dartsAt) (As := [.int (nI rn)]) (rest := []) (c_dartsAt w h (show 42 ≤ h.1 by have := c.hn; omega) c.ru.1 c.ru c.fa m0a m0d m0b rn u_r l_r) xc_X11_dartsCut__X4_dartsAt gX11_dartsCut_X4_dartsAt (ci := 3) rfl (lt_k c.hn (by omega)) m0a.2.2.2.1 rfl (Nat.le_of_ble_eq_true rfl) dX11_dartsCut_24 ?_
        rintro _ h1 ⟨rfl, s1, M1, K1, fn9, N1⟩
        have c1 : CSo h1 s o a b := c.mind0 s1 (by decide) ⟨_, _, fn9, M1, K1, m0c.same s1 (by simp) (by simp) (by simp; omega), N1⟩
        show AX w M_X11_dartsCut 0 0 27 [.ref 0, .int (nI 0), .int (nI rn)] [.double (dD o a.1 a.2 rn)] _ _
        refine AX.d2f (pc := 27) dX11_dartsCut_27 (n32_of dc.1) ?_
        refine AX.callS (pc := 28) (M2 := M_X11_bitsOfFloat) (As := [.float (FP.d2f (dD o a.1 a.2 rn))]) (rest := []) (c_bitsOfFloat w h1 dc.1 dc.2) xc_X11_dartsCut__X11_bitsOfFloat gX11_dartsCut_X11_bitsOfFloat rfl (Nat.le_of_ble_eq_true rfl) dX11_dartsCut_28 ?_
        rintro _ h9 ⟨rfl, e9⟩
        have e9 := e9.symm
        subst e9
        show AX w M_X11_dartsCut 0 0 31 [.ref 0, .int (nI 0), .int (nI rn)] [.int ((FP.d2f (dD o a.1 a.2 rn)).toInt32)] _ _
        refine AX.iret (pc := 31) dX11_dartsCut_31 rfl rfl (by decide) (by decide) ?_
        exact ⟨by unfold aCut; rw [if_pos h_x, if_pos h_r, nI_nat (show rn < 2147483648 by omega)]; try rfl, clS_in s1 (by decide), c1⟩
      · have dc := d2f_dD c.ru.1 m1a.2.1 m1a.2.2.1 u_r l_r
        refine CA.of (by decide) rfl (fun _ => Nat.le_of_ble_eq_true rfl) ?_
        show AX w M_X11_dartsCut 0 0 0 [.ref 0, .int (nI 1), .int (nI rn)] [] h _
        refine AX.iload_n (pc := 0) dX11_dartsCut_0 rfl ?_
        refine AX.callS (pc := 1) (M2 := M_X11_isPlayer) (As := [.int (nI 1)]) (rest := []) (c_isPlayer w h (nI 1)) xc_X11_dartsCut__X11_isPlayer gX11_dartsCut_X11_isPlayer rfl (Nat.le_of_ble_eq_true rfl) dX11_dartsCut_1 ?_
        rintro _ h9 ⟨rfl, e9⟩
        have e9 := e9.symm
        subst e9
        rw [decide_eq_true (play_iff.mpr h_x)]
        show AX w M_X11_dartsCut 0 0 4 [.ref 0, .int (nI 1), .int (nI rn)] [.int (bI true)] _ _
        refine AX.if_eqB (pc := 4) (tgt := 15) dX11_dartsCut_4 (by decide) (fun q => absurd q (by decide)) (fun hc4 => ?_)
        refine AX.aload_n (pc := 7) dX11_dartsCut_7 rfl ?_
        refine AX.iload_n (pc := 8) dX11_dartsCut_8 rfl ?_
        refine AX.callV (pc := 9) (M2 := M_X11_isDartsRest) (As := [.int (nI rn)]) (rest := []) (c_isDartsRest w h (nI rn) c.hn c.dm c.ru) xc_X11_dartsCut__X11_isDartsRest gX11_dartsCut_X11_isDartsRest (ci := 10) rfl (lt_k c.hn (by omega)) c.dm rfl (Nat.le_of_ble_eq_true rfl) dX11_dartsCut_9 ?_
        rintro _ h9 ⟨rfl, e9⟩
        have e9 := e9.symm
        subst e9
        rw [decide_eq_true (drest_iff.mpr h_r)]
        show AX w M_X11_dartsCut 0 0 12 [.ref 0, .int (nI 1), .int (nI rn)] [.int (bI true)] _ _
        refine AX.if_neB (pc := 12) (tgt := 17) dX11_dartsCut_12 (by decide) (fun hc12 => ?_) (fun q => absurd q (by decide))
        refine AX.aload_n (pc := 17) dX11_dartsCut_17 rfl ?_
        refine AX.getf (pc := 18) fX11_dartsCut_28 (lt_k c.hn (by omega)) c.dm rfl dX11_dartsCut_18 ?_
        refine AX.iload_n (pc := 21) dX11_dartsCut_21 rfl ?_
        refine AX.aaldN (pc := 22) (i := 1) (b := 26) (by decide) (lt_k c.hn (by omega)) e9_ (by decide) (by decide) (q9 _ (by decide)) dX11_dartsCut_22 ?_
        refine AX.iload_n (pc := 23) dX11_dartsCut_23 rfl ?_
        refine AX.callV (pc := 24) (M2 := M_X4_dartsAt) (As := [.int (nI rn)]) (rest := []) (c_dartsAt w h (show 42 ≤ h.1 by have := c.hn; omega) c.ru.1 c.ru c.fa m1a m1d m1b rn u_r l_r) xc_X11_dartsCut__X4_dartsAt gX11_dartsCut_X4_dartsAt (ci := 3) rfl (lt_k c.hn (by omega)) m1a.2.2.2.1 rfl (Nat.le_of_ble_eq_true rfl) dX11_dartsCut_24 ?_
        rintro _ h1 ⟨rfl, s1, M1, K1, fn9, N1⟩
        have c1 : CSo h1 s o a b := c.mind1 s1 (by decide) ⟨_, _, fn9, M1, K1, m1c.same s1 (by simp) (by simp) (by simp; omega), N1⟩
        show AX w M_X11_dartsCut 0 0 27 [.ref 0, .int (nI 1), .int (nI rn)] [.double (dD o b.1 b.2 rn)] _ _
        refine AX.d2f (pc := 27) dX11_dartsCut_27 (n32_of dc.1) ?_
        refine AX.callS (pc := 28) (M2 := M_X11_bitsOfFloat) (As := [.float (FP.d2f (dD o b.1 b.2 rn))]) (rest := []) (c_bitsOfFloat w h1 dc.1 dc.2) xc_X11_dartsCut__X11_bitsOfFloat gX11_dartsCut_X11_bitsOfFloat rfl (Nat.le_of_ble_eq_true rfl) dX11_dartsCut_28 ?_
        rintro _ h9 ⟨rfl, e9⟩
        have e9 := e9.symm
        subst e9
        show AX w M_X11_dartsCut 0 0 31 [.ref 0, .int (nI 1), .int (nI rn)] [.int ((FP.d2f (dD o b.1 b.2 rn)).toInt32)] _ _
        refine AX.iret (pc := 31) dX11_dartsCut_31 rfl rfl (by decide) (by decide) ?_
        exact ⟨by unfold aCut; rw [if_pos h_x, if_pos h_r, nI_nat (show rn < 2147483648 by omega)]; try rfl, clS_in s1 (by decide), c1⟩
    · refine CA.of (by decide) rfl (fun _ => Nat.le_of_ble_eq_true rfl) ?_
      show AX w M_X11_dartsCut 0 0 0 [.ref 0, .int (nI xn), .int r] [] h _
      refine AX.iload_n (pc := 0) dX11_dartsCut_0 rfl ?_
      refine AX.callS (pc := 1) (M2 := M_X11_isPlayer) (As := [.int (nI xn)]) (rest := []) (c_isPlayer w h (nI xn)) xc_X11_dartsCut__X11_isPlayer gX11_dartsCut_X11_isPlayer rfl (Nat.le_of_ble_eq_true rfl) dX11_dartsCut_1 ?_
      rintro _ h9 ⟨rfl, e9⟩
      have e9 := e9.symm
      subst e9
      rw [decide_eq_true (play_iff.mpr h_x)]
      show AX w M_X11_dartsCut 0 0 4 [.ref 0, .int (nI xn), .int r] [.int (bI true)] _ _
      refine AX.if_eqB (pc := 4) (tgt := 15) dX11_dartsCut_4 (by decide) (fun q => absurd q (by decide)) (fun hc4 => ?_)
      refine AX.aload_n (pc := 7) dX11_dartsCut_7 rfl ?_
      refine AX.iload_n (pc := 8) dX11_dartsCut_8 rfl ?_
      refine AX.callV (pc := 9) (M2 := M_X11_isDartsRest) (As := [.int r]) (rest := []) (c_isDartsRest w h r c.hn c.dm c.ru) xc_X11_dartsCut__X11_isDartsRest gX11_dartsCut_X11_isDartsRest (ci := 10) rfl (lt_k c.hn (by omega)) c.dm rfl (Nat.le_of_ble_eq_true rfl) dX11_dartsCut_9 ?_
      rintro _ h9 ⟨rfl, e9⟩
      have e9 := e9.symm
      subst e9
      rw [decide_eq_false (fun q => h_r (drest_iff.mp q))]
      show AX w M_X11_dartsCut 0 0 12 [.ref 0, .int (nI xn), .int r] [.int (bI false)] _ _
      refine AX.if_neB (pc := 12) (tgt := 17) dX11_dartsCut_12 (by decide) (fun q => absurd q (by decide)) (fun hc12 => ?_)
      refine AX.iconst (pc := 15) (v := (-1)) dX11_dartsCut_15 (by decide) ?_
      refine AX.iret (pc := 16) dX11_dartsCut_16 rfl rfl (by decide) (by decide) ?_
      exact ⟨by unfold aCut; rw [if_pos h_x, if_neg h_r]; try rfl, Same.rf, c⟩
  · refine CA.of (by decide) rfl (fun _ => Nat.le_of_ble_eq_true rfl) ?_
    show AX w M_X11_dartsCut 0 0 0 [.ref 0, .int x, .int r] [] h _
    refine AX.iload_n (pc := 0) dX11_dartsCut_0 rfl ?_
    refine AX.callS (pc := 1) (M2 := M_X11_isPlayer) (As := [.int x]) (rest := []) (c_isPlayer w h x) xc_X11_dartsCut__X11_isPlayer gX11_dartsCut_X11_isPlayer rfl (Nat.le_of_ble_eq_true rfl) dX11_dartsCut_1 ?_
    rintro _ h9 ⟨rfl, e9⟩
    have e9 := e9.symm
    subst e9
    rw [decide_eq_false (fun q => h_x (play_iff.mp q))]
    show AX w M_X11_dartsCut 0 0 4 [.ref 0, .int x, .int r] [.int (bI false)] _ _
    refine AX.if_eqB (pc := 4) (tgt := 15) dX11_dartsCut_4 (by decide) (fun hc4 => ?_) (fun q => absurd q (by decide))
    refine AX.iconst (pc := 15) (v := (-1)) dX11_dartsCut_15 (by decide) ?_
    refine AX.iret (pc := 16) dX11_dartsCut_16 rfl rfl (by decide) (by decide) ?_
    exact ⟨by unfold aCut; rw [if_neg h_x]; try rfl, Same.rf, c⟩
theorem mul_n64 {x y : UInt64} {Ka Kb : Nat} (hx : x.toNat % 2 ^ 63 < Ka * 2 ^ 52) (hy : y.toNat % 2 ^ 63 < Kb * 2 ^ 52) (ha : Ka ≤ 2047) (hb : Kb ≤ 2047) (hk : Ka + Kb - 1025 + 3 ≤ 2047) : vf_n64 (FP.dmul x y) := by
  have h := FP.Core.dmul_mag hx hy ha hb
  have h2 : (FP.Core.dmul x y).toNat % 2 ^ 63 < 2047 * 2 ^ 52 := Nat.lt_of_lt_of_le h (Nat.mul_le_mul_right _ hk)
  exact vfn (FP.Core.fin_of_lt h2 (by omega))
theorem bits_le {x : UInt64} {k : Nat} {V : UInt64} (hx : DF x) (h0 : 0 ≤ zv x) (hV : DF V) (h : zv x ≤ zv V) (hk : V.toNat = k) (hk2 : k < 9218868437227405312) : x.toNat % 2 ^ 63 ≤ k := by
  have a1 := FP.Core.zmag_bits hx.ne_nan
  have a2 := FP.Core.zmag_bits hV.ne_nan
  have b1 := zmag_zval (V := FP.Core.val64 x) h0
  have b2 := zmag_zval (V := FP.Core.val64 V) (Int.le_trans h0 h)
  have c1 : FP.Core.zmag FP.Core.b64 (FP.Core.val64 x) ≤ FP.Core.zmag FP.Core.b64 (FP.Core.val64 V) := by
    unfold zv at h
    rw [← b1, ← b2] at h
    omega
  rw [a1, a2] at c1
  have c2 := FP.Core.unitsOf_le_iff.mp c1
  rw [hk] at c2
  omega
theorem mul1000 {o sd rg r : Nat} (ho : o ≤ 2) (hs : sd ≤ 200) (hr : rg ≤ 200) (h1 : r ≤ 501) (h2 : r = 0 ∨ leN o ≤ r) : vf_n64 (FP.dmul (dD o sd rg r) K1000) := by
  have hO := one_posI
  have e4 : FP.Core.val64 4661225614328463360 = .fin false 4503599627370496 (-40) := by rw [bt_norm (n := 4661225614328463360) rfl (by omega) (by omega)]; rfl
  have z4 : zv 4661225614328463360 = 4096 * (FP.Core.one64 : Int) := by unfold zv; rw [e4]; decide +kernel
  have hb : (dD o sd rg r).toNat % 2 ^ 63 ≤ 4661225614328463360 := by
    by_cases e : r = 0
    · subst e
      rw [dD_zero]
      decide
    · obtain ⟨d1, d2, d3, -⟩ := dD_ok ho hs hr r h1 (by omega)
      have d4 : ((6 * r : Nat) : Int) * (FP.Core.one64 : Int) ≤ 4096 * (FP.Core.one64 : Int) := Int.mul_le_mul_of_nonneg_right (by omega) (Int.le_of_lt hO)
      exact bits_le (k := 4661225614328463360) d1 (by omega) ⟨_, _, _, e4⟩ (by rw [z4]; omega) rfl (by omega)
  exact mul_n64 (Ka := 1036) (Kb := 1033) (by omega) (by decide) (by omega) (by omega) (by omega)
theorem c_thousandths (w : XW) (h : XH) {s : SS} {o : Nat} {a b : Nat × Nat} (c : CSo h s o a b) (x : Int32) (r : Int32) : CA w M_X11_thousandths [.ref 0, .int x, .int r] h (fun v' h'' => v' = some (.int (aThou o a b x r)) ∧ Same clS h h'' ∧ CSo h'' s o a b) := by
  obtain ⟨dk0, ck0, fn0, m0a, m0b, m0c, m0d⟩ := id c.m0
  obtain ⟨dk1, ck1, fn1, m1a, m1b, m1c, m1d⟩ := id c.m1
  obtain ⟨f9, e9_, q9⟩ := id c.rs.2.1
  by_cases h_x : inR 0 1 x
  · obtain ⟨xn, rfl, l_x, u_x⟩ := inR_nat (by decide) h_x
    by_cases h_r : inD o r
    · obtain ⟨rn, rfl, l_r, u_r⟩ := inD_nat h_r
      rcases (show xn = 0 ∨ xn = 1 by omega) with rfl | rfl
      · have dd := mul1000 c.ru.1 m0a.2.1 m0a.2.2.1 u_r l_r
        refine CA.of (by decide) rfl (fun _ => Nat.le_of_ble_eq_true rfl) ?_
        show AX w M_X11_thousandths 0 0 0 [.ref 0, .int (nI 0), .int (nI rn)] [] h _
        refine AX.iload_n (pc := 0) dX11_thousandths_0 rfl ?_
        refine AX.callS (pc := 1) (M2 := M_X11_isPlayer) (As := [.int (nI 0)]) (rest := []) (c_isPlayer w h (nI 0)) xc_X11_thousandths__X11_isPlayer gX11_thousandths_X11_isPlayer rfl (Nat.le_of_ble_eq_true rfl) dX11_thousandths_1 ?_
        rintro _ h9 ⟨rfl, e9⟩
        have e9 := e9.symm
        subst e9
        rw [decide_eq_true (play_iff.mpr h_x)]
        show AX w M_X11_thousandths 0 0 4 [.ref 0, .int (nI 0), .int (nI rn)] [.int (bI true)] _ _
        refine AX.if_eqB (pc := 4) (tgt := 15) dX11_thousandths_4 (by decide) (fun q => absurd q (by decide)) (fun hc4 => ?_)
        refine AX.aload_n (pc := 7) dX11_thousandths_7 rfl ?_
        refine AX.iload_n (pc := 8) dX11_thousandths_8 rfl ?_
        refine AX.callV (pc := 9) (M2 := M_X11_isDartsRest) (As := [.int (nI rn)]) (rest := []) (c_isDartsRest w h (nI rn) c.hn c.dm c.ru) xc_X11_thousandths__X11_isDartsRest gX11_thousandths_X11_isDartsRest (ci := 10) rfl (lt_k c.hn (by omega)) c.dm rfl (Nat.le_of_ble_eq_true rfl) dX11_thousandths_9 ?_
        rintro _ h9 ⟨rfl, e9⟩
        have e9 := e9.symm
        subst e9
        rw [decide_eq_true (drest_iff.mpr h_r)]
        show AX w M_X11_thousandths 0 0 12 [.ref 0, .int (nI 0), .int (nI rn)] [.int (bI true)] _ _
        refine AX.if_neB (pc := 12) (tgt := 17) dX11_thousandths_12 (by decide) (fun hc12 => ?_) (fun q => absurd q (by decide))
        refine AX.aload_n (pc := 17) dX11_thousandths_17 rfl ?_
        refine AX.getf (pc := 18) fX11_thousandths_28 (lt_k c.hn (by omega)) c.dm rfl dX11_thousandths_18 ?_
        refine AX.iload_n (pc := 21) dX11_thousandths_21 rfl ?_
        refine AX.aaldN (pc := 22) (i := 0) (b := 10) (by decide) (lt_k c.hn (by omega)) e9_ (by decide) (by decide) (q9 _ (by decide)) dX11_thousandths_22 ?_
        refine AX.iload_n (pc := 23) dX11_thousandths_23 rfl ?_
        refine AX.callV (pc := 24) (M2 := M_X4_dartsAt) (As := [.int (nI rn)]) (rest := []) (c_dartsAt w h (show 42 ≤ h.1 by have := c.hn; omega) c.ru.1 c.ru c.fa m0a m0d m0b rn u_r l_r) xc_X11_thousandths__X4_dartsAt gX11_thousandths_X4_dartsAt (ci := 3) rfl (lt_k c.hn (by omega)) m0a.2.2.2.1 rfl (Nat.le_of_ble_eq_true rfl) dX11_thousandths_24 ?_
        rintro _ h1 ⟨rfl, s1, M1, K1, fn9, N1⟩
        have c1 : CSo h1 s o a b := c.mind0 s1 (by decide) ⟨_, _, fn9, M1, K1, m0c.same s1 (by simp) (by simp) (by simp; omega), N1⟩
        show AX w M_X11_thousandths 0 0 27 [.ref 0, .int (nI 0), .int (nI rn)] [.double (dD o a.1 a.2 rn)] _ _
        refine AX.ldc2d (pc := 27) (v := 4652007308841189376) dX11_thousandths_27 cX11_thousandths_170 ?_
        refine AX.dmul (pc := 30) dX11_thousandths_30 dd ?_
        refine AX.d2i (pc := 31) dX11_thousandths_31 ?_
        refine AX.iret (pc := 32) dX11_thousandths_32 rfl rfl (by decide) (by decide) ?_
        exact ⟨by unfold aThou; rw [if_pos h_x, if_pos h_r, nI_nat (show rn < 2147483648 by omega)]; try rfl, clS_in s1 (by decide), c1⟩
      · have dd := mul1000 c.ru.1 m1a.2.1 m1a.2.2.1 u_r l_r
        refine CA.of (by decide) rfl (fun _ => Nat.le_of_ble_eq_true rfl) ?_
        show AX w M_X11_thousandths 0 0 0 [.ref 0, .int (nI 1), .int (nI rn)] [] h _
        refine AX.iload_n (pc := 0) dX11_thousandths_0 rfl ?_
        refine AX.callS (pc := 1) (M2 := M_X11_isPlayer) (As := [.int (nI 1)]) (rest := []) (c_isPlayer w h (nI 1)) xc_X11_thousandths__X11_isPlayer gX11_thousandths_X11_isPlayer rfl (Nat.le_of_ble_eq_true rfl) dX11_thousandths_1 ?_
        rintro _ h9 ⟨rfl, e9⟩
        have e9 := e9.symm
        subst e9
        rw [decide_eq_true (play_iff.mpr h_x)]
        show AX w M_X11_thousandths 0 0 4 [.ref 0, .int (nI 1), .int (nI rn)] [.int (bI true)] _ _
        refine AX.if_eqB (pc := 4) (tgt := 15) dX11_thousandths_4 (by decide) (fun q => absurd q (by decide)) (fun hc4 => ?_)
        refine AX.aload_n (pc := 7) dX11_thousandths_7 rfl ?_
        refine AX.iload_n (pc := 8) dX11_thousandths_8 rfl ?_
        refine AX.callV (pc := 9) (M2 := M_X11_isDartsRest) (As := [.int (nI rn)]) (rest := []) (c_isDartsRest w h (nI rn) c.hn c.dm c.ru) xc_X11_thousandths__X11_isDartsRest gX11_thousandths_X11_isDartsRest (ci := 10) rfl (lt_k c.hn (by omega)) c.dm rfl (Nat.le_of_ble_eq_true rfl) dX11_thousandths_9 ?_
        rintro _ h9 ⟨rfl, e9⟩
        have e9 := e9.symm
        subst e9
        rw [decide_eq_true (drest_iff.mpr h_r)]
        show AX w M_X11_thousandths 0 0 12 [.ref 0, .int (nI 1), .int (nI rn)] [.int (bI true)] _ _
        refine AX.if_neB (pc := 12) (tgt := 17) dX11_thousandths_12 (by decide) (fun hc12 => ?_) (fun q => absurd q (by decide))
        refine AX.aload_n (pc := 17) dX11_thousandths_17 rfl ?_
        refine AX.getf (pc := 18) fX11_thousandths_28 (lt_k c.hn (by omega)) c.dm rfl dX11_thousandths_18 ?_
        refine AX.iload_n (pc := 21) dX11_thousandths_21 rfl ?_
        refine AX.aaldN (pc := 22) (i := 1) (b := 26) (by decide) (lt_k c.hn (by omega)) e9_ (by decide) (by decide) (q9 _ (by decide)) dX11_thousandths_22 ?_
        refine AX.iload_n (pc := 23) dX11_thousandths_23 rfl ?_
        refine AX.callV (pc := 24) (M2 := M_X4_dartsAt) (As := [.int (nI rn)]) (rest := []) (c_dartsAt w h (show 42 ≤ h.1 by have := c.hn; omega) c.ru.1 c.ru c.fa m1a m1d m1b rn u_r l_r) xc_X11_thousandths__X4_dartsAt gX11_thousandths_X4_dartsAt (ci := 3) rfl (lt_k c.hn (by omega)) m1a.2.2.2.1 rfl (Nat.le_of_ble_eq_true rfl) dX11_thousandths_24 ?_
        rintro _ h1 ⟨rfl, s1, M1, K1, fn9, N1⟩
        have c1 : CSo h1 s o a b := c.mind1 s1 (by decide) ⟨_, _, fn9, M1, K1, m1c.same s1 (by simp) (by simp) (by simp; omega), N1⟩
        show AX w M_X11_thousandths 0 0 27 [.ref 0, .int (nI 1), .int (nI rn)] [.double (dD o b.1 b.2 rn)] _ _
        refine AX.ldc2d (pc := 27) (v := 4652007308841189376) dX11_thousandths_27 cX11_thousandths_170 ?_
        refine AX.dmul (pc := 30) dX11_thousandths_30 dd ?_
        refine AX.d2i (pc := 31) dX11_thousandths_31 ?_
        refine AX.iret (pc := 32) dX11_thousandths_32 rfl rfl (by decide) (by decide) ?_
        exact ⟨by unfold aThou; rw [if_pos h_x, if_pos h_r, nI_nat (show rn < 2147483648 by omega)]; try rfl, clS_in s1 (by decide), c1⟩
    · refine CA.of (by decide) rfl (fun _ => Nat.le_of_ble_eq_true rfl) ?_
      show AX w M_X11_thousandths 0 0 0 [.ref 0, .int (nI xn), .int r] [] h _
      refine AX.iload_n (pc := 0) dX11_thousandths_0 rfl ?_
      refine AX.callS (pc := 1) (M2 := M_X11_isPlayer) (As := [.int (nI xn)]) (rest := []) (c_isPlayer w h (nI xn)) xc_X11_thousandths__X11_isPlayer gX11_thousandths_X11_isPlayer rfl (Nat.le_of_ble_eq_true rfl) dX11_thousandths_1 ?_
      rintro _ h9 ⟨rfl, e9⟩
      have e9 := e9.symm
      subst e9
      rw [decide_eq_true (play_iff.mpr h_x)]
      show AX w M_X11_thousandths 0 0 4 [.ref 0, .int (nI xn), .int r] [.int (bI true)] _ _
      refine AX.if_eqB (pc := 4) (tgt := 15) dX11_thousandths_4 (by decide) (fun q => absurd q (by decide)) (fun hc4 => ?_)
      refine AX.aload_n (pc := 7) dX11_thousandths_7 rfl ?_
      refine AX.iload_n (pc := 8) dX11_thousandths_8 rfl ?_
      refine AX.callV (pc := 9) (M2 := M_X11_isDartsRest) (As := [.int r]) (rest := []) (c_isDartsRest w h r c.hn c.dm c.ru) xc_X11_thousandths__X11_isDartsRest gX11_thousandths_X11_isDartsRest (ci := 10) rfl (lt_k c.hn (by omega)) c.dm rfl (Nat.le_of_ble_eq_true rfl) dX11_thousandths_9 ?_
      rintro _ h9 ⟨rfl, e9⟩
      have e9 := e9.symm
      subst e9
      rw [decide_eq_false (fun q => h_r (drest_iff.mp q))]
      show AX w M_X11_thousandths 0 0 12 [.ref 0, .int (nI xn), .int r] [.int (bI false)] _ _
      refine AX.if_neB (pc := 12) (tgt := 17) dX11_thousandths_12 (by decide) (fun q => absurd q (by decide)) (fun hc12 => ?_)
      refine AX.iconst (pc := 15) (v := (-1)) dX11_thousandths_15 (by decide) ?_
      refine AX.iret (pc := 16) dX11_thousandths_16 rfl rfl (by decide) (by decide) ?_
      exact ⟨by unfold aThou; rw [if_pos h_x, if_neg h_r]; try rfl, Same.rf, c⟩
  · refine CA.of (by decide) rfl (fun _ => Nat.le_of_ble_eq_true rfl) ?_
    show AX w M_X11_thousandths 0 0 0 [.ref 0, .int x, .int r] [] h _
    refine AX.iload_n (pc := 0) dX11_thousandths_0 rfl ?_
    refine AX.callS (pc := 1) (M2 := M_X11_isPlayer) (As := [.int x]) (rest := []) (c_isPlayer w h x) xc_X11_thousandths__X11_isPlayer gX11_thousandths_X11_isPlayer rfl (Nat.le_of_ble_eq_true rfl) dX11_thousandths_1 ?_
    rintro _ h9 ⟨rfl, e9⟩
    have e9 := e9.symm
    subst e9
    rw [decide_eq_false (fun q => h_x (play_iff.mp q))]
    show AX w M_X11_thousandths 0 0 4 [.ref 0, .int x, .int r] [.int (bI false)] _ _
    refine AX.if_eqB (pc := 4) (tgt := 15) dX11_thousandths_4 (by decide) (fun hc4 => ?_) (fun q => absurd q (by decide))
    refine AX.iconst (pc := 15) (v := (-1)) dX11_thousandths_15 (by decide) ?_
    refine AX.iret (pc := 16) dX11_thousandths_16 rfl rfl (by decide) (by decide) ?_
    exact ⟨by unfold aThou; rw [if_neg h_x]; try rfl, Same.rf, c⟩
theorem c_aim (w : XW) (h : XH) {s : SS} {o : Nat} {a b : Nat × Nat} (c : CSo h s o a b) (x : Int32) (r : Int32) : CA w M_X11_aim [.ref 0, .int x, .int r] h (fun v' h'' => v' = some (.int (aAim o a b x r)) ∧ Same clS h h'' ∧ CSo h'' s o a b) := by
  obtain ⟨dk0, ck0, fn0, m0a, m0b, m0c, m0d⟩ := id c.m0
  obtain ⟨dk1, ck1, fn1, m1a, m1b, m1c, m1d⟩ := id c.m1
  obtain ⟨f9, e9_, q9⟩ := id c.rs.2.1
  by_cases h_x : inR 0 1 x
  · obtain ⟨xn, rfl, l_x, u_x⟩ := inR_nat (by decide) h_x
    by_cases h_r : inR (leN o) 501 r
    · obtain ⟨rn, rfl, l_r, u_r⟩ := inR_nat (by decide) h_r
      have p_r := leN_pos o
      rcases (show xn = 0 ∨ xn = 1 by omega) with rfl | rfl
      · refine CA.of (by decide) rfl (fun _ => Nat.le_of_ble_eq_true rfl) ?_
        show AX w M_X11_aim 0 0 0 [.ref 0, .int (nI 0), .int (nI rn)] [] h _
        refine AX.iload_n (pc := 0) dX11_aim_0 rfl ?_
        refine AX.callS (pc := 1) (M2 := M_X11_isPlayer) (As := [.int (nI 0)]) (rest := []) (c_isPlayer w h (nI 0)) xc_X11_aim__X11_isPlayer gX11_aim_X11_isPlayer rfl (Nat.le_of_ble_eq_true rfl) dX11_aim_1 ?_
        rintro _ h9 ⟨rfl, e9⟩
        have e9 := e9.symm
        subst e9
        rw [decide_eq_true (play_iff.mpr h_x)]
        show AX w M_X11_aim 0 0 4 [.ref 0, .int (nI 0), .int (nI rn)] [.int (bI true)] _ _
        refine AX.if_eqB (pc := 4) (tgt := 18) dX11_aim_4 (by decide) (fun q => absurd q (by decide)) (fun hc4 => ?_)
        refine AX.aload_n (pc := 7) dX11_aim_7 rfl ?_
        refine AX.iload_n (pc := 8) dX11_aim_8 rfl ?_
        refine AX.sipush (pc := 9) (v := nI 501) dX11_aim_9 (by decide) ?_
        refine AX.callV (pc := 12) (M2 := M_X11_isRestUpTo) (As := [.int (nI rn), .int (nI 501)]) (rest := []) (c_isRestUpTo w h (nI rn) 501 c.hn c.dm c.ru) xc_X11_aim__X11_isRestUpTo gX11_aim_X11_isRestUpTo (ci := 10) rfl (lt_k c.hn (by omega)) c.dm rfl (Nat.le_of_ble_eq_true rfl) dX11_aim_12 ?_
        rintro _ h9 ⟨rfl, e9⟩
        have e9 := e9.symm
        subst e9
        rw [decide_eq_true ((rest_iff (by decide)).mpr h_r)]
        show AX w M_X11_aim 0 0 15 [.ref 0, .int (nI 0), .int (nI rn)] [.int (bI true)] _ _
        refine AX.if_neB (pc := 15) (tgt := 20) dX11_aim_15 (by decide) (fun hc15 => ?_) (fun q => absurd q (by decide))
        refine AX.aload_n (pc := 20) dX11_aim_20 rfl ?_
        refine AX.getf (pc := 21) fX11_aim_28 (lt_k c.hn (by omega)) c.dm rfl dX11_aim_21 ?_
        refine AX.iload_n (pc := 24) dX11_aim_24 rfl ?_
        refine AX.aaldN (pc := 25) (i := 0) (b := 10) (by decide) (lt_k c.hn (by omega)) e9_ (by decide) (by decide) (q9 _ (by decide)) dX11_aim_25 ?_
        refine AX.iload_n (pc := 26) dX11_aim_26 rfl ?_
        refine AX.callV (pc := 27) (M2 := M_X4_aimAt) (As := [.int (nI rn)]) (rest := []) (c_aimAt w h (show 42 ≤ h.1 by have := c.hn; omega) c.ru.1 c.ru c.fa m0a m0d m0b rn u_r l_r) xc_X11_aim__X4_aimAt gX11_aim_X4_aimAt (ci := 3) rfl (lt_k c.hn (by omega)) m0a.2.2.2.1 rfl (Nat.le_of_ble_eq_true rfl) dX11_aim_27 ?_
        rintro _ h1 ⟨rfl, s1, M1, K1, fn9, N1⟩
        have c1 : CSo h1 s o a b := c.mind0 s1 (by decide) ⟨_, _, fn9, M1, K1, m0c.same s1 (by simp) (by simp) (by simp; omega), N1⟩
        show AX w M_X11_aim 0 0 30 [.ref 0, .int (nI 0), .int (nI rn)] [.int (nI (dA_ o a.1 a.2 rn))] _ _
        refine AX.iret (pc := 30) dX11_aim_30 rfl rfl (by decide) (by decide) ?_
        exact ⟨by unfold aAim; rw [if_pos h_x, if_pos h_r, nI_nat (show rn < 2147483648 by omega)]; try rfl, clS_in s1 (by decide), c1⟩
      · refine CA.of (by decide) rfl (fun _ => Nat.le_of_ble_eq_true rfl) ?_
        show AX w M_X11_aim 0 0 0 [.ref 0, .int (nI 1), .int (nI rn)] [] h _
        refine AX.iload_n (pc := 0) dX11_aim_0 rfl ?_
        refine AX.callS (pc := 1) (M2 := M_X11_isPlayer) (As := [.int (nI 1)]) (rest := []) (c_isPlayer w h (nI 1)) xc_X11_aim__X11_isPlayer gX11_aim_X11_isPlayer rfl (Nat.le_of_ble_eq_true rfl) dX11_aim_1 ?_
        rintro _ h9 ⟨rfl, e9⟩
        have e9 := e9.symm
        subst e9
        rw [decide_eq_true (play_iff.mpr h_x)]
        show AX w M_X11_aim 0 0 4 [.ref 0, .int (nI 1), .int (nI rn)] [.int (bI true)] _ _
        refine AX.if_eqB (pc := 4) (tgt := 18) dX11_aim_4 (by decide) (fun q => absurd q (by decide)) (fun hc4 => ?_)
        refine AX.aload_n (pc := 7) dX11_aim_7 rfl ?_
        refine AX.iload_n (pc := 8) dX11_aim_8 rfl ?_
        refine AX.sipush (pc := 9) (v := nI 501) dX11_aim_9 (by decide) ?_
        refine AX.callV (pc := 12) (M2 := M_X11_isRestUpTo) (As := [.int (nI rn), .int (nI 501)]) (rest := []) (c_isRestUpTo w h (nI rn) 501 c.hn c.dm c.ru) xc_X11_aim__X11_isRestUpTo gX11_aim_X11_isRestUpTo (ci := 10) rfl (lt_k c.hn (by omega)) c.dm rfl (Nat.le_of_ble_eq_true rfl) dX11_aim_12 ?_
        rintro _ h9 ⟨rfl, e9⟩
        have e9 := e9.symm
        subst e9
        rw [decide_eq_true ((rest_iff (by decide)).mpr h_r)]
        show AX w M_X11_aim 0 0 15 [.ref 0, .int (nI 1), .int (nI rn)] [.int (bI true)] _ _
        refine AX.if_neB (pc := 15) (tgt := 20) dX11_aim_15 (by decide) (fun hc15 => ?_) (fun q => absurd q (by decide))
        refine AX.aload_n (pc := 20) dX11_aim_20 rfl ?_
        refine AX.getf (pc := 21) fX11_aim_28 (lt_k c.hn (by omega)) c.dm rfl dX11_aim_21 ?_
        refine AX.iload_n (pc := 24) dX11_aim_24 rfl ?_
        refine AX.aaldN (pc := 25) (i := 1) (b := 26) (by decide) (lt_k c.hn (by omega)) e9_ (by decide) (by decide) (q9 _ (by decide)) dX11_aim_25 ?_
        refine AX.iload_n (pc := 26) dX11_aim_26 rfl ?_
        refine AX.callV (pc := 27) (M2 := M_X4_aimAt) (As := [.int (nI rn)]) (rest := []) (c_aimAt w h (show 42 ≤ h.1 by have := c.hn; omega) c.ru.1 c.ru c.fa m1a m1d m1b rn u_r l_r) xc_X11_aim__X4_aimAt gX11_aim_X4_aimAt (ci := 3) rfl (lt_k c.hn (by omega)) m1a.2.2.2.1 rfl (Nat.le_of_ble_eq_true rfl) dX11_aim_27 ?_
        rintro _ h1 ⟨rfl, s1, M1, K1, fn9, N1⟩
        have c1 : CSo h1 s o a b := c.mind1 s1 (by decide) ⟨_, _, fn9, M1, K1, m1c.same s1 (by simp) (by simp) (by simp; omega), N1⟩
        show AX w M_X11_aim 0 0 30 [.ref 0, .int (nI 1), .int (nI rn)] [.int (nI (dA_ o b.1 b.2 rn))] _ _
        refine AX.iret (pc := 30) dX11_aim_30 rfl rfl (by decide) (by decide) ?_
        exact ⟨by unfold aAim; rw [if_pos h_x, if_pos h_r, nI_nat (show rn < 2147483648 by omega)]; try rfl, clS_in s1 (by decide), c1⟩
    · refine CA.of (by decide) rfl (fun _ => Nat.le_of_ble_eq_true rfl) ?_
      show AX w M_X11_aim 0 0 0 [.ref 0, .int (nI xn), .int r] [] h _
      refine AX.iload_n (pc := 0) dX11_aim_0 rfl ?_
      refine AX.callS (pc := 1) (M2 := M_X11_isPlayer) (As := [.int (nI xn)]) (rest := []) (c_isPlayer w h (nI xn)) xc_X11_aim__X11_isPlayer gX11_aim_X11_isPlayer rfl (Nat.le_of_ble_eq_true rfl) dX11_aim_1 ?_
      rintro _ h9 ⟨rfl, e9⟩
      have e9 := e9.symm
      subst e9
      rw [decide_eq_true (play_iff.mpr h_x)]
      show AX w M_X11_aim 0 0 4 [.ref 0, .int (nI xn), .int r] [.int (bI true)] _ _
      refine AX.if_eqB (pc := 4) (tgt := 18) dX11_aim_4 (by decide) (fun q => absurd q (by decide)) (fun hc4 => ?_)
      refine AX.aload_n (pc := 7) dX11_aim_7 rfl ?_
      refine AX.iload_n (pc := 8) dX11_aim_8 rfl ?_
      refine AX.sipush (pc := 9) (v := nI 501) dX11_aim_9 (by decide) ?_
      refine AX.callV (pc := 12) (M2 := M_X11_isRestUpTo) (As := [.int r, .int (nI 501)]) (rest := []) (c_isRestUpTo w h r 501 c.hn c.dm c.ru) xc_X11_aim__X11_isRestUpTo gX11_aim_X11_isRestUpTo (ci := 10) rfl (lt_k c.hn (by omega)) c.dm rfl (Nat.le_of_ble_eq_true rfl) dX11_aim_12 ?_
      rintro _ h9 ⟨rfl, e9⟩
      have e9 := e9.symm
      subst e9
      rw [decide_eq_false (fun q => h_r ((rest_iff (by decide)).mp q))]
      show AX w M_X11_aim 0 0 15 [.ref 0, .int (nI xn), .int r] [.int (bI false)] _ _
      refine AX.if_neB (pc := 15) (tgt := 20) dX11_aim_15 (by decide) (fun q => absurd q (by decide)) (fun hc15 => ?_)
      refine AX.iconst (pc := 18) (v := (-1)) dX11_aim_18 (by decide) ?_
      refine AX.iret (pc := 19) dX11_aim_19 rfl rfl (by decide) (by decide) ?_
      exact ⟨by unfold aAim; rw [if_pos h_x, if_neg h_r]; try rfl, Same.rf, c⟩
  · refine CA.of (by decide) rfl (fun _ => Nat.le_of_ble_eq_true rfl) ?_
    show AX w M_X11_aim 0 0 0 [.ref 0, .int x, .int r] [] h _
    refine AX.iload_n (pc := 0) dX11_aim_0 rfl ?_
    refine AX.callS (pc := 1) (M2 := M_X11_isPlayer) (As := [.int x]) (rest := []) (c_isPlayer w h x) xc_X11_aim__X11_isPlayer gX11_aim_X11_isPlayer rfl (Nat.le_of_ble_eq_true rfl) dX11_aim_1 ?_
    rintro _ h9 ⟨rfl, e9⟩
    have e9 := e9.symm
    subst e9
    rw [decide_eq_false (fun q => h_x (play_iff.mp q))]
    show AX w M_X11_aim 0 0 4 [.ref 0, .int x, .int r] [.int (bI false)] _ _
    refine AX.if_eqB (pc := 4) (tgt := 18) dX11_aim_4 (by decide) (fun hc4 => ?_) (fun q => absurd q (by decide))
    refine AX.iconst (pc := 18) (v := (-1)) dX11_aim_18 (by decide) ?_
    refine AX.iret (pc := 19) dX11_aim_19 rfl rfl (by decide) (by decide) ?_
    exact ⟨by unfold aAim; rw [if_neg h_x]; try rfl, Same.rf, c⟩
theorem c_chance (w : XW) (h : XH) {s : SS} {o : Nat} {a b : Nat × Nat} (c : CSo h s o a b) (x : Int32) (r : Int32) (k : Int32) : CA w M_X11_chance [.ref 0, .int x, .int r, .int k] h (fun v' h'' => v' = some (.long (aChance o a b x r k)) ∧ Same clS h h'' ∧ CSo h'' s o a b) := by
  obtain ⟨dk0, ck0, fn0, m0a, m0b, m0c, m0d⟩ := id c.m0
  obtain ⟨dk1, ck1, fn1, m1a, m1b, m1c, m1d⟩ := id c.m1
  obtain ⟨f9, e9_, q9⟩ := id c.rs.2.1
  by_cases h_x : inR 0 1 x
  · obtain ⟨xn, rfl, l_x, u_x⟩ := inR_nat (by decide) h_x
    by_cases h_r : inR (leN o) 180 r
    · obtain ⟨rn, rfl, l_r, u_r⟩ := inR_nat (by decide) h_r
      have p_r := leN_pos o
      by_cases h_k : inR 0 3 k
      · obtain ⟨kn, rfl, l_k, u_k⟩ := inR_nat (by decide) h_k
        rcases (show xn = 0 ∨ xn = 1 by omega) with rfl | rfl
        · have dd := cN_ok (o := o) m0a.2.1 m0a.2.2.1 kn rn (by omega)
          refine CA.of (by decide) rfl (fun _ => Nat.le_of_ble_eq_true rfl) ?_
          show AX w M_X11_chance 0 0 0 [.ref 0, .int (nI 0), .int (nI rn), .int (nI kn)] [] h _
          refine AX.iload_n (pc := 0) dX11_chance_0 rfl ?_
          refine AX.callS (pc := 1) (M2 := M_X11_isPlayer) (As := [.int (nI 0)]) (rest := []) (c_isPlayer w h (nI 0)) xc_X11_chance__X11_isPlayer gX11_chance_X11_isPlayer rfl (Nat.le_of_ble_eq_true rfl) dX11_chance_1 ?_
          rintro _ h9 ⟨rfl, e9⟩
          have e9 := e9.symm
          subst e9
          rw [decide_eq_true (play_iff.mpr h_x)]
          show AX w M_X11_chance 0 0 4 [.ref 0, .int (nI 0), .int (nI rn), .int (nI kn)] [.int (bI true)] _ _
          refine AX.if_eqB (pc := 4) (tgt := 27) dX11_chance_4 (by decide) (fun q => absurd q (by decide)) (fun hc4 => ?_)
          refine AX.aload_n (pc := 7) dX11_chance_7 rfl ?_
          refine AX.iload_n (pc := 8) dX11_chance_8 rfl ?_
          refine AX.sipush (pc := 9) (v := nI 180) dX11_chance_9 (by decide) ?_
          refine AX.callV (pc := 12) (M2 := M_X11_isRestUpTo) (As := [.int (nI rn), .int (nI 180)]) (rest := []) (c_isRestUpTo w h (nI rn) 180 c.hn c.dm c.ru) xc_X11_chance__X11_isRestUpTo gX11_chance_X11_isRestUpTo (ci := 10) rfl (lt_k c.hn (by omega)) c.dm rfl (Nat.le_of_ble_eq_true rfl) dX11_chance_12 ?_
          rintro _ h9 ⟨rfl, e9⟩
          have e9 := e9.symm
          subst e9
          rw [decide_eq_true ((rest_iff (by decide)).mpr h_r)]
          show AX w M_X11_chance 0 0 15 [.ref 0, .int (nI 0), .int (nI rn), .int (nI kn)] [.int (bI true)] _ _
          refine AX.if_eqB (pc := 15) (tgt := 27) dX11_chance_15 (by decide) (fun q => absurd q (by decide)) (fun hc15 => ?_)
          refine AX.iload_n (pc := 18) dX11_chance_18 rfl ?_
          refine AX.if_ltN (pc := 19) (tgt := 27) dX11_chance_19 (by decide) (by omega) (fun q => absurd q (by omega)) (fun hc19 => ?_)
          refine AX.iload_n (pc := 22) dX11_chance_22 rfl ?_
          refine AX.iconst (pc := 23) (v := nI 3) dX11_chance_23 (by decide) ?_
          refine AX.icmp_leN (pc := 24) (tgt := 31) dX11_chance_24 (by decide) (by omega) (by decide) (fun hc24 => ?_) (fun q => absurd q (by omega))
          refine AX.aload_n (pc := 31) dX11_chance_31 rfl ?_
          refine AX.getf (pc := 32) fX11_chance_28 (lt_k c.hn (by omega)) c.dm rfl dX11_chance_32 ?_
          refine AX.iload_n (pc := 35) dX11_chance_35 rfl ?_
          refine AX.aaldN (pc := 36) (i := 0) (b := 10) (by decide) (lt_k c.hn (by omega)) e9_ (by decide) (by decide) (q9 _ (by decide)) dX11_chance_36 ?_
          refine AX.iload_n (pc := 37) dX11_chance_37 rfl ?_
          refine AX.iload_n (pc := 38) dX11_chance_38 rfl ?_
          refine AX.callV (pc := 39) (M2 := M_X4_chanceAt) (As := [.int (nI rn), .int (nI kn)]) (rest := []) (c_chanceAt w h (show 42 ≤ h.1 by have := c.hn; omega) c.ru c.fa m0a m0d m0c rn kn u_r u_k (Or.inr l_r)) xc_X11_chance__X4_chanceAt gX11_chance_X4_chanceAt (ci := 3) rfl (lt_k c.hn (by omega)) m0a.2.2.2.1 rfl (Nat.le_of_ble_eq_true rfl) dX11_chance_39 ?_
          rintro _ h1 ⟨rfl, s1, M1, K1, fn9, N1⟩
          have c1 : CSo h1 s o a b := c.mind0 s1 (by decide) ⟨_, _, fn9, M1, m0b.same s1 (by simp) (by simp), K1, N1⟩
          show AX w M_X11_chance 0 0 42 [.ref 0, .int (nI 0), .int (nI rn), .int (nI kn)] [.double (cN o a.1 a.2 kn rn)] _ _
          refine AX.callS (pc := 42) (M2 := M_X11_bitsOfDouble) (As := [.double (cN o a.1 a.2 kn rn)]) (rest := []) (c_bitsOfDouble w h1 (df_lt dd.1) (nz_cN _ _ _ _ _)) xc_X11_chance__X11_bitsOfDouble gX11_chance_X11_bitsOfDouble rfl (Nat.le_of_ble_eq_true rfl) dX11_chance_42 ?_
          rintro _ h9 ⟨rfl, e9⟩
          have e9 := e9.symm
          subst e9
          show AX w M_X11_chance 0 0 45 [.ref 0, .int (nI 0), .int (nI rn), .int (nI kn)] [.long ((cN o a.1 a.2 kn rn).toInt64)] _ _
          refine AX.lret (pc := 45) dX11_chance_45 rfl (by decide) (by decide) ?_
          exact ⟨by unfold aChance; rw [if_pos h_x, if_pos h_r, if_pos h_k, nI_nat (show rn < 2147483648 by omega), nI_nat (show kn < 2147483648 by omega)]; try rfl, clS_in s1 (by decide), c1⟩
        · have dd := cN_ok (o := o) m1a.2.1 m1a.2.2.1 kn rn (by omega)
          refine CA.of (by decide) rfl (fun _ => Nat.le_of_ble_eq_true rfl) ?_
          show AX w M_X11_chance 0 0 0 [.ref 0, .int (nI 1), .int (nI rn), .int (nI kn)] [] h _
          refine AX.iload_n (pc := 0) dX11_chance_0 rfl ?_
          refine AX.callS (pc := 1) (M2 := M_X11_isPlayer) (As := [.int (nI 1)]) (rest := []) (c_isPlayer w h (nI 1)) xc_X11_chance__X11_isPlayer gX11_chance_X11_isPlayer rfl (Nat.le_of_ble_eq_true rfl) dX11_chance_1 ?_
          rintro _ h9 ⟨rfl, e9⟩
          have e9 := e9.symm
          subst e9
          rw [decide_eq_true (play_iff.mpr h_x)]
          show AX w M_X11_chance 0 0 4 [.ref 0, .int (nI 1), .int (nI rn), .int (nI kn)] [.int (bI true)] _ _
          refine AX.if_eqB (pc := 4) (tgt := 27) dX11_chance_4 (by decide) (fun q => absurd q (by decide)) (fun hc4 => ?_)
          refine AX.aload_n (pc := 7) dX11_chance_7 rfl ?_
          refine AX.iload_n (pc := 8) dX11_chance_8 rfl ?_
          refine AX.sipush (pc := 9) (v := nI 180) dX11_chance_9 (by decide) ?_
          refine AX.callV (pc := 12) (M2 := M_X11_isRestUpTo) (As := [.int (nI rn), .int (nI 180)]) (rest := []) (c_isRestUpTo w h (nI rn) 180 c.hn c.dm c.ru) xc_X11_chance__X11_isRestUpTo gX11_chance_X11_isRestUpTo (ci := 10) rfl (lt_k c.hn (by omega)) c.dm rfl (Nat.le_of_ble_eq_true rfl) dX11_chance_12 ?_
          rintro _ h9 ⟨rfl, e9⟩
          have e9 := e9.symm
          subst e9
          rw [decide_eq_true ((rest_iff (by decide)).mpr h_r)]
          show AX w M_X11_chance 0 0 15 [.ref 0, .int (nI 1), .int (nI rn), .int (nI kn)] [.int (bI true)] _ _
          refine AX.if_eqB (pc := 15) (tgt := 27) dX11_chance_15 (by decide) (fun q => absurd q (by decide)) (fun hc15 => ?_)
          refine AX.iload_n (pc := 18) dX11_chance_18 rfl ?_
          refine AX.if_ltN (pc := 19) (tgt := 27) dX11_chance_19 (by decide) (by omega) (fun q => absurd q (by omega)) (fun hc19 => ?_)
          refine AX.iload_n (pc := 22) dX11_chance_22 rfl ?_
          refine AX.iconst (pc := 23) (v := nI 3) dX11_chance_23 (by decide) ?_
          refine AX.icmp_leN (pc := 24) (tgt := 31) dX11_chance_24 (by decide) (by omega) (by decide) (fun hc24 => ?_) (fun q => absurd q (by omega))
          refine AX.aload_n (pc := 31) dX11_chance_31 rfl ?_
          refine AX.getf (pc := 32) fX11_chance_28 (lt_k c.hn (by omega)) c.dm rfl dX11_chance_32 ?_
          refine AX.iload_n (pc := 35) dX11_chance_35 rfl ?_
          refine AX.aaldN (pc := 36) (i := 1) (b := 26) (by decide) (lt_k c.hn (by omega)) e9_ (by decide) (by decide) (q9 _ (by decide)) dX11_chance_36 ?_
          refine AX.iload_n (pc := 37) dX11_chance_37 rfl ?_
          refine AX.iload_n (pc := 38) dX11_chance_38 rfl ?_
          refine AX.callV (pc := 39) (M2 := M_X4_chanceAt) (As := [.int (nI rn), .int (nI kn)]) (rest := []) (c_chanceAt w h (show 42 ≤ h.1 by have := c.hn; omega) c.ru c.fa m1a m1d m1c rn kn u_r u_k (Or.inr l_r)) xc_X11_chance__X4_chanceAt gX11_chance_X4_chanceAt (ci := 3) rfl (lt_k c.hn (by omega)) m1a.2.2.2.1 rfl (Nat.le_of_ble_eq_true rfl) dX11_chance_39 ?_
          rintro _ h1 ⟨rfl, s1, M1, K1, fn9, N1⟩
          have c1 : CSo h1 s o a b := c.mind1 s1 (by decide) ⟨_, _, fn9, M1, m1b.same s1 (by simp) (by simp), K1, N1⟩
          show AX w M_X11_chance 0 0 42 [.ref 0, .int (nI 1), .int (nI rn), .int (nI kn)] [.double (cN o b.1 b.2 kn rn)] _ _
          refine AX.callS (pc := 42) (M2 := M_X11_bitsOfDouble) (As := [.double (cN o b.1 b.2 kn rn)]) (rest := []) (c_bitsOfDouble w h1 (df_lt dd.1) (nz_cN _ _ _ _ _)) xc_X11_chance__X11_bitsOfDouble gX11_chance_X11_bitsOfDouble rfl (Nat.le_of_ble_eq_true rfl) dX11_chance_42 ?_
          rintro _ h9 ⟨rfl, e9⟩
          have e9 := e9.symm
          subst e9
          show AX w M_X11_chance 0 0 45 [.ref 0, .int (nI 1), .int (nI rn), .int (nI kn)] [.long ((cN o b.1 b.2 kn rn).toInt64)] _ _
          refine AX.lret (pc := 45) dX11_chance_45 rfl (by decide) (by decide) ?_
          exact ⟨by unfold aChance; rw [if_pos h_x, if_pos h_r, if_pos h_k, nI_nat (show rn < 2147483648 by omega), nI_nat (show kn < 2147483648 by omega)]; try rfl, clS_in s1 (by decide), c1⟩
      · rcases nR h_k with hl | hu
        · refine CA.of (by decide) rfl (fun _ => Nat.le_of_ble_eq_true rfl) ?_
          show AX w M_X11_chance 0 0 0 [.ref 0, .int (nI xn), .int (nI rn), .int k] [] h _
          refine AX.iload_n (pc := 0) dX11_chance_0 rfl ?_
          refine AX.callS (pc := 1) (M2 := M_X11_isPlayer) (As := [.int (nI xn)]) (rest := []) (c_isPlayer w h (nI xn)) xc_X11_chance__X11_isPlayer gX11_chance_X11_isPlayer rfl (Nat.le_of_ble_eq_true rfl) dX11_chance_1 ?_
          rintro _ h9 ⟨rfl, e9⟩
          have e9 := e9.symm
          subst e9
          rw [decide_eq_true (play_iff.mpr h_x)]
          show AX w M_X11_chance 0 0 4 [.ref 0, .int (nI xn), .int (nI rn), .int k] [.int (bI true)] _ _
          refine AX.if_eqB (pc := 4) (tgt := 27) dX11_chance_4 (by decide) (fun q => absurd q (by decide)) (fun hc4 => ?_)
          refine AX.aload_n (pc := 7) dX11_chance_7 rfl ?_
          refine AX.iload_n (pc := 8) dX11_chance_8 rfl ?_
          refine AX.sipush (pc := 9) (v := nI 180) dX11_chance_9 (by decide) ?_
          refine AX.callV (pc := 12) (M2 := M_X11_isRestUpTo) (As := [.int (nI rn), .int (nI 180)]) (rest := []) (c_isRestUpTo w h (nI rn) 180 c.hn c.dm c.ru) xc_X11_chance__X11_isRestUpTo gX11_chance_X11_isRestUpTo (ci := 10) rfl (lt_k c.hn (by omega)) c.dm rfl (Nat.le_of_ble_eq_true rfl) dX11_chance_12 ?_
          rintro _ h9 ⟨rfl, e9⟩
          have e9 := e9.symm
          subst e9
          rw [decide_eq_true ((rest_iff (by decide)).mpr h_r)]
          show AX w M_X11_chance 0 0 15 [.ref 0, .int (nI xn), .int (nI rn), .int k] [.int (bI true)] _ _
          refine AX.if_eqB (pc := 15) (tgt := 27) dX11_chance_15 (by decide) (fun q => absurd q (by decide)) (fun hc15 => ?_)
          refine AX.iload_n (pc := 18) dX11_chance_18 rfl ?_
          refine AX.if_lt (pc := 19) (tgt := 27) dX11_chance_19 (by decide) (fun hc19 => ?_) (fun q => absurd (ltT rfl i0 (by omega)) q)
          refine AX.ldc2 (pc := 27) (v := (-9000000000000000000)) dX11_chance_27 cX11_chance_156 ?_
          refine AX.lret (pc := 30) dX11_chance_30 rfl (by decide) (by decide) ?_
          exact ⟨by unfold aChance; rw [if_pos h_x, if_pos h_r, if_neg h_k]; try rfl, Same.rf, c⟩
        · refine CA.of (by decide) rfl (fun _ => Nat.le_of_ble_eq_true rfl) ?_
          show AX w M_X11_chance 0 0 0 [.ref 0, .int (nI xn), .int (nI rn), .int k] [] h _
          refine AX.iload_n (pc := 0) dX11_chance_0 rfl ?_
          refine AX.callS (pc := 1) (M2 := M_X11_isPlayer) (As := [.int (nI xn)]) (rest := []) (c_isPlayer w h (nI xn)) xc_X11_chance__X11_isPlayer gX11_chance_X11_isPlayer rfl (Nat.le_of_ble_eq_true rfl) dX11_chance_1 ?_
          rintro _ h9 ⟨rfl, e9⟩
          have e9 := e9.symm
          subst e9
          rw [decide_eq_true (play_iff.mpr h_x)]
          show AX w M_X11_chance 0 0 4 [.ref 0, .int (nI xn), .int (nI rn), .int k] [.int (bI true)] _ _
          refine AX.if_eqB (pc := 4) (tgt := 27) dX11_chance_4 (by decide) (fun q => absurd q (by decide)) (fun hc4 => ?_)
          refine AX.aload_n (pc := 7) dX11_chance_7 rfl ?_
          refine AX.iload_n (pc := 8) dX11_chance_8 rfl ?_
          refine AX.sipush (pc := 9) (v := nI 180) dX11_chance_9 (by decide) ?_
          refine AX.callV (pc := 12) (M2 := M_X11_isRestUpTo) (As := [.int (nI rn), .int (nI 180)]) (rest := []) (c_isRestUpTo w h (nI rn) 180 c.hn c.dm c.ru) xc_X11_chance__X11_isRestUpTo gX11_chance_X11_isRestUpTo (ci := 10) rfl (lt_k c.hn (by omega)) c.dm rfl (Nat.le_of_ble_eq_true rfl) dX11_chance_12 ?_
          rintro _ h9 ⟨rfl, e9⟩
          have e9 := e9.symm
          subst e9
          rw [decide_eq_true ((rest_iff (by decide)).mpr h_r)]
          show AX w M_X11_chance 0 0 15 [.ref 0, .int (nI xn), .int (nI rn), .int k] [.int (bI true)] _ _
          refine AX.if_eqB (pc := 15) (tgt := 27) dX11_chance_15 (by decide) (fun q => absurd q (by decide)) (fun hc15 => ?_)
          refine AX.iload_n (pc := 18) dX11_chance_18 rfl ?_
          refine AX.if_lt (pc := 19) (tgt := 27) dX11_chance_19 (by decide) (fun q => absurd q (ltF rfl i0 (by omega))) (fun hc19 => ?_)
          refine AX.iload_n (pc := 22) dX11_chance_22 rfl ?_
          refine AX.iconst (pc := 23) (v := nI 3) dX11_chance_23 (by decide) ?_
          refine AX.icmp_le (pc := 24) (tgt := 31) dX11_chance_24 (by decide) (fun q => absurd q (leF rfl (iN 3 (by omega)) (by omega))) (fun hc24 => ?_)
          refine AX.ldc2 (pc := 27) (v := (-9000000000000000000)) dX11_chance_27 cX11_chance_156 ?_
          refine AX.lret (pc := 30) dX11_chance_30 rfl (by decide) (by decide) ?_
          exact ⟨by unfold aChance; rw [if_pos h_x, if_pos h_r, if_neg h_k]; try rfl, Same.rf, c⟩
    · refine CA.of (by decide) rfl (fun _ => Nat.le_of_ble_eq_true rfl) ?_
      show AX w M_X11_chance 0 0 0 [.ref 0, .int (nI xn), .int r, .int k] [] h _
      refine AX.iload_n (pc := 0) dX11_chance_0 rfl ?_
      refine AX.callS (pc := 1) (M2 := M_X11_isPlayer) (As := [.int (nI xn)]) (rest := []) (c_isPlayer w h (nI xn)) xc_X11_chance__X11_isPlayer gX11_chance_X11_isPlayer rfl (Nat.le_of_ble_eq_true rfl) dX11_chance_1 ?_
      rintro _ h9 ⟨rfl, e9⟩
      have e9 := e9.symm
      subst e9
      rw [decide_eq_true (play_iff.mpr h_x)]
      show AX w M_X11_chance 0 0 4 [.ref 0, .int (nI xn), .int r, .int k] [.int (bI true)] _ _
      refine AX.if_eqB (pc := 4) (tgt := 27) dX11_chance_4 (by decide) (fun q => absurd q (by decide)) (fun hc4 => ?_)
      refine AX.aload_n (pc := 7) dX11_chance_7 rfl ?_
      refine AX.iload_n (pc := 8) dX11_chance_8 rfl ?_
      refine AX.sipush (pc := 9) (v := nI 180) dX11_chance_9 (by decide) ?_
      refine AX.callV (pc := 12) (M2 := M_X11_isRestUpTo) (As := [.int r, .int (nI 180)]) (rest := []) (c_isRestUpTo w h r 180 c.hn c.dm c.ru) xc_X11_chance__X11_isRestUpTo gX11_chance_X11_isRestUpTo (ci := 10) rfl (lt_k c.hn (by omega)) c.dm rfl (Nat.le_of_ble_eq_true rfl) dX11_chance_12 ?_
      rintro _ h9 ⟨rfl, e9⟩
      have e9 := e9.symm
      subst e9
      rw [decide_eq_false (fun q => h_r ((rest_iff (by decide)).mp q))]
      show AX w M_X11_chance 0 0 15 [.ref 0, .int (nI xn), .int r, .int k] [.int (bI false)] _ _
      refine AX.if_eqB (pc := 15) (tgt := 27) dX11_chance_15 (by decide) (fun hc15 => ?_) (fun q => absurd q (by decide))
      refine AX.ldc2 (pc := 27) (v := (-9000000000000000000)) dX11_chance_27 cX11_chance_156 ?_
      refine AX.lret (pc := 30) dX11_chance_30 rfl (by decide) (by decide) ?_
      exact ⟨by unfold aChance; rw [if_pos h_x, if_neg h_r]; try rfl, Same.rf, c⟩
  · refine CA.of (by decide) rfl (fun _ => Nat.le_of_ble_eq_true rfl) ?_
    show AX w M_X11_chance 0 0 0 [.ref 0, .int x, .int r, .int k] [] h _
    refine AX.iload_n (pc := 0) dX11_chance_0 rfl ?_
    refine AX.callS (pc := 1) (M2 := M_X11_isPlayer) (As := [.int x]) (rest := []) (c_isPlayer w h x) xc_X11_chance__X11_isPlayer gX11_chance_X11_isPlayer rfl (Nat.le_of_ble_eq_true rfl) dX11_chance_1 ?_
    rintro _ h9 ⟨rfl, e9⟩
    have e9 := e9.symm
    subst e9
    rw [decide_eq_false (fun q => h_x (play_iff.mp q))]
    show AX w M_X11_chance 0 0 4 [.ref 0, .int x, .int r, .int k] [.int (bI false)] _ _
    refine AX.if_eqB (pc := 4) (tgt := 27) dX11_chance_4 (by decide) (fun hc4 => ?_) (fun q => absurd q (by decide))
    refine AX.ldc2 (pc := 27) (v := (-9000000000000000000)) dX11_chance_27 cX11_chance_156 ?_
    refine AX.lret (pc := 30) dX11_chance_30 rfl (by decide) (by decide) ?_
    exact ⟨by unfold aChance; rw [if_neg h_x]; try rfl, Same.rf, c⟩
theorem c_chanceAim (w : XW) (h : XH) {s : SS} {o : Nat} {a b : Nat × Nat} (c : CSo h s o a b) (x : Int32) (r : Int32) (k : Int32) : CA w M_X11_chanceAim [.ref 0, .int x, .int r, .int k] h (fun v' h'' => v' = some (.int (aChAim o a b x r k)) ∧ Same clS h h'' ∧ CSo h'' s o a b) := by
  obtain ⟨dk0, ck0, fn0, m0a, m0b, m0c, m0d⟩ := id c.m0
  obtain ⟨dk1, ck1, fn1, m1a, m1b, m1c, m1d⟩ := id c.m1
  obtain ⟨f9, e9_, q9⟩ := id c.rs.2.1
  by_cases h_x : inR 0 1 x
  · obtain ⟨xn, rfl, l_x, u_x⟩ := inR_nat (by decide) h_x
    by_cases h_r : inR (leN o) 180 r
    · obtain ⟨rn, rfl, l_r, u_r⟩ := inR_nat (by decide) h_r
      have p_r := leN_pos o
      by_cases h_k : inR 1 3 k
      · obtain ⟨kn, rfl, l_k, u_k⟩ := inR_nat (by decide) h_k
        rcases (show xn = 0 ∨ xn = 1 by omega) with rfl | rfl
        · refine CA.of (by decide) rfl (fun _ => Nat.le_of_ble_eq_true rfl) ?_
          show AX w M_X11_chanceAim 0 0 0 [.ref 0, .int (nI 0), .int (nI rn), .int (nI kn)] [] h _
          refine AX.iload_n (pc := 0) dX11_chanceAim_0 rfl ?_
          refine AX.callS (pc := 1) (M2 := M_X11_isPlayer) (As := [.int (nI 0)]) (rest := []) (c_isPlayer w h (nI 0)) xc_X11_chanceAim__X11_isPlayer gX11_chanceAim_X11_isPlayer rfl (Nat.le_of_ble_eq_true rfl) dX11_chanceAim_1 ?_
          rintro _ h9 ⟨rfl, e9⟩
          have e9 := e9.symm
          subst e9
          rw [decide_eq_true (play_iff.mpr h_x)]
          show AX w M_X11_chanceAim 0 0 4 [.ref 0, .int (nI 0), .int (nI rn), .int (nI kn)] [.int (bI true)] _ _
          refine AX.if_eqB (pc := 4) (tgt := 28) dX11_chanceAim_4 (by decide) (fun q => absurd q (by decide)) (fun hc4 => ?_)
          refine AX.aload_n (pc := 7) dX11_chanceAim_7 rfl ?_
          refine AX.iload_n (pc := 8) dX11_chanceAim_8 rfl ?_
          refine AX.sipush (pc := 9) (v := nI 180) dX11_chanceAim_9 (by decide) ?_
          refine AX.callV (pc := 12) (M2 := M_X11_isRestUpTo) (As := [.int (nI rn), .int (nI 180)]) (rest := []) (c_isRestUpTo w h (nI rn) 180 c.hn c.dm c.ru) xc_X11_chanceAim__X11_isRestUpTo gX11_chanceAim_X11_isRestUpTo (ci := 10) rfl (lt_k c.hn (by omega)) c.dm rfl (Nat.le_of_ble_eq_true rfl) dX11_chanceAim_12 ?_
          rintro _ h9 ⟨rfl, e9⟩
          have e9 := e9.symm
          subst e9
          rw [decide_eq_true ((rest_iff (by decide)).mpr h_r)]
          show AX w M_X11_chanceAim 0 0 15 [.ref 0, .int (nI 0), .int (nI rn), .int (nI kn)] [.int (bI true)] _ _
          refine AX.if_eqB (pc := 15) (tgt := 28) dX11_chanceAim_15 (by decide) (fun q => absurd q (by decide)) (fun hc15 => ?_)
          refine AX.iload_n (pc := 18) dX11_chanceAim_18 rfl ?_
          refine AX.iconst (pc := 19) (v := nI 1) dX11_chanceAim_19 (by decide) ?_
          refine AX.icmp_ltN (pc := 20) (tgt := 28) dX11_chanceAim_20 (by decide) (by omega) (by decide) (fun q => absurd q (by omega)) (fun hc20 => ?_)
          refine AX.iload_n (pc := 23) dX11_chanceAim_23 rfl ?_
          refine AX.iconst (pc := 24) (v := nI 3) dX11_chanceAim_24 (by decide) ?_
          refine AX.icmp_leN (pc := 25) (tgt := 30) dX11_chanceAim_25 (by decide) (by omega) (by decide) (fun hc25 => ?_) (fun q => absurd q (by omega))
          refine AX.aload_n (pc := 30) dX11_chanceAim_30 rfl ?_
          refine AX.getf (pc := 31) fX11_chanceAim_28 (lt_k c.hn (by omega)) c.dm rfl dX11_chanceAim_31 ?_
          refine AX.iload_n (pc := 34) dX11_chanceAim_34 rfl ?_
          refine AX.aaldN (pc := 35) (i := 0) (b := 10) (by decide) (lt_k c.hn (by omega)) e9_ (by decide) (by decide) (q9 _ (by decide)) dX11_chanceAim_35 ?_
          refine AX.iload_n (pc := 36) dX11_chanceAim_36 rfl ?_
          refine AX.iload_n (pc := 37) dX11_chanceAim_37 rfl ?_
          refine AX.callV (pc := 38) (M2 := M_X4_chanceAimAt) (As := [.int (nI rn), .int (nI kn)]) (rest := []) (c_chanceAimAt w h (show 42 ≤ h.1 by have := c.hn; omega) c.ru c.fa m0a m0d m0c rn kn u_r u_k (Or.inr l_r) l_k (by omega)) xc_X11_chanceAim__X4_chanceAimAt gX11_chanceAim_X4_chanceAimAt (ci := 3) rfl (lt_k c.hn (by omega)) m0a.2.2.2.1 rfl (Nat.le_of_ble_eq_true rfl) dX11_chanceAim_38 ?_
          rintro _ h1 ⟨rfl, s1, M1, K1, fn9, N1⟩
          have c1 : CSo h1 s o a b := c.mind0 s1 (by decide) ⟨_, _, fn9, M1, m0b.same s1 (by simp) (by simp), K1, N1⟩
          show AX w M_X11_chanceAim 0 0 41 [.ref 0, .int (nI 0), .int (nI rn), .int (nI kn)] [.int (nI (cA_ o a.1 a.2 kn rn))] _ _
          refine AX.iret (pc := 41) dX11_chanceAim_41 rfl rfl (by decide) (by decide) ?_
          exact ⟨by unfold aChAim; rw [if_pos h_x, if_pos h_r, if_pos h_k, nI_nat (show rn < 2147483648 by omega), nI_nat (show kn < 2147483648 by omega)]; try rfl, clS_in s1 (by decide), c1⟩
        · refine CA.of (by decide) rfl (fun _ => Nat.le_of_ble_eq_true rfl) ?_
          show AX w M_X11_chanceAim 0 0 0 [.ref 0, .int (nI 1), .int (nI rn), .int (nI kn)] [] h _
          refine AX.iload_n (pc := 0) dX11_chanceAim_0 rfl ?_
          refine AX.callS (pc := 1) (M2 := M_X11_isPlayer) (As := [.int (nI 1)]) (rest := []) (c_isPlayer w h (nI 1)) xc_X11_chanceAim__X11_isPlayer gX11_chanceAim_X11_isPlayer rfl (Nat.le_of_ble_eq_true rfl) dX11_chanceAim_1 ?_
          rintro _ h9 ⟨rfl, e9⟩
          have e9 := e9.symm
          subst e9
          rw [decide_eq_true (play_iff.mpr h_x)]
          show AX w M_X11_chanceAim 0 0 4 [.ref 0, .int (nI 1), .int (nI rn), .int (nI kn)] [.int (bI true)] _ _
          refine AX.if_eqB (pc := 4) (tgt := 28) dX11_chanceAim_4 (by decide) (fun q => absurd q (by decide)) (fun hc4 => ?_)
          refine AX.aload_n (pc := 7) dX11_chanceAim_7 rfl ?_
          refine AX.iload_n (pc := 8) dX11_chanceAim_8 rfl ?_
          refine AX.sipush (pc := 9) (v := nI 180) dX11_chanceAim_9 (by decide) ?_
          refine AX.callV (pc := 12) (M2 := M_X11_isRestUpTo) (As := [.int (nI rn), .int (nI 180)]) (rest := []) (c_isRestUpTo w h (nI rn) 180 c.hn c.dm c.ru) xc_X11_chanceAim__X11_isRestUpTo gX11_chanceAim_X11_isRestUpTo (ci := 10) rfl (lt_k c.hn (by omega)) c.dm rfl (Nat.le_of_ble_eq_true rfl) dX11_chanceAim_12 ?_
          rintro _ h9 ⟨rfl, e9⟩
          have e9 := e9.symm
          subst e9
          rw [decide_eq_true ((rest_iff (by decide)).mpr h_r)]
          show AX w M_X11_chanceAim 0 0 15 [.ref 0, .int (nI 1), .int (nI rn), .int (nI kn)] [.int (bI true)] _ _
          refine AX.if_eqB (pc := 15) (tgt := 28) dX11_chanceAim_15 (by decide) (fun q => absurd q (by decide)) (fun hc15 => ?_)
          refine AX.iload_n (pc := 18) dX11_chanceAim_18 rfl ?_
          refine AX.iconst (pc := 19) (v := nI 1) dX11_chanceAim_19 (by decide) ?_
          refine AX.icmp_ltN (pc := 20) (tgt := 28) dX11_chanceAim_20 (by decide) (by omega) (by decide) (fun q => absurd q (by omega)) (fun hc20 => ?_)
          refine AX.iload_n (pc := 23) dX11_chanceAim_23 rfl ?_
          refine AX.iconst (pc := 24) (v := nI 3) dX11_chanceAim_24 (by decide) ?_
          refine AX.icmp_leN (pc := 25) (tgt := 30) dX11_chanceAim_25 (by decide) (by omega) (by decide) (fun hc25 => ?_) (fun q => absurd q (by omega))
          refine AX.aload_n (pc := 30) dX11_chanceAim_30 rfl ?_
          refine AX.getf (pc := 31) fX11_chanceAim_28 (lt_k c.hn (by omega)) c.dm rfl dX11_chanceAim_31 ?_
          refine AX.iload_n (pc := 34) dX11_chanceAim_34 rfl ?_
          refine AX.aaldN (pc := 35) (i := 1) (b := 26) (by decide) (lt_k c.hn (by omega)) e9_ (by decide) (by decide) (q9 _ (by decide)) dX11_chanceAim_35 ?_
          refine AX.iload_n (pc := 36) dX11_chanceAim_36 rfl ?_
          refine AX.iload_n (pc := 37) dX11_chanceAim_37 rfl ?_
          refine AX.callV (pc := 38) (M2 := M_X4_chanceAimAt) (As := [.int (nI rn), .int (nI kn)]) (rest := []) (c_chanceAimAt w h (show 42 ≤ h.1 by have := c.hn; omega) c.ru c.fa m1a m1d m1c rn kn u_r u_k (Or.inr l_r) l_k (by omega)) xc_X11_chanceAim__X4_chanceAimAt gX11_chanceAim_X4_chanceAimAt (ci := 3) rfl (lt_k c.hn (by omega)) m1a.2.2.2.1 rfl (Nat.le_of_ble_eq_true rfl) dX11_chanceAim_38 ?_
          rintro _ h1 ⟨rfl, s1, M1, K1, fn9, N1⟩
          have c1 : CSo h1 s o a b := c.mind1 s1 (by decide) ⟨_, _, fn9, M1, m1b.same s1 (by simp) (by simp), K1, N1⟩
          show AX w M_X11_chanceAim 0 0 41 [.ref 0, .int (nI 1), .int (nI rn), .int (nI kn)] [.int (nI (cA_ o b.1 b.2 kn rn))] _ _
          refine AX.iret (pc := 41) dX11_chanceAim_41 rfl rfl (by decide) (by decide) ?_
          exact ⟨by unfold aChAim; rw [if_pos h_x, if_pos h_r, if_pos h_k, nI_nat (show rn < 2147483648 by omega), nI_nat (show kn < 2147483648 by omega)]; try rfl, clS_in s1 (by decide), c1⟩
      · rcases nR h_k with hl | hu
        · refine CA.of (by decide) rfl (fun _ => Nat.le_of_ble_eq_true rfl) ?_
          show AX w M_X11_chanceAim 0 0 0 [.ref 0, .int (nI xn), .int (nI rn), .int k] [] h _
          refine AX.iload_n (pc := 0) dX11_chanceAim_0 rfl ?_
          refine AX.callS (pc := 1) (M2 := M_X11_isPlayer) (As := [.int (nI xn)]) (rest := []) (c_isPlayer w h (nI xn)) xc_X11_chanceAim__X11_isPlayer gX11_chanceAim_X11_isPlayer rfl (Nat.le_of_ble_eq_true rfl) dX11_chanceAim_1 ?_
          rintro _ h9 ⟨rfl, e9⟩
          have e9 := e9.symm
          subst e9
          rw [decide_eq_true (play_iff.mpr h_x)]
          show AX w M_X11_chanceAim 0 0 4 [.ref 0, .int (nI xn), .int (nI rn), .int k] [.int (bI true)] _ _
          refine AX.if_eqB (pc := 4) (tgt := 28) dX11_chanceAim_4 (by decide) (fun q => absurd q (by decide)) (fun hc4 => ?_)
          refine AX.aload_n (pc := 7) dX11_chanceAim_7 rfl ?_
          refine AX.iload_n (pc := 8) dX11_chanceAim_8 rfl ?_
          refine AX.sipush (pc := 9) (v := nI 180) dX11_chanceAim_9 (by decide) ?_
          refine AX.callV (pc := 12) (M2 := M_X11_isRestUpTo) (As := [.int (nI rn), .int (nI 180)]) (rest := []) (c_isRestUpTo w h (nI rn) 180 c.hn c.dm c.ru) xc_X11_chanceAim__X11_isRestUpTo gX11_chanceAim_X11_isRestUpTo (ci := 10) rfl (lt_k c.hn (by omega)) c.dm rfl (Nat.le_of_ble_eq_true rfl) dX11_chanceAim_12 ?_
          rintro _ h9 ⟨rfl, e9⟩
          have e9 := e9.symm
          subst e9
          rw [decide_eq_true ((rest_iff (by decide)).mpr h_r)]
          show AX w M_X11_chanceAim 0 0 15 [.ref 0, .int (nI xn), .int (nI rn), .int k] [.int (bI true)] _ _
          refine AX.if_eqB (pc := 15) (tgt := 28) dX11_chanceAim_15 (by decide) (fun q => absurd q (by decide)) (fun hc15 => ?_)
          refine AX.iload_n (pc := 18) dX11_chanceAim_18 rfl ?_
          refine AX.iconst (pc := 19) (v := nI 1) dX11_chanceAim_19 (by decide) ?_
          refine AX.icmp_lt (pc := 20) (tgt := 28) dX11_chanceAim_20 (by decide) (fun hc20 => ?_) (fun q => absurd (ltT rfl (iN 1 (by omega)) (by omega)) q)
          refine AX.iconst (pc := 28) (v := (-1)) dX11_chanceAim_28 (by decide) ?_
          refine AX.iret (pc := 29) dX11_chanceAim_29 rfl rfl (by decide) (by decide) ?_
          exact ⟨by unfold aChAim; rw [if_pos h_x, if_pos h_r, if_neg h_k]; try rfl, Same.rf, c⟩
        · refine CA.of (by decide) rfl (fun _ => Nat.le_of_ble_eq_true rfl) ?_
          show AX w M_X11_chanceAim 0 0 0 [.ref 0, .int (nI xn), .int (nI rn), .int k] [] h _
          refine AX.iload_n (pc := 0) dX11_chanceAim_0 rfl ?_
          refine AX.callS (pc := 1) (M2 := M_X11_isPlayer) (As := [.int (nI xn)]) (rest := []) (c_isPlayer w h (nI xn)) xc_X11_chanceAim__X11_isPlayer gX11_chanceAim_X11_isPlayer rfl (Nat.le_of_ble_eq_true rfl) dX11_chanceAim_1 ?_
          rintro _ h9 ⟨rfl, e9⟩
          have e9 := e9.symm
          subst e9
          rw [decide_eq_true (play_iff.mpr h_x)]
          show AX w M_X11_chanceAim 0 0 4 [.ref 0, .int (nI xn), .int (nI rn), .int k] [.int (bI true)] _ _
          refine AX.if_eqB (pc := 4) (tgt := 28) dX11_chanceAim_4 (by decide) (fun q => absurd q (by decide)) (fun hc4 => ?_)
          refine AX.aload_n (pc := 7) dX11_chanceAim_7 rfl ?_
          refine AX.iload_n (pc := 8) dX11_chanceAim_8 rfl ?_
          refine AX.sipush (pc := 9) (v := nI 180) dX11_chanceAim_9 (by decide) ?_
          refine AX.callV (pc := 12) (M2 := M_X11_isRestUpTo) (As := [.int (nI rn), .int (nI 180)]) (rest := []) (c_isRestUpTo w h (nI rn) 180 c.hn c.dm c.ru) xc_X11_chanceAim__X11_isRestUpTo gX11_chanceAim_X11_isRestUpTo (ci := 10) rfl (lt_k c.hn (by omega)) c.dm rfl (Nat.le_of_ble_eq_true rfl) dX11_chanceAim_12 ?_
          rintro _ h9 ⟨rfl, e9⟩
          have e9 := e9.symm
          subst e9
          rw [decide_eq_true ((rest_iff (by decide)).mpr h_r)]
          show AX w M_X11_chanceAim 0 0 15 [.ref 0, .int (nI xn), .int (nI rn), .int k] [.int (bI true)] _ _
          refine AX.if_eqB (pc := 15) (tgt := 28) dX11_chanceAim_15 (by decide) (fun q => absurd q (by decide)) (fun hc15 => ?_)
          refine AX.iload_n (pc := 18) dX11_chanceAim_18 rfl ?_
          refine AX.iconst (pc := 19) (v := nI 1) dX11_chanceAim_19 (by decide) ?_
          refine AX.icmp_lt (pc := 20) (tgt := 28) dX11_chanceAim_20 (by decide) (fun q => absurd q (ltF rfl (iN 1 (by omega)) (by omega))) (fun hc20 => ?_)
          refine AX.iload_n (pc := 23) dX11_chanceAim_23 rfl ?_
          refine AX.iconst (pc := 24) (v := nI 3) dX11_chanceAim_24 (by decide) ?_
          refine AX.icmp_le (pc := 25) (tgt := 30) dX11_chanceAim_25 (by decide) (fun q => absurd q (leF rfl (iN 3 (by omega)) (by omega))) (fun hc25 => ?_)
          refine AX.iconst (pc := 28) (v := (-1)) dX11_chanceAim_28 (by decide) ?_
          refine AX.iret (pc := 29) dX11_chanceAim_29 rfl rfl (by decide) (by decide) ?_
          exact ⟨by unfold aChAim; rw [if_pos h_x, if_pos h_r, if_neg h_k]; try rfl, Same.rf, c⟩
    · refine CA.of (by decide) rfl (fun _ => Nat.le_of_ble_eq_true rfl) ?_
      show AX w M_X11_chanceAim 0 0 0 [.ref 0, .int (nI xn), .int r, .int k] [] h _
      refine AX.iload_n (pc := 0) dX11_chanceAim_0 rfl ?_
      refine AX.callS (pc := 1) (M2 := M_X11_isPlayer) (As := [.int (nI xn)]) (rest := []) (c_isPlayer w h (nI xn)) xc_X11_chanceAim__X11_isPlayer gX11_chanceAim_X11_isPlayer rfl (Nat.le_of_ble_eq_true rfl) dX11_chanceAim_1 ?_
      rintro _ h9 ⟨rfl, e9⟩
      have e9 := e9.symm
      subst e9
      rw [decide_eq_true (play_iff.mpr h_x)]
      show AX w M_X11_chanceAim 0 0 4 [.ref 0, .int (nI xn), .int r, .int k] [.int (bI true)] _ _
      refine AX.if_eqB (pc := 4) (tgt := 28) dX11_chanceAim_4 (by decide) (fun q => absurd q (by decide)) (fun hc4 => ?_)
      refine AX.aload_n (pc := 7) dX11_chanceAim_7 rfl ?_
      refine AX.iload_n (pc := 8) dX11_chanceAim_8 rfl ?_
      refine AX.sipush (pc := 9) (v := nI 180) dX11_chanceAim_9 (by decide) ?_
      refine AX.callV (pc := 12) (M2 := M_X11_isRestUpTo) (As := [.int r, .int (nI 180)]) (rest := []) (c_isRestUpTo w h r 180 c.hn c.dm c.ru) xc_X11_chanceAim__X11_isRestUpTo gX11_chanceAim_X11_isRestUpTo (ci := 10) rfl (lt_k c.hn (by omega)) c.dm rfl (Nat.le_of_ble_eq_true rfl) dX11_chanceAim_12 ?_
      rintro _ h9 ⟨rfl, e9⟩
      have e9 := e9.symm
      subst e9
      rw [decide_eq_false (fun q => h_r ((rest_iff (by decide)).mp q))]
      show AX w M_X11_chanceAim 0 0 15 [.ref 0, .int (nI xn), .int r, .int k] [.int (bI false)] _ _
      refine AX.if_eqB (pc := 15) (tgt := 28) dX11_chanceAim_15 (by decide) (fun hc15 => ?_) (fun q => absurd q (by decide))
      refine AX.iconst (pc := 28) (v := (-1)) dX11_chanceAim_28 (by decide) ?_
      refine AX.iret (pc := 29) dX11_chanceAim_29 rfl rfl (by decide) (by decide) ?_
      exact ⟨by unfold aChAim; rw [if_pos h_x, if_neg h_r]; try rfl, Same.rf, c⟩
  · refine CA.of (by decide) rfl (fun _ => Nat.le_of_ble_eq_true rfl) ?_
    show AX w M_X11_chanceAim 0 0 0 [.ref 0, .int x, .int r, .int k] [] h _
    refine AX.iload_n (pc := 0) dX11_chanceAim_0 rfl ?_
    refine AX.callS (pc := 1) (M2 := M_X11_isPlayer) (As := [.int x]) (rest := []) (c_isPlayer w h x) xc_X11_chanceAim__X11_isPlayer gX11_chanceAim_X11_isPlayer rfl (Nat.le_of_ble_eq_true rfl) dX11_chanceAim_1 ?_
    rintro _ h9 ⟨rfl, e9⟩
    have e9 := e9.symm
    subst e9
    rw [decide_eq_false (fun q => h_x (play_iff.mp q))]
    show AX w M_X11_chanceAim 0 0 4 [.ref 0, .int x, .int r, .int k] [.int (bI false)] _ _
    refine AX.if_eqB (pc := 4) (tgt := 28) dX11_chanceAim_4 (by decide) (fun hc4 => ?_) (fun q => absurd q (by decide))
    refine AX.iconst (pc := 28) (v := (-1)) dX11_chanceAim_28 (by decide) ?_
    refine AX.iret (pc := 29) dX11_chanceAim_29 rfl rfl (by decide) (by decide) ?_
    exact ⟨by unfold aChAim; rw [if_neg h_x]; try rfl, Same.rf, c⟩
theorem c_race (w : XW) (h : XH) {s : SS} {o : Nat} {a b : Nat × Nat} (c : CSo h s o a b) (r : Int32) (q : Int32) (x : Int32) : CA w M_X11_race [.ref 0, .int r, .int q, .int x] h (fun v' h'' => v' = some (.long (aRace o a b r q x)) ∧ Same clS h h'' ∧ CSo h'' s o a b) := by
  by_cases h_r : inR (leN o) 24 r
  · obtain ⟨rn, rfl, l_r, u_r⟩ := inR_nat (by decide) h_r
    have p_r := leN_pos o
    by_cases h_q : inR (leN o) 24 q
    · obtain ⟨qn, rfl, l_q, u_q⟩ := inR_nat (by decide) h_q
      have p_q := leN_pos o
      by_cases h_x : inR 0 1 x
      · obtain ⟨xn, rfl, l_x, u_x⟩ := inR_nat (by decide) h_x
        rcases (show xn = 0 ∨ xn = 1 by omega) with rfl | rfl
        · have dd := rcV_ok (o := o) c.rx.2 (r := rn) (q := qn) (by omega)
          have dz := nz_rcV o (hh a b) rn qn
          refine CA.of (by decide) rfl (fun _ => Nat.le_of_ble_eq_true rfl) ?_
          show AX w M_X11_race 0 0 0 [.ref 0, .int (nI rn), .int (nI qn), .int (nI 0)] [] h _
          refine AX.aload_n (pc := 0) dX11_race_0 rfl ?_
          refine AX.iload_n (pc := 1) dX11_race_1 rfl ?_
          refine AX.iload_n (pc := 2) dX11_race_2 rfl ?_
          refine AX.callV (pc := 3) (M2 := M_X11_isRace) (As := [.int (nI rn), .int (nI qn)]) (rest := []) (c_isRace w h (nI rn) (nI qn) c.hn c.dm c.ru) xc_X11_race__X11_isRace gX11_race_X11_isRace (ci := 10) rfl (lt_k c.hn (by omega)) c.dm rfl (Nat.le_of_ble_eq_true rfl) dX11_race_3 ?_
          rintro _ h9 ⟨rfl, e9⟩
          have e9 := e9.symm
          subst e9
          rw [decide_eq_true ⟨(rest_iff (by decide)).mpr h_r, (rest_iff (by decide)).mpr h_q⟩]
          show AX w M_X11_race 0 0 6 [.ref 0, .int (nI rn), .int (nI qn), .int (nI 0)] [.int (bI true)] _ _
          refine AX.if_eqB (pc := 6) (tgt := 16) dX11_race_6 (by decide) (fun q => absurd q (by decide)) (fun hc6 => ?_)
          refine AX.iload_n (pc := 9) dX11_race_9 rfl ?_
          refine AX.callS (pc := 10) (M2 := M_X11_isPlayer) (As := [.int (nI 0)]) (rest := []) (c_isPlayer w h (nI 0)) xc_X11_race__X11_isPlayer gX11_race_X11_isPlayer rfl (Nat.le_of_ble_eq_true rfl) dX11_race_10 ?_
          rintro _ h9 ⟨rfl, e9⟩
          have e9 := e9.symm
          subst e9
          rw [decide_eq_true (play_iff.mpr h_x)]
          show AX w M_X11_race 0 0 13 [.ref 0, .int (nI rn), .int (nI qn), .int (nI 0)] [.int (bI true)] _ _
          refine AX.if_neB (pc := 13) (tgt := 20) dX11_race_13 (by decide) (fun hc13 => ?_) (fun q => absurd q (by decide))
          refine AX.aload_n (pc := 20) dX11_race_20 rfl ?_
          refine AX.getf (pc := 21) fX11_race_37 (lt_k c.hn (by omega)) c.dm rfl dX11_race_21 ?_
          refine AX.iload_n (pc := 24) dX11_race_24 rfl ?_
          refine AX.iload_n (pc := 25) dX11_race_25 rfl ?_
          refine AX.iload_n (pc := 26) dX11_race_26 rfl ?_
          refine AX.callV (pc := 27) (M2 := M_X7_wonBy) (As := [.int (nI 0), .int (nI rn), .int (nI qn)]) (rest := []) (c_wonBy0 w h (show 57 ≤ h.1 by have := c.hn; omega) c.rx.1 c.rw c.rk l_r l_q u_r u_q) xc_X11_race__X7_wonBy gX11_race_X7_wonBy (ci := 6) rfl (lt_k c.hn (by omega)) c.rs.1 rfl (Nat.le_of_ble_eq_true rfl) dX11_race_27 ?_
          rintro _ h1 ⟨rfl, s1, X1, W1, K1⟩
          have c1 : CSo h1 s o a b := c.race s1 W1 K1
          show AX w M_X11_race 0 0 30 [.ref 0, .int (nI rn), .int (nI qn), .int (nI 0)] [.double ((rcV o (hh a b) rn qn).1)] _ _
          refine AX.callS (pc := 30) (M2 := M_X11_bitsOfDouble) (As := [.double ((rcV o (hh a b) rn qn).1)]) (rest := []) (c_bitsOfDouble w h1 (df_lt dd.1.1) dz.1) xc_X11_race__X11_bitsOfDouble gX11_race_X11_bitsOfDouble rfl (Nat.le_of_ble_eq_true rfl) dX11_race_30 ?_
          rintro _ h9 ⟨rfl, e9⟩
          have e9 := e9.symm
          subst e9
          show AX w M_X11_race 0 0 33 [.ref 0, .int (nI rn), .int (nI qn), .int (nI 0)] [.long (((rcV o (hh a b) rn qn).1).toInt64)] _ _
          refine AX.lret (pc := 33) dX11_race_33 rfl (by decide) (by decide) ?_
          exact ⟨by unfold aRace; rw [if_pos h_r, if_pos h_q, if_pos h_x, nI_nat (show rn < 2147483648 by omega), nI_nat (show qn < 2147483648 by omega)]; try rfl, clS_in s1 (by decide), c1⟩
        · have dd := rcV_ok (o := o) c.rx.2 (r := rn) (q := qn) (by omega)
          have dz := nz_rcV o (hh a b) rn qn
          refine CA.of (by decide) rfl (fun _ => Nat.le_of_ble_eq_true rfl) ?_
          show AX w M_X11_race 0 0 0 [.ref 0, .int (nI rn), .int (nI qn), .int (nI 1)] [] h _
          refine AX.aload_n (pc := 0) dX11_race_0 rfl ?_
          refine AX.iload_n (pc := 1) dX11_race_1 rfl ?_
          refine AX.iload_n (pc := 2) dX11_race_2 rfl ?_
          refine AX.callV (pc := 3) (M2 := M_X11_isRace) (As := [.int (nI rn), .int (nI qn)]) (rest := []) (c_isRace w h (nI rn) (nI qn) c.hn c.dm c.ru) xc_X11_race__X11_isRace gX11_race_X11_isRace (ci := 10) rfl (lt_k c.hn (by omega)) c.dm rfl (Nat.le_of_ble_eq_true rfl) dX11_race_3 ?_
          rintro _ h9 ⟨rfl, e9⟩
          have e9 := e9.symm
          subst e9
          rw [decide_eq_true ⟨(rest_iff (by decide)).mpr h_r, (rest_iff (by decide)).mpr h_q⟩]
          show AX w M_X11_race 0 0 6 [.ref 0, .int (nI rn), .int (nI qn), .int (nI 1)] [.int (bI true)] _ _
          refine AX.if_eqB (pc := 6) (tgt := 16) dX11_race_6 (by decide) (fun q => absurd q (by decide)) (fun hc6 => ?_)
          refine AX.iload_n (pc := 9) dX11_race_9 rfl ?_
          refine AX.callS (pc := 10) (M2 := M_X11_isPlayer) (As := [.int (nI 1)]) (rest := []) (c_isPlayer w h (nI 1)) xc_X11_race__X11_isPlayer gX11_race_X11_isPlayer rfl (Nat.le_of_ble_eq_true rfl) dX11_race_10 ?_
          rintro _ h9 ⟨rfl, e9⟩
          have e9 := e9.symm
          subst e9
          rw [decide_eq_true (play_iff.mpr h_x)]
          show AX w M_X11_race 0 0 13 [.ref 0, .int (nI rn), .int (nI qn), .int (nI 1)] [.int (bI true)] _ _
          refine AX.if_neB (pc := 13) (tgt := 20) dX11_race_13 (by decide) (fun hc13 => ?_) (fun q => absurd q (by decide))
          refine AX.aload_n (pc := 20) dX11_race_20 rfl ?_
          refine AX.getf (pc := 21) fX11_race_37 (lt_k c.hn (by omega)) c.dm rfl dX11_race_21 ?_
          refine AX.iload_n (pc := 24) dX11_race_24 rfl ?_
          refine AX.iload_n (pc := 25) dX11_race_25 rfl ?_
          refine AX.iload_n (pc := 26) dX11_race_26 rfl ?_
          refine AX.callV (pc := 27) (M2 := M_X7_wonBy) (As := [.int (nI 1), .int (nI rn), .int (nI qn)]) (rest := []) (c_wonBy1 w h (show 57 ≤ h.1 by have := c.hn; omega) c.rx.1 c.rw c.rk l_r l_q u_r u_q) xc_X11_race__X7_wonBy gX11_race_X7_wonBy (ci := 6) rfl (lt_k c.hn (by omega)) c.rs.1 rfl (Nat.le_of_ble_eq_true rfl) dX11_race_27 ?_
          rintro _ h1 ⟨rfl, s1, X1, W1, K1⟩
          have c1 : CSo h1 s o a b := c.race s1 W1 K1
          show AX w M_X11_race 0 0 30 [.ref 0, .int (nI rn), .int (nI qn), .int (nI 1)] [.double ((rcV o (hh a b) rn qn).2.1)] _ _
          refine AX.callS (pc := 30) (M2 := M_X11_bitsOfDouble) (As := [.double ((rcV o (hh a b) rn qn).2.1)]) (rest := []) (c_bitsOfDouble w h1 (df_lt dd.2.1) dz.2) xc_X11_race__X11_bitsOfDouble gX11_race_X11_bitsOfDouble rfl (Nat.le_of_ble_eq_true rfl) dX11_race_30 ?_
          rintro _ h9 ⟨rfl, e9⟩
          have e9 := e9.symm
          subst e9
          show AX w M_X11_race 0 0 33 [.ref 0, .int (nI rn), .int (nI qn), .int (nI 1)] [.long (((rcV o (hh a b) rn qn).2.1).toInt64)] _ _
          refine AX.lret (pc := 33) dX11_race_33 rfl (by decide) (by decide) ?_
          exact ⟨by unfold aRace; rw [if_pos h_r, if_pos h_q, if_pos h_x, nI_nat (show rn < 2147483648 by omega), nI_nat (show qn < 2147483648 by omega)]; try rfl, clS_in s1 (by decide), c1⟩
      · refine CA.of (by decide) rfl (fun _ => Nat.le_of_ble_eq_true rfl) ?_
        show AX w M_X11_race 0 0 0 [.ref 0, .int (nI rn), .int (nI qn), .int x] [] h _
        refine AX.aload_n (pc := 0) dX11_race_0 rfl ?_
        refine AX.iload_n (pc := 1) dX11_race_1 rfl ?_
        refine AX.iload_n (pc := 2) dX11_race_2 rfl ?_
        refine AX.callV (pc := 3) (M2 := M_X11_isRace) (As := [.int (nI rn), .int (nI qn)]) (rest := []) (c_isRace w h (nI rn) (nI qn) c.hn c.dm c.ru) xc_X11_race__X11_isRace gX11_race_X11_isRace (ci := 10) rfl (lt_k c.hn (by omega)) c.dm rfl (Nat.le_of_ble_eq_true rfl) dX11_race_3 ?_
        rintro _ h9 ⟨rfl, e9⟩
        have e9 := e9.symm
        subst e9
        rw [decide_eq_true ⟨(rest_iff (by decide)).mpr h_r, (rest_iff (by decide)).mpr h_q⟩]
        show AX w M_X11_race 0 0 6 [.ref 0, .int (nI rn), .int (nI qn), .int x] [.int (bI true)] _ _
        refine AX.if_eqB (pc := 6) (tgt := 16) dX11_race_6 (by decide) (fun q => absurd q (by decide)) (fun hc6 => ?_)
        refine AX.iload_n (pc := 9) dX11_race_9 rfl ?_
        refine AX.callS (pc := 10) (M2 := M_X11_isPlayer) (As := [.int x]) (rest := []) (c_isPlayer w h x) xc_X11_race__X11_isPlayer gX11_race_X11_isPlayer rfl (Nat.le_of_ble_eq_true rfl) dX11_race_10 ?_
        rintro _ h9 ⟨rfl, e9⟩
        have e9 := e9.symm
        subst e9
        rw [decide_eq_false (fun q => h_x (play_iff.mp q))]
        show AX w M_X11_race 0 0 13 [.ref 0, .int (nI rn), .int (nI qn), .int x] [.int (bI false)] _ _
        refine AX.if_neB (pc := 13) (tgt := 20) dX11_race_13 (by decide) (fun q => absurd q (by decide)) (fun hc13 => ?_)
        refine AX.ldc2 (pc := 16) (v := (-9000000000000000000)) dX11_race_16 cX11_race_156 ?_
        refine AX.lret (pc := 19) dX11_race_19 rfl (by decide) (by decide) ?_
        exact ⟨by unfold aRace; rw [if_pos h_r, if_pos h_q, if_neg h_x]; try rfl, Same.rf, c⟩
    · refine CA.of (by decide) rfl (fun _ => Nat.le_of_ble_eq_true rfl) ?_
      show AX w M_X11_race 0 0 0 [.ref 0, .int (nI rn), .int q, .int x] [] h _
      refine AX.aload_n (pc := 0) dX11_race_0 rfl ?_
      refine AX.iload_n (pc := 1) dX11_race_1 rfl ?_
      refine AX.iload_n (pc := 2) dX11_race_2 rfl ?_
      refine AX.callV (pc := 3) (M2 := M_X11_isRace) (As := [.int (nI rn), .int q]) (rest := []) (c_isRace w h (nI rn) q c.hn c.dm c.ru) xc_X11_race__X11_isRace gX11_race_X11_isRace (ci := 10) rfl (lt_k c.hn (by omega)) c.dm rfl (Nat.le_of_ble_eq_true rfl) dX11_race_3 ?_
      rintro _ h9 ⟨rfl, e9⟩
      have e9 := e9.symm
      subst e9
      rw [decide_eq_false (fun q => h_q ((rest_iff (by decide)).mp q.2))]
      show AX w M_X11_race 0 0 6 [.ref 0, .int (nI rn), .int q, .int x] [.int (bI false)] _ _
      refine AX.if_eqB (pc := 6) (tgt := 16) dX11_race_6 (by decide) (fun hc6 => ?_) (fun q => absurd q (by decide))
      refine AX.ldc2 (pc := 16) (v := (-9000000000000000000)) dX11_race_16 cX11_race_156 ?_
      refine AX.lret (pc := 19) dX11_race_19 rfl (by decide) (by decide) ?_
      exact ⟨by unfold aRace; rw [if_pos h_r, if_neg h_q]; try rfl, Same.rf, c⟩
  · refine CA.of (by decide) rfl (fun _ => Nat.le_of_ble_eq_true rfl) ?_
    show AX w M_X11_race 0 0 0 [.ref 0, .int r, .int q, .int x] [] h _
    refine AX.aload_n (pc := 0) dX11_race_0 rfl ?_
    refine AX.iload_n (pc := 1) dX11_race_1 rfl ?_
    refine AX.iload_n (pc := 2) dX11_race_2 rfl ?_
    refine AX.callV (pc := 3) (M2 := M_X11_isRace) (As := [.int r, .int q]) (rest := []) (c_isRace w h r q c.hn c.dm c.ru) xc_X11_race__X11_isRace gX11_race_X11_isRace (ci := 10) rfl (lt_k c.hn (by omega)) c.dm rfl (Nat.le_of_ble_eq_true rfl) dX11_race_3 ?_
    rintro _ h9 ⟨rfl, e9⟩
    have e9 := e9.symm
    subst e9
    rw [decide_eq_false (fun q => h_r ((rest_iff (by decide)).mp q.1))]
    show AX w M_X11_race 0 0 6 [.ref 0, .int r, .int q, .int x] [.int (bI false)] _ _
    refine AX.if_eqB (pc := 6) (tgt := 16) dX11_race_6 (by decide) (fun hc6 => ?_) (fun q => absurd q (by decide))
    refine AX.ldc2 (pc := 16) (v := (-9000000000000000000)) dX11_race_16 cX11_race_156 ?_
    refine AX.lret (pc := 19) dX11_race_19 rfl (by decide) (by decide) ?_
    exact ⟨by unfold aRace; rw [if_neg h_r]; try rfl, Same.rf, c⟩
theorem c_raceAim (w : XW) (h : XH) {s : SS} {o : Nat} {a b : Nat × Nat} (c : CSo h s o a b) (r : Int32) (q : Int32) (x : Int32) : CA w M_X11_raceAim [.ref 0, .int r, .int q, .int x] h (fun v' h'' => v' = some (.int (aRAim o a b r q x)) ∧ Same clS h h'' ∧ CSo h'' s o a b) := by
  by_cases h_r : inR (leN o) 24 r
  · obtain ⟨rn, rfl, l_r, u_r⟩ := inR_nat (by decide) h_r
    have p_r := leN_pos o
    by_cases h_q : inR (leN o) 24 q
    · obtain ⟨qn, rfl, l_q, u_q⟩ := inR_nat (by decide) h_q
      have p_q := leN_pos o
      by_cases h_x : inR 0 1 x
      · obtain ⟨xn, rfl, l_x, u_x⟩ := inR_nat (by decide) h_x
        rcases (show xn = 0 ∨ xn = 1 by omega) with rfl | rfl
        · refine CA.of (by decide) rfl (fun _ => Nat.le_of_ble_eq_true rfl) ?_
          show AX w M_X11_raceAim 0 0 0 [.ref 0, .int (nI rn), .int (nI qn), .int (nI 0)] [] h _
          refine AX.aload_n (pc := 0) dX11_raceAim_0 rfl ?_
          refine AX.iload_n (pc := 1) dX11_raceAim_1 rfl ?_
          refine AX.iload_n (pc := 2) dX11_raceAim_2 rfl ?_
          refine AX.callV (pc := 3) (M2 := M_X11_isRace) (As := [.int (nI rn), .int (nI qn)]) (rest := []) (c_isRace w h (nI rn) (nI qn) c.hn c.dm c.ru) xc_X11_raceAim__X11_isRace gX11_raceAim_X11_isRace (ci := 10) rfl (lt_k c.hn (by omega)) c.dm rfl (Nat.le_of_ble_eq_true rfl) dX11_raceAim_3 ?_
          rintro _ h9 ⟨rfl, e9⟩
          have e9 := e9.symm
          subst e9
          rw [decide_eq_true ⟨(rest_iff (by decide)).mpr h_r, (rest_iff (by decide)).mpr h_q⟩]
          show AX w M_X11_raceAim 0 0 6 [.ref 0, .int (nI rn), .int (nI qn), .int (nI 0)] [.int (bI true)] _ _
          refine AX.if_eqB (pc := 6) (tgt := 16) dX11_raceAim_6 (by decide) (fun q => absurd q (by decide)) (fun hc6 => ?_)
          refine AX.iload_n (pc := 9) dX11_raceAim_9 rfl ?_
          refine AX.callS (pc := 10) (M2 := M_X11_isPlayer) (As := [.int (nI 0)]) (rest := []) (c_isPlayer w h (nI 0)) xc_X11_raceAim__X11_isPlayer gX11_raceAim_X11_isPlayer rfl (Nat.le_of_ble_eq_true rfl) dX11_raceAim_10 ?_
          rintro _ h9 ⟨rfl, e9⟩
          have e9 := e9.symm
          subst e9
          rw [decide_eq_true (play_iff.mpr h_x)]
          show AX w M_X11_raceAim 0 0 13 [.ref 0, .int (nI rn), .int (nI qn), .int (nI 0)] [.int (bI true)] _ _
          refine AX.if_neB (pc := 13) (tgt := 18) dX11_raceAim_13 (by decide) (fun hc13 => ?_) (fun q => absurd q (by decide))
          refine AX.aload_n (pc := 18) dX11_raceAim_18 rfl ?_
          refine AX.getf (pc := 19) fX11_raceAim_37 (lt_k c.hn (by omega)) c.dm rfl dX11_raceAim_19 ?_
          refine AX.iload_n (pc := 22) dX11_raceAim_22 rfl ?_
          refine AX.iload_n (pc := 23) dX11_raceAim_23 rfl ?_
          refine AX.iload_n (pc := 24) dX11_raceAim_24 rfl ?_
          refine AX.callV (pc := 25) (M2 := M_X7_aimOf) (As := [.int (nI 0), .int (nI rn), .int (nI qn)]) (rest := []) (c_aimOf0 w h (show 57 ≤ h.1 by have := c.hn; omega) c.rx.1 c.rw c.rk l_r l_q u_r u_q) xc_X11_raceAim__X7_aimOf gX11_raceAim_X7_aimOf (ci := 6) rfl (lt_k c.hn (by omega)) c.rs.1 rfl (Nat.le_of_ble_eq_true rfl) dX11_raceAim_25 ?_
          rintro _ h1 ⟨rfl, s1, X1, W1, K1⟩
          have c1 : CSo h1 s o a b := c.race s1 W1 K1
          show AX w M_X11_raceAim 0 0 28 [.ref 0, .int (nI rn), .int (nI qn), .int (nI 0)] [.int (nI ((rcV o (hh a b) rn qn).2.2.1))] _ _
          refine AX.iret (pc := 28) dX11_raceAim_28 rfl rfl (by decide) (by decide) ?_
          exact ⟨by unfold aRAim; rw [if_pos h_r, if_pos h_q, if_pos h_x, nI_nat (show rn < 2147483648 by omega), nI_nat (show qn < 2147483648 by omega)]; try rfl, clS_in s1 (by decide), c1⟩
        · refine CA.of (by decide) rfl (fun _ => Nat.le_of_ble_eq_true rfl) ?_
          show AX w M_X11_raceAim 0 0 0 [.ref 0, .int (nI rn), .int (nI qn), .int (nI 1)] [] h _
          refine AX.aload_n (pc := 0) dX11_raceAim_0 rfl ?_
          refine AX.iload_n (pc := 1) dX11_raceAim_1 rfl ?_
          refine AX.iload_n (pc := 2) dX11_raceAim_2 rfl ?_
          refine AX.callV (pc := 3) (M2 := M_X11_isRace) (As := [.int (nI rn), .int (nI qn)]) (rest := []) (c_isRace w h (nI rn) (nI qn) c.hn c.dm c.ru) xc_X11_raceAim__X11_isRace gX11_raceAim_X11_isRace (ci := 10) rfl (lt_k c.hn (by omega)) c.dm rfl (Nat.le_of_ble_eq_true rfl) dX11_raceAim_3 ?_
          rintro _ h9 ⟨rfl, e9⟩
          have e9 := e9.symm
          subst e9
          rw [decide_eq_true ⟨(rest_iff (by decide)).mpr h_r, (rest_iff (by decide)).mpr h_q⟩]
          show AX w M_X11_raceAim 0 0 6 [.ref 0, .int (nI rn), .int (nI qn), .int (nI 1)] [.int (bI true)] _ _
          refine AX.if_eqB (pc := 6) (tgt := 16) dX11_raceAim_6 (by decide) (fun q => absurd q (by decide)) (fun hc6 => ?_)
          refine AX.iload_n (pc := 9) dX11_raceAim_9 rfl ?_
          refine AX.callS (pc := 10) (M2 := M_X11_isPlayer) (As := [.int (nI 1)]) (rest := []) (c_isPlayer w h (nI 1)) xc_X11_raceAim__X11_isPlayer gX11_raceAim_X11_isPlayer rfl (Nat.le_of_ble_eq_true rfl) dX11_raceAim_10 ?_
          rintro _ h9 ⟨rfl, e9⟩
          have e9 := e9.symm
          subst e9
          rw [decide_eq_true (play_iff.mpr h_x)]
          show AX w M_X11_raceAim 0 0 13 [.ref 0, .int (nI rn), .int (nI qn), .int (nI 1)] [.int (bI true)] _ _
          refine AX.if_neB (pc := 13) (tgt := 18) dX11_raceAim_13 (by decide) (fun hc13 => ?_) (fun q => absurd q (by decide))
          refine AX.aload_n (pc := 18) dX11_raceAim_18 rfl ?_
          refine AX.getf (pc := 19) fX11_raceAim_37 (lt_k c.hn (by omega)) c.dm rfl dX11_raceAim_19 ?_
          refine AX.iload_n (pc := 22) dX11_raceAim_22 rfl ?_
          refine AX.iload_n (pc := 23) dX11_raceAim_23 rfl ?_
          refine AX.iload_n (pc := 24) dX11_raceAim_24 rfl ?_
          refine AX.callV (pc := 25) (M2 := M_X7_aimOf) (As := [.int (nI 1), .int (nI rn), .int (nI qn)]) (rest := []) (c_aimOf1 w h (show 57 ≤ h.1 by have := c.hn; omega) c.rx.1 c.rw c.rk l_r l_q u_r u_q) xc_X11_raceAim__X7_aimOf gX11_raceAim_X7_aimOf (ci := 6) rfl (lt_k c.hn (by omega)) c.rs.1 rfl (Nat.le_of_ble_eq_true rfl) dX11_raceAim_25 ?_
          rintro _ h1 ⟨rfl, s1, X1, W1, K1⟩
          have c1 : CSo h1 s o a b := c.race s1 W1 K1
          show AX w M_X11_raceAim 0 0 28 [.ref 0, .int (nI rn), .int (nI qn), .int (nI 1)] [.int (nI ((rcV o (hh a b) rn qn).2.2.2.1))] _ _
          refine AX.iret (pc := 28) dX11_raceAim_28 rfl rfl (by decide) (by decide) ?_
          exact ⟨by unfold aRAim; rw [if_pos h_r, if_pos h_q, if_pos h_x, nI_nat (show rn < 2147483648 by omega), nI_nat (show qn < 2147483648 by omega)]; try rfl, clS_in s1 (by decide), c1⟩
      · refine CA.of (by decide) rfl (fun _ => Nat.le_of_ble_eq_true rfl) ?_
        show AX w M_X11_raceAim 0 0 0 [.ref 0, .int (nI rn), .int (nI qn), .int x] [] h _
        refine AX.aload_n (pc := 0) dX11_raceAim_0 rfl ?_
        refine AX.iload_n (pc := 1) dX11_raceAim_1 rfl ?_
        refine AX.iload_n (pc := 2) dX11_raceAim_2 rfl ?_
        refine AX.callV (pc := 3) (M2 := M_X11_isRace) (As := [.int (nI rn), .int (nI qn)]) (rest := []) (c_isRace w h (nI rn) (nI qn) c.hn c.dm c.ru) xc_X11_raceAim__X11_isRace gX11_raceAim_X11_isRace (ci := 10) rfl (lt_k c.hn (by omega)) c.dm rfl (Nat.le_of_ble_eq_true rfl) dX11_raceAim_3 ?_
        rintro _ h9 ⟨rfl, e9⟩
        have e9 := e9.symm
        subst e9
        rw [decide_eq_true ⟨(rest_iff (by decide)).mpr h_r, (rest_iff (by decide)).mpr h_q⟩]
        show AX w M_X11_raceAim 0 0 6 [.ref 0, .int (nI rn), .int (nI qn), .int x] [.int (bI true)] _ _
        refine AX.if_eqB (pc := 6) (tgt := 16) dX11_raceAim_6 (by decide) (fun q => absurd q (by decide)) (fun hc6 => ?_)
        refine AX.iload_n (pc := 9) dX11_raceAim_9 rfl ?_
        refine AX.callS (pc := 10) (M2 := M_X11_isPlayer) (As := [.int x]) (rest := []) (c_isPlayer w h x) xc_X11_raceAim__X11_isPlayer gX11_raceAim_X11_isPlayer rfl (Nat.le_of_ble_eq_true rfl) dX11_raceAim_10 ?_
        rintro _ h9 ⟨rfl, e9⟩
        have e9 := e9.symm
        subst e9
        rw [decide_eq_false (fun q => h_x (play_iff.mp q))]
        show AX w M_X11_raceAim 0 0 13 [.ref 0, .int (nI rn), .int (nI qn), .int x] [.int (bI false)] _ _
        refine AX.if_neB (pc := 13) (tgt := 18) dX11_raceAim_13 (by decide) (fun q => absurd q (by decide)) (fun hc13 => ?_)
        refine AX.iconst (pc := 16) (v := (-1)) dX11_raceAim_16 (by decide) ?_
        refine AX.iret (pc := 17) dX11_raceAim_17 rfl rfl (by decide) (by decide) ?_
        exact ⟨by unfold aRAim; rw [if_pos h_r, if_pos h_q, if_neg h_x]; try rfl, Same.rf, c⟩
    · refine CA.of (by decide) rfl (fun _ => Nat.le_of_ble_eq_true rfl) ?_
      show AX w M_X11_raceAim 0 0 0 [.ref 0, .int (nI rn), .int q, .int x] [] h _
      refine AX.aload_n (pc := 0) dX11_raceAim_0 rfl ?_
      refine AX.iload_n (pc := 1) dX11_raceAim_1 rfl ?_
      refine AX.iload_n (pc := 2) dX11_raceAim_2 rfl ?_
      refine AX.callV (pc := 3) (M2 := M_X11_isRace) (As := [.int (nI rn), .int q]) (rest := []) (c_isRace w h (nI rn) q c.hn c.dm c.ru) xc_X11_raceAim__X11_isRace gX11_raceAim_X11_isRace (ci := 10) rfl (lt_k c.hn (by omega)) c.dm rfl (Nat.le_of_ble_eq_true rfl) dX11_raceAim_3 ?_
      rintro _ h9 ⟨rfl, e9⟩
      have e9 := e9.symm
      subst e9
      rw [decide_eq_false (fun q => h_q ((rest_iff (by decide)).mp q.2))]
      show AX w M_X11_raceAim 0 0 6 [.ref 0, .int (nI rn), .int q, .int x] [.int (bI false)] _ _
      refine AX.if_eqB (pc := 6) (tgt := 16) dX11_raceAim_6 (by decide) (fun hc6 => ?_) (fun q => absurd q (by decide))
      refine AX.iconst (pc := 16) (v := (-1)) dX11_raceAim_16 (by decide) ?_
      refine AX.iret (pc := 17) dX11_raceAim_17 rfl rfl (by decide) (by decide) ?_
      exact ⟨by unfold aRAim; rw [if_pos h_r, if_neg h_q]; try rfl, Same.rf, c⟩
  · refine CA.of (by decide) rfl (fun _ => Nat.le_of_ble_eq_true rfl) ?_
    show AX w M_X11_raceAim 0 0 0 [.ref 0, .int r, .int q, .int x] [] h _
    refine AX.aload_n (pc := 0) dX11_raceAim_0 rfl ?_
    refine AX.iload_n (pc := 1) dX11_raceAim_1 rfl ?_
    refine AX.iload_n (pc := 2) dX11_raceAim_2 rfl ?_
    refine AX.callV (pc := 3) (M2 := M_X11_isRace) (As := [.int r, .int q]) (rest := []) (c_isRace w h r q c.hn c.dm c.ru) xc_X11_raceAim__X11_isRace gX11_raceAim_X11_isRace (ci := 10) rfl (lt_k c.hn (by omega)) c.dm rfl (Nat.le_of_ble_eq_true rfl) dX11_raceAim_3 ?_
    rintro _ h9 ⟨rfl, e9⟩
    have e9 := e9.symm
    subst e9
    rw [decide_eq_false (fun q => h_r ((rest_iff (by decide)).mp q.1))]
    show AX w M_X11_raceAim 0 0 6 [.ref 0, .int r, .int q, .int x] [.int (bI false)] _ _
    refine AX.if_eqB (pc := 6) (tgt := 16) dX11_raceAim_6 (by decide) (fun hc6 => ?_) (fun q => absurd q (by decide))
    refine AX.iconst (pc := 16) (v := (-1)) dX11_raceAim_16 (by decide) ?_
    refine AX.iret (pc := 17) dX11_raceAim_17 rfl rfl (by decide) (by decide) ?_
    exact ⟨by unfold aRAim; rw [if_neg h_r]; try rfl, Same.rf, c⟩
theorem c_settled (w : XW) (h : XH) {s : SS} {o : Nat} {a b : Nat × Nat} (c : CSo h s o a b) (r : Int32) (q : Int32) : CA w M_X11_settled [.ref 0, .int r, .int q] h (fun v' h'' => v' = some (.int (aStill o a b r q)) ∧ Same clS h h'' ∧ CSo h'' s o a b) := by
  by_cases h_r : inR (leN o) 24 r
  · obtain ⟨rn, rfl, l_r, u_r⟩ := inR_nat (by decide) h_r
    have p_r := leN_pos o
    by_cases h_q : inR (leN o) 24 q
    · obtain ⟨qn, rfl, l_q, u_q⟩ := inR_nat (by decide) h_q
      have p_q := leN_pos o
      refine CA.of (by decide) rfl (fun _ => Nat.le_of_ble_eq_true rfl) ?_
      show AX w M_X11_settled 0 0 0 [.ref 0, .int (nI rn), .int (nI qn)] [] h _
      refine AX.aload_n (pc := 0) dX11_settled_0 rfl ?_
      refine AX.iload_n (pc := 1) dX11_settled_1 rfl ?_
      refine AX.iload_n (pc := 2) dX11_settled_2 rfl ?_
      refine AX.callV (pc := 3) (M2 := M_X11_isRace) (As := [.int (nI rn), .int (nI qn)]) (rest := []) (c_isRace w h (nI rn) (nI qn) c.hn c.dm c.ru) xc_X11_settled__X11_isRace gX11_settled_X11_isRace (ci := 10) rfl (lt_k c.hn (by omega)) c.dm rfl (Nat.le_of_ble_eq_true rfl) dX11_settled_3 ?_
      rintro _ h9 ⟨rfl, e9⟩
      have e9 := e9.symm
      subst e9
      rw [decide_eq_true ⟨(rest_iff (by decide)).mpr h_r, (rest_iff (by decide)).mpr h_q⟩]
      show AX w M_X11_settled 0 0 6 [.ref 0, .int (nI rn), .int (nI qn)] [.int (bI true)] _ _
      refine AX.if_neB (pc := 6) (tgt := 11) dX11_settled_6 (by decide) (fun hc6 => ?_) (fun q => absurd q (by decide))
      refine AX.aload_n (pc := 11) dX11_settled_11 rfl ?_
      refine AX.getf (pc := 12) fX11_settled_37 (lt_k c.hn (by omega)) c.dm rfl dX11_settled_12 ?_
      refine AX.iload_n (pc := 15) dX11_settled_15 rfl ?_
      refine AX.iload_n (pc := 16) dX11_settled_16 rfl ?_
      refine AX.callV (pc := 17) (M2 := M_X7_isStill) (As := [.int (nI rn), .int (nI qn)]) (rest := []) (c_isStill w h (show 57 ≤ h.1 by have := c.hn; omega) c.rx.1 c.rw c.rk l_r l_q u_r u_q) xc_X11_settled__X7_isStill gX11_settled_X7_isStill (ci := 6) rfl (lt_k c.hn (by omega)) c.rs.1 rfl (Nat.le_of_ble_eq_true rfl) dX11_settled_17 ?_
      rintro _ h1 ⟨rfl, s1, X1, W1, K1⟩
      have c1 : CSo h1 s o a b := c.race s1 W1 K1
      show AX w M_X11_settled 0 0 20 [.ref 0, .int (nI rn), .int (nI qn)] [.int (bI ((rcV o (hh a b) rn qn).2.2.2.2))] _ _
      refine AX.if_eqB (pc := 20) (tgt := 27) dX11_settled_20 (by decide) (fun hc20 => ?_) (fun hc20 => ?_)
      · refine AX.iconst (pc := 27) (v := nI 0) dX11_settled_27 (by decide) ?_
        refine AX.iret (pc := 28) dX11_settled_28 rfl rfl (by decide) (by decide) ?_
        exact ⟨by unfold aStill; rw [if_pos h_r, if_pos h_q, nI_nat (show rn < 2147483648 by omega), nI_nat (show qn < 2147483648 by omega), hc20]; try rfl, clS_in s1 (by decide), c1⟩
      · refine AX.iconst (pc := 23) (v := nI 1) dX11_settled_23 (by decide) ?_
        refine AX.goto (pc := 24) (tgt := 28) dX11_settled_24 (by decide) ?_
        refine AX.iret (pc := 28) dX11_settled_28 rfl rfl (by decide) (by decide) ?_
        exact ⟨by unfold aStill; rw [if_pos h_r, if_pos h_q, nI_nat (show rn < 2147483648 by omega), nI_nat (show qn < 2147483648 by omega), hc20]; try rfl, clS_in s1 (by decide), c1⟩
    · refine CA.of (by decide) rfl (fun _ => Nat.le_of_ble_eq_true rfl) ?_
      show AX w M_X11_settled 0 0 0 [.ref 0, .int (nI rn), .int q] [] h _
      refine AX.aload_n (pc := 0) dX11_settled_0 rfl ?_
      refine AX.iload_n (pc := 1) dX11_settled_1 rfl ?_
      refine AX.iload_n (pc := 2) dX11_settled_2 rfl ?_
      refine AX.callV (pc := 3) (M2 := M_X11_isRace) (As := [.int (nI rn), .int q]) (rest := []) (c_isRace w h (nI rn) q c.hn c.dm c.ru) xc_X11_settled__X11_isRace gX11_settled_X11_isRace (ci := 10) rfl (lt_k c.hn (by omega)) c.dm rfl (Nat.le_of_ble_eq_true rfl) dX11_settled_3 ?_
      rintro _ h9 ⟨rfl, e9⟩
      have e9 := e9.symm
      subst e9
      rw [decide_eq_false (fun q => h_q ((rest_iff (by decide)).mp q.2))]
      show AX w M_X11_settled 0 0 6 [.ref 0, .int (nI rn), .int q] [.int (bI false)] _ _
      refine AX.if_neB (pc := 6) (tgt := 11) dX11_settled_6 (by decide) (fun q => absurd q (by decide)) (fun hc6 => ?_)
      refine AX.iconst (pc := 9) (v := (-1)) dX11_settled_9 (by decide) ?_
      refine AX.iret (pc := 10) dX11_settled_10 rfl rfl (by decide) (by decide) ?_
      exact ⟨by unfold aStill; rw [if_pos h_r, if_neg h_q]; try rfl, Same.rf, c⟩
  · refine CA.of (by decide) rfl (fun _ => Nat.le_of_ble_eq_true rfl) ?_
    show AX w M_X11_settled 0 0 0 [.ref 0, .int r, .int q] [] h _
    refine AX.aload_n (pc := 0) dX11_settled_0 rfl ?_
    refine AX.iload_n (pc := 1) dX11_settled_1 rfl ?_
    refine AX.iload_n (pc := 2) dX11_settled_2 rfl ?_
    refine AX.callV (pc := 3) (M2 := M_X11_isRace) (As := [.int r, .int q]) (rest := []) (c_isRace w h r q c.hn c.dm c.ru) xc_X11_settled__X11_isRace gX11_settled_X11_isRace (ci := 10) rfl (lt_k c.hn (by omega)) c.dm rfl (Nat.le_of_ble_eq_true rfl) dX11_settled_3 ?_
    rintro _ h9 ⟨rfl, e9⟩
    have e9 := e9.symm
    subst e9
    rw [decide_eq_false (fun q => h_r ((rest_iff (by decide)).mp q.1))]
    show AX w M_X11_settled 0 0 6 [.ref 0, .int r, .int q] [.int (bI false)] _ _
    refine AX.if_neB (pc := 6) (tgt := 11) dX11_settled_6 (by decide) (fun q => absurd q (by decide)) (fun hc6 => ?_)
    refine AX.iconst (pc := 9) (v := (-1)) dX11_settled_9 (by decide) ?_
    refine AX.iret (pc := 10) dX11_settled_10 rfl rfl (by decide) (by decide) ?_
    exact ⟨by unfold aStill; rw [if_neg h_r]; try rfl, Same.rf, c⟩
theorem rB_small {m : Nat} {x : UInt64} (h : rB m x) (hm : m ≤ 10000) : x.toNat % 2 ^ 63 ≤ 4611686018427387904 := by
  have e2 : FP.Core.val64 4611686018427387904 = .fin false 4503599627370496 (-51) := bt_two
  have z2 : zv 4611686018427387904 = 2 * (FP.Core.one64 : Int) := by unfold zv; rw [e2]; decide +kernel
  obtain ⟨d, d1, d2⟩ := h
  have hg : ((31 * m : Nat) : Int) * gr ≤ (FP.Core.one64 : Int) := by
    rw [one_grI]
    exact Int.mul_le_mul_of_nonneg_right (by omega) (Int.le_of_lt gr_posI)
  have hO := one_posI
  by_cases hs : 0 ≤ zv x
  · exact bits_le (k := 4611686018427387904) d hs ⟨_, _, _, e2⟩ (by rw [z2]; omega) rfl (by omega)
  · have hd := df_neg d
    have hz := zv_neg x
    have := bits_le (k := 4611686018427387904) hd (by omega) ⟨_, _, _, e2⟩ (by rw [z2]; omega) rfl (by omega)
    have e1 := FP.Core.zmag_bits hd.ne_nan
    have e3 := FP.Core.zmag_bits d.ne_nan
    have e4 : FP.Core.zmag FP.Core.b64 (FP.Core.val64 (FP.Core.dneg x)) = FP.Core.zmag FP.Core.b64 (FP.Core.val64 x) := by
      rw [FP.Core.val64_dneg]
      cases FP.Core.val64 x <;> rfl
    rw [e1, e3] at e4
    have e5 : (FP.Core.dneg x).toNat % 2 ^ 63 = x.toNat % 2 ^ 63 := by
      rcases Nat.lt_trichotomy ((FP.Core.dneg x).toNat % 2 ^ 63) (x.toNat % 2 ^ 63) with z | z | z
      · have := FP.Core.unitsOf_lt (f := FP.Core.b64) z; omega
      · exact z
      · have := FP.Core.unitsOf_lt (f := FP.Core.b64) z; omega
    omega
theorem d2f_n32 {x : UInt64} (h : DF x) : vf_n32 (FP.d2f x) := by
  have hn : FP.Core.dIsNaN x = false := (FP.Core.notNaN_iff x).mpr h.ne_nan
  rw [d2f_eq hn]
  obtain ⟨s, c, q, hv⟩ := h
  have e32 : FP.Core.val32 (FP.Core.d2f x) = FP.Core.roundRatio FP.Core.b32 s c 1 q := by
    have : FP.Core.val32 (FP.Core.d2f x) = FP.Core.round FP.Core.b32 (FP.Core.val64 x) := FP.Core.val32_of32 (FP.Core.round_fits FP.Core.good_b32 _)
    rw [this, hv]
    rfl
  have k := (FP.Core.ne_nan32 (FP.Core.d2f x)).mp (by rw [e32]; exact FP.Core.roundRatio_ne_nan _ _ _ _ _)
  unfold vf_n32
  rw [UInt32.le_iff_toNat_le, UInt32.toNat_and]
  show (FP.Core.d2f x).toNat &&& 2147483647 ≤ 2139095040
  rw [show (2147483647 : Nat) = 2 ^ 31 - 1 by decide, Nat.and_two_pow_sub_one_eq_mod]
  omega
theorem mul100 {m : Nat} {x : UInt64} (h : rB m x) (hm : m ≤ 10000) : vf_n64 (FP.dmul x 4636737291354636288) ∧ DF (FP.dmul x 4636737291354636288) := by
  have hb := rB_small h hm
  have h1 := FP.Core.dmul_mag (a := x) (b := 4636737291354636288) (Ka := 1025) (Kb := 1030) (by omega) (by decide) (by omega) (by omega)
  have h2 : (FP.Core.dmul x 4636737291354636288).toNat % 2 ^ 63 < 2047 * 2 ^ 52 := Nat.lt_of_lt_of_le h1 (Nat.mul_le_mul_right _ (by omega))
  have h3 := FP.Core.fin_of_lt h2 (by omega)
  exact ⟨vfn h3, h3⟩
theorem c_percent (w : XW) (h : XH) {s : SS} {o : Nat} {a b : Nat × Nat} (c : CSo h s o a b) (r : Int32) (q : Int32) : CA w M_X11_percent [.ref 0, .int r, .int q] h (fun v' h'' => v' = some (.int (aPerc o a b r q)) ∧ Same clS h h'' ∧ CSo h'' s o a b) := by
  by_cases h_r : inR (leN o) 24 r
  · obtain ⟨rn, rfl, l_r, u_r⟩ := inR_nat (by decide) h_r
    have p_r := leN_pos o
    by_cases h_q : inR (leN o) 24 q
    · obtain ⟨qn, rfl, l_q, u_q⟩ := inR_nat (by decide) h_q
      have p_q := leN_pos o
      have dd := mul100 (rcV_ok (o := o) c.rx.2 (r := rn) (q := qn) (by omega)).1 (by omega)
      refine CA.of (by decide) rfl (fun _ => Nat.le_of_ble_eq_true rfl) ?_
      show AX w M_X11_percent 0 0 0 [.ref 0, .int (nI rn), .int (nI qn), .null] [] h _
      refine AX.aload_n (pc := 0) dX11_percent_0 rfl ?_
      refine AX.iload_n (pc := 1) dX11_percent_1 rfl ?_
      refine AX.iload_n (pc := 2) dX11_percent_2 rfl ?_
      refine AX.callV (pc := 3) (M2 := M_X11_isRace) (As := [.int (nI rn), .int (nI qn)]) (rest := []) (c_isRace w h (nI rn) (nI qn) c.hn c.dm c.ru) xc_X11_percent__X11_isRace gX11_percent_X11_isRace (ci := 10) rfl (lt_k c.hn (by omega)) c.dm rfl (Nat.le_of_ble_eq_true rfl) dX11_percent_3 ?_
      rintro _ h9 ⟨rfl, e9⟩
      have e9 := e9.symm
      subst e9
      rw [decide_eq_true ⟨(rest_iff (by decide)).mpr h_r, (rest_iff (by decide)).mpr h_q⟩]
      show AX w M_X11_percent 0 0 6 [.ref 0, .int (nI rn), .int (nI qn), .null] [.int (bI true)] _ _
      refine AX.if_neB (pc := 6) (tgt := 11) dX11_percent_6 (by decide) (fun hc6 => ?_) (fun q => absurd q (by decide))
      refine AX.aload_n (pc := 11) dX11_percent_11 rfl ?_
      refine AX.getf (pc := 12) fX11_percent_37 (lt_k c.hn (by omega)) c.dm rfl dX11_percent_12 ?_
      refine AX.iconst (pc := 15) (v := nI 0) dX11_percent_15 (by decide) ?_
      refine AX.iload_n (pc := 16) dX11_percent_16 rfl ?_
      refine AX.iload_n (pc := 17) dX11_percent_17 rfl ?_
      refine AX.callV (pc := 18) (M2 := M_X7_wonBy) (As := [.int (nI 0), .int (nI rn), .int (nI qn)]) (rest := []) (c_wonBy0 w h (show 57 ≤ h.1 by have := c.hn; omega) c.rx.1 c.rw c.rk l_r l_q u_r u_q) xc_X11_percent__X7_wonBy gX11_percent_X7_wonBy (ci := 6) rfl (lt_k c.hn (by omega)) c.rs.1 rfl (Nat.le_of_ble_eq_true rfl) dX11_percent_18 ?_
      rintro _ h1 ⟨rfl, s1, X1, W1, K1⟩
      have c1 : CSo h1 s o a b := c.race s1 W1 K1
      show AX w M_X11_percent 0 0 21 [.ref 0, .int (nI rn), .int (nI qn), .null] [.double ((rcV o (hh a b) rn qn).1)] _ _
      refine AX.ldc2d (pc := 21) (v := 4636737291354636288) dX11_percent_21 cX11_percent_199 ?_
      refine AX.dmul (pc := 24) dX11_percent_24 dd.1 ?_
      refine AX.d2f (pc := 25) dX11_percent_25 (d2f_n32 dd.2) ?_
      refine AX.fstore_n (pc := 26) (L' := [.ref 0, .int (nI rn), .int (nI qn), .float (FP.d2f (FP.dmul ((rcV o (hh a b) rn qn).1) 4636737291354636288))]) dX11_percent_26 (by decide) rfl ?_
      refine AX.fload_n (pc := 27) dX11_percent_27 rfl ?_
      refine AX.f2i (pc := 28) dX11_percent_28 ?_
      refine AX.iret (pc := 29) dX11_percent_29 rfl rfl (by decide) (by decide) ?_
      exact ⟨by unfold aPerc; rw [if_pos h_r, if_pos h_q, nI_nat (show rn < 2147483648 by omega), nI_nat (show qn < 2147483648 by omega)]; try rfl, clS_in s1 (by decide), c1⟩
    · refine CA.of (by decide) rfl (fun _ => Nat.le_of_ble_eq_true rfl) ?_
      show AX w M_X11_percent 0 0 0 [.ref 0, .int (nI rn), .int q, .null] [] h _
      refine AX.aload_n (pc := 0) dX11_percent_0 rfl ?_
      refine AX.iload_n (pc := 1) dX11_percent_1 rfl ?_
      refine AX.iload_n (pc := 2) dX11_percent_2 rfl ?_
      refine AX.callV (pc := 3) (M2 := M_X11_isRace) (As := [.int (nI rn), .int q]) (rest := []) (c_isRace w h (nI rn) q c.hn c.dm c.ru) xc_X11_percent__X11_isRace gX11_percent_X11_isRace (ci := 10) rfl (lt_k c.hn (by omega)) c.dm rfl (Nat.le_of_ble_eq_true rfl) dX11_percent_3 ?_
      rintro _ h9 ⟨rfl, e9⟩
      have e9 := e9.symm
      subst e9
      rw [decide_eq_false (fun q => h_q ((rest_iff (by decide)).mp q.2))]
      show AX w M_X11_percent 0 0 6 [.ref 0, .int (nI rn), .int q, .null] [.int (bI false)] _ _
      refine AX.if_neB (pc := 6) (tgt := 11) dX11_percent_6 (by decide) (fun q => absurd q (by decide)) (fun hc6 => ?_)
      refine AX.iconst (pc := 9) (v := (-1)) dX11_percent_9 (by decide) ?_
      refine AX.iret (pc := 10) dX11_percent_10 rfl rfl (by decide) (by decide) ?_
      exact ⟨by unfold aPerc; rw [if_pos h_r, if_neg h_q]; try rfl, Same.rf, c⟩
  · refine CA.of (by decide) rfl (fun _ => Nat.le_of_ble_eq_true rfl) ?_
    show AX w M_X11_percent 0 0 0 [.ref 0, .int r, .int q, .null] [] h _
    refine AX.aload_n (pc := 0) dX11_percent_0 rfl ?_
    refine AX.iload_n (pc := 1) dX11_percent_1 rfl ?_
    refine AX.iload_n (pc := 2) dX11_percent_2 rfl ?_
    refine AX.callV (pc := 3) (M2 := M_X11_isRace) (As := [.int r, .int q]) (rest := []) (c_isRace w h r q c.hn c.dm c.ru) xc_X11_percent__X11_isRace gX11_percent_X11_isRace (ci := 10) rfl (lt_k c.hn (by omega)) c.dm rfl (Nat.le_of_ble_eq_true rfl) dX11_percent_3 ?_
    rintro _ h9 ⟨rfl, e9⟩
    have e9 := e9.symm
    subst e9
    rw [decide_eq_false (fun q => h_r ((rest_iff (by decide)).mp q.1))]
    show AX w M_X11_percent 0 0 6 [.ref 0, .int r, .int q, .null] [.int (bI false)] _ _
    refine AX.if_neB (pc := 6) (tgt := 11) dX11_percent_6 (by decide) (fun q => absurd q (by decide)) (fun hc6 => ?_)
    refine AX.iconst (pc := 9) (v := (-1)) dX11_percent_9 (by decide) ?_
    refine AX.iret (pc := 10) dX11_percent_10 rfl rfl (by decide) (by decide) ?_
    exact ⟨by unfold aPerc; rw [if_neg h_r]; try rfl, Same.rf, c⟩
