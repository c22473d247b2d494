/-! ===== THE REFERENCE: FINISHES asked, laid ===== -/
theorem MS.way {h h' : XH} {s : SS} (c : MS h s) (hs : Same [87, 109, 110] h h') (ob : ∃ v, MO h' v ∧ v 0 = bI (sb s) ∧ v 5 = nI (sX s).length ∧ v 6 = nI (sT s).length) (pa : ∃ f : Nat → Int32, h'.2 109 = .inl (0, 3, .inl f)) (en : ∃ f : Nat → Int32, h'.2 110 = .inl (0, 181, .inl f)) : MS h' s := by
  have x_hn : 118 ≤ h'.1 := hs.le c.hn
  have x_rg : iA h' 88 20 (fun k => nI (rgN k)) := c.rg.same hs (by simp)
  have x_nw : iA h' 89 19 (sq s) := c.nw.same hs (by simp)
  have x_im : (∃ f : Nat → Int32, h'.2 90 = .inl (0, 19, .inl f) ∧ (sb s = true → ∀ j, j < 19 → f j = sp_ s j)) := c.im.imp (fun _ z => ⟨hs.at (by simp) z.1, z.2⟩)
  have x_fx : FX h' := c.fx.same hs (by simp) (by simp) (by simp) (by simp) (by simp)
  have x_dt : DT h' := c.dt.same hs (by simp) (by simp) (by simp) (by simp) (by simp)
  have x_ch : (∃ f : Nat → UInt64, h'.2 101 = .inl (2, 724, .inr (.inr (.inr (.inl f))))) := c.ch.imp (fun _ z => hs.at (by simp) z)
  have x_rt : RT h' := c.rt.same hs (by simp) (by simp) (by simp) (by simp)
  have x_b1 : (∃ f : Nat → Int32, h'.2 106 = .inl (0, 126, .inl f)) := c.b1.imp (fun _ z => hs.at (by simp) z)
  have x_b2 : (∃ f : Nat → Int32, h'.2 107 = .inl (0, 630, .inl f)) := c.b2.imp (fun _ z => hs.at (by simp) z)
  have x_b3 : (∃ f : Nat → Int32, h'.2 108 = .inl (0, 630, .inl f)) := c.b3.imp (fun _ z => hs.at (by simp) z)
  have x_pp : (∃ f : Nat → Int32, h'.2 111 = .inl (0, 20, .inl f) ∧ (∀ j, j < (sX s).length → f j = nI ((sX s).getD j 0)) ∧ (sX s).length ≤ 12) := c.pp.imp (fun _ z => ⟨hs.at (by simp) z.1, z.2⟩)
  have x_tp : (∃ f : Nat → Int32, h'.2 112 = .inl (0, 60, .inl f) ∧ (∀ j, j < (sT s).length → f j = nI ((sT s).getD j 0)) ∧ (sT s).length ≤ 60) := c.tp.imp (fun _ z => ⟨hs.at (by simp) z.1, z.2⟩)
  have x_td : (∃ f : Nat → Int32, h'.2 113 = .inl (0, 20, .inl f)) := c.td.imp (fun _ z => hs.at (by simp) z)
  have x_rk : RMq h' (sk s) := c.rk.same hs (by simp) (by simp) (by simp) (by simp)
  exact ⟨x_hn, ob, x_rg, x_nw, x_im, x_fx, x_dt, x_ch, x_rt, x_b1, x_b2, x_b3, pa, en, x_pp, x_tp, x_td, x_rk⟩
theorem EN.ex {h : XH} {o : Nat} (H : EN h o) : ∃ f : Nat → Int32, h.2 110 = .inl (0, 181, .inl f) := H.imp (fun _ z => z.1)
theorem neg_lt {x : Int32} {n : Nat} (h : x < 0) (hn : n < 2147483648) : x < nI n := by
  rw [lt_i, i0] at h
  rw [lt_i, iN n hn]
  omega
theorem c_mWays (w : XW) (h : XH) {s : SS} {n o : Nat} {a b : Nat × Nat} (c : MS h s) (l : LV (sq s) n o a b) (r : Int32) (k : Int32) : CA w M_X12_ways [.ref 87, .int r, .int k] h (fun v' h'' => v' = some (.int (aWays o r k)) ∧ Same mdS h h'' ∧ MS h'' s) := by
  obtain ⟨v, hO, hv⟩ := id c.ob
  obtain ⟨f89, e89, q89⟩ := id c.nw
  obtain ⟨f110, e110⟩ := id c.en
  by_cases h_r : inR (leN o) 180 r
  · obtain ⟨rn, rfl, l_r, u_r⟩ := inR_nat (by decide) h_r
    have p_r := leN_pos o
    by_cases h_k : inR 0 3 k
    · obtain ⟨kn, rfl, l_k, u_k⟩ := inR_nat (by decide) h_k
      rcases (show kn = 0 ∨ kn = 1 ∨ kn = 2 ∨ kn = 3 by omega) with rfl | rfl | rfl | rfl
      · refine CA.of (by decide) rfl (fun _ => Nat.le_of_ble_eq_true rfl) ?_
        show AX w M_X12_ways 0 0 0 [.ref 87, .int (nI rn), .int (nI 0)] [] h _
        refine AX.aload_n (pc := 0) dX12_ways_0 rfl ?_
        refine AX.iload_n (pc := 1) dX12_ways_1 rfl ?_
        refine AX.sipush (pc := 2) (v := nI 180) dX12_ways_2 (by decide) ?_
        refine AX.callV (pc := 5) (M2 := M_X12_isRest) (As := [.int (nI rn), .int (nI 180)]) (rest := []) (c_mRest w h c l (nI rn) 180 (by decide)) xc_X12_ways__X12_isRest gX12_ways_X12_isRest (ci := 11) rfl (lt_k c.hn (by omega)) hO rfl (Nat.le_of_ble_eq_true rfl) dX12_ways_5 ?_
        rintro _ h9 ⟨rfl, e9⟩
        have e9 := e9.symm
        subst e9
        rw [decide_eq_true h_r]
        show AX w M_X12_ways 0 0 8 [.ref 87, .int (nI rn), .int (nI 0)] [.int (bI true)] _ _
        refine AX.if_eqB (pc := 8) (tgt := 23) dX12_ways_8 (by decide) (fun q => absurd q (by decide)) (fun hc8 => ?_)
        refine AX.iload_n (pc := 11) dX12_ways_11 rfl ?_
        refine AX.i2l (pc := 12) dX12_ways_12 ?_
        refine AX.lconst (pc := 13) (v := 0) dX12_ways_13 (by decide) ?_
        refine AX.ldc2 (pc := 14) (v := 3) dX12_ways_14 cX12_ways_114 ?_
        refine AX.callS (pc := 17) (M2 := M_X12_in) (As := [.long ((nI 0).toInt64), .long 0, .long 3]) (rest := []) (c_in w h ((nI 0).toInt64) (0) (3)) xc_X12_ways__X12_in gX12_ways_X12_in rfl (Nat.le_of_ble_eq_true rfl) dX12_ways_17 ?_
        rintro _ h9 ⟨rfl, e9⟩
        have e9 := e9.symm
        subst e9
        rw [decide_eq_true ((in_iff (by decide) (by decide)).mpr h_k)]
        show AX w M_X12_ways 0 0 20 [.ref 87, .int (nI rn), .int (nI 0)] [.int (bI true)] _ _
        refine AX.if_neB (pc := 20) (tgt := 25) dX12_ways_20 (by decide) (fun hc20 => ?_) (fun q => absurd q (by decide))
        refine AX.aload_n (pc := 25) dX12_ways_25 rfl ?_
        refine AX.callV (pc := 26) (M2 := M_X12_layEnds) (As := []) (rest := []) (c_layEnds w h c.hn hO c.nw l.q12 l.ho e110) xc_X12_ways__X12_layEnds gX12_ways_X12_layEnds (ci := 11) rfl (lt_k c.hn (by omega)) hO rfl (Nat.le_of_ble_eq_true rfl) dX12_ways_26 ?_
        rintro _ h1 ⟨rfl, s1, E1⟩
        have hn1 := s1.le c.hn
        have O1 := hO.same s1 (by simp)
        have c1 : MS h1 s := c.way (s1.wide (by decide)) ⟨v, O1, hv⟩ (c.pa.imp (fun _ z => s1.at (by simp) z)) E1.ex
        show AX w M_X12_ways 0 0 29 [.ref 87, .int (nI rn), .int (nI 0)] [] _ _
        refine AX.iload_n (pc := 29) dX12_ways_29 rfl ?_
        refine AX.if_leN (pc := 30) (tgt := 42) dX12_ways_30 (by decide) (by decide) (fun hc30 => ?_) (fun q => absurd q (by decide))
        refine AX.aload_n (pc := 42) dX12_ways_42 rfl ?_
        refine AX.iload_n (pc := 43) dX12_ways_43 rfl ?_
        refine AX.iconst (pc := 44) (v := nI 1) dX12_ways_44 (by decide) ?_
        refine AX.callV (pc := 45) (M2 := M_X12_waysBy) (As := [.int (nI rn), .int (nI 1)]) (rest := []) (c_waysBy1 w h1 (t := some rn) hn1 O1 (c1.nw) l.q12 l.ho E1 (fun d e => by cases e; exact u_r)) xc_X12_ways__X12_waysBy gX12_ways_X12_waysBy (ci := 11) rfl (lt_k (s1.le c.hn) (by omega)) (s1.at (by simp) hO) rfl (Nat.le_of_ble_eq_true rfl) dX12_ways_45 ?_
        rintro _ h9 ⟨rfl, e9⟩
        have e9 := e9.symm
        subst e9
        show AX w M_X12_ways 0 0 48 [.ref 87, .int (nI rn), .int (nI 0)] [.int (nI (wyN o 1 rn))] _ _
        refine AX.aload_n (pc := 48) dX12_ways_48 rfl ?_
        refine AX.iload_n (pc := 49) dX12_ways_49 rfl ?_
        refine AX.iconst (pc := 50) (v := nI 2) dX12_ways_50 (by decide) ?_
        refine AX.callV (pc := 51) (M2 := M_X12_waysBy) (As := [.int (nI rn), .int (nI 2)]) (rest := [.int (nI (wyN o 1 rn))]) (c_waysBy2 w h1 (t := some rn) hn1 O1 (c1.nw) l.q12 l.ho E1 (fun d e => by cases e; exact u_r)) xc_X12_ways__X12_waysBy gX12_ways_X12_waysBy (ci := 11) rfl (lt_k (s1.le c.hn) (by omega)) (s1.at (by simp) hO) rfl (Nat.le_of_ble_eq_true rfl) dX12_ways_51 ?_
        rintro _ h9 ⟨rfl, e9⟩
        have e9 := e9.symm
        subst e9
        show AX w M_X12_ways 0 0 54 [.ref 87, .int (nI rn), .int (nI 0)] [.int (nI (wyN o 2 rn)), .int (nI (wyN o 1 rn))] _ _
        refine AX.iaddN (pc := 54) (c := wyN o 1 rn + (wyN o 2 rn)) dX12_ways_54 rfl ?_
        refine AX.aload_n (pc := 55) dX12_ways_55 rfl ?_
        refine AX.iload_n (pc := 56) dX12_ways_56 rfl ?_
        refine AX.iconst (pc := 57) (v := nI 3) dX12_ways_57 (by decide) ?_
        refine AX.callV (pc := 58) (M2 := M_X12_waysBy) (As := [.int (nI rn), .int (nI 3)]) (rest := [.int (nI (wyN o 1 rn + (wyN o 2 rn)))]) (c_waysBy3 w h1 hn1 O1 (c1.nw) l.q12 l.ho E1 u_r) xc_X12_ways__X12_waysBy gX12_ways_X12_waysBy (ci := 11) rfl (lt_k (s1.le c.hn) (by omega)) (s1.at (by simp) hO) rfl (Nat.le_of_ble_eq_true rfl) dX12_ways_58 ?_
        rintro _ h9 ⟨rfl, e9⟩
        have e9 := e9.symm
        subst e9
        show AX w M_X12_ways 0 0 61 [.ref 87, .int (nI rn), .int (nI 0)] [.int (nI (wyN o 3 rn)), .int (nI (wyN o 1 rn + (wyN o 2 rn)))] _ _
        refine AX.iaddN (pc := 61) (c := wyN o 1 rn + (wyN o 2 rn) + (wyN o 3 rn)) dX12_ways_61 rfl ?_
        refine AX.iret (pc := 62) dX12_ways_62 rfl rfl (by decide) (by decide) ?_
        exact ⟨by unfold aWays; rw [if_pos h_r, if_pos h_k, nI_nat (show rn < 2147483648 by omega), nI_nat (show 0 < 2147483648 by omega)]; try rfl, mdS_lt s1 (by decide), c1⟩
      · refine CA.of (by decide) rfl (fun _ => Nat.le_of_ble_eq_true rfl) ?_
        show AX w M_X12_ways 0 0 0 [.ref 87, .int (nI rn), .int (nI 1)] [] h _
        refine AX.aload_n (pc := 0) dX12_ways_0 rfl ?_
        refine AX.iload_n (pc := 1) dX12_ways_1 rfl ?_
        refine AX.sipush (pc := 2) (v := nI 180) dX12_ways_2 (by decide) ?_
        refine AX.callV (pc := 5) (M2 := M_X12_isRest) (As := [.int (nI rn), .int (nI 180)]) (rest := []) (c_mRest w h c l (nI rn) 180 (by decide)) xc_X12_ways__X12_isRest gX12_ways_X12_isRest (ci := 11) rfl (lt_k c.hn (by omega)) hO rfl (Nat.le_of_ble_eq_true rfl) dX12_ways_5 ?_
        rintro _ h9 ⟨rfl, e9⟩
        have e9 := e9.symm
        subst e9
        rw [decide_eq_true h_r]
        show AX w M_X12_ways 0 0 8 [.ref 87, .int (nI rn), .int (nI 1)] [.int (bI true)] _ _
        refine AX.if_eqB (pc := 8) (tgt := 23) dX12_ways_8 (by decide) (fun q => absurd q (by decide)) (fun hc8 => ?_)
        refine AX.iload_n (pc := 11) dX12_ways_11 rfl ?_
        refine AX.i2l (pc := 12) dX12_ways_12 ?_
        refine AX.lconst (pc := 13) (v := 0) dX12_ways_13 (by decide) ?_
        refine AX.ldc2 (pc := 14) (v := 3) dX12_ways_14 cX12_ways_114 ?_
        refine AX.callS (pc := 17) (M2 := M_X12_in) (As := [.long ((nI 1).toInt64), .long 0, .long 3]) (rest := []) (c_in w h ((nI 1).toInt64) (0) (3)) xc_X12_ways__X12_in gX12_ways_X12_in rfl (Nat.le_of_ble_eq_true rfl) dX12_ways_17 ?_
        rintro _ h9 ⟨rfl, e9⟩
        have e9 := e9.symm
        subst e9
        rw [decide_eq_true ((in_iff (by decide) (by decide)).mpr h_k)]
        show AX w M_X12_ways 0 0 20 [.ref 87, .int (nI rn), .int (nI 1)] [.int (bI true)] _ _
        refine AX.if_neB (pc := 20) (tgt := 25) dX12_ways_20 (by decide) (fun hc20 => ?_) (fun q => absurd q (by decide))
        refine AX.aload_n (pc := 25) dX12_ways_25 rfl ?_
        refine AX.callV (pc := 26) (M2 := M_X12_layEnds) (As := []) (rest := []) (c_layEnds w h c.hn hO c.nw l.q12 l.ho e110) xc_X12_ways__X12_layEnds gX12_ways_X12_layEnds (ci := 11) rfl (lt_k c.hn (by omega)) hO rfl (Nat.le_of_ble_eq_true rfl) dX12_ways_26 ?_
        rintro _ h1 ⟨rfl, s1, E1⟩
        have hn1 := s1.le c.hn
        have O1 := hO.same s1 (by simp)
        have c1 : MS h1 s := c.way (s1.wide (by decide)) ⟨v, O1, hv⟩ (c.pa.imp (fun _ z => s1.at (by simp) z)) E1.ex
        show AX w M_X12_ways 0 0 29 [.ref 87, .int (nI rn), .int (nI 1)] [] _ _
        refine AX.iload_n (pc := 29) dX12_ways_29 rfl ?_
        refine AX.if_leN (pc := 30) (tgt := 42) dX12_ways_30 (by decide) (by decide) (fun q => absurd q (by decide)) (fun hc30 => ?_)
        refine AX.aload_n (pc := 33) dX12_ways_33 rfl ?_
        refine AX.iload_n (pc := 34) dX12_ways_34 rfl ?_
        refine AX.iload_n (pc := 35) dX12_ways_35 rfl ?_
        refine AX.callV (pc := 36) (M2 := M_X12_waysBy) (As := [.int (nI rn), .int (nI 1)]) (rest := []) (c_waysBy1 w h1 (t := some rn) hn1 O1 (c1.nw) l.q12 l.ho E1 (fun d e => by cases e; exact u_r)) xc_X12_ways__X12_waysBy gX12_ways_X12_waysBy (ci := 11) rfl (lt_k (s1.le c.hn) (by omega)) (s1.at (by simp) hO) rfl (Nat.le_of_ble_eq_true rfl) dX12_ways_36 ?_
        rintro _ h9 ⟨rfl, e9⟩
        have e9 := e9.symm
        subst e9
        show AX w M_X12_ways 0 0 39 [.ref 87, .int (nI rn), .int (nI 1)] [.int (nI (wyN o 1 rn))] _ _
        refine AX.goto (pc := 39) (tgt := 62) dX12_ways_39 (by decide) ?_
        refine AX.iret (pc := 62) dX12_ways_62 rfl rfl (by decide) (by decide) ?_
        exact ⟨by unfold aWays; rw [if_pos h_r, if_pos h_k, nI_nat (show rn < 2147483648 by omega), nI_nat (show 1 < 2147483648 by omega)]; try rfl, mdS_lt s1 (by decide), c1⟩
      · refine CA.of (by decide) rfl (fun _ => Nat.le_of_ble_eq_true rfl) ?_
        show AX w M_X12_ways 0 0 0 [.ref 87, .int (nI rn), .int (nI 2)] [] h _
        refine AX.aload_n (pc := 0) dX12_ways_0 rfl ?_
        refine AX.iload_n (pc := 1) dX12_ways_1 rfl ?_
        refine AX.sipush (pc := 2) (v := nI 180) dX12_ways_2 (by decide) ?_
        refine AX.callV (pc := 5) (M2 := M_X12_isRest) (As := [.int (nI rn), .int (nI 180)]) (rest := []) (c_mRest w h c l (nI rn) 180 (by decide)) xc_X12_ways__X12_isRest gX12_ways_X12_isRest (ci := 11) rfl (lt_k c.hn (by omega)) hO rfl (Nat.le_of_ble_eq_true rfl) dX12_ways_5 ?_
        rintro _ h9 ⟨rfl, e9⟩
        have e9 := e9.symm
        subst e9
        rw [decide_eq_true h_r]
        show AX w M_X12_ways 0 0 8 [.ref 87, .int (nI rn), .int (nI 2)] [.int (bI true)] _ _
        refine AX.if_eqB (pc := 8) (tgt := 23) dX12_ways_8 (by decide) (fun q => absurd q (by decide)) (fun hc8 => ?_)
        refine AX.iload_n (pc := 11) dX12_ways_11 rfl ?_
        refine AX.i2l (pc := 12) dX12_ways_12 ?_
        refine AX.lconst (pc := 13) (v := 0) dX12_ways_13 (by decide) ?_
        refine AX.ldc2 (pc := 14) (v := 3) dX12_ways_14 cX12_ways_114 ?_
        refine AX.callS (pc := 17) (M2 := M_X12_in) (As := [.long ((nI 2).toInt64), .long 0, .long 3]) (rest := []) (c_in w h ((nI 2).toInt64) (0) (3)) xc_X12_ways__X12_in gX12_ways_X12_in rfl (Nat.le_of_ble_eq_true rfl) dX12_ways_17 ?_
        rintro _ h9 ⟨rfl, e9⟩
        have e9 := e9.symm
        subst e9
        rw [decide_eq_true ((in_iff (by decide) (by decide)).mpr h_k)]
        show AX w M_X12_ways 0 0 20 [.ref 87, .int (nI rn), .int (nI 2)] [.int (bI true)] _ _
        refine AX.if_neB (pc := 20) (tgt := 25) dX12_ways_20 (by decide) (fun hc20 => ?_) (fun q => absurd q (by decide))
        refine AX.aload_n (pc := 25) dX12_ways_25 rfl ?_
        refine AX.callV (pc := 26) (M2 := M_X12_layEnds) (As := []) (rest := []) (c_layEnds w h c.hn hO c.nw l.q12 l.ho e110) xc_X12_ways__X12_layEnds gX12_ways_X12_layEnds (ci := 11) rfl (lt_k c.hn (by omega)) hO rfl (Nat.le_of_ble_eq_true rfl) dX12_ways_26 ?_
        rintro _ h1 ⟨rfl, s1, E1⟩
        have hn1 := s1.le c.hn
        have O1 := hO.same s1 (by simp)
        have c1 : MS h1 s := c.way (s1.wide (by decide)) ⟨v, O1, hv⟩ (c.pa.imp (fun _ z => s1.at (by simp) z)) E1.ex
        show AX w M_X12_ways 0 0 29 [.ref 87, .int (nI rn), .int (nI 2)] [] _ _
        refine AX.iload_n (pc := 29) dX12_ways_29 rfl ?_
        refine AX.if_leN (pc := 30) (tgt := 42) dX12_ways_30 (by decide) (by decide) (fun q => absurd q (by decide)) (fun hc30 => ?_)
        refine AX.aload_n (pc := 33) dX12_ways_33 rfl ?_
        refine AX.iload_n (pc := 34) dX12_ways_34 rfl ?_
        refine AX.iload_n (pc := 35) dX12_ways_35 rfl ?_
        refine AX.callV (pc := 36) (M2 := M_X12_waysBy) (As := [.int (nI rn), .int (nI 2)]) (rest := []) (c_waysBy2 w h1 (t := some rn) hn1 O1 (c1.nw) l.q12 l.ho E1 (fun d e => by cases e; exact u_r)) xc_X12_ways__X12_waysBy gX12_ways_X12_waysBy (ci := 11) rfl (lt_k (s1.le c.hn) (by omega)) (s1.at (by simp) hO) rfl (Nat.le_of_ble_eq_true rfl) dX12_ways_36 ?_
        rintro _ h9 ⟨rfl, e9⟩
        have e9 := e9.symm
        subst e9
        show AX w M_X12_ways 0 0 39 [.ref 87, .int (nI rn), .int (nI 2)] [.int (nI (wyN o 2 rn))] _ _
        refine AX.goto (pc := 39) (tgt := 62) dX12_ways_39 (by decide) ?_
        refine AX.iret (pc := 62) dX12_ways_62 rfl rfl (by decide) (by decide) ?_
        exact ⟨by unfold aWays; rw [if_pos h_r, if_pos h_k, nI_nat (show rn < 2147483648 by omega), nI_nat (show 2 < 2147483648 by omega)]; try rfl, mdS_lt s1 (by decide), c1⟩
      · refine CA.of (by decide) rfl (fun _ => Nat.le_of_ble_eq_true rfl) ?_
        show AX w M_X12_ways 0 0 0 [.ref 87, .int (nI rn), .int (nI 3)] [] h _
        refine AX.aload_n (pc := 0) dX12_ways_0 rfl ?_
        refine AX.iload_n (pc := 1) dX12_ways_1 rfl ?_
        refine AX.sipush (pc := 2) (v := nI 180) dX12_ways_2 (by decide) ?_
        refine AX.callV (pc := 5) (M2 := M_X12_isRest) (As := [.int (nI rn), .int (nI 180)]) (rest := []) (c_mRest w h c l (nI rn) 180 (by decide)) xc_X12_ways__X12_isRest gX12_ways_X12_isRest (ci := 11) rfl (lt_k c.hn (by omega)) hO rfl (Nat.le_of_ble_eq_true rfl) dX12_ways_5 ?_
        rintro _ h9 ⟨rfl, e9⟩
        have e9 := e9.symm
        subst e9
        rw [decide_eq_true h_r]
        show AX w M_X12_ways 0 0 8 [.ref 87, .int (nI rn), .int (nI 3)] [.int (bI true)] _ _
        refine AX.if_eqB (pc := 8) (tgt := 23) dX12_ways_8 (by decide) (fun q => absurd q (by decide)) (fun hc8 => ?_)
        refine AX.iload_n (pc := 11) dX12_ways_11 rfl ?_
        refine AX.i2l (pc := 12) dX12_ways_12 ?_
        refine AX.lconst (pc := 13) (v := 0) dX12_ways_13 (by decide) ?_
        refine AX.ldc2 (pc := 14) (v := 3) dX12_ways_14 cX12_ways_114 ?_
        refine AX.callS (pc := 17) (M2 := M_X12_in) (As := [.long ((nI 3).toInt64), .long 0, .long 3]) (rest := []) (c_in w h ((nI 3).toInt64) (0) (3)) xc_X12_ways__X12_in gX12_ways_X12_in rfl (Nat.le_of_ble_eq_true rfl) dX12_ways_17 ?_
        rintro _ h9 ⟨rfl, e9⟩
        have e9 := e9.symm
        subst e9
        rw [decide_eq_true ((in_iff (by decide) (by decide)).mpr h_k)]
        show AX w M_X12_ways 0 0 20 [.ref 87, .int (nI rn), .int (nI 3)] [.int (bI true)] _ _
        refine AX.if_neB (pc := 20) (tgt := 25) dX12_ways_20 (by decide) (fun hc20 => ?_) (fun q => absurd q (by decide))
        refine AX.aload_n (pc := 25) dX12_ways_25 rfl ?_
        refine AX.callV (pc := 26) (M2 := M_X12_layEnds) (As := []) (rest := []) (c_layEnds w h c.hn hO c.nw l.q12 l.ho e110) xc_X12_ways__X12_layEnds gX12_ways_X12_layEnds (ci := 11) rfl (lt_k c.hn (by omega)) hO rfl (Nat.le_of_ble_eq_true rfl) dX12_ways_26 ?_
        rintro _ h1 ⟨rfl, s1, E1⟩
        have hn1 := s1.le c.hn
        have O1 := hO.same s1 (by simp)
        have c1 : MS h1 s := c.way (s1.wide (by decide)) ⟨v, O1, hv⟩ (c.pa.imp (fun _ z => s1.at (by simp) z)) E1.ex
        show AX w M_X12_ways 0 0 29 [.ref 87, .int (nI rn), .int (nI 3)] [] _ _
        refine AX.iload_n (pc := 29) dX12_ways_29 rfl ?_
        refine AX.if_leN (pc := 30) (tgt := 42) dX12_ways_30 (by decide) (by decide) (fun q => absurd q (by decide)) (fun hc30 => ?_)
        refine AX.aload_n (pc := 33) dX12_ways_33 rfl ?_
        refine AX.iload_n (pc := 34) dX12_ways_34 rfl ?_
        refine AX.iload_n (pc := 35) dX12_ways_35 rfl ?_
        refine AX.callV (pc := 36) (M2 := M_X12_waysBy) (As := [.int (nI rn), .int (nI 3)]) (rest := []) (c_waysBy3 w h1 hn1 O1 (c1.nw) l.q12 l.ho E1 u_r) xc_X12_ways__X12_waysBy gX12_ways_X12_waysBy (ci := 11) rfl (lt_k (s1.le c.hn) (by omega)) (s1.at (by simp) hO) rfl (Nat.le_of_ble_eq_true rfl) dX12_ways_36 ?_
        rintro _ h9 ⟨rfl, e9⟩
        have e9 := e9.symm
        subst e9
        show AX w M_X12_ways 0 0 39 [.ref 87, .int (nI rn), .int (nI 3)] [.int (nI (wyN o 3 rn))] _ _
        refine AX.goto (pc := 39) (tgt := 62) dX12_ways_39 (by decide) ?_
        refine AX.iret (pc := 62) dX12_ways_62 rfl rfl (by decide) (by decide) ?_
        exact ⟨by unfold aWays; rw [if_pos h_r, if_pos h_k, nI_nat (show rn < 2147483648 by omega), nI_nat (show 3 < 2147483648 by omega)]; try rfl, mdS_lt s1 (by decide), c1⟩
    · refine CA.of (by decide) rfl (fun _ => Nat.le_of_ble_eq_true rfl) ?_
      show AX w M_X12_ways 0 0 0 [.ref 87, .int (nI rn), .int k] [] h _
      refine AX.aload_n (pc := 0) dX12_ways_0 rfl ?_
      refine AX.iload_n (pc := 1) dX12_ways_1 rfl ?_
      refine AX.sipush (pc := 2) (v := nI 180) dX12_ways_2 (by decide) ?_
      refine AX.callV (pc := 5) (M2 := M_X12_isRest) (As := [.int (nI rn), .int (nI 180)]) (rest := []) (c_mRest w h c l (nI rn) 180 (by decide)) xc_X12_ways__X12_isRest gX12_ways_X12_isRest (ci := 11) rfl (lt_k c.hn (by omega)) hO rfl (Nat.le_of_ble_eq_true rfl) dX12_ways_5 ?_
      rintro _ h9 ⟨rfl, e9⟩
      have e9 := e9.symm
      subst e9
      rw [decide_eq_true h_r]
      show AX w M_X12_ways 0 0 8 [.ref 87, .int (nI rn), .int k] [.int (bI true)] _ _
      refine AX.if_eqB (pc := 8) (tgt := 23) dX12_ways_8 (by decide) (fun q => absurd q (by decide)) (fun hc8 => ?_)
      refine AX.iload_n (pc := 11) dX12_ways_11 rfl ?_
      refine AX.i2l (pc := 12) dX12_ways_12 ?_
      refine AX.lconst (pc := 13) (v := 0) dX12_ways_13 (by decide) ?_
      refine AX.ldc2 (pc := 14) (v := 3) dX12_ways_14 cX12_ways_114 ?_
      refine AX.callS (pc := 17) (M2 := M_X12_in) (As := [.long k.toInt64, .long 0, .long 3]) (rest := []) (c_in w h (k.toInt64) (0) (3)) xc_X12_ways__X12_in gX12_ways_X12_in rfl (Nat.le_of_ble_eq_true rfl) dX12_ways_17 ?_
      rintro _ h9 ⟨rfl, e9⟩
      have e9 := e9.symm
      subst e9
      rw [decide_eq_false (fun q => h_k ((in_iff (by decide) (by decide)).mp q))]
      show AX w M_X12_ways 0 0 20 [.ref 87, .int (nI rn), .int k] [.int (bI false)] _ _
      refine AX.if_neB (pc := 20) (tgt := 25) dX12_ways_20 (by decide) (fun q => absurd q (by decide)) (fun hc20 => ?_)
      refine AX.iconst (pc := 23) (v := (-1)) dX12_ways_23 (by decide) ?_
      refine AX.iret (pc := 24) dX12_ways_24 rfl rfl (by decide) (by decide) ?_
      exact ⟨by unfold aWays; rw [if_pos h_r, if_neg h_k]; try rfl, Same.rf, c⟩
  · refine CA.of (by decide) rfl (fun _ => Nat.le_of_ble_eq_true rfl) ?_
    show AX w M_X12_ways 0 0 0 [.ref 87, .int r, .int k] [] h _
    refine AX.aload_n (pc := 0) dX12_ways_0 rfl ?_
    refine AX.iload_n (pc := 1) dX12_ways_1 rfl ?_
    refine AX.sipush (pc := 2) (v := nI 180) dX12_ways_2 (by decide) ?_
    refine AX.callV (pc := 5) (M2 := M_X12_isRest) (As := [.int r, .int (nI 180)]) (rest := []) (c_mRest w h c l r 180 (by decide)) xc_X12_ways__X12_isRest gX12_ways_X12_isRest (ci := 11) rfl (lt_k c.hn (by omega)) hO rfl (Nat.le_of_ble_eq_true rfl) dX12_ways_5 ?_
    rintro _ h9 ⟨rfl, e9⟩
    have e9 := e9.symm
    subst e9
    rw [decide_eq_false h_r]
    show AX w M_X12_ways 0 0 8 [.ref 87, .int r, .int k] [.int (bI false)] _ _
    refine AX.if_eqB (pc := 8) (tgt := 23) dX12_ways_8 (by decide) (fun hc8 => ?_) (fun q => absurd q (by decide))
    refine AX.iconst (pc := 23) (v := (-1)) dX12_ways_23 (by decide) ?_
    refine AX.iret (pc := 24) dX12_ways_24 rfl rfl (by decide) (by decide) ?_
    exact ⟨by unfold aWays; rw [if_neg h_r]; try rfl, Same.rf, c⟩
theorem l_lwT1 (w : XW) (h : XH) {v q : Nat → Int32} {o r : Nat} {x0 : Int32} {i : Nat} (hn : 118 ≤ h.1) (hO : MO h (upd v 4 (nI 1))) (hN : iA h 89 19 q) (ho12 : q 12 = nI o) (ho : o ≤ 2) (he : EN h o) (hr : r ≤ 180) (hi : i < 2147483648) (hlt : i < wyN o 1 r) (P : Option Value → XH → Prop) (kk : AX w M_X12_layWay 0 0 57 [.ref 87, .int (nI r), .int x0, .int (nI i), .null, .null, .null, .null] [] h P) : AX w M_X12_layWay 0 0 11 [.ref 87, .int (nI r), .int x0, .int (nI i), .null, .null, .null, .null] [] h P := by
  have hw := wyN_le o 1 r
  have hw2 := pw_le (k := 1) (by omega)
  refine AX.aload_n (pc := 11) dX12_layWay_11 rfl ?_
  refine AX.getf (pc := 12) fX12_layWay_265 (lt_k hn (by omega)) hO rfl dX12_layWay_12 ?_
  refine AX.iconst (pc := 15) (v := nI 3) dX12_layWay_15 (by decide) ?_
  refine AX.icmp_gtN (pc := 16) (tgt := 57) dX12_layWay_16 (by decide) (by decide) (by decide) (fun q => absurd q (by decide)) (fun hc16 => ?_)
  refine AX.iload_n (pc := 19) dX12_layWay_19 rfl ?_
  refine AX.aload_n (pc := 20) dX12_layWay_20 rfl ?_
  refine AX.iload_n (pc := 21) dX12_layWay_21 rfl ?_
  refine AX.aload_n (pc := 22) dX12_layWay_22 rfl ?_
  refine AX.getf (pc := 23) fX12_layWay_265 (lt_k hn (by omega)) hO rfl dX12_layWay_23 ?_
  refine AX.callV (pc := 26) (M2 := M_X12_waysBy) (As := [.int (nI r), .int (nI 1)]) (rest := [.int (nI i)]) (c_waysBy1 w h (t := some r) hn hO hN ho12 ho he (fun d e => by cases e; exact hr)) xc_X12_layWay__X12_waysBy gX12_layWay_X12_waysBy (ci := 11) rfl (lt_k hn (by omega)) hO rfl (Nat.le_of_ble_eq_true rfl) dX12_layWay_26 ?_
  rintro _ h9 ⟨rfl, e9⟩
  have e9 := e9.symm
  subst e9
  show AX w M_X12_layWay 0 0 29 [.ref 87, .int (nI r), .int x0, .int (nI i), .null, .null, .null, .null] [.int (nI (wyN o 1 r)), .int (nI i)] _ _
  refine AX.icmp_ltN (pc := 29) (tgt := 57) dX12_layWay_29 (by decide) (by omega) (by omega) (fun hc29 => ?_) (fun q => absurd q (by omega))
  exact kk
theorem l_lwS1 (w : XW) (h : XH) {v q : Nat → Int32} {o r : Nat} {x0 : Int32} {i : Nat} (hn : 118 ≤ h.1) (hO : MO h (upd v 4 (nI 1))) (hN : iA h 89 19 q) (ho12 : q 12 = nI o) (ho : o ≤ 2) (he : EN h o) (hr : r ≤ 180) (hi : i < 2147483648) (hge : wyN o 1 r ≤ i) (P : Option Value → XH → Prop) (kk : ∀ h', Same [87] h h' → MO h' (upd v 4 (nI 2)) → AX w M_X12_layWay 0 0 11 [.ref 87, .int (nI r), .int x0, .int (nI (i - wyN o 1 r)), .null, .null, .null, .null] [] h' P) : AX w M_X12_layWay 0 0 11 [.ref 87, .int (nI r), .int x0, .int (nI i), .null, .null, .null, .null] [] h P := by
  have hw := wyN_le o 1 r
  have hw2 := pw_le (k := 1) (by omega)
  refine AX.aload_n (pc := 11) dX12_layWay_11 rfl ?_
  refine AX.getf (pc := 12) fX12_layWay_265 (lt_k hn (by omega)) hO rfl dX12_layWay_12 ?_
  refine AX.iconst (pc := 15) (v := nI 3) dX12_layWay_15 (by decide) ?_
  refine AX.icmp_gtN (pc := 16) (tgt := 57) dX12_layWay_16 (by decide) (by decide) (by decide) (fun q => absurd q (by decide)) (fun hc16 => ?_)
  refine AX.iload_n (pc := 19) dX12_layWay_19 rfl ?_
  refine AX.aload_n (pc := 20) dX12_layWay_20 rfl ?_
  refine AX.iload_n (pc := 21) dX12_layWay_21 rfl ?_
  refine AX.aload_n (pc := 22) dX12_layWay_22 rfl ?_
  refine AX.getf (pc := 23) fX12_layWay_265 (lt_k hn (by omega)) hO rfl dX12_layWay_23 ?_
  refine AX.callV (pc := 26) (M2 := M_X12_waysBy) (As := [.int (nI r), .int (nI 1)]) (rest := [.int (nI i)]) (c_waysBy1 w h (t := some r) hn hO hN ho12 ho he (fun d e => by cases e; exact hr)) xc_X12_layWay__X12_waysBy gX12_layWay_X12_waysBy (ci := 11) rfl (lt_k hn (by omega)) hO rfl (Nat.le_of_ble_eq_true rfl) dX12_layWay_26 ?_
  rintro _ h9 ⟨rfl, e9⟩
  have e9 := e9.symm
  subst e9
  show AX w M_X12_layWay 0 0 29 [.ref 87, .int (nI r), .int x0, .int (nI i), .null, .null, .null, .null] [.int (nI (wyN o 1 r)), .int (nI i)] _ _
  refine AX.icmp_ltN (pc := 29) (tgt := 57) dX12_layWay_29 (by decide) (by omega) (by omega) (fun q => absurd q (by omega)) (fun hc29 => ?_)
  refine AX.iload_n (pc := 32) dX12_layWay_32 rfl ?_
  refine AX.aload_n (pc := 33) dX12_layWay_33 rfl ?_
  refine AX.iload_n (pc := 34) dX12_layWay_34 rfl ?_
  refine AX.aload_n (pc := 35) dX12_layWay_35 rfl ?_
  refine AX.getf (pc := 36) fX12_layWay_265 (lt_k hn (by omega)) hO rfl dX12_layWay_36 ?_
  refine AX.callV (pc := 39) (M2 := M_X12_waysBy) (As := [.int (nI r), .int (nI 1)]) (rest := [.int (nI i)]) (c_waysBy1 w h (t := some r) hn hO hN ho12 ho he (fun d e => by cases e; exact hr)) xc_X12_layWay__X12_waysBy gX12_layWay_X12_waysBy (ci := 11) rfl (lt_k hn (by omega)) hO rfl (Nat.le_of_ble_eq_true rfl) dX12_layWay_39 ?_
  rintro _ h9 ⟨rfl, e9⟩
  have e9 := e9.symm
  subst e9
  show AX w M_X12_layWay 0 0 42 [.ref 87, .int (nI r), .int x0, .int (nI i), .null, .null, .null, .null] [.int (nI (wyN o 1 r)), .int (nI i)] _ _
  refine AX.isubN (pc := 42) (c := i - wyN o 1 r) dX12_layWay_42 (by omega) ?_
  refine AX.istore_n (pc := 43) (L' := [.ref 87, .int (nI r), .int x0, .int (nI (i - wyN o 1 r)), .null, .null, .null, .null]) dX12_layWay_43 (by decide) rfl ?_
  refine AX.aload_n (pc := 44) dX12_layWay_44 rfl ?_
  refine AX.dup (pc := 45) dX12_layWay_45 rfl ?_
  refine AX.getf (pc := 46) fX12_layWay_265 (lt_k hn (by omega)) hO rfl dX12_layWay_46 ?_
  refine AX.iconst (pc := 49) (v := nI 1) dX12_layWay_49 (by decide) ?_
  refine AX.iaddN (pc := 50) (c := 2) dX12_layWay_50 rfl ?_
  refine AX.putf (pc := 51) (fs' := [.ref 88, .ref 89, .ref 90, .int (v 0), .int (v 1), .ref 91, .ref 92, .ref 93, .ref 94, .ref 95, .ref 96, .ref 97, .ref 98, .ref 99, .ref 100, .ref 101, .int (v 2), .ref 102, .ref 103, .ref 104, .ref 105, .ref 106, .ref 107, .ref 108, .int (v 3), .ref 109, .int (nI 2), .ref 110, .ref 111, .int (v 5), .ref 112, .int (v 6), .int (v 7), .int (v 8), .ref 113, .int (v 9), .ref 114, .ref 115, .ref 116, .ref 117]) fX12_layWay_265 rfl (lt_k hn (by omega)) hO (Nat.le_of_ble_eq_true rfl) rfl rfl rfl dX12_layWay_51 ?_
  refine AX.goto (pc := 54) (tgt := 11) dX12_layWay_54 (by decide) ?_
  exact kk _ Same.rest (by exact xset_same _ _ _)
theorem l_lwT2 (w : XW) (h : XH) {v q : Nat → Int32} {o r : Nat} {x0 : Int32} {i : Nat} (hn : 118 ≤ h.1) (hO : MO h (upd v 4 (nI 2))) (hN : iA h 89 19 q) (ho12 : q 12 = nI o) (ho : o ≤ 2) (he : EN h o) (hr : r ≤ 180) (hi : i < 2147483648) (hlt : i < wyN o 2 r) (P : Option Value → XH → Prop) (kk : AX w M_X12_layWay 0 0 57 [.ref 87, .int (nI r), .int x0, .int (nI i), .null, .null, .null, .null] [] h P) : AX w M_X12_layWay 0 0 11 [.ref 87, .int (nI r), .int x0, .int (nI i), .null, .null, .null, .null] [] h P := by
  have hw := wyN_le o 2 r
  have hw2 := pw_le (k := 2) (by omega)
  refine AX.aload_n (pc := 11) dX12_layWay_11 rfl ?_
  refine AX.getf (pc := 12) fX12_layWay_265 (lt_k hn (by omega)) hO rfl dX12_layWay_12 ?_
  refine AX.iconst (pc := 15) (v := nI 3) dX12_layWay_15 (by decide) ?_
  refine AX.icmp_gtN (pc := 16) (tgt := 57) dX12_layWay_16 (by decide) (by decide) (by decide) (fun q => absurd q (by decide)) (fun hc16 => ?_)
  refine AX.iload_n (pc := 19) dX12_layWay_19 rfl ?_
  refine AX.aload_n (pc := 20) dX12_layWay_20 rfl ?_
  refine AX.iload_n (pc := 21) dX12_layWay_21 rfl ?_
  refine AX.aload_n (pc := 22) dX12_layWay_22 rfl ?_
  refine AX.getf (pc := 23) fX12_layWay_265 (lt_k hn (by omega)) hO rfl dX12_layWay_23 ?_
  refine AX.callV (pc := 26) (M2 := M_X12_waysBy) (As := [.int (nI r), .int (nI 2)]) (rest := [.int (nI i)]) (c_waysBy2 w h (t := some r) hn hO hN ho12 ho he (fun d e => by cases e; exact hr)) xc_X12_layWay__X12_waysBy gX12_layWay_X12_waysBy (ci := 11) rfl (lt_k hn (by omega)) hO rfl (Nat.le_of_ble_eq_true rfl) dX12_layWay_26 ?_
  rintro _ h9 ⟨rfl, e9⟩
  have e9 := e9.symm
  subst e9
  show AX w M_X12_layWay 0 0 29 [.ref 87, .int (nI r), .int x0, .int (nI i), .null, .null, .null, .null] [.int (nI (wyN o 2 r)), .int (nI i)] _ _
  refine AX.icmp_ltN (pc := 29) (tgt := 57) dX12_layWay_29 (by decide) (by omega) (by omega) (fun hc29 => ?_) (fun q => absurd q (by omega))
  exact kk
theorem l_lwS2 (w : XW) (h : XH) {v q : Nat → Int32} {o r : Nat} {x0 : Int32} {i : Nat} (hn : 118 ≤ h.1) (hO : MO h (upd v 4 (nI 2))) (hN : iA h 89 19 q) (ho12 : q 12 = nI o) (ho : o ≤ 2) (he : EN h o) (hr : r ≤ 180) (hi : i < 2147483648) (hge : wyN o 2 r ≤ i) (P : Option Value → XH → Prop) (kk : ∀ h', Same [87] h h' → MO h' (upd v 4 (nI 3)) → AX w M_X12_layWay 0 0 11 [.ref 87, .int (nI r), .int x0, .int (nI (i - wyN o 2 r)), .null, .null, .null, .null] [] h' P) : AX w M_X12_layWay 0 0 11 [.ref 87, .int (nI r), .int x0, .int (nI i), .null, .null, .null, .null] [] h P := by
  have hw := wyN_le o 2 r
  have hw2 := pw_le (k := 2) (by omega)
  refine AX.aload_n (pc := 11) dX12_layWay_11 rfl ?_
  refine AX.getf (pc := 12) fX12_layWay_265 (lt_k hn (by omega)) hO rfl dX12_layWay_12 ?_
  refine AX.iconst (pc := 15) (v := nI 3) dX12_layWay_15 (by decide) ?_
  refine AX.icmp_gtN (pc := 16) (tgt := 57) dX12_layWay_16 (by decide) (by decide) (by decide) (fun q => absurd q (by decide)) (fun hc16 => ?_)
  refine AX.iload_n (pc := 19) dX12_layWay_19 rfl ?_
  refine AX.aload_n (pc := 20) dX12_layWay_20 rfl ?_
  refine AX.iload_n (pc := 21) dX12_layWay_21 rfl ?_
  refine AX.aload_n (pc := 22) dX12_layWay_22 rfl ?_
  refine AX.getf (pc := 23) fX12_layWay_265 (lt_k hn (by omega)) hO rfl dX12_layWay_23 ?_
  refine AX.callV (pc := 26) (M2 := M_X12_waysBy) (As := [.int (nI r), .int (nI 2)]) (rest := [.int (nI i)]) (c_waysBy2 w h (t := some r) hn hO hN ho12 ho he (fun d e => by cases e; exact hr)) xc_X12_layWay__X12_waysBy gX12_layWay_X12_waysBy (ci := 11) rfl (lt_k hn (by omega)) hO rfl (Nat.le_of_ble_eq_true rfl) dX12_layWay_26 ?_
  rintro _ h9 ⟨rfl, e9⟩
  have e9 := e9.symm
  subst e9
  show AX w M_X12_layWay 0 0 29 [.ref 87, .int (nI r), .int x0, .int (nI i), .null, .null, .null, .null] [.int (nI (wyN o 2 r)), .int (nI i)] _ _
  refine AX.icmp_ltN (pc := 29) (tgt := 57) dX12_layWay_29 (by decide) (by omega) (by omega) (fun q => absurd q (by omega)) (fun hc29 => ?_)
  refine AX.iload_n (pc := 32) dX12_layWay_32 rfl ?_
  refine AX.aload_n (pc := 33) dX12_layWay_33 rfl ?_
  refine AX.iload_n (pc := 34) dX12_layWay_34 rfl ?_
  refine AX.aload_n (pc := 35) dX12_layWay_35 rfl ?_
  refine AX.getf (pc := 36) fX12_layWay_265 (lt_k hn (by omega)) hO rfl dX12_layWay_36 ?_
  refine AX.callV (pc := 39) (M2 := M_X12_waysBy) (As := [.int (nI r), .int (nI 2)]) (rest := [.int (nI i)]) (c_waysBy2 w h (t := some r) hn hO hN ho12 ho he (fun d e => by cases e; exact hr)) xc_X12_layWay__X12_waysBy gX12_layWay_X12_waysBy (ci := 11) rfl (lt_k hn (by omega)) hO rfl (Nat.le_of_ble_eq_true rfl) dX12_layWay_39 ?_
  rintro _ h9 ⟨rfl, e9⟩
  have e9 := e9.symm
  subst e9
  show AX w M_X12_layWay 0 0 42 [.ref 87, .int (nI r), .int x0, .int (nI i), .null, .null, .null, .null] [.int (nI (wyN o 2 r)), .int (nI i)] _ _
  refine AX.isubN (pc := 42) (c := i - wyN o 2 r) dX12_layWay_42 (by omega) ?_
  refine AX.istore_n (pc := 43) (L' := [.ref 87, .int (nI r), .int x0, .int (nI (i - wyN o 2 r)), .null, .null, .null, .null]) dX12_layWay_43 (by decide) rfl ?_
  refine AX.aload_n (pc := 44) dX12_layWay_44 rfl ?_
  refine AX.dup (pc := 45) dX12_layWay_45 rfl ?_
  refine AX.getf (pc := 46) fX12_layWay_265 (lt_k hn (by omega)) hO rfl dX12_layWay_46 ?_
  refine AX.iconst (pc := 49) (v := nI 1) dX12_layWay_49 (by decide) ?_
  refine AX.iaddN (pc := 50) (c := 3) dX12_layWay_50 rfl ?_
  refine AX.putf (pc := 51) (fs' := [.ref 88, .ref 89, .ref 90, .int (v 0), .int (v 1), .ref 91, .ref 92, .ref 93, .ref 94, .ref 95, .ref 96, .ref 97, .ref 98, .ref 99, .ref 100, .ref 101, .int (v 2), .ref 102, .ref 103, .ref 104, .ref 105, .ref 106, .ref 107, .ref 108, .int (v 3), .ref 109, .int (nI 3), .ref 110, .ref 111, .int (v 5), .ref 112, .int (v 6), .int (v 7), .int (v 8), .ref 113, .int (v 9), .ref 114, .ref 115, .ref 116, .ref 117]) fX12_layWay_265 rfl (lt_k hn (by omega)) hO (Nat.le_of_ble_eq_true rfl) rfl rfl rfl dX12_layWay_51 ?_
  refine AX.goto (pc := 54) (tgt := 11) dX12_layWay_54 (by decide) ?_
  exact kk _ Same.rest (by exact xset_same _ _ _)
theorem l_lwT3 (w : XW) (h : XH) {v q : Nat → Int32} {o r : Nat} {x0 : Int32} {i : Nat} (hn : 118 ≤ h.1) (hO : MO h (upd v 4 (nI 3))) (hN : iA h 89 19 q) (ho12 : q 12 = nI o) (ho : o ≤ 2) (he : EN h o) (hr : r ≤ 180) (hi : i < 2147483648) (hlt : i < wyN o 3 r) (P : Option Value → XH → Prop) (kk : AX w M_X12_layWay 0 0 57 [.ref 87, .int (nI r), .int x0, .int (nI i), .null, .null, .null, .null] [] h P) : AX w M_X12_layWay 0 0 11 [.ref 87, .int (nI r), .int x0, .int (nI i), .null, .null, .null, .null] [] h P := by
  have hw := wyN_le o 3 r
  have hw2 := pw_le (k := 3) (by omega)
  refine AX.aload_n (pc := 11) dX12_layWay_11 rfl ?_
  refine AX.getf (pc := 12) fX12_layWay_265 (lt_k hn (by omega)) hO rfl dX12_layWay_12 ?_
  refine AX.iconst (pc := 15) (v := nI 3) dX12_layWay_15 (by decide) ?_
  refine AX.icmp_gtN (pc := 16) (tgt := 57) dX12_layWay_16 (by decide) (by decide) (by decide) (fun q => absurd q (by decide)) (fun hc16 => ?_)
  refine AX.iload_n (pc := 19) dX12_layWay_19 rfl ?_
  refine AX.aload_n (pc := 20) dX12_layWay_20 rfl ?_
  refine AX.iload_n (pc := 21) dX12_layWay_21 rfl ?_
  refine AX.aload_n (pc := 22) dX12_layWay_22 rfl ?_
  refine AX.getf (pc := 23) fX12_layWay_265 (lt_k hn (by omega)) hO rfl dX12_layWay_23 ?_
  refine AX.callV (pc := 26) (M2 := M_X12_waysBy) (As := [.int (nI r), .int (nI 3)]) (rest := [.int (nI i)]) (c_waysBy3 w h hn hO hN ho12 ho he hr) xc_X12_layWay__X12_waysBy gX12_layWay_X12_waysBy (ci := 11) rfl (lt_k hn (by omega)) hO rfl (Nat.le_of_ble_eq_true rfl) dX12_layWay_26 ?_
  rintro _ h9 ⟨rfl, e9⟩
  have e9 := e9.symm
  subst e9
  show AX w M_X12_layWay 0 0 29 [.ref 87, .int (nI r), .int x0, .int (nI i), .null, .null, .null, .null] [.int (nI (wyN o 3 r)), .int (nI i)] _ _
  refine AX.icmp_ltN (pc := 29) (tgt := 57) dX12_layWay_29 (by decide) (by omega) (by omega) (fun hc29 => ?_) (fun q => absurd q (by omega))
  exact kk
theorem l_lwS3 (w : XW) (h : XH) {v q : Nat → Int32} {o r : Nat} {x0 : Int32} {i : Nat} (hn : 118 ≤ h.1) (hO : MO h (upd v 4 (nI 3))) (hN : iA h 89 19 q) (ho12 : q 12 = nI o) (ho : o ≤ 2) (he : EN h o) (hr : r ≤ 180) (hi : i < 2147483648) (hge : wyN o 3 r ≤ i) (P : Option Value → XH → Prop) (kk : ∀ h', Same [87] h h' → MO h' (upd v 4 (nI 4)) → AX w M_X12_layWay 0 0 11 [.ref 87, .int (nI r), .int x0, .int (nI (i - wyN o 3 r)), .null, .null, .null, .null] [] h' P) : AX w M_X12_layWay 0 0 11 [.ref 87, .int (nI r), .int x0, .int (nI i), .null, .null, .null, .null] [] h P := by
  have hw := wyN_le o 3 r
  have hw2 := pw_le (k := 3) (by omega)
  refine AX.aload_n (pc := 11) dX12_layWay_11 rfl ?_
  refine AX.getf (pc := 12) fX12_layWay_265 (lt_k hn (by omega)) hO rfl dX12_layWay_12 ?_
  refine AX.iconst (pc := 15) (v := nI 3) dX12_layWay_15 (by decide) ?_
  refine AX.icmp_gtN (pc := 16) (tgt := 57) dX12_layWay_16 (by decide) (by decide) (by decide) (fun q => absurd q (by decide)) (fun hc16 => ?_)
  refine AX.iload_n (pc := 19) dX12_layWay_19 rfl ?_
  refine AX.aload_n (pc := 20) dX12_layWay_20 rfl ?_
  refine AX.iload_n (pc := 21) dX12_layWay_21 rfl ?_
  refine AX.aload_n (pc := 22) dX12_layWay_22 rfl ?_
  refine AX.getf (pc := 23) fX12_layWay_265 (lt_k hn (by omega)) hO rfl dX12_layWay_23 ?_
  refine AX.callV (pc := 26) (M2 := M_X12_waysBy) (As := [.int (nI r), .int (nI 3)]) (rest := [.int (nI i)]) (c_waysBy3 w h hn hO hN ho12 ho he hr) xc_X12_layWay__X12_waysBy gX12_layWay_X12_waysBy (ci := 11) rfl (lt_k hn (by omega)) hO rfl (Nat.le_of_ble_eq_true rfl) dX12_layWay_26 ?_
  rintro _ h9 ⟨rfl, e9⟩
  have e9 := e9.symm
  subst e9
  show AX w M_X12_layWay 0 0 29 [.ref 87, .int (nI r), .int x0, .int (nI i), .null, .null, .null, .null] [.int (nI (wyN o 3 r)), .int (nI i)] _ _
  refine AX.icmp_ltN (pc := 29) (tgt := 57) dX12_layWay_29 (by decide) (by omega) (by omega) (fun q => absurd q (by omega)) (fun hc29 => ?_)
  refine AX.iload_n (pc := 32) dX12_layWay_32 rfl ?_
  refine AX.aload_n (pc := 33) dX12_layWay_33 rfl ?_
  refine AX.iload_n (pc := 34) dX12_layWay_34 rfl ?_
  refine AX.aload_n (pc := 35) dX12_layWay_35 rfl ?_
  refine AX.getf (pc := 36) fX12_layWay_265 (lt_k hn (by omega)) hO rfl dX12_layWay_36 ?_
  refine AX.callV (pc := 39) (M2 := M_X12_waysBy) (As := [.int (nI r), .int (nI 3)]) (rest := [.int (nI i)]) (c_waysBy3 w h hn hO hN ho12 ho he hr) xc_X12_layWay__X12_waysBy gX12_layWay_X12_waysBy (ci := 11) rfl (lt_k hn (by omega)) hO rfl (Nat.le_of_ble_eq_true rfl) dX12_layWay_39 ?_
  rintro _ h9 ⟨rfl, e9⟩
  have e9 := e9.symm
  subst e9
  show AX w M_X12_layWay 0 0 42 [.ref 87, .int (nI r), .int x0, .int (nI i), .null, .null, .null, .null] [.int (nI (wyN o 3 r)), .int (nI i)] _ _
  refine AX.isubN (pc := 42) (c := i - wyN o 3 r) dX12_layWay_42 (by omega) ?_
  refine AX.istore_n (pc := 43) (L' := [.ref 87, .int (nI r), .int x0, .int (nI (i - wyN o 3 r)), .null, .null, .null, .null]) dX12_layWay_43 (by decide) rfl ?_
  refine AX.aload_n (pc := 44) dX12_layWay_44 rfl ?_
  refine AX.dup (pc := 45) dX12_layWay_45 rfl ?_
  refine AX.getf (pc := 46) fX12_layWay_265 (lt_k hn (by omega)) hO rfl dX12_layWay_46 ?_
  refine AX.iconst (pc := 49) (v := nI 1) dX12_layWay_49 (by decide) ?_
  refine AX.iaddN (pc := 50) (c := 4) dX12_layWay_50 rfl ?_
  refine AX.putf (pc := 51) (fs' := [.ref 88, .ref 89, .ref 90, .int (v 0), .int (v 1), .ref 91, .ref 92, .ref 93, .ref 94, .ref 95, .ref 96, .ref 97, .ref 98, .ref 99, .ref 100, .ref 101, .int (v 2), .ref 102, .ref 103, .ref 104, .ref 105, .ref 106, .ref 107, .ref 108, .int (v 3), .ref 109, .int (nI 4), .ref 110, .ref 111, .int (v 5), .ref 112, .int (v 6), .int (v 7), .int (v 8), .ref 113, .int (v 9), .ref 114, .ref 115, .ref 116, .ref 117]) fX12_layWay_265 rfl (lt_k hn (by omega)) hO (Nat.le_of_ble_eq_true rfl) rfl rfl rfl dX12_layWay_51 ?_
  refine AX.goto (pc := 54) (tgt := 11) dX12_layWay_54 (by decide) ?_
  exact kk _ Same.rest (by exact xset_same _ _ _)
theorem l_lwIn (w : XW) (h : XH) {v q : Nat → Int32} {o k p m r r0 : Nat} {x0 : Int32} (hn : 118 ≤ h.1) (hO : MO h (upd v 4 (nI m))) (hN : iA h 89 19 q) (ho12 : q 12 = nI o) (ho : o ≤ 2) (he : EN h o) (hk : k ≤ 2) (hpm : p + (k + 1) = m) (hm : m ≤ 3) (hr : r ≤ 180) (P : Option Value → XH → Prop) : ∀ (g t i : Nat), t + 1 + g = 62 → i + smN (wyT o k r) t < smN (wyT o k r) 62 → AX w M_X12_layWay 0 0 152 [.ref 87, .int (nI r0), .int x0, .int (nI ((wyF o k r g (t + 1) i).2)), .int (nI r), .int (nI p), .int (nI ((wyF o k r g (t + 1) i).1)), .null] [] h P → AX w M_X12_layWay 0 0 112 [.ref 87, .int (nI r0), .int x0, .int (nI i), .int (nI r), .int (nI p), .int (nI (t + 1)), .int (nI (wyT o k r (t + 1)))] [] h P
  | 0, t, i, hg, hi, kk => by
    have hb : smN (wyT o k r) 62 ≤ 238328 := by rw [← wyN_succ]; exact Nat.le_trans (wyN_le o (k + 1) r) (pw_le (by omega))
    have hst : smN (wyT o k r) (t + 1) = smN (wyT o k r) t + wyT o k r (t + 1) := rfl
    have hmn : smN (wyT o k r) (t + 1) ≤ smN (wyT o k r) 62 := smN_mono _ (by omega)
    have e : t = 61 := by omega
    subst e
    have hs6 : smN (wyT o k r) (61 + 1) = smN (wyT o k r) 62 := rfl
    have hs62 : i < wyT o k r (61 + 1) := by omega
    have hs63 : i < wyT o k r 62 := hs62
    refine AX.iload_n (pc := 112) dX12_layWay_112 rfl ?_
    refine AX.iload (pc := 113) dX12_layWay_113 rfl ?_
    refine AX.icmp_ltN (pc := 115) (tgt := 152) dX12_layWay_115 (by decide) (by omega) (by omega) (fun hc115 => ?_) (fun q => absurd q (by omega))
    refine AX.sub (L' := [.ref 87, .int (nI r0), .int x0, .int (nI i), .int (nI r), .int (nI p), .int (nI 62), .null]) ⟨Or.inr rfl, Or.inr rfl, Or.inr rfl, Or.inr rfl, Or.inr rfl, Or.inr rfl, Or.inr rfl, Or.inl rfl, trivial⟩ ?_
    exact kk
  | g + 1, t, i, hg, hi, kk => by
    have hb : smN (wyT o k r) 62 ≤ 238328 := by rw [← wyN_succ]; exact Nat.le_trans (wyN_le o (k + 1) r) (pw_le (by omega))
    have hst : smN (wyT o k r) (t + 1) = smN (wyT o k r) t + wyT o k r (t + 1) := rfl
    have hmn : smN (wyT o k r) (t + 1) ≤ smN (wyT o k r) 62 := smN_mono _ (by omega)
    have hz : wyF o k r (g + 1) (t + 1) i = if i < wyT o k r (t + 1) then (t + 1, i) else wyF o k r g (t + 1 + 1) (i - wyT o k r (t + 1)) := rfl
    refine AX.iload_n (pc := 112) dX12_layWay_112 rfl ?_
    refine AX.iload (pc := 113) dX12_layWay_113 rfl ?_
    refine AX.icmp_ltN (pc := 115) (tgt := 152) dX12_layWay_115 (by decide) (by omega) (by omega) (fun hc115 => ?_) (fun hc115 => ?_)
    · rw [hz, if_pos (by omega)] at kk
      refine AX.sub (L' := [.ref 87, .int (nI r0), .int x0, .int (nI i), .int (nI r), .int (nI p), .int (nI (t + 1)), .null]) ⟨Or.inr rfl, Or.inr rfl, Or.inr rfl, Or.inr rfl, Or.inr rfl, Or.inr rfl, Or.inr rfl, Or.inl rfl, trivial⟩ ?_
      exact kk
    · refine AX.iload_n (pc := 118) dX12_layWay_118 rfl ?_
      refine AX.iload (pc := 119) dX12_layWay_119 rfl ?_
      refine AX.isubN (pc := 121) (c := i - wyT o k r (t + 1)) dX12_layWay_121 (by omega) ?_
      refine AX.istore_n (pc := 122) (L' := [.ref 87, .int (nI r0), .int x0, .int (nI (i - wyT o k r (t + 1))), .int (nI r), .int (nI p), .int (nI (t + 1)), .int (nI (wyT o k r (t + 1)))]) dX12_layWay_122 (by decide) rfl ?_
      refine AX.iincN (c := t + 2) (pc := 123) (L' := [.ref 87, .int (nI r0), .int x0, .int (nI (i - wyT o k r (t + 1))), .int (nI r), .int (nI p), .int (nI (t + 2)), .int (nI (wyT o k r (t + 1)))]) dX12_layWay_123 rfl (inc1 _) (by decide) rfl ?_
      refine AX.aload_n (pc := 126) dX12_layWay_126 rfl ?_
      refine AX.aload_n (pc := 127) dX12_layWay_127 rfl ?_
      refine AX.iload (pc := 128) dX12_layWay_128 rfl ?_
      refine AX.iload (pc := 130) dX12_layWay_130 rfl ?_
      refine AX.callV (pc := 132) (M2 := M_X12_nextRest) (As := [.int (nI r), .int (nI (t + 2))]) (rest := [.ref 87]) (c_nextRest w h hn hO hN ho12 ho r (t + 1 + 1) (by omega) (by omega)) xc_X12_layWay__X12_nextRest gX12_layWay_X12_nextRest (ci := 11) rfl (lt_k hn (by omega)) hO rfl (Nat.le_of_ble_eq_true rfl) dX12_layWay_132 ?_
      rintro _ h9 ⟨rfl, e9⟩
      have e9 := e9.symm
      subst e9
      show AX w M_X12_layWay 0 0 135 [.ref 87, .int (nI r0), .int x0, .int (nI (i - wyT o k r (t + 1))), .int (nI r), .int (nI p), .int (nI (t + 2)), .int (nI (wyT o k r (t + 1)))] [.int (oI (nxN o r (t + 1 + 1))), .ref 87] _ _
      refine AX.aload_n (pc := 135) dX12_layWay_135 rfl ?_
      refine AX.getf (pc := 136) fX12_layWay_265 (lt_k hn (by omega)) hO rfl dX12_layWay_136 ?_
      refine AX.iconst (pc := 139) (v := nI 1) dX12_layWay_139 (by decide) ?_
      refine AX.isubN (pc := 140) (c := m - 1) dX12_layWay_140 (by omega) ?_
      refine AX.iload (pc := 141) dX12_layWay_141 rfl ?_
      refine AX.isubN (pc := 143) (c := k) dX12_layWay_143 (by omega) ?_
      refine AX.callV (pc := 144) (M2 := M_X12_waysBehind) (As := [.int (oI (nxN o r (t + 1 + 1))), .int (nI k)]) (rest := []) (c_behind w h hn hO hN ho12 ho he (nx_top (s := t + 1 + 1) hr) (k := k) hk) xc_X12_layWay__X12_waysBehind gX12_layWay_X12_waysBehind (ci := 11) rfl (lt_k hn (by omega)) hO rfl (Nat.le_of_ble_eq_true rfl) dX12_layWay_144 ?_
      rintro _ h9 ⟨rfl, e9⟩
      have e9 := e9.symm
      subst e9
      rw [wyT_O]
      show AX w M_X12_layWay 0 0 147 [.ref 87, .int (nI r0), .int x0, .int (nI (i - wyT o k r (t + 1))), .int (nI r), .int (nI p), .int (nI (t + 2)), .int (nI (wyT o k r (t + 1)))] [.int (nI (wyT o k r (t + 1 + 1)))] _ _
      refine AX.istore (pc := 147) (L' := [.ref 87, .int (nI r0), .int x0, .int (nI (i - wyT o k r (t + 1))), .int (nI r), .int (nI p), .int (nI (t + 2)), .int (nI (wyT o k r (t + 1 + 1)))]) dX12_layWay_147 (by decide) rfl ?_
      refine AX.goto (pc := 149) (tgt := 112) dX12_layWay_149 (by decide) ?_
      rw [hz, if_neg (by omega)] at kk
      exact l_lwIn w h hn hO hN ho12 ho he hk hpm hm hr P g (t + 1) (i - wyT o k r (t + 1)) (by omega) (by omega) kk
theorem l_lwOut (w : XW) (P : Option Value → XH → Prop) (h0 : XH) {v q : Nat → Int32} {o m r0 : Nat} {x0 : Int32} (X : List Nat) (hn0 : 118 ≤ h0.1) (hO0 : MO h0 (upd v 4 (nI m))) (hN0 : iA h0 89 19 q) (ho12 : q 12 = nI o) (ho : o ≤ 2) (he0 : EN h0 o) (hm : m ≤ 3) (hP : ∀ h', Same [109] h0 h' → (∃ f : Nat → Int32, h'.2 109 = .inl (0, 3, .inl f) ∧ ∀ j, j < m → f j = nI (X.getD j 0)) → P (some (.int (nI 1))) h') : ∀ (kk p r i : Nat) (h : XH) (fr : Nat → Int32), p + kk = m → r ≤ 180 → i < wyN o kk r → h.2 109 = .inl (0, 3, .inl fr) → (∀ j, j < p → fr j = nI (X.getD j 0)) → (∀ j, X.getD (p + j) 0 = (wyGo o kk r i).getD j 0) → Same [109] h0 h → AX w M_X12_layWay 0 0 77 [.ref 87, .int (nI r0), .int x0, .int (nI i), .int (nI r), .int (nI p), .null, .null] [] h P
  | 0, p, r, i, h, fr, hpm, hr, hi, e109, q_, hX, hS => by
    have e : p = m := by omega
    subst e
    have hn := hS.le hn0
    refine AX.iload (pc := 77) dX12_layWay_77 rfl ?_
    refine AX.aload_n (pc := 79) dX12_layWay_79 rfl ?_
    refine AX.getf (pc := 80) fX12_layWay_265 (lt_k hn (by omega)) (hO0.same hS (by simp)) rfl dX12_layWay_80 ?_
    refine AX.icmp_geN (pc := 83) (tgt := 177) dX12_layWay_83 (by decide) (by omega) (by omega) (fun hc83 => ?_) (fun q => absurd q (by omega))
    refine AX.iconst (pc := 177) (v := nI 1) dX12_layWay_177 (by decide) ?_
    refine AX.iret (pc := 178) dX12_layWay_178 rfl rfl (by decide) (by decide) ?_
    exact hP h hS ⟨fr, e109, q_⟩
  | k + 1, p, r, i, h, fr, hpm, hr, hi, e109, q_, hX, hS => by
    have hn := hS.le hn0
    have hO := hO0.same hS (by simp)
    have hN := hN0.same hS (by simp)
    have he := he0.same hS (by simp)
    have hk : k ≤ 2 := by omega
    obtain ⟨a1, a2, d, hd, hi2⟩ := wyF_1 hi
    have hst := wyGo_step hi hd
    have hd2 := nxN_eq hd
    refine AX.iload (pc := 77) dX12_layWay_77 rfl ?_
    refine AX.aload_n (pc := 79) dX12_layWay_79 rfl ?_
    refine AX.getf (pc := 80) fX12_layWay_265 (lt_k hn (by omega)) hO rfl dX12_layWay_80 ?_
    refine AX.icmp_geN (pc := 83) (tgt := 177) dX12_layWay_83 (by decide) (by omega) (by omega) (fun q => absurd q (by omega)) (fun hc83 => ?_)
    refine AX.iconst (pc := 86) (v := nI 1) dX12_layWay_86 (by decide) ?_
    refine AX.istore (pc := 87) (L' := [.ref 87, .int (nI r0), .int x0, .int (nI i), .int (nI r), .int (nI p), .int (nI 1), .null]) dX12_layWay_87 (by decide) rfl ?_
    refine AX.aload_n (pc := 89) dX12_layWay_89 rfl ?_
    refine AX.aload_n (pc := 90) dX12_layWay_90 rfl ?_
    refine AX.iload (pc := 91) dX12_layWay_91 rfl ?_
    refine AX.iload (pc := 93) dX12_layWay_93 rfl ?_
    refine AX.callV (pc := 95) (M2 := M_X12_nextRest) (As := [.int (nI r), .int (nI 1)]) (rest := [.ref 87]) (c_nextRest w h hn hO hN ho12 ho r 1 (by omega) (by omega)) xc_X12_layWay__X12_nextRest gX12_layWay_X12_nextRest (ci := 11) rfl (lt_k hn (by omega)) hO rfl (Nat.le_of_ble_eq_true rfl) dX12_layWay_95 ?_
    rintro _ h9 ⟨rfl, e9⟩
    have e9 := e9.symm
    subst e9
    show AX w M_X12_layWay 0 0 98 [.ref 87, .int (nI r0), .int x0, .int (nI i), .int (nI r), .int (nI p), .int (nI 1), .null] [.int (oI (nxN o r 1)), .ref 87] _ _
    refine AX.aload_n (pc := 98) dX12_layWay_98 rfl ?_
    refine AX.getf (pc := 99) fX12_layWay_265 (lt_k hn (by omega)) hO rfl dX12_layWay_99 ?_
    refine AX.iconst (pc := 102) (v := nI 1) dX12_layWay_102 (by decide) ?_
    refine AX.isubN (pc := 103) (c := m - 1) dX12_layWay_103 (by omega) ?_
    refine AX.iload (pc := 104) dX12_layWay_104 rfl ?_
    refine AX.isubN (pc := 106) (c := k) dX12_layWay_106 (by omega) ?_
    refine AX.callV (pc := 107) (M2 := M_X12_waysBehind) (As := [.int (oI (nxN o r 1)), .int (nI k)]) (rest := []) (c_behind w h hn hO hN ho12 ho he (nx_top (s := 1) hr) (k := k) hk) xc_X12_layWay__X12_waysBehind gX12_layWay_X12_waysBehind (ci := 11) rfl (lt_k hn (by omega)) hO rfl (Nat.le_of_ble_eq_true rfl) dX12_layWay_107 ?_
    rintro _ h9 ⟨rfl, e9⟩
    have e9 := e9.symm
    subst e9
    rw [wyT_O]
    show AX w M_X12_layWay 0 0 110 [.ref 87, .int (nI r0), .int x0, .int (nI i), .int (nI r), .int (nI p), .int (nI 1), .null] [.int (nI (wyT o k r 1))] _ _
    refine AX.istore (pc := 110) (L' := [.ref 87, .int (nI r0), .int x0, .int (nI i), .int (nI r), .int (nI p), .int (nI 1), .int (nI (wyT o k r 1))]) dX12_layWay_110 (by decide) rfl ?_
    refine l_lwIn w h hn hO hN ho12 ho he hk hpm hm hr P 61 0 i (by decide) (by rw [← wyN_succ]; exact hi) ?_
    show AX w M_X12_layWay 0 0 152 [.ref 87, .int (nI r0), .int x0, .int (nI ((wyF o k r 61 1 i).2)), .int (nI r), .int (nI p), .int (nI ((wyF o k r 61 1 i).1)), .null] [] _ _
    refine AX.aload_n (pc := 152) dX12_layWay_152 rfl ?_
    refine AX.getf (pc := 153) fX12_layWay_75 (lt_k hn (by omega)) hO rfl dX12_layWay_153 ?_
    refine AX.iload (pc := 156) dX12_layWay_156 rfl ?_
    refine AX.iload (pc := 158) dX12_layWay_158 rfl ?_
    refine AX.iastN (pc := 160) (i := p) (g := upd fr p (nI ((wyF o k r 61 1 i).1))) (lt_k hn (by omega)) e109 (by decide) (by omega) rfl dX12_layWay_160 ?_
    have sx : Same [109] h (xset h 109 (.inl (0, 3, .inl (upd fr p (nI ((wyF o k r 61 1 i).1)))))) := Same.rest
    refine AX.aload_n (pc := 161) dX12_layWay_161 rfl ?_
    refine AX.iload (pc := 162) dX12_layWay_162 rfl ?_
    refine AX.iload (pc := 164) dX12_layWay_164 rfl ?_
    refine AX.callV (pc := 166) (M2 := M_X12_nextRest) (As := [.int (nI r), .int (nI ((wyF o k r 61 1 i).1))]) (rest := []) (c_nextRest w (xset h 109 (.inl (0, 3, .inl (upd fr p (nI ((wyF o k r 61 1 i).1)))))) (sx.le hn) (hO.same sx (by simp)) (hN.same sx (by simp)) ho12 ho r (wyF o k r 61 1 i).1 (by omega) a2) xc_X12_layWay__X12_nextRest gX12_layWay_X12_nextRest (ci := 11) rfl (lt_k hn (by omega)) ((xset_ne (by decide)).trans hO) rfl (Nat.le_of_ble_eq_true rfl) dX12_layWay_166 ?_
    rintro _ h9 ⟨rfl, e9⟩
    have e9 := e9.symm
    subst e9
    rw [hd]
    show AX w M_X12_layWay 0 0 169 [.ref 87, .int (nI r0), .int x0, .int (nI ((wyF o k r 61 1 i).2)), .int (nI r), .int (nI p), .int (nI ((wyF o k r 61 1 i).1)), .null] [.int (nI d)] _ _
    refine AX.istore (pc := 169) (L' := [.ref 87, .int (nI r0), .int x0, .int (nI ((wyF o k r 61 1 i).2)), .int (nI d), .int (nI p), .int (nI ((wyF o k r 61 1 i).1)), .null]) dX12_layWay_169 (by decide) rfl ?_
    refine AX.iincN (c := p + 1) (pc := 171) (L' := [.ref 87, .int (nI r0), .int x0, .int (nI ((wyF o k r 61 1 i).2)), .int (nI d), .int (nI (p + 1)), .int (nI ((wyF o k r 61 1 i).1)), .null]) dX12_layWay_171 rfl (inc1 _) (by decide) rfl ?_
    refine AX.goto (pc := 174) (tgt := 77) dX12_layWay_174 (by decide) ?_
    refine AX.sub (L' := [.ref 87, .int (nI r0), .int x0, .int (nI ((wyF o k r 61 1 i).2)), .int (nI d), .int (nI (p + 1)), .null, .null]) ⟨Or.inr rfl, Or.inr rfl, Or.inr rfl, Or.inr rfl, Or.inr rfl, Or.inr rfl, Or.inl rfl, Or.inl rfl, trivial⟩ ?_
    refine l_lwOut w P h0 X hn0 hO0 hN0 ho12 ho he0 hm hP k (p + 1) d _ _ _ (by omega) (by omega) hi2 (xset_same _ _ _) (upd_ext q_ ?_) (fun j => ?_) (hS.trans sx)
    · have := hX 0
      rw [hst] at this
      rw [Nat.add_zero] at this
      rw [this]
      rfl
    · have := hX (j + 1)
      rw [hst, show p + (j + 1) = p + 1 + j by omega] at this
      rw [this]
      rfl
theorem c_layWayN (w : XW) (h : XH) {s : SS} {n o : Nat} {a b : Nat × Nat} (c : MS h s) (l : LV (sq s) n o a b) {r : Nat} (hr : r ≤ 180) {x : Int32} (hx : x < 0) : CA w M_X12_layWay [.ref 87, .int (nI r), .int x] h (fun v' h' => v' = some (.int (bI false)) ∧ Same [87, 109, 110] h h' ∧ MS h' s) := by
  refine CA.of (by decide) rfl (fun _ => Nat.le_of_ble_eq_true rfl) ?_
  obtain ⟨v, hO, hv⟩ := id c.ob
  obtain ⟨f89, e89, q89⟩ := id c.nw
  obtain ⟨f110, e110⟩ := id c.en
  obtain ⟨f109, e109⟩ := id c.pa
  have hw := wyN_le o 1 r
  have hw2 := pw_le (k := 1) (by omega)
  show AX w M_X12_layWay 0 0 0 [.ref 87, .int (nI r), .int x, .null, .null, .null, .null, .null] [] h _
  refine AX.aload_n (pc := 0) dX12_layWay_0 rfl ?_
  refine AX.callV (pc := 1) (M2 := M_X12_layEnds) (As := []) (rest := []) (c_layEnds w h c.hn hO c.nw l.q12 l.ho e110) xc_X12_layWay__X12_layEnds gX12_layWay_X12_layEnds (ci := 11) rfl (lt_k c.hn (by omega)) hO rfl (Nat.le_of_ble_eq_true rfl) dX12_layWay_1 ?_
  rintro _ h1 ⟨rfl, s1, E1⟩
  have hn1 := s1.le c.hn
  have O1 := hO.same s1 (by simp)
  have eO1 : h1.2 87 = .inr (11, [.ref 88, .ref 89, .ref 90, .int (v 0), .int (v 1), .ref 91, .ref 92, .ref 93, .ref 94, .ref 95, .ref 96, .ref 97, .ref 98, .ref 99, .ref 100, .ref 101, .int (v 2), .ref 102, .ref 103, .ref 104, .ref 105, .ref 106, .ref 107, .ref 108, .int (v 3), .ref 109, .int (v 4), .ref 110, .ref 111, .int (v 5), .ref 112, .int (v 6), .int (v 7), .int (v 8), .ref 113, .int (v 9), .ref 114, .ref 115, .ref 116, .ref 117]) := O1
  show AX w M_X12_layWay 0 0 4 [.ref 87, .int (nI r), .int x, .null, .null, .null, .null, .null] [] _ _
  refine AX.iload_n (pc := 4) dX12_layWay_4 rfl ?_
  refine AX.istore_n (pc := 5) (L' := [.ref 87, .int (nI r), .int x, .int x, .null, .null, .null, .null]) dX12_layWay_5 (by decide) rfl ?_
  refine AX.aload_n (pc := 6) dX12_layWay_6 rfl ?_
  refine AX.iconst (pc := 7) (v := nI 1) dX12_layWay_7 (by decide) ?_
  refine AX.putf (pc := 8) (fs' := [.ref 88, .ref 89, .ref 90, .int (v 0), .int (v 1), .ref 91, .ref 92, .ref 93, .ref 94, .ref 95, .ref 96, .ref 97, .ref 98, .ref 99, .ref 100, .ref 101, .int (v 2), .ref 102, .ref 103, .ref 104, .ref 105, .ref 106, .ref 107, .ref 108, .int (v 3), .ref 109, .int (nI 1), .ref 110, .ref 111, .int (v 5), .ref 112, .int (v 6), .int (v 7), .int (v 8), .ref 113, .int (v 9), .ref 114, .ref 115, .ref 116, .ref 117]) fX12_layWay_265 rfl (lt_k hn1 (by omega)) eO1 (Nat.le_of_ble_eq_true rfl) rfl rfl rfl dX12_layWay_8 ?_
  obtain ⟨h2, eh2⟩ : ∃ z, z = xset h1 87 (.inr (11, [.ref 88, .ref 89, .ref 90, .int (v 0), .int (v 1), .ref 91, .ref 92, .ref 93, .ref 94, .ref 95, .ref 96, .ref 97, .ref 98, .ref 99, .ref 100, .ref 101, .int (v 2), .ref 102, .ref 103, .ref 104, .ref 105, .ref 106, .ref 107, .ref 108, .int (v 3), .ref 109, .int (nI 1), .ref 110, .ref 111, .int (v 5), .ref 112, .int (v 6), .int (v 7), .int (v 8), .ref 113, .int (v 9), .ref 114, .ref 115, .ref 116, .ref 117])) := ⟨_, rfl⟩
  have s2 : Same [87] h1 h2 := by rw [eh2]; exact Same.rest
  have O2 : MO h2 (upd v 4 (nI 1)) := by rw [eh2]; exact xset_same _ _ _
  rw [← eh2]
  have hn2 := s2.le hn1
  have N2 := (c.nw.same s1 (by simp)).same s2 (by simp)
  have E2 := E1.same s2 (by simp)
  have P2 := s2.at (k := 109) (by simp) (s1.at (by simp) e109)
  have t2 : Same [87, 109, 110] h h2 := (s1.wide (by decide)).trans (s2.wide (by decide))
  refine AX.aload_n (pc := 11) dX12_layWay_11 rfl ?_
  refine AX.getf (pc := 12) fX12_layWay_265 (lt_k hn2 (by omega)) O2 rfl dX12_layWay_12 ?_
  refine AX.iconst (pc := 15) (v := nI 3) dX12_layWay_15 (by decide) ?_
  refine AX.icmp_gtN (pc := 16) (tgt := 57) dX12_layWay_16 (by decide) (by decide) (by decide) (fun q => absurd q (by decide)) (fun hc16 => ?_)
  refine AX.iload_n (pc := 19) dX12_layWay_19 rfl ?_
  refine AX.aload_n (pc := 20) dX12_layWay_20 rfl ?_
  refine AX.iload_n (pc := 21) dX12_layWay_21 rfl ?_
  refine AX.aload_n (pc := 22) dX12_layWay_22 rfl ?_
  refine AX.getf (pc := 23) fX12_layWay_265 (lt_k hn2 (by omega)) O2 rfl dX12_layWay_23 ?_
  refine AX.callV (pc := 26) (M2 := M_X12_waysBy) (As := [.int (nI r), .int (nI 1)]) (rest := [.int x]) (c_waysBy1 w h2 (t := some r) hn2 O2 N2 l.q12 l.ho E2 (fun d e => by cases e; exact hr)) xc_X12_layWay__X12_waysBy gX12_layWay_X12_waysBy (ci := 11) rfl (lt_k hn2 (by omega)) O2 rfl (Nat.le_of_ble_eq_true rfl) dX12_layWay_26 ?_
  rintro _ h9 ⟨rfl, e9⟩
  have e9 := e9.symm
  subst e9
  show AX w M_X12_layWay 0 0 29 [.ref 87, .int (nI r), .int x, .int x, .null, .null, .null, .null] [.int (nI (wyN o 1 r)), .int x] _ _
  refine AX.icmp_lt (pc := 29) (tgt := 57) dX12_layWay_29 (by decide) (fun hc29 => ?_) (fun q => absurd (neg_lt hx (by omega)) q)
  refine AX.iload_n (pc := 57) dX12_layWay_57 rfl ?_
  refine AX.if_lt (pc := 58) (tgt := 69) dX12_layWay_58 (by decide) (fun hc58 => ?_) (fun q => absurd hx q)
  refine AX.iconst (pc := 69) (v := nI 0) dX12_layWay_69 (by decide) ?_
  refine AX.iret (pc := 70) dX12_layWay_70 rfl rfl (by decide) (by decide) ?_
  exact ⟨rfl, t2, c.way t2 (MS.obv hv 4 (by decide) O2) ⟨_, P2⟩ E2.ex⟩
theorem l_ilt {n : Nat} (hn : n < 2147483648) : ¬ nI n < 0 := by rw [lt_i, i0, iN n hn]; omega
theorem c_layWayO (w : XW) (h : XH) {s : SS} {n o : Nat} {a b : Nat × Nat} (c : MS h s) (l : LV (sq s) n o a b) {r : Nat} (hr : r ≤ 180) {i : Nat} (hi : i < 2147483648) (hx : wyA o r ≤ i) : CA w M_X12_layWay [.ref 87, .int (nI r), .int (nI i)] h (fun v' h' => v' = some (.int (bI false)) ∧ Same [87, 109, 110] h h' ∧ MS h' s) := by
  refine CA.of (by decide) rfl (fun _ => Nat.le_of_ble_eq_true rfl) ?_
  obtain ⟨v, hO, hv⟩ := id c.ob
  obtain ⟨f89, e89, q89⟩ := id c.nw
  obtain ⟨f110, e110⟩ := id c.en
  obtain ⟨f109, e109⟩ := id c.pa
  unfold wyA at hx
  show AX w M_X12_layWay 0 0 0 [.ref 87, .int (nI r), .int (nI i), .null, .null, .null, .null, .null] [] h _
  refine AX.aload_n (pc := 0) dX12_layWay_0 rfl ?_
  refine AX.callV (pc := 1) (M2 := M_X12_layEnds) (As := []) (rest := []) (c_layEnds w h c.hn hO c.nw l.q12 l.ho e110) xc_X12_layWay__X12_layEnds gX12_layWay_X12_layEnds (ci := 11) rfl (lt_k c.hn (by omega)) hO rfl (Nat.le_of_ble_eq_true rfl) dX12_layWay_1 ?_
  rintro _ h1 ⟨rfl, s1, E1⟩
  have hn1 := s1.le c.hn
  have O1 := hO.same s1 (by simp)
  have eO1 : h1.2 87 = .inr (11, [.ref 88, .ref 89, .ref 90, .int (v 0), .int (v 1), .ref 91, .ref 92, .ref 93, .ref 94, .ref 95, .ref 96, .ref 97, .ref 98, .ref 99, .ref 100, .ref 101, .int (v 2), .ref 102, .ref 103, .ref 104, .ref 105, .ref 106, .ref 107, .ref 108, .int (v 3), .ref 109, .int (v 4), .ref 110, .ref 111, .int (v 5), .ref 112, .int (v 6), .int (v 7), .int (v 8), .ref 113, .int (v 9), .ref 114, .ref 115, .ref 116, .ref 117]) := O1
  show AX w M_X12_layWay 0 0 4 [.ref 87, .int (nI r), .int (nI i), .null, .null, .null, .null, .null] [] _ _
  refine AX.iload_n (pc := 4) dX12_layWay_4 rfl ?_
  refine AX.istore_n (pc := 5) (L' := [.ref 87, .int (nI r), .int (nI i), .int (nI i), .null, .null, .null, .null]) dX12_layWay_5 (by decide) rfl ?_
  refine AX.aload_n (pc := 6) dX12_layWay_6 rfl ?_
  refine AX.iconst (pc := 7) (v := nI 1) dX12_layWay_7 (by decide) ?_
  refine AX.putf (pc := 8) (fs' := [.ref 88, .ref 89, .ref 90, .int (v 0), .int (v 1), .ref 91, .ref 92, .ref 93, .ref 94, .ref 95, .ref 96, .ref 97, .ref 98, .ref 99, .ref 100, .ref 101, .int (v 2), .ref 102, .ref 103, .ref 104, .ref 105, .ref 106, .ref 107, .ref 108, .int (v 3), .ref 109, .int (nI 1), .ref 110, .ref 111, .int (v 5), .ref 112, .int (v 6), .int (v 7), .int (v 8), .ref 113, .int (v 9), .ref 114, .ref 115, .ref 116, .ref 117]) fX12_layWay_265 rfl (lt_k hn1 (by omega)) eO1 (Nat.le_of_ble_eq_true rfl) rfl rfl rfl dX12_layWay_8 ?_
  obtain ⟨h2, eh2⟩ : ∃ z, z = xset h1 87 (.inr (11, [.ref 88, .ref 89, .ref 90, .int (v 0), .int (v 1), .ref 91, .ref 92, .ref 93, .ref 94, .ref 95, .ref 96, .ref 97, .ref 98, .ref 99, .ref 100, .ref 101, .int (v 2), .ref 102, .ref 103, .ref 104, .ref 105, .ref 106, .ref 107, .ref 108, .int (v 3), .ref 109, .int (nI 1), .ref 110, .ref 111, .int (v 5), .ref 112, .int (v 6), .int (v 7), .int (v 8), .ref 113, .int (v 9), .ref 114, .ref 115, .ref 116, .ref 117])) := ⟨_, rfl⟩
  have s2 : Same [87] h1 h2 := by rw [eh2]; exact Same.rest
  have O2 : MO h2 (upd v 4 (nI 1)) := by rw [eh2]; exact xset_same _ _ _
  rw [← eh2]
  have hn2 := s2.le hn1
  have N2 := (c.nw.same s1 (by simp)).same s2 (by simp)
  have E2 := E1.same s2 (by simp)
  have P2 := s2.at (k := 109) (by simp) (s1.at (by simp) e109)
  have t2 : Same [87, 109, 110] h h2 := (s1.wide (by decide)).trans (s2.wide (by decide))
  refine l_lwS1 w h2 (i := i) hn2 O2 N2 l.q12 l.ho E2 hr (by omega) (by omega) _ (fun h3 s3 O3 => ?_)
  have hn3 := s3.le hn2
  have N3 := N2.same s3 (by simp)
  have E3 := E2.same s3 (by simp)
  have P3 := s3.at (k := 109) (by simp) P2
  have t3 : Same [87, 109, 110] h h3 := t2.trans (s3.wide (by decide))
  refine l_lwS2 w h3 (i := i - wyN o 1 r) hn3 O3 N3 l.q12 l.ho E3 hr (by omega) (by omega) _ (fun h4 s4 O4 => ?_)
  have hn4 := s4.le hn3
  have N4 := N3.same s4 (by simp)
  have E4 := E3.same s4 (by simp)
  have P4 := s4.at (k := 109) (by simp) P3
  have t4 : Same [87, 109, 110] h h4 := t3.trans (s4.wide (by decide))
  refine l_lwS3 w h4 (i := i - wyN o 1 r - wyN o 2 r) hn4 O4 N4 l.q12 l.ho E4 hr (by omega) (by omega) _ (fun h5 s5 O5 => ?_)
  have hn5 := s5.le hn4
  have N5 := N4.same s5 (by simp)
  have E5 := E4.same s5 (by simp)
  have P5 := s5.at (k := 109) (by simp) P4
  have t5 : Same [87, 109, 110] h h5 := t4.trans (s5.wide (by decide))
  refine AX.aload_n (pc := 11) dX12_layWay_11 rfl ?_
  refine AX.getf (pc := 12) fX12_layWay_265 (lt_k hn5 (by omega)) O5 rfl dX12_layWay_12 ?_
  refine AX.iconst (pc := 15) (v := nI 3) dX12_layWay_15 (by decide) ?_
  refine AX.icmp_gtN (pc := 16) (tgt := 57) dX12_layWay_16 (by decide) (by decide) (by decide) (fun hc16 => ?_) (fun q => absurd q (by decide))
  refine AX.iload_n (pc := 57) dX12_layWay_57 rfl ?_
  refine AX.if_ltN (pc := 58) (tgt := 69) dX12_layWay_58 (by decide) (by omega) (fun q => absurd q (by omega)) (fun hc58 => ?_)
  refine AX.aload_n (pc := 61) dX12_layWay_61 rfl ?_
  refine AX.getf (pc := 62) fX12_layWay_265 (lt_k hn5 (by omega)) O5 rfl dX12_layWay_62 ?_
  refine AX.iconst (pc := 65) (v := nI 3) dX12_layWay_65 (by decide) ?_
  refine AX.icmp_leN (pc := 66) (tgt := 71) dX12_layWay_66 (by decide) (by decide) (by decide) (fun q => absurd q (by decide)) (fun hc66 => ?_)
  refine AX.iconst (pc := 69) (v := nI 0) dX12_layWay_69 (by decide) ?_
  refine AX.iret (pc := 70) dX12_layWay_70 rfl rfl (by decide) (by decide) ?_
  exact ⟨rfl, t5, c.way t5 (MS.obv hv 4 (by decide) O5) ⟨_, P5⟩ E5.ex⟩
theorem c_layWay (w : XW) (h : XH) {s : SS} {n o : Nat} {a b : Nat × Nat} (c : MS h s) (l : LV (sq s) n o a b) {r : Nat} (hr : r ≤ 180) {i : Nat} (hx : i < wyA o r) : CA w M_X12_layWay [.ref 87, .int (nI r), .int (nI i)] h (fun v' h' => v' = some (.int (bI true)) ∧ Same [87, 109, 110] h h' ∧ MS h' s ∧ (∃ v2, MO h' (upd v2 4 (nI (wyK o r i).1)) ∧ v2 0 = bI (sb s) ∧ v2 5 = nI (sX s).length ∧ v2 6 = nI (sT s).length) ∧ ∃ f : Nat → Int32, h'.2 109 = .inl (0, 3, .inl f) ∧ ∀ j, j < (wyK o r i).1 → f j = nI (fnS o r i j)) := by
  refine CA.of (by decide) rfl (fun _ => Nat.le_of_ble_eq_true rfl) ?_
  obtain ⟨v, hO, hv⟩ := id c.ob
  obtain ⟨f89, e89, q89⟩ := id c.nw
  obtain ⟨f110, e110⟩ := id c.en
  obtain ⟨f109, e109⟩ := id c.pa
  have hb1 := wyN_le o 1 r
  have hb2 := wyN_le o 2 r
  have hb3 := wyN_le o 3 r
  have hw1 := pw_le (k := 1) (by omega)
  have hw2 := pw_le (k := 2) (by omega)
  have hw3 := pw_le (k := 3) (by omega)
  have hA : wyA o r = wyN o 1 r + wyN o 2 r + wyN o 3 r := rfl
  have hkk : wyK o r i = if i < wyN o 1 r then (1, i) else if i - wyN o 1 r < wyN o 2 r then (2, i - wyN o 1 r) else (3, i - wyN o 1 r - wyN o 2 r) := rfl
  show AX w M_X12_layWay 0 0 0 [.ref 87, .int (nI r), .int (nI i), .null, .null, .null, .null, .null] [] h _
  refine AX.aload_n (pc := 0) dX12_layWay_0 rfl ?_
  refine AX.callV (pc := 1) (M2 := M_X12_layEnds) (As := []) (rest := []) (c_layEnds w h c.hn hO c.nw l.q12 l.ho e110) xc_X12_layWay__X12_layEnds gX12_layWay_X12_layEnds (ci := 11) rfl (lt_k c.hn (by omega)) hO rfl (Nat.le_of_ble_eq_true rfl) dX12_layWay_1 ?_
  rintro _ h1 ⟨rfl, s1, E1⟩
  have hn1 := s1.le c.hn
  have O1 := hO.same s1 (by simp)
  have eO1 : h1.2 87 = .inr (11, [.ref 88, .ref 89, .ref 90, .int (v 0), .int (v 1), .ref 91, .ref 92, .ref 93, .ref 94, .ref 95, .ref 96, .ref 97, .ref 98, .ref 99, .ref 100, .ref 101, .int (v 2), .ref 102, .ref 103, .ref 104, .ref 105, .ref 106, .ref 107, .ref 108, .int (v 3), .ref 109, .int (v 4), .ref 110, .ref 111, .int (v 5), .ref 112, .int (v 6), .int (v 7), .int (v 8), .ref 113, .int (v 9), .ref 114, .ref 115, .ref 116, .ref 117]) := O1
  show AX w M_X12_layWay 0 0 4 [.ref 87, .int (nI r), .int (nI i), .null, .null, .null, .null, .null] [] _ _
  refine AX.iload_n (pc := 4) dX12_layWay_4 rfl ?_
  refine AX.istore_n (pc := 5) (L' := [.ref 87, .int (nI r), .int (nI i), .int (nI i), .null, .null, .null, .null]) dX12_layWay_5 (by decide) rfl ?_
  refine AX.aload_n (pc := 6) dX12_layWay_6 rfl ?_
  refine AX.iconst (pc := 7) (v := nI 1) dX12_layWay_7 (by decide) ?_
  refine AX.putf (pc := 8) (fs' := [.ref 88, .ref 89, .ref 90, .int (v 0), .int (v 1), .ref 91, .ref 92, .ref 93, .ref 94, .ref 95, .ref 96, .ref 97, .ref 98, .ref 99, .ref 100, .ref 101, .int (v 2), .ref 102, .ref 103, .ref 104, .ref 105, .ref 106, .ref 107, .ref 108, .int (v 3), .ref 109, .int (nI 1), .ref 110, .ref 111, .int (v 5), .ref 112, .int (v 6), .int (v 7), .int (v 8), .ref 113, .int (v 9), .ref 114, .ref 115, .ref 116, .ref 117]) fX12_layWay_265 rfl (lt_k hn1 (by omega)) eO1 (Nat.le_of_ble_eq_true rfl) rfl rfl rfl dX12_layWay_8 ?_
  obtain ⟨h2, eh2⟩ : ∃ z, z = xset h1 87 (.inr (11, [.ref 88, .ref 89, .ref 90, .int (v 0), .int (v 1), .ref 91, .ref 92, .ref 93, .ref 94, .ref 95, .ref 96, .ref 97, .ref 98, .ref 99, .ref 100, .ref 101, .int (v 2), .ref 102, .ref 103, .ref 104, .ref 105, .ref 106, .ref 107, .ref 108, .int (v 3), .ref 109, .int (nI 1), .ref 110, .ref 111, .int (v 5), .ref 112, .int (v 6), .int (v 7), .int (v 8), .ref 113, .int (v 9), .ref 114, .ref 115, .ref 116, .ref 117])) := ⟨_, rfl⟩
  have s2 : Same [87] h1 h2 := by rw [eh2]; exact Same.rest
  have O2 : MO h2 (upd v 4 (nI 1)) := by rw [eh2]; exact xset_same _ _ _
  rw [← eh2]
  have hn2 := s2.le hn1
  have N2 := (c.nw.same s1 (by simp)).same s2 (by simp)
  have E2 := E1.same s2 (by simp)
  have P2 := s2.at (k := 109) (by simp) (s1.at (by simp) e109)
  have t2 : Same [87, 109, 110] h h2 := (s1.wide (by decide)).trans (s2.wide (by decide))
  by_cases w1 : i < wyN o 1 r
  · have hK : wyK o r i = (1, i) := by rw [hkk, if_pos w1]
    refine l_lwT1 w h2 (i := i) hn2 O2 N2 l.q12 l.ho E2 hr (by omega) (by omega) _ ?_
    show AX w M_X12_layWay 0 0 57 [.ref 87, .int (nI r), .int (nI i), .int (nI i), .null, .null, .null, .null] [] _ _
    refine AX.iload_n (pc := 57) dX12_layWay_57 rfl ?_
    refine AX.if_ltN (pc := 58) (tgt := 69) dX12_layWay_58 (by decide) (by omega) (fun q => absurd q (by omega)) (fun hc58 => ?_)
    refine AX.aload_n (pc := 61) dX12_layWay_61 rfl ?_
    refine AX.getf (pc := 62) fX12_layWay_265 (lt_k hn2 (by omega)) O2 rfl dX12_layWay_62 ?_
    refine AX.iconst (pc := 65) (v := nI 3) dX12_layWay_65 (by decide) ?_
    refine AX.icmp_leN (pc := 66) (tgt := 71) dX12_layWay_66 (by decide) (by decide) (by decide) (fun hc66 => ?_) (fun q => absurd q (by decide))
    refine AX.iload_n (pc := 71) dX12_layWay_71 rfl ?_
    refine AX.istore (pc := 72) (L' := [.ref 87, .int (nI r), .int (nI i), .int (nI i), .int (nI r), .null, .null, .null]) dX12_layWay_72 (by decide) rfl ?_
    refine AX.iconst (pc := 74) (v := nI 0) dX12_layWay_74 (by decide) ?_
    refine AX.istore (pc := 75) (L' := [.ref 87, .int (nI r), .int (nI i), .int (nI i), .int (nI r), .int (nI 0), .null, .null]) dX12_layWay_75 (by decide) rfl ?_
    refine l_lwOut w _ h2 (v := v) (q := sq s) (wyGo o 1 r (i)) hn2 O2 N2 l.q12 l.ho E2 (by decide) (fun h9 t9 ⟨f9, y9, z9⟩ => ?_) 1 0 r (i) h2 f109 rfl hr (by omega) P2 (fun j hj => absurd hj (Nat.not_lt_zero _)) (fun j => by rw [Nat.zero_add]) Same.rf
    have tt : Same [87, 109, 110] h h9 := t2.trans (t9.wide (by decide))
    have O9 := O2.same t9 (by simp)
    refine ⟨rfl, tt, c.way tt (MS.obv hv 4 (by decide) O9) ⟨_, y9⟩ (E2.same t9 (by simp)).ex, ⟨v, by rw [hK]; exact O9, hv⟩, f9, y9, fun j hj => ?_⟩
    rw [z9 j (by rw [hK] at hj; exact hj)]
    unfold fnS
    rw [hK]
  · rw [if_neg w1] at hkk
    refine l_lwS1 w h2 (i := i) hn2 O2 N2 l.q12 l.ho E2 hr (by omega) (by omega) _ (fun h3 s3 O3 => ?_)
    have hn3 := s3.le hn2
    have N3 := N2.same s3 (by simp)
    have E3 := E2.same s3 (by simp)
    have P3 := s3.at (k := 109) (by simp) P2
    have t3 : Same [87, 109, 110] h h3 := t2.trans (s3.wide (by decide))
    by_cases w2 : i - wyN o 1 r < wyN o 2 r
    · have hK : wyK o r i = (2, i - wyN o 1 r) := by rw [hkk, if_pos w2]
      refine l_lwT2 w h3 (i := i - wyN o 1 r) hn3 O3 N3 l.q12 l.ho E3 hr (by omega) (by omega) _ ?_
      show AX w M_X12_layWay 0 0 57 [.ref 87, .int (nI r), .int (nI i), .int (nI (i - wyN o 1 r)), .null, .null, .null, .null] [] _ _
      refine AX.iload_n (pc := 57) dX12_layWay_57 rfl ?_
      refine AX.if_ltN (pc := 58) (tgt := 69) dX12_layWay_58 (by decide) (by omega) (fun q => absurd q (by omega)) (fun hc58 => ?_)
      refine AX.aload_n (pc := 61) dX12_layWay_61 rfl ?_
      refine AX.getf (pc := 62) fX12_layWay_265 (lt_k hn3 (by omega)) O3 rfl dX12_layWay_62 ?_
      refine AX.iconst (pc := 65) (v := nI 3) dX12_layWay_65 (by decide) ?_
      refine AX.icmp_leN (pc := 66) (tgt := 71) dX12_layWay_66 (by decide) (by decide) (by decide) (fun hc66 => ?_) (fun q => absurd q (by decide))
      refine AX.iload_n (pc := 71) dX12_layWay_71 rfl ?_
      refine AX.istore (pc := 72) (L' := [.ref 87, .int (nI r), .int (nI i), .int (nI (i - wyN o 1 r)), .int (nI r), .null, .null, .null]) dX12_layWay_72 (by decide) rfl ?_
      refine AX.iconst (pc := 74) (v := nI 0) dX12_layWay_74 (by decide) ?_
      refine AX.istore (pc := 75) (L' := [.ref 87, .int (nI r), .int (nI i), .int (nI (i - wyN o 1 r)), .int (nI r), .int (nI 0), .null, .null]) dX12_layWay_75 (by decide) rfl ?_
      refine l_lwOut w _ h3 (v := v) (q := sq s) (wyGo o 2 r (i - wyN o 1 r)) hn3 O3 N3 l.q12 l.ho E3 (by decide) (fun h9 t9 ⟨f9, y9, z9⟩ => ?_) 2 0 r (i - wyN o 1 r) h3 f109 rfl hr (by omega) P3 (fun j hj => absurd hj (Nat.not_lt_zero _)) (fun j => by rw [Nat.zero_add]) Same.rf
      have tt : Same [87, 109, 110] h h9 := t3.trans (t9.wide (by decide))
      have O9 := O3.same t9 (by simp)
      refine ⟨rfl, tt, c.way tt (MS.obv hv 4 (by decide) O9) ⟨_, y9⟩ (E3.same t9 (by simp)).ex, ⟨v, by rw [hK]; exact O9, hv⟩, f9, y9, fun j hj => ?_⟩
      rw [z9 j (by rw [hK] at hj; exact hj)]
      unfold fnS
      rw [hK]
    · rw [if_neg w2] at hkk
      have hK := hkk
      refine l_lwS2 w h3 (i := i - wyN o 1 r) hn3 O3 N3 l.q12 l.ho E3 hr (by omega) (by omega) _ (fun h4 s4 O4 => ?_)
      have hn4 := s4.le hn3
      have N4 := N3.same s4 (by simp)
      have E4 := E3.same s4 (by simp)
      have P4 := s4.at (k := 109) (by simp) P3
      have t4 : Same [87, 109, 110] h h4 := t3.trans (s4.wide (by decide))
      refine l_lwT3 w h4 (i := i - wyN o 1 r - wyN o 2 r) hn4 O4 N4 l.q12 l.ho E4 hr (by omega) (by omega) _ ?_
      show AX w M_X12_layWay 0 0 57 [.ref 87, .int (nI r), .int (nI i), .int (nI (i - wyN o 1 r - wyN o 2 r)), .null, .null, .null, .null] [] _ _
      refine AX.iload_n (pc := 57) dX12_layWay_57 rfl ?_
      refine AX.if_ltN (pc := 58) (tgt := 69) dX12_layWay_58 (by decide) (by omega) (fun q => absurd q (by omega)) (fun hc58 => ?_)
      refine AX.aload_n (pc := 61) dX12_layWay_61 rfl ?_
      refine AX.getf (pc := 62) fX12_layWay_265 (lt_k hn4 (by omega)) O4 rfl dX12_layWay_62 ?_
      refine AX.iconst (pc := 65) (v := nI 3) dX12_layWay_65 (by decide) ?_
      refine AX.icmp_leN (pc := 66) (tgt := 71) dX12_layWay_66 (by decide) (by decide) (by decide) (fun hc66 => ?_) (fun q => absurd q (by decide))
      refine AX.iload_n (pc := 71) dX12_layWay_71 rfl ?_
      refine AX.istore (pc := 72) (L' := [.ref 87, .int (nI r), .int (nI i), .int (nI (i - wyN o 1 r - wyN o 2 r)), .int (nI r), .null, .null, .null]) dX12_layWay_72 (by decide) rfl ?_
      refine AX.iconst (pc := 74) (v := nI 0) dX12_layWay_74 (by decide) ?_
      refine AX.istore (pc := 75) (L' := [.ref 87, .int (nI r), .int (nI i), .int (nI (i - wyN o 1 r - wyN o 2 r)), .int (nI r), .int (nI 0), .null, .null]) dX12_layWay_75 (by decide) rfl ?_
      refine l_lwOut w _ h4 (v := v) (q := sq s) (wyGo o 3 r (i - wyN o 1 r - wyN o 2 r)) hn4 O4 N4 l.q12 l.ho E4 (by decide) (fun h9 t9 ⟨f9, y9, z9⟩ => ?_) 3 0 r (i - wyN o 1 r - wyN o 2 r) h4 f109 rfl hr (by omega) P4 (fun j hj => absurd hj (Nat.not_lt_zero _)) (fun j => by rw [Nat.zero_add]) Same.rf
      have tt : Same [87, 109, 110] h h9 := t4.trans (t9.wide (by decide))
      have O9 := O4.same t9 (by simp)
      refine ⟨rfl, tt, c.way tt (MS.obv hv 4 (by decide) O9) ⟨_, y9⟩ (E4.same t9 (by simp)).ex, ⟨v, by rw [hK]; exact O9, hv⟩, f9, y9, fun j hj => ?_⟩
      rw [z9 j (by rw [hK] at hj; exact hj)]
      unfold fnS
      rw [hK]
