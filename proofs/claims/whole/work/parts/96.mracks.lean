/-! ===== THE REFERENCE: RACKS, IMAGE, UNDO ===== -/
theorem inL_iff {n : Nat} (hn : n ≤ 20) {i : Int32} : ((0 : Int64).toInt ≤ i.toInt64.toInt ∧ i.toInt64.toInt ≤ ((nI n - nI 1).toInt64).toInt) ↔ inL n i := by
  rw [Int32.toInt_toInt64, Int32.toInt_toInt64, show (0 : Int64).toInt = 0 by decide]
  unfold inL
  cases n with
  | zero =>
    rw [show (nI 0 - nI 1).toInt = -1 by decide]
    omega
  | succ n =>
    rw [show nI (n + 1) - nI 1 = nI n from by rw [pk_sub (by omega), Nat.add_sub_cancel], nI_toInt (by omega)]
    omega
theorem bm1_iff {z : Int32} : ((-1 : Int64).toInt ≤ z.toInt64.toInt ∧ z.toInt64.toInt ≤ (62 : Int64).toInt) ↔ (z = -1 ∨ inR 0 62 z) := by
  have := in_m1 (x := z) (K := 63) (by decide) (by decide)
  rw [show ((nI (63 - 1)).toInt64).toInt = (62 : Int64).toInt by decide] at this
  exact this
theorem m20 {x y j i : Nat} (hj : j < 20) (hi : i < 20) (hx : x ≠ y) : 20 * x + j ≠ 20 * y + i := by omega
theorem MS.racks {h h' : XH} {s : SS} (c : MS h s) {k : RKs} (hs : Same [114, 115, 116, 117] h h') (rk : RMq h' k) : MS h' (wk s k) := by
  have x_hn : 118 ≤ h'.1 := hs.le c.hn
  have x_ob : (∃ v, MO h' v ∧ v 0 = bI (sb s) ∧ v 5 = nI (sX s).length ∧ v 6 = nI (sT s).length) := c.ob.imp (fun _ z => ⟨z.1.same hs (by simp), z.2⟩)
  have x_rg : iA h' 88 20 (fun k => nI (rgN k)) := c.rg.same hs (by simp)
  have x_nw : iA h' 89 19 (sq s) := c.nw.same hs (by simp)
  have x_im : (∃ f : Nat → Int32, h'.2 90 = .inl (0, 19, .inl f) ∧ (sb s = true → ∀ j, j < 19 → f j = sp_ s j)) := c.im.imp (fun _ z => ⟨hs.at (by simp) z.1, z.2⟩)
  have x_fx : FX h' := c.fx.same hs (by simp) (by simp) (by simp) (by simp) (by simp)
  have x_dt : DT h' := c.dt.same hs (by simp) (by simp) (by simp) (by simp) (by simp)
  have x_ch : (∃ f : Nat → UInt64, h'.2 101 = .inl (2, 724, .inr (.inr (.inr (.inl f))))) := c.ch.imp (fun _ z => hs.at (by simp) z)
  have x_rt : RT h' := c.rt.same hs (by simp) (by simp) (by simp) (by simp)
  have x_b1 : (∃ f : Nat → Int32, h'.2 106 = .inl (0, 126, .inl f)) := c.b1.imp (fun _ z => hs.at (by simp) z)
  have x_b2 : (∃ f : Nat → Int32, h'.2 107 = .inl (0, 630, .inl f)) := c.b2.imp (fun _ z => hs.at (by simp) z)
  have x_b3 : (∃ f : Nat → Int32, h'.2 108 = .inl (0, 630, .inl f)) := c.b3.imp (fun _ z => hs.at (by simp) z)
  have x_pa : (∃ f : Nat → Int32, h'.2 109 = .inl (0, 3, .inl f)) := c.pa.imp (fun _ z => hs.at (by simp) z)
  have x_en : (∃ f : Nat → Int32, h'.2 110 = .inl (0, 181, .inl f)) := c.en.imp (fun _ z => hs.at (by simp) z)
  have x_pp : (∃ f : Nat → Int32, h'.2 111 = .inl (0, 20, .inl f) ∧ (∀ j, j < (sX s).length → f j = nI ((sX s).getD j 0)) ∧ (sX s).length ≤ 12) := c.pp.imp (fun _ z => ⟨hs.at (by simp) z.1, z.2⟩)
  have x_tp : (∃ f : Nat → Int32, h'.2 112 = .inl (0, 60, .inl f) ∧ (∀ j, j < (sT s).length → f j = nI ((sT s).getD j 0)) ∧ (sT s).length ≤ 60) := c.tp.imp (fun _ z => ⟨hs.at (by simp) z.1, z.2⟩)
  have x_td : (∃ f : Nat → Int32, h'.2 113 = .inl (0, 20, .inl f)) := c.td.imp (fun _ z => hs.at (by simp) z)
  exact ⟨x_hn, x_ob, x_rg, x_nw, x_im, x_fx, x_dt, x_ch, x_rt, x_b1, x_b2, x_b3, x_pa, x_en, x_pp, x_tp, x_td, rk⟩
theorem MS.pic {h h' : XH} {s : SS} (c : MS h s) {q : Nat → Int32} (hs : Same [87, 90] h h') (ob : ∃ v, MO h' v ∧ v 0 = bI true ∧ v 5 = nI (sX s).length ∧ v 6 = nI (sT s).length) (im : ∃ f : Nat → Int32, h'.2 90 = .inl (0, 19, .inl f) ∧ ∀ j, j < 19 → f j = q j) : MS h' (wb (wp s q) true) := by
  have x_hn : 118 ≤ h'.1 := hs.le c.hn
  have x_rg : iA h' 88 20 (fun k => nI (rgN k)) := c.rg.same hs (by simp)
  have x_nw : iA h' 89 19 (sq s) := c.nw.same hs (by simp)
  have x_fx : FX h' := c.fx.same hs (by simp) (by simp) (by simp) (by simp) (by simp)
  have x_dt : DT h' := c.dt.same hs (by simp) (by simp) (by simp) (by simp) (by simp)
  have x_ch : (∃ f : Nat → UInt64, h'.2 101 = .inl (2, 724, .inr (.inr (.inr (.inl f))))) := c.ch.imp (fun _ z => hs.at (by simp) z)
  have x_rt : RT h' := c.rt.same hs (by simp) (by simp) (by simp) (by simp)
  have x_b1 : (∃ f : Nat → Int32, h'.2 106 = .inl (0, 126, .inl f)) := c.b1.imp (fun _ z => hs.at (by simp) z)
  have x_b2 : (∃ f : Nat → Int32, h'.2 107 = .inl (0, 630, .inl f)) := c.b2.imp (fun _ z => hs.at (by simp) z)
  have x_b3 : (∃ f : Nat → Int32, h'.2 108 = .inl (0, 630, .inl f)) := c.b3.imp (fun _ z => hs.at (by simp) z)
  have x_pa : (∃ f : Nat → Int32, h'.2 109 = .inl (0, 3, .inl f)) := c.pa.imp (fun _ z => hs.at (by simp) z)
  have x_en : (∃ f : Nat → Int32, h'.2 110 = .inl (0, 181, .inl f)) := c.en.imp (fun _ z => hs.at (by simp) z)
  have x_pp : (∃ f : Nat → Int32, h'.2 111 = .inl (0, 20, .inl f) ∧ (∀ j, j < (sX s).length → f j = nI ((sX s).getD j 0)) ∧ (sX s).length ≤ 12) := c.pp.imp (fun _ z => ⟨hs.at (by simp) z.1, z.2⟩)
  have x_tp : (∃ f : Nat → Int32, h'.2 112 = .inl (0, 60, .inl f) ∧ (∀ j, j < (sT s).length → f j = nI ((sT s).getD j 0)) ∧ (sT s).length ≤ 60) := c.tp.imp (fun _ z => ⟨hs.at (by simp) z.1, z.2⟩)
  have x_td : (∃ f : Nat → Int32, h'.2 113 = .inl (0, 20, .inl f)) := c.td.imp (fun _ z => hs.at (by simp) z)
  have x_rk : RMq h' (sk s) := c.rk.same hs (by simp) (by simp) (by simp) (by simp)
  exact ⟨x_hn, ob, x_rg, x_nw, im.imp (fun _ z => ⟨z.1, fun _ => z.2⟩), x_fx, x_dt, x_ch, x_rt, x_b1, x_b2, x_b3, x_pa, x_en, x_pp, x_tp, x_td, x_rk⟩
theorem c_mLaid (w : XW) (h : XH) {s : SS} (c : MS h s) (t : TR s) (x : Int32) (i : Int32) : CA w M_X12_laid [.ref 87, .int x, .int i] h (fun v' h'' => v' = some (.int (aLaid (sk s) x i)) ∧ h'' = h) := by
  obtain ⟨v, hO, hv⟩ := id c.ob
  obtain ⟨f1, f2, f3, f4, e114, e115, e116, e117, qk⟩ := id c.rk
  by_cases h_x : inR 0 3 x
  · obtain ⟨xn, rfl, l_x, u_x⟩ := inR_nat (by decide) h_x
    have okk := t.at xn
    have qx := qk xn (by omega)
    cases he : sk s xn with
    | none =>
      rw [he] at qx okk
      have qx : f1 xn = bI false := qx
      refine CA.of (by decide) rfl (fun _ => Nat.le_of_ble_eq_true rfl) ?_
      show AX w M_X12_laid 0 0 0 [.ref 87, .int (nI xn), .int i] [] h _
      refine AX.iload_n (pc := 0) dX12_laid_0 rfl ?_
      refine AX.callS (pc := 1) (M2 := M_X12_isRack) (As := [.int (nI xn)]) (rest := []) (c_mRack w h (nI xn)) xc_X12_laid__X12_isRack gX12_laid_X12_isRack rfl (Nat.le_of_ble_eq_true rfl) dX12_laid_1 ?_
      rintro _ h9 ⟨rfl, e9⟩
      have e9 := e9.symm
      subst e9
      rw [decide_eq_true h_x]
      show AX w M_X12_laid 0 0 4 [.ref 87, .int (nI xn), .int i] [.int (bI true)] _ _
      refine AX.if_eqB (pc := 4) (tgt := 16) dX12_laid_4 (by decide) (fun q => absurd q (by decide)) (fun hc4 => ?_)
      refine AX.aload_n (pc := 7) dX12_laid_7 rfl ?_
      refine AX.getf (pc := 8) fX12_laid_90 (lt_k c.hn (by decide)) hO rfl dX12_laid_8 ?_
      refine AX.iload_n (pc := 11) dX12_laid_11 rfl ?_
      refine AX.zaldN (pc := 12) (i := xn) (v := (bI false)) (lt_k c.hn (by decide)) e114 (by decide) (by omega) qx dX12_laid_12 ?_
      refine AX.if_neB (pc := 13) (tgt := 30) dX12_laid_13 (by decide) (fun q => absurd q (by decide)) (fun hc13 => ?_)
      refine AX.iload_n (pc := 16) dX12_laid_16 rfl ?_
      refine AX.callS (pc := 17) (M2 := M_X12_isRack) (As := [.int (nI xn)]) (rest := []) (c_mRack w h (nI xn)) xc_X12_laid__X12_isRack gX12_laid_X12_isRack rfl (Nat.le_of_ble_eq_true rfl) dX12_laid_17 ?_
      rintro _ h9 ⟨rfl, e9⟩
      have e9 := e9.symm
      subst e9
      rw [decide_eq_true h_x]
      show AX w M_X12_laid 0 0 20 [.ref 87, .int (nI xn), .int i] [.int (bI true)] _ _
      refine AX.if_eqB (pc := 20) (tgt := 28) dX12_laid_20 (by decide) (fun q => absurd q (by decide)) (fun hc20 => ?_)
      refine AX.bipush (pc := 23) (v := (-11)) dX12_laid_23 (by decide) ?_
      refine AX.goto (pc := 25) (tgt := 29) dX12_laid_25 (by decide) ?_
      refine AX.iret (pc := 29) dX12_laid_29 rfl rfl (by decide) (by decide) ?_
      exact ⟨by unfold aLaid; rw [if_pos h_x, nI_nat (show xn < 2147483648 by omega), he], rfl⟩
    | some p =>
      rw [he] at qx okk
      obtain ⟨kk, nn, g⟩ := p
      obtain ⟨x1, x2, x3, x4⟩ := qx
      have hkk : kk ≤ 5 := okk.1
      have hnn : nn ≤ 20 := okk.2.1
      by_cases hi : inL nn i
      · obtain ⟨in_, rfl, u_i⟩ := inL_nat hi
        refine CA.of (by decide) rfl (fun _ => Nat.le_of_ble_eq_true rfl) ?_
        show AX w M_X12_laid 0 0 0 [.ref 87, .int (nI xn), .int (nI in_)] [] h _
        refine AX.iload_n (pc := 0) dX12_laid_0 rfl ?_
        refine AX.callS (pc := 1) (M2 := M_X12_isRack) (As := [.int (nI xn)]) (rest := []) (c_mRack w h (nI xn)) xc_X12_laid__X12_isRack gX12_laid_X12_isRack rfl (Nat.le_of_ble_eq_true rfl) dX12_laid_1 ?_
        rintro _ h9 ⟨rfl, e9⟩
        have e9 := e9.symm
        subst e9
        rw [decide_eq_true h_x]
        show AX w M_X12_laid 0 0 4 [.ref 87, .int (nI xn), .int (nI in_)] [.int (bI true)] _ _
        refine AX.if_eqB (pc := 4) (tgt := 16) dX12_laid_4 (by decide) (fun q => absurd q (by decide)) (fun hc4 => ?_)
        refine AX.aload_n (pc := 7) dX12_laid_7 rfl ?_
        refine AX.getf (pc := 8) fX12_laid_90 (lt_k c.hn (by decide)) hO rfl dX12_laid_8 ?_
        refine AX.iload_n (pc := 11) dX12_laid_11 rfl ?_
        refine AX.zaldN (pc := 12) (i := xn) (v := (bI true)) (lt_k c.hn (by decide)) e114 (by decide) (by omega) x1 dX12_laid_12 ?_
        refine AX.if_neB (pc := 13) (tgt := 30) dX12_laid_13 (by decide) (fun hc13 => ?_) (fun q => absurd q (by decide))
        refine AX.iload_n (pc := 30) dX12_laid_30 rfl ?_
        refine AX.i2l (pc := 31) dX12_laid_31 ?_
        refine AX.lconst (pc := 32) (v := 0) dX12_laid_32 (by decide) ?_
        refine AX.aload_n (pc := 33) dX12_laid_33 rfl ?_
        refine AX.getf (pc := 34) fX12_laid_96 (lt_k c.hn (by decide)) hO rfl dX12_laid_34 ?_
        refine AX.iload_n (pc := 37) dX12_laid_37 rfl ?_
        refine AX.ialdN (pc := 38) (i := xn) (v := (nI nn)) (lt_k c.hn (by decide)) e116 (by decide) (by omega) x3 dX12_laid_38 ?_
        refine AX.iconst (pc := 39) (v := nI 1) dX12_laid_39 (by decide) ?_
        refine AX.isub (pc := 40) dX12_laid_40 ?_
        refine AX.i2l (pc := 41) dX12_laid_41 ?_
        refine AX.callS (pc := 42) (M2 := M_X12_in) (As := [.long ((nI in_).toInt64), .long 0, .long ((nI nn - nI 1).toInt64)]) (rest := []) (c_in w h ((nI in_).toInt64) (0) ((nI nn - nI 1).toInt64)) xc_X12_laid__X12_in gX12_laid_X12_in rfl (Nat.le_of_ble_eq_true rfl) dX12_laid_42 ?_
        rintro _ h9 ⟨rfl, e9⟩
        have e9 := e9.symm
        subst e9
        rw [decide_eq_true ((inL_iff hnn).mpr hi)]
        show AX w M_X12_laid 0 0 45 [.ref 87, .int (nI xn), .int (nI in_)] [.int (bI true)] _ _
        refine AX.if_eqB (pc := 45) (tgt := 62) dX12_laid_45 (by decide) (fun q => absurd q (by decide)) (fun hc45 => ?_)
        refine AX.aload_n (pc := 48) dX12_laid_48 rfl ?_
        refine AX.getf (pc := 49) fX12_laid_99 (lt_k c.hn (by decide)) hO rfl dX12_laid_49 ?_
        refine AX.bipush (pc := 52) (v := nI 20) dX12_laid_52 (by decide) ?_
        refine AX.iload_n (pc := 54) dX12_laid_54 rfl ?_
        refine AX.imulN (pc := 55) (c := 20 * xn) dX12_laid_55 rfl ?_
        refine AX.iload_n (pc := 56) dX12_laid_56 rfl ?_
        refine AX.iaddN (pc := 57) (c := 20 * xn + in_) dX12_laid_57 rfl ?_
        refine AX.ialdN (pc := 58) (i := 20 * xn + in_) (v := (g in_)) (lt_k c.hn (by decide)) e117 (by decide) (by omega) (x4 in_ (by omega)) dX12_laid_58 ?_
        refine AX.goto (pc := 59) (tgt := 64) dX12_laid_59 (by decide) ?_
        refine AX.iret (pc := 64) dX12_laid_64 rfl rfl (by decide) (by decide) ?_
        exact ⟨by unfold aLaid; rw [if_pos h_x, nI_nat (show xn < 2147483648 by omega), he]; show _ = some (Value.int (if inL nn (nI in_) then _ else _)); rw [if_pos hi, nI_nat (by omega)], rfl⟩
      refine CA.of (by decide) rfl (fun _ => Nat.le_of_ble_eq_true rfl) ?_
      show AX w M_X12_laid 0 0 0 [.ref 87, .int (nI xn), .int i] [] h _
      refine AX.iload_n (pc := 0) dX12_laid_0 rfl ?_
      refine AX.callS (pc := 1) (M2 := M_X12_isRack) (As := [.int (nI xn)]) (rest := []) (c_mRack w h (nI xn)) xc_X12_laid__X12_isRack gX12_laid_X12_isRack rfl (Nat.le_of_ble_eq_true rfl) dX12_laid_1 ?_
      rintro _ h9 ⟨rfl, e9⟩
      have e9 := e9.symm
      subst e9
      rw [decide_eq_true h_x]
      show AX w M_X12_laid 0 0 4 [.ref 87, .int (nI xn), .int i] [.int (bI true)] _ _
      refine AX.if_eqB (pc := 4) (tgt := 16) dX12_laid_4 (by decide) (fun q => absurd q (by decide)) (fun hc4 => ?_)
      refine AX.aload_n (pc := 7) dX12_laid_7 rfl ?_
      refine AX.getf (pc := 8) fX12_laid_90 (lt_k c.hn (by decide)) hO rfl dX12_laid_8 ?_
      refine AX.iload_n (pc := 11) dX12_laid_11 rfl ?_
      refine AX.zaldN (pc := 12) (i := xn) (v := (bI true)) (lt_k c.hn (by decide)) e114 (by decide) (by omega) x1 dX12_laid_12 ?_
      refine AX.if_neB (pc := 13) (tgt := 30) dX12_laid_13 (by decide) (fun hc13 => ?_) (fun q => absurd q (by decide))
      refine AX.iload_n (pc := 30) dX12_laid_30 rfl ?_
      refine AX.i2l (pc := 31) dX12_laid_31 ?_
      refine AX.lconst (pc := 32) (v := 0) dX12_laid_32 (by decide) ?_
      refine AX.aload_n (pc := 33) dX12_laid_33 rfl ?_
      refine AX.getf (pc := 34) fX12_laid_96 (lt_k c.hn (by decide)) hO rfl dX12_laid_34 ?_
      refine AX.iload_n (pc := 37) dX12_laid_37 rfl ?_
      refine AX.ialdN (pc := 38) (i := xn) (v := (nI nn)) (lt_k c.hn (by decide)) e116 (by decide) (by omega) x3 dX12_laid_38 ?_
      refine AX.iconst (pc := 39) (v := nI 1) dX12_laid_39 (by decide) ?_
      refine AX.isub (pc := 40) dX12_laid_40 ?_
      refine AX.i2l (pc := 41) dX12_laid_41 ?_
      refine AX.callS (pc := 42) (M2 := M_X12_in) (As := [.long i.toInt64, .long 0, .long ((nI nn - nI 1).toInt64)]) (rest := []) (c_in w h (i.toInt64) (0) ((nI nn - nI 1).toInt64)) xc_X12_laid__X12_in gX12_laid_X12_in rfl (Nat.le_of_ble_eq_true rfl) dX12_laid_42 ?_
      rintro _ h9 ⟨rfl, e9⟩
      have e9 := e9.symm
      subst e9
      rw [decide_eq_false (fun q => hi ((inL_iff hnn).mp q))]
      show AX w M_X12_laid 0 0 45 [.ref 87, .int (nI xn), .int i] [.int (bI false)] _ _
      refine AX.if_eqB (pc := 45) (tgt := 62) dX12_laid_45 (by decide) (fun hc45 => ?_) (fun q => absurd q (by decide))
      refine AX.bipush (pc := 62) (v := (-12)) dX12_laid_62 (by decide) ?_
      refine AX.iret (pc := 64) dX12_laid_64 rfl rfl (by decide) (by decide) ?_
      exact ⟨by unfold aLaid; rw [if_pos h_x, nI_nat (show xn < 2147483648 by omega), he]; show _ = some (Value.int (if inL nn i then _ else _)); rw [if_neg hi], rfl⟩
  · refine CA.of (by decide) rfl (fun _ => Nat.le_of_ble_eq_true rfl) ?_
    show AX w M_X12_laid 0 0 0 [.ref 87, .int x, .int i] [] h _
    refine AX.iload_n (pc := 0) dX12_laid_0 rfl ?_
    refine AX.callS (pc := 1) (M2 := M_X12_isRack) (As := [.int x]) (rest := []) (c_mRack w h x) xc_X12_laid__X12_isRack gX12_laid_X12_isRack rfl (Nat.le_of_ble_eq_true rfl) dX12_laid_1 ?_
    rintro _ h9 ⟨rfl, e9⟩
    have e9 := e9.symm
    subst e9
    rw [decide_eq_false h_x]
    show AX w M_X12_laid 0 0 4 [.ref 87, .int x, .int i] [.int (bI false)] _ _
    refine AX.if_eqB (pc := 4) (tgt := 16) dX12_laid_4 (by decide) (fun hc4 => ?_) (fun q => absurd q (by decide))
    refine AX.iload_n (pc := 16) dX12_laid_16 rfl ?_
    refine AX.callS (pc := 17) (M2 := M_X12_isRack) (As := [.int x]) (rest := []) (c_mRack w h x) xc_X12_laid__X12_isRack gX12_laid_X12_isRack rfl (Nat.le_of_ble_eq_true rfl) dX12_laid_17 ?_
    rintro _ h9 ⟨rfl, e9⟩
    have e9 := e9.symm
    subst e9
    rw [decide_eq_false h_x]
    show AX w M_X12_laid 0 0 20 [.ref 87, .int x, .int i] [.int (bI false)] _ _
    refine AX.if_eqB (pc := 20) (tgt := 28) dX12_laid_20 (by decide) (fun hc20 => ?_) (fun q => absurd q (by decide))
    refine AX.iconst (pc := 28) (v := (-1)) dX12_laid_28 (by decide) ?_
    refine AX.iret (pc := 29) dX12_laid_29 rfl rfl (by decide) (by decide) ?_
    exact ⟨by unfold aLaid; rw [if_neg h_x]; try rfl, rfl⟩
theorem l_mRack (w : XW) (P : Option Value → XH → Prop) (h0 : XH) {v f4 : Nat → Int32} {x kd n : Nat} (hn0 : 118 ≤ h0.1) (hO0 : MO h0 v) (hx : x ≤ 3) (kk : ∀ h' (f : Nat → Int32), Same [117] h0 h' → h'.2 117 = .inl (0, 80, .inl f) → (∀ j, j < 20 → f (20 * x + j) = -5) → (∀ y, y ≠ x → ∀ j, j < 20 → f (20 * y + j) = f4 (20 * y + j)) → AX w M_X12_rack 0 0 94 [.ref 87, .int (nI x), .int (nI kd), .int (nI n), .int (nI 20)] [] h' P) : ∀ (g j : Nat) (h : XH) (f : Nat → Int32), j + g = 20 → Same [117] h0 h → h.2 117 = .inl (0, 80, .inl f) → (∀ i, i < j → f (20 * x + i) = -5) → (∀ y, y ≠ x → ∀ i, i < 20 → f (20 * y + i) = f4 (20 * y + i)) → AX w M_X12_rack 0 0 67 [.ref 87, .int (nI x), .int (nI kd), .int (nI n), .int (nI j)] [] h P
  | 0, j, h, f, hg, hS, e117, a1, a2 => by
    have e : j = 20 := by omega
    subst e
    have hn := hS.le hn0
    refine AX.iload (pc := 67) dX12_rack_67 rfl ?_
    refine AX.bipush (pc := 69) (v := nI 20) dX12_rack_69 (by decide) ?_
    refine AX.icmp_geN (pc := 71) (tgt := 94) dX12_rack_71 (by decide) (by decide) (by decide) (fun hc71 => ?_) (fun q => absurd q (by decide))
    exact kk h f hS e117 a1 a2
  | g + 1, j, h, f, hg, hS, e117, a1, a2 => by
    have hn := hS.le hn0
    have hO := hO0.same hS (by simp)
    refine AX.iload (pc := 67) dX12_rack_67 rfl ?_
    refine AX.bipush (pc := 69) (v := nI 20) dX12_rack_69 (by decide) ?_
    refine AX.icmp_geN (pc := 71) (tgt := 94) dX12_rack_71 (by decide) (by omega) (by decide) (fun q => absurd q (by omega)) (fun hc71 => ?_)
    refine AX.aload_n (pc := 74) dX12_rack_74 rfl ?_
    refine AX.getf (pc := 75) fX12_rack_99 (lt_k hn (by decide)) hO rfl dX12_rack_75 ?_
    refine AX.bipush (pc := 78) (v := nI 20) dX12_rack_78 (by decide) ?_
    refine AX.iload_n (pc := 80) dX12_rack_80 rfl ?_
    refine AX.imulN (pc := 81) (c := 20 * x) dX12_rack_81 rfl ?_
    refine AX.iload (pc := 82) dX12_rack_82 rfl ?_
    refine AX.iaddN (pc := 84) (c := 20 * x + j) dX12_rack_84 rfl ?_
    refine AX.bipush (pc := 85) (v := (-5)) dX12_rack_85 (by decide) ?_
    refine AX.iastN (pc := 87) (i := 20 * x + j) (g := upd f (20 * x + j) (-5)) (lt_k hn (by decide)) e117 (by decide) (by omega) rfl dX12_rack_87 ?_
    refine AX.iincN (c := j + 1) (pc := 88) (L' := [.ref 87, .int (nI x), .int (nI kd), .int (nI n), .int (nI (j + 1))]) dX12_rack_88 rfl (inc1 _) (by decide) rfl ?_
    refine AX.goto (pc := 91) (tgt := 67) dX12_rack_91 (by decide) ?_
    exact l_mRack w P h0 hn0 hO0 hx kk g (j + 1) _ _ (by omega) (hS.trans Same.rest) (xset_same _ _ _) (fun i hi => if e : i = j then (by subst e; exact upd_at _ _ _) else (by rw [upd_off (by omega)]; exact a1 i (by omega))) (fun y hy i hi => by rw [upd_off (by omega)]; exact a2 y hy i hi)
theorem c_mRacks (w : XW) (h : XH) {s : SS} (c : MS h s) (t : TR s) (x : Int32) (k : Int32) (n : Int32) : CA w M_X12_rack [.ref 87, .int x, .int k, .int n] h (fun v' h'' => v' = some (.int (aRack x k n)) ∧ Same mdS h h'' ∧ MS h'' (wk s (nRack (sk s) x k n))) := by
  obtain ⟨v, hO, hv⟩ := id c.ob
  obtain ⟨f1, f2, f3, f4, e114, e115, e116, e117, qk⟩ := id c.rk
  by_cases h_x : inR 0 3 x
  · obtain ⟨xn, rfl, l_x, u_x⟩ := inR_nat (by decide) h_x
    by_cases h_k : inR 0 5 k
    · obtain ⟨kn, rfl, l_k, u_k⟩ := inR_nat (by decide) h_k
      by_cases h_n : inR 0 20 n
      · obtain ⟨nn, rfl, l_n, u_n⟩ := inR_nat (by decide) h_n
        have en : nRack (sk s) (nI xn) (nI kn) (nI nn) = stK (sk s) xn (some (kn, nn, fun _ => -5)) := by unfold nRack; rw [if_pos h_x, if_pos h_k, if_pos h_n, nI_nat (show xn < 2147483648 by omega), nI_nat (show kn < 2147483648 by omega), nI_nat (show nn < 2147483648 by omega)]
        rw [en]
        refine CA.of (by decide) rfl (fun _ => Nat.le_of_ble_eq_true rfl) ?_
        show AX w M_X12_rack 0 0 0 [.ref 87, .int (nI xn), .int (nI kn), .int (nI nn), .null] [] h _
        refine AX.iload_n (pc := 0) dX12_rack_0 rfl ?_
        refine AX.callS (pc := 1) (M2 := M_X12_isRack) (As := [.int (nI xn)]) (rest := []) (c_mRack w h (nI xn)) xc_X12_rack__X12_isRack gX12_rack_X12_isRack rfl (Nat.le_of_ble_eq_true rfl) dX12_rack_1 ?_
        rintro _ h9 ⟨rfl, e9⟩
        have e9 := e9.symm
        subst e9
        rw [decide_eq_true h_x]
        show AX w M_X12_rack 0 0 4 [.ref 87, .int (nI xn), .int (nI kn), .int (nI nn), .null] [.int (bI true)] _ _
        refine AX.if_eqB (pc := 4) (tgt := 19) dX12_rack_4 (by decide) (fun q => absurd q (by decide)) (fun hc4 => ?_)
        refine AX.iload_n (pc := 7) dX12_rack_7 rfl ?_
        refine AX.i2l (pc := 8) dX12_rack_8 ?_
        refine AX.lconst (pc := 9) (v := 0) dX12_rack_9 (by decide) ?_
        refine AX.ldc2 (pc := 10) (v := 5) dX12_rack_10 cX12_rack_126 ?_
        refine AX.callS (pc := 13) (M2 := M_X12_in) (As := [.long ((nI kn).toInt64), .long 0, .long 5]) (rest := []) (c_in w h ((nI kn).toInt64) (0) (5)) xc_X12_rack__X12_in gX12_rack_X12_in rfl (Nat.le_of_ble_eq_true rfl) dX12_rack_13 ?_
        rintro _ h9 ⟨rfl, e9⟩
        have e9 := e9.symm
        subst e9
        rw [decide_eq_true ((in_iff (by decide) (by decide)).mpr h_k)]
        show AX w M_X12_rack 0 0 16 [.ref 87, .int (nI xn), .int (nI kn), .int (nI nn), .null] [.int (bI true)] _ _
        refine AX.if_neB (pc := 16) (tgt := 21) dX12_rack_16 (by decide) (fun hc16 => ?_) (fun q => absurd q (by decide))
        refine AX.iload_n (pc := 21) dX12_rack_21 rfl ?_
        refine AX.bipush (pc := 22) (v := nI 20) dX12_rack_22 (by decide) ?_
        refine AX.icmp_gtN (pc := 24) (tgt := 31) dX12_rack_24 (by decide) (by omega) (by decide) (fun q => absurd q (by omega)) (fun hc24 => ?_)
        refine AX.iload_n (pc := 27) dX12_rack_27 rfl ?_
        refine AX.if_geN (pc := 28) (tgt := 43) dX12_rack_28 (by decide) (by omega) (fun hc28 => ?_) (fun q => absurd q (by omega))
        refine AX.aload_n (pc := 43) dX12_rack_43 rfl ?_
        refine AX.getf (pc := 44) fX12_rack_90 (lt_k c.hn (by decide)) hO rfl dX12_rack_44 ?_
        refine AX.iload_n (pc := 47) dX12_rack_47 rfl ?_
        refine AX.iconst (pc := 48) (v := nI 1) dX12_rack_48 (by decide) ?_
        refine AX.zastN (pc := 49) (i := xn) (g := upd f1 xn (nI 1)) (lt_k c.hn (by decide)) e114 (by decide) (by omega) rfl rfl dX12_rack_49 ?_
        refine AX.aload_n (pc := 50) dX12_rack_50 rfl ?_
        refine AX.getf (pc := 51) fX12_rack_93 (lt_k c.hn (by decide)) ((xset_ne (by decide)).trans hO) rfl dX12_rack_51 ?_
        refine AX.iload_n (pc := 54) dX12_rack_54 rfl ?_
        refine AX.iload_n (pc := 55) dX12_rack_55 rfl ?_
        refine AX.iastN (pc := 56) (i := xn) (g := upd f2 xn (nI kn)) (lt_k c.hn (by decide)) ((xset_ne (by decide)).trans e115) (by decide) (by omega) rfl dX12_rack_56 ?_
        refine AX.aload_n (pc := 57) dX12_rack_57 rfl ?_
        refine AX.getf (pc := 58) fX12_rack_96 (lt_k c.hn (by decide)) ((xset_ne (by decide)).trans ((xset_ne (by decide)).trans hO)) rfl dX12_rack_58 ?_
        refine AX.iload_n (pc := 61) dX12_rack_61 rfl ?_
        refine AX.iload_n (pc := 62) dX12_rack_62 rfl ?_
        refine AX.iastN (pc := 63) (i := xn) (g := upd f3 xn (nI nn)) (lt_k c.hn (by decide)) ((xset_ne (by decide)).trans ((xset_ne (by decide)).trans e116)) (by decide) (by omega) rfl dX12_rack_63 ?_
        refine AX.iconst (pc := 64) (v := nI 0) dX12_rack_64 (by decide) ?_
        refine AX.istore (pc := 65) (L' := [.ref 87, .int (nI xn), .int (nI kn), .int (nI nn), .int (nI 0)]) dX12_rack_65 (by decide) rfl ?_
        have sx : Same [114, 115, 116] h (xset (xset (xset h 114 (.inl (1, 4, .inl (upd f1 xn (nI 1))))) 115 (.inl (0, 4, .inl (upd f2 xn (nI kn))))) 116 (.inl (0, 4, .inl (upd f3 xn (nI nn))))) := Same.set (Same.set (Same.set (Same.rf) (by simp)) (by simp)) (by simp)
        refine l_mRack w _ (xset (xset (xset h 114 (.inl (1, 4, .inl (upd f1 xn (nI 1))))) 115 (.inl (0, 4, .inl (upd f2 xn (nI kn))))) 116 (.inl (0, 4, .inl (upd f3 xn (nI nn))))) (v := v) (f4 := f4) (sx.le c.hn) (hO.same sx (by simp)) u_x (fun h2 f s2 y117 b1 b2 => ?_) 20 0 _ f4 (Nat.zero_add _) Same.rf (sx.at (by simp) e117) (fun i hi => absurd hi (Nat.not_lt_zero _)) (fun y _ i _ => rfl)
        refine AX.iconst (pc := 94) (v := nI 1) dX12_rack_94 (by decide) ?_
        refine AX.iret (pc := 95) dX12_rack_95 rfl rfl (by decide) (by decide) ?_
        have sz : Same [114, 115, 116, 117] h h2 := (sx.wide (by decide)).trans (s2.wide (by decide))
        refine ⟨by unfold aRack; rw [if_pos h_x, if_pos h_k, if_pos h_n]; rfl, mdS_lt sz (by decide), c.racks sz ⟨_, _, _, f, s2.at (by simp) ((xset_ne (by decide)).trans ((xset_ne (by decide)).trans (xset_same _ _ _))), s2.at (by simp) ((xset_ne (by decide)).trans (xset_same _ _ _)), s2.at (by simp) (xset_same _ _ _), y117, fun y hy => ?_⟩⟩
        unfold stK
        by_cases e : y = xn
        · subst e
          rw [if_pos rfl]
          exact ⟨upd_at _ _ _, upd_at _ _ _, upd_at _ _ _, fun j hj => b1 j hj⟩
        · rw [if_neg e]
          have qy := qk y hy
          cases hy2 : sk s y with
          | none =>
            rw [hy2] at qy
            exact (upd_off e).trans qy
          | some p =>
            rw [hy2] at qy
            obtain ⟨z1, z2, z3⟩ := p
            obtain ⟨y1, y2, y3, y4⟩ := qy
            exact ⟨(upd_off e).trans y1, (upd_off e).trans y2, (upd_off e).trans y3, fun j hj => (b2 y e j hj).trans (y4 j hj)⟩
      · rcases nR h_n with hl | hu
        · refine CA.of (by decide) rfl (fun _ => Nat.le_of_ble_eq_true rfl) ?_
          show AX w M_X12_rack 0 0 0 [.ref 87, .int (nI xn), .int (nI kn), .int n, .null] [] h _
          refine AX.iload_n (pc := 0) dX12_rack_0 rfl ?_
          refine AX.callS (pc := 1) (M2 := M_X12_isRack) (As := [.int (nI xn)]) (rest := []) (c_mRack w h (nI xn)) xc_X12_rack__X12_isRack gX12_rack_X12_isRack rfl (Nat.le_of_ble_eq_true rfl) dX12_rack_1 ?_
          rintro _ h9 ⟨rfl, e9⟩
          have e9 := e9.symm
          subst e9
          rw [decide_eq_true h_x]
          show AX w M_X12_rack 0 0 4 [.ref 87, .int (nI xn), .int (nI kn), .int n, .null] [.int (bI true)] _ _
          refine AX.if_eqB (pc := 4) (tgt := 19) dX12_rack_4 (by decide) (fun q => absurd q (by decide)) (fun hc4 => ?_)
          refine AX.iload_n (pc := 7) dX12_rack_7 rfl ?_
          refine AX.i2l (pc := 8) dX12_rack_8 ?_
          refine AX.lconst (pc := 9) (v := 0) dX12_rack_9 (by decide) ?_
          refine AX.ldc2 (pc := 10) (v := 5) dX12_rack_10 cX12_rack_126 ?_
          refine AX.callS (pc := 13) (M2 := M_X12_in) (As := [.long ((nI kn).toInt64), .long 0, .long 5]) (rest := []) (c_in w h ((nI kn).toInt64) (0) (5)) xc_X12_rack__X12_in gX12_rack_X12_in rfl (Nat.le_of_ble_eq_true rfl) dX12_rack_13 ?_
          rintro _ h9 ⟨rfl, e9⟩
          have e9 := e9.symm
          subst e9
          rw [decide_eq_true ((in_iff (by decide) (by decide)).mpr h_k)]
          show AX w M_X12_rack 0 0 16 [.ref 87, .int (nI xn), .int (nI kn), .int n, .null] [.int (bI true)] _ _
          refine AX.if_neB (pc := 16) (tgt := 21) dX12_rack_16 (by decide) (fun hc16 => ?_) (fun q => absurd q (by decide))
          refine AX.iload_n (pc := 21) dX12_rack_21 rfl ?_
          refine AX.bipush (pc := 22) (v := nI 20) dX12_rack_22 (by decide) ?_
          refine AX.icmp_gt (pc := 24) (tgt := 31) dX12_rack_24 (by decide) (fun q => absurd q (ltF (iN 20 (by omega)) rfl (by omega))) (fun hc24 => ?_)
          refine AX.iload_n (pc := 27) dX12_rack_27 rfl ?_
          refine AX.if_ge (pc := 28) (tgt := 43) dX12_rack_28 (by decide) (fun q => absurd q (leF i0 rfl (by omega))) (fun hc28 => ?_)
          refine AX.iload_n (pc := 31) dX12_rack_31 rfl ?_
          refine AX.if_ge (pc := 32) (tgt := 40) dX12_rack_32 (by decide) (fun q => absurd q (leF i0 rfl (by omega))) (fun hc32 => ?_)
          refine AX.bipush (pc := 35) (v := (-14)) dX12_rack_35 (by decide) ?_
          refine AX.goto (pc := 37) (tgt := 42) dX12_rack_37 (by decide) ?_
          refine AX.iret (pc := 42) dX12_rack_42 rfl rfl (by decide) (by decide) ?_
          have en : nRack (sk s) (nI xn) (nI kn) n = sk s := by unfold nRack; rw [if_pos h_x, if_pos h_k, if_neg h_n]
          rw [en]
          exact ⟨by unfold aRack; rw [if_pos h_x, if_pos h_k, if_neg h_n]; first | (rw [if_pos (show n.toInt < 0 by omega)]) | (rw [if_neg (by omega)]) | rfl, Same.rf, c⟩
        · refine CA.of (by decide) rfl (fun _ => Nat.le_of_ble_eq_true rfl) ?_
          show AX w M_X12_rack 0 0 0 [.ref 87, .int (nI xn), .int (nI kn), .int n, .null] [] h _
          refine AX.iload_n (pc := 0) dX12_rack_0 rfl ?_
          refine AX.callS (pc := 1) (M2 := M_X12_isRack) (As := [.int (nI xn)]) (rest := []) (c_mRack w h (nI xn)) xc_X12_rack__X12_isRack gX12_rack_X12_isRack rfl (Nat.le_of_ble_eq_true rfl) dX12_rack_1 ?_
          rintro _ h9 ⟨rfl, e9⟩
          have e9 := e9.symm
          subst e9
          rw [decide_eq_true h_x]
          show AX w M_X12_rack 0 0 4 [.ref 87, .int (nI xn), .int (nI kn), .int n, .null] [.int (bI true)] _ _
          refine AX.if_eqB (pc := 4) (tgt := 19) dX12_rack_4 (by decide) (fun q => absurd q (by decide)) (fun hc4 => ?_)
          refine AX.iload_n (pc := 7) dX12_rack_7 rfl ?_
          refine AX.i2l (pc := 8) dX12_rack_8 ?_
          refine AX.lconst (pc := 9) (v := 0) dX12_rack_9 (by decide) ?_
          refine AX.ldc2 (pc := 10) (v := 5) dX12_rack_10 cX12_rack_126 ?_
          refine AX.callS (pc := 13) (M2 := M_X12_in) (As := [.long ((nI kn).toInt64), .long 0, .long 5]) (rest := []) (c_in w h ((nI kn).toInt64) (0) (5)) xc_X12_rack__X12_in gX12_rack_X12_in rfl (Nat.le_of_ble_eq_true rfl) dX12_rack_13 ?_
          rintro _ h9 ⟨rfl, e9⟩
          have e9 := e9.symm
          subst e9
          rw [decide_eq_true ((in_iff (by decide) (by decide)).mpr h_k)]
          show AX w M_X12_rack 0 0 16 [.ref 87, .int (nI xn), .int (nI kn), .int n, .null] [.int (bI true)] _ _
          refine AX.if_neB (pc := 16) (tgt := 21) dX12_rack_16 (by decide) (fun hc16 => ?_) (fun q => absurd q (by decide))
          refine AX.iload_n (pc := 21) dX12_rack_21 rfl ?_
          refine AX.bipush (pc := 22) (v := nI 20) dX12_rack_22 (by decide) ?_
          refine AX.icmp_gt (pc := 24) (tgt := 31) dX12_rack_24 (by decide) (fun hc24 => ?_) (fun q => absurd (ltT (iN 20 (by omega)) rfl (by omega)) q)
          refine AX.iload_n (pc := 31) dX12_rack_31 rfl ?_
          refine AX.if_ge (pc := 32) (tgt := 40) dX12_rack_32 (by decide) (fun hc32 => ?_) (fun q => absurd (leT i0 rfl (by omega)) q)
          refine AX.bipush (pc := 40) (v := (-2)) dX12_rack_40 (by decide) ?_
          refine AX.iret (pc := 42) dX12_rack_42 rfl rfl (by decide) (by decide) ?_
          have en : nRack (sk s) (nI xn) (nI kn) n = sk s := by unfold nRack; rw [if_pos h_x, if_pos h_k, if_neg h_n]
          rw [en]
          exact ⟨by unfold aRack; rw [if_pos h_x, if_pos h_k, if_neg h_n]; first | (rw [if_pos (show n.toInt < 0 by omega)]) | (rw [if_neg (by omega)]) | rfl, Same.rf, c⟩
    · refine CA.of (by decide) rfl (fun _ => Nat.le_of_ble_eq_true rfl) ?_
      show AX w M_X12_rack 0 0 0 [.ref 87, .int (nI xn), .int k, .int n, .null] [] h _
      refine AX.iload_n (pc := 0) dX12_rack_0 rfl ?_
      refine AX.callS (pc := 1) (M2 := M_X12_isRack) (As := [.int (nI xn)]) (rest := []) (c_mRack w h (nI xn)) xc_X12_rack__X12_isRack gX12_rack_X12_isRack rfl (Nat.le_of_ble_eq_true rfl) dX12_rack_1 ?_
      rintro _ h9 ⟨rfl, e9⟩
      have e9 := e9.symm
      subst e9
      rw [decide_eq_true h_x]
      show AX w M_X12_rack 0 0 4 [.ref 87, .int (nI xn), .int k, .int n, .null] [.int (bI true)] _ _
      refine AX.if_eqB (pc := 4) (tgt := 19) dX12_rack_4 (by decide) (fun q => absurd q (by decide)) (fun hc4 => ?_)
      refine AX.iload_n (pc := 7) dX12_rack_7 rfl ?_
      refine AX.i2l (pc := 8) dX12_rack_8 ?_
      refine AX.lconst (pc := 9) (v := 0) dX12_rack_9 (by decide) ?_
      refine AX.ldc2 (pc := 10) (v := 5) dX12_rack_10 cX12_rack_126 ?_
      refine AX.callS (pc := 13) (M2 := M_X12_in) (As := [.long k.toInt64, .long 0, .long 5]) (rest := []) (c_in w h (k.toInt64) (0) (5)) xc_X12_rack__X12_in gX12_rack_X12_in rfl (Nat.le_of_ble_eq_true rfl) dX12_rack_13 ?_
      rintro _ h9 ⟨rfl, e9⟩
      have e9 := e9.symm
      subst e9
      rw [decide_eq_false (fun q => h_k ((in_iff (by decide) (by decide)).mp q))]
      show AX w M_X12_rack 0 0 16 [.ref 87, .int (nI xn), .int k, .int n, .null] [.int (bI false)] _ _
      refine AX.if_neB (pc := 16) (tgt := 21) dX12_rack_16 (by decide) (fun q => absurd q (by decide)) (fun hc16 => ?_)
      refine AX.iconst (pc := 19) (v := (-1)) dX12_rack_19 (by decide) ?_
      refine AX.iret (pc := 20) dX12_rack_20 rfl rfl (by decide) (by decide) ?_
      have en : nRack (sk s) (nI xn) k n = sk s := by unfold nRack; rw [if_pos h_x, if_neg h_k]
      rw [en]
      exact ⟨by unfold aRack; rw [if_pos h_x, if_neg h_k]; try rfl, Same.rf, c⟩
  · refine CA.of (by decide) rfl (fun _ => Nat.le_of_ble_eq_true rfl) ?_
    show AX w M_X12_rack 0 0 0 [.ref 87, .int x, .int k, .int n, .null] [] h _
    refine AX.iload_n (pc := 0) dX12_rack_0 rfl ?_
    refine AX.callS (pc := 1) (M2 := M_X12_isRack) (As := [.int x]) (rest := []) (c_mRack w h x) xc_X12_rack__X12_isRack gX12_rack_X12_isRack rfl (Nat.le_of_ble_eq_true rfl) dX12_rack_1 ?_
    rintro _ h9 ⟨rfl, e9⟩
    have e9 := e9.symm
    subst e9
    rw [decide_eq_false h_x]
    show AX w M_X12_rack 0 0 4 [.ref 87, .int x, .int k, .int n, .null] [.int (bI false)] _ _
    refine AX.if_eqB (pc := 4) (tgt := 19) dX12_rack_4 (by decide) (fun hc4 => ?_) (fun q => absurd q (by decide))
    refine AX.iconst (pc := 19) (v := (-1)) dX12_rack_19 (by decide) ?_
    refine AX.iret (pc := 20) dX12_rack_20 rfl rfl (by decide) (by decide) ?_
    have en : nRack (sk s) x k n = sk s := by unfold nRack; rw [if_neg h_x]
    rw [en]
    exact ⟨by unfold aRack; rw [if_neg h_x]; try rfl, Same.rf, c⟩
theorem l_mLike (w : XW) (P : Option Value → XH → Prop) (h0 : XH) {v f4 : Nat → Int32} {x y : Nat} (hn0 : 118 ≤ h0.1) (hO0 : MO h0 v) (hx : x ≤ 3) (hy : y ≤ 3) (kk : ∀ h' (f : Nat → Int32), Same [117] h0 h' → h'.2 117 = .inl (0, 80, .inl f) → (∀ j, j < 20 → f (20 * x + j) = f4 (20 * y + j)) → (∀ y, y ≠ x → ∀ j, j < 20 → f (20 * y + j) = f4 (20 * y + j)) → AX w M_X12_like 0 0 95 [.ref 87, .int (nI x), .int (nI y), .int (nI 20)] [] h' P) : ∀ (g j : Nat) (h : XH) (f : Nat → Int32), j + g = 20 → Same [117] h0 h → h.2 117 = .inl (0, 80, .inl f) → (∀ i, i < j → f (20 * x + i) = f4 (20 * y + i)) → (∀ i, j ≤ i → i < 20 → f (20 * x + i) = f4 (20 * x + i)) → (∀ y, y ≠ x → ∀ i, i < 20 → f (20 * y + i) = f4 (20 * y + i)) → AX w M_X12_like 0 0 61 [.ref 87, .int (nI x), .int (nI y), .int (nI j)] [] h P
  | 0, j, h, f, hg, hS, e117, a1, a3, a2 => by
    have e : j = 20 := by omega
    subst e
    have hn := hS.le hn0
    refine AX.iload_n (pc := 61) dX12_like_61 rfl ?_
    refine AX.bipush (pc := 62) (v := nI 20) dX12_like_62 (by decide) ?_
    refine AX.icmp_geN (pc := 64) (tgt := 95) dX12_like_64 (by decide) (by decide) (by decide) (fun hc64 => ?_) (fun q => absurd q (by decide))
    exact kk h f hS e117 a1 a2
  | g + 1, j, h, f, hg, hS, e117, a1, a3, a2 => by
    have hn := hS.le hn0
    have hO := hO0.same hS (by simp)
    have hrd : f (20 * y + j) = f4 (20 * y + j) := if e : y = x then (by subst e; exact a3 j (Nat.le_refl _) (by omega)) else (by exact a2 y e j (by omega))
    refine AX.iload_n (pc := 61) dX12_like_61 rfl ?_
    refine AX.bipush (pc := 62) (v := nI 20) dX12_like_62 (by decide) ?_
    refine AX.icmp_geN (pc := 64) (tgt := 95) dX12_like_64 (by decide) (by omega) (by decide) (fun q => absurd q (by omega)) (fun hc64 => ?_)
    refine AX.aload_n (pc := 67) dX12_like_67 rfl ?_
    refine AX.getf (pc := 68) fX12_like_99 (lt_k hn (by decide)) hO rfl dX12_like_68 ?_
    refine AX.bipush (pc := 71) (v := nI 20) dX12_like_71 (by decide) ?_
    refine AX.iload_n (pc := 73) dX12_like_73 rfl ?_
    refine AX.imulN (pc := 74) (c := 20 * x) dX12_like_74 rfl ?_
    refine AX.iload_n (pc := 75) dX12_like_75 rfl ?_
    refine AX.iaddN (pc := 76) (c := 20 * x + j) dX12_like_76 rfl ?_
    refine AX.aload_n (pc := 77) dX12_like_77 rfl ?_
    refine AX.getf (pc := 78) fX12_like_99 (lt_k hn (by decide)) hO rfl dX12_like_78 ?_
    refine AX.bipush (pc := 81) (v := nI 20) dX12_like_81 (by decide) ?_
    refine AX.iload_n (pc := 83) dX12_like_83 rfl ?_
    refine AX.imulN (pc := 84) (c := 20 * y) dX12_like_84 rfl ?_
    refine AX.iload_n (pc := 85) dX12_like_85 rfl ?_
    refine AX.iaddN (pc := 86) (c := 20 * y + j) dX12_like_86 rfl ?_
    refine AX.ialdN (pc := 87) (i := 20 * y + j) (v := (f4 (20 * y + j))) (lt_k hn (by decide)) e117 (by decide) (by omega) hrd dX12_like_87 ?_
    refine AX.iastN (pc := 88) (i := 20 * x + j) (g := upd f (20 * x + j) (f4 (20 * y + j))) (lt_k hn (by decide)) e117 (by decide) (by omega) rfl dX12_like_88 ?_
    refine AX.iincN (c := j + 1) (pc := 89) (L' := [.ref 87, .int (nI x), .int (nI y), .int (nI (j + 1))]) dX12_like_89 rfl (inc1 _) (by decide) rfl ?_
    refine AX.goto (pc := 92) (tgt := 61) dX12_like_92 (by decide) ?_
    exact l_mLike w P h0 hn0 hO0 hx hy kk g (j + 1) _ _ (by omega) (hS.trans Same.rest) (xset_same _ _ _) (fun i hi => if e : i = j then (by subst e; exact upd_at _ _ _) else (by rw [upd_off (by omega)]; exact a1 i (by omega))) (fun i h1 h2 => by rw [upd_off (by omega)]; exact a3 i (by omega) h2) (fun y hy i hi => by rw [upd_off (by omega)]; exact a2 y hy i hi)
theorem c_mLike (w : XW) (h : XH) {s : SS} (c : MS h s) (t : TR s) (x : Int32) (y : Int32) : CA w M_X12_like [.ref 87, .int x, .int y] h (fun v' h'' => v' = some (.int (aLike (sk s) x y)) ∧ Same mdS h h'' ∧ MS h'' (wk s (nLike (sk s) x y))) := by
  obtain ⟨v, hO, hv⟩ := id c.ob
  obtain ⟨f1, f2, f3, f4, e114, e115, e116, e117, qk⟩ := id c.rk
  by_cases h_x : inR 0 3 x
  · obtain ⟨xn, rfl, l_x, u_x⟩ := inR_nat (by decide) h_x
    by_cases h_y : inR 0 3 y
    · obtain ⟨yn, rfl, l_y, u_y⟩ := inR_nat (by decide) h_y
      have okk := t.at yn
      have qx := qk yn (by omega)
      cases he : sk s yn with
      | none =>
        rw [he] at qx okk
        have qx : f1 yn = bI false := qx
        have en : nLike (sk s) (nI xn) (nI yn) = sk s := by unfold nLike; rw [if_pos h_x, if_pos h_y, nI_nat (show yn < 2147483648 by omega), he]
        rw [en]
        refine CA.of (by decide) rfl (fun _ => Nat.le_of_ble_eq_true rfl) ?_
        show AX w M_X12_like 0 0 0 [.ref 87, .int (nI xn), .int (nI yn), .null] [] h _
        refine AX.iload_n (pc := 0) dX12_like_0 rfl ?_
        refine AX.callS (pc := 1) (M2 := M_X12_isRack) (As := [.int (nI xn)]) (rest := []) (c_mRack w h (nI xn)) xc_X12_like__X12_isRack gX12_like_X12_isRack rfl (Nat.le_of_ble_eq_true rfl) dX12_like_1 ?_
        rintro _ h9 ⟨rfl, e9⟩
        have e9 := e9.symm
        subst e9
        rw [decide_eq_true h_x]
        show AX w M_X12_like 0 0 4 [.ref 87, .int (nI xn), .int (nI yn), .null] [.int (bI true)] _ _
        refine AX.if_eqB (pc := 4) (tgt := 14) dX12_like_4 (by decide) (fun q => absurd q (by decide)) (fun hc4 => ?_)
        refine AX.iload_n (pc := 7) dX12_like_7 rfl ?_
        refine AX.callS (pc := 8) (M2 := M_X12_isRack) (As := [.int (nI yn)]) (rest := []) (c_mRack w h (nI yn)) xc_X12_like__X12_isRack gX12_like_X12_isRack rfl (Nat.le_of_ble_eq_true rfl) dX12_like_8 ?_
        rintro _ h9 ⟨rfl, e9⟩
        have e9 := e9.symm
        subst e9
        rw [decide_eq_true h_y]
        show AX w M_X12_like 0 0 11 [.ref 87, .int (nI xn), .int (nI yn), .null] [.int (bI true)] _ _
        refine AX.if_neB (pc := 11) (tgt := 16) dX12_like_11 (by decide) (fun hc11 => ?_) (fun q => absurd q (by decide))
        refine AX.aload_n (pc := 16) dX12_like_16 rfl ?_
        refine AX.getf (pc := 17) fX12_like_90 (lt_k c.hn (by decide)) hO rfl dX12_like_17 ?_
        refine AX.iload_n (pc := 20) dX12_like_20 rfl ?_
        refine AX.zaldN (pc := 21) (i := yn) (v := (bI false)) (lt_k c.hn (by decide)) e114 (by decide) (by omega) qx dX12_like_21 ?_
        refine AX.if_neB (pc := 22) (tgt := 28) dX12_like_22 (by decide) (fun q => absurd q (by decide)) (fun hc22 => ?_)
        refine AX.bipush (pc := 25) (v := (-11)) dX12_like_25 (by decide) ?_
        refine AX.iret (pc := 27) dX12_like_27 rfl rfl (by decide) (by decide) ?_
        exact ⟨by unfold aLike; rw [if_pos h_x, if_pos h_y, nI_nat (show yn < 2147483648 by omega), he], Same.rf, c⟩
      | some p =>
        rw [he] at qx okk
        obtain ⟨kk, nn, g⟩ := p
        obtain ⟨x1, x2, x3, x4⟩ := qx
        have hkk : kk ≤ 5 := okk.1
        have hnn : nn ≤ 20 := okk.2.1
        have en : nLike (sk s) (nI xn) (nI yn) = stK (sk s) xn (some (kk, nn, g)) := by unfold nLike; rw [if_pos h_x, if_pos h_y, nI_nat (show yn < 2147483648 by omega), nI_nat (show xn < 2147483648 by omega), he]
        rw [en]
        refine CA.of (by decide) rfl (fun _ => Nat.le_of_ble_eq_true rfl) ?_
        show AX w M_X12_like 0 0 0 [.ref 87, .int (nI xn), .int (nI yn), .null] [] h _
        refine AX.iload_n (pc := 0) dX12_like_0 rfl ?_
        refine AX.callS (pc := 1) (M2 := M_X12_isRack) (As := [.int (nI xn)]) (rest := []) (c_mRack w h (nI xn)) xc_X12_like__X12_isRack gX12_like_X12_isRack rfl (Nat.le_of_ble_eq_true rfl) dX12_like_1 ?_
        rintro _ h9 ⟨rfl, e9⟩
        have e9 := e9.symm
        subst e9
        rw [decide_eq_true h_x]
        show AX w M_X12_like 0 0 4 [.ref 87, .int (nI xn), .int (nI yn), .null] [.int (bI true)] _ _
        refine AX.if_eqB (pc := 4) (tgt := 14) dX12_like_4 (by decide) (fun q => absurd q (by decide)) (fun hc4 => ?_)
        refine AX.iload_n (pc := 7) dX12_like_7 rfl ?_
        refine AX.callS (pc := 8) (M2 := M_X12_isRack) (As := [.int (nI yn)]) (rest := []) (c_mRack w h (nI yn)) xc_X12_like__X12_isRack gX12_like_X12_isRack rfl (Nat.le_of_ble_eq_true rfl) dX12_like_8 ?_
        rintro _ h9 ⟨rfl, e9⟩
        have e9 := e9.symm
        subst e9
        rw [decide_eq_true h_y]
        show AX w M_X12_like 0 0 11 [.ref 87, .int (nI xn), .int (nI yn), .null] [.int (bI true)] _ _
        refine AX.if_neB (pc := 11) (tgt := 16) dX12_like_11 (by decide) (fun hc11 => ?_) (fun q => absurd q (by decide))
        refine AX.aload_n (pc := 16) dX12_like_16 rfl ?_
        refine AX.getf (pc := 17) fX12_like_90 (lt_k c.hn (by decide)) hO rfl dX12_like_17 ?_
        refine AX.iload_n (pc := 20) dX12_like_20 rfl ?_
        refine AX.zaldN (pc := 21) (i := yn) (v := (bI true)) (lt_k c.hn (by decide)) e114 (by decide) (by omega) x1 dX12_like_21 ?_
        refine AX.if_neB (pc := 22) (tgt := 28) dX12_like_22 (by decide) (fun hc22 => ?_) (fun q => absurd q (by decide))
        refine AX.aload_n (pc := 28) dX12_like_28 rfl ?_
        refine AX.getf (pc := 29) fX12_like_90 (lt_k c.hn (by decide)) hO rfl dX12_like_29 ?_
        refine AX.iload_n (pc := 32) dX12_like_32 rfl ?_
        refine AX.iconst (pc := 33) (v := nI 1) dX12_like_33 (by decide) ?_
        refine AX.zastN (pc := 34) (i := xn) (g := upd f1 xn (nI 1)) (lt_k c.hn (by decide)) e114 (by decide) (by omega) rfl rfl dX12_like_34 ?_
        refine AX.aload_n (pc := 35) dX12_like_35 rfl ?_
        refine AX.getf (pc := 36) fX12_like_93 (lt_k c.hn (by decide)) ((xset_ne (by decide)).trans hO) rfl dX12_like_36 ?_
        refine AX.iload_n (pc := 39) dX12_like_39 rfl ?_
        refine AX.aload_n (pc := 40) dX12_like_40 rfl ?_
        refine AX.getf (pc := 41) fX12_like_93 (lt_k c.hn (by decide)) ((xset_ne (by decide)).trans hO) rfl dX12_like_41 ?_
        refine AX.iload_n (pc := 44) dX12_like_44 rfl ?_
        refine AX.ialdN (pc := 45) (i := yn) (v := (nI kk)) (lt_k c.hn (by decide)) ((xset_ne (by decide)).trans e115) (by decide) (by omega) x2 dX12_like_45 ?_
        refine AX.iastN (pc := 46) (i := xn) (g := upd f2 xn (nI kk)) (lt_k c.hn (by decide)) ((xset_ne (by decide)).trans e115) (by decide) (by omega) rfl dX12_like_46 ?_
        refine AX.aload_n (pc := 47) dX12_like_47 rfl ?_
        refine AX.getf (pc := 48) fX12_like_96 (lt_k c.hn (by decide)) ((xset_ne (by decide)).trans ((xset_ne (by decide)).trans hO)) rfl dX12_like_48 ?_
        refine AX.iload_n (pc := 51) dX12_like_51 rfl ?_
        refine AX.aload_n (pc := 52) dX12_like_52 rfl ?_
        refine AX.getf (pc := 53) fX12_like_96 (lt_k c.hn (by decide)) ((xset_ne (by decide)).trans ((xset_ne (by decide)).trans hO)) rfl dX12_like_53 ?_
        refine AX.iload_n (pc := 56) dX12_like_56 rfl ?_
        refine AX.ialdN (pc := 57) (i := yn) (v := (nI nn)) (lt_k c.hn (by decide)) ((xset_ne (by decide)).trans ((xset_ne (by decide)).trans e116)) (by decide) (by omega) x3 dX12_like_57 ?_
        refine AX.iastN (pc := 58) (i := xn) (g := upd f3 xn (nI nn)) (lt_k c.hn (by decide)) ((xset_ne (by decide)).trans ((xset_ne (by decide)).trans e116)) (by decide) (by omega) rfl dX12_like_58 ?_
        refine AX.iconst (pc := 59) (v := nI 0) dX12_like_59 (by decide) ?_
        refine AX.istore_n (pc := 60) (L' := [.ref 87, .int (nI xn), .int (nI yn), .int (nI 0)]) dX12_like_60 (by decide) rfl ?_
        have sx : Same [114, 115, 116] h (xset (xset (xset h 114 (.inl (1, 4, .inl (upd f1 xn (nI 1))))) 115 (.inl (0, 4, .inl (upd f2 xn (nI kk))))) 116 (.inl (0, 4, .inl (upd f3 xn (nI nn))))) := Same.set (Same.set (Same.set (Same.rf) (by simp)) (by simp)) (by simp)
        refine l_mLike w _ (xset (xset (xset h 114 (.inl (1, 4, .inl (upd f1 xn (nI 1))))) 115 (.inl (0, 4, .inl (upd f2 xn (nI kk))))) 116 (.inl (0, 4, .inl (upd f3 xn (nI nn))))) (v := v) (f4 := f4) (sx.le c.hn) (hO.same sx (by simp)) u_x u_y (fun h2 f s2 y117 b1 b2 => ?_) 20 0 _ f4 (Nat.zero_add _) Same.rf (sx.at (by simp) e117) (fun i hi => absurd hi (Nat.not_lt_zero _)) (fun i _ _ => rfl) (fun y _ i _ => rfl)
        have y116 := s2.at (by simp) (xset_same _ _ _)
        refine AX.aload_n (pc := 95) dX12_like_95 rfl ?_
        refine AX.getf (pc := 96) fX12_like_96 (lt_k (s2.le (sx.le c.hn)) (by omega)) (s2.at (by simp) (sx.at (by simp) hO)) rfl dX12_like_96 ?_
        refine AX.iload_n (pc := 99) dX12_like_99 rfl ?_
        refine AX.ialdN (pc := 100) (i := xn) (v := (nI nn)) (lt_k (s2.le (sx.le c.hn)) (by omega)) y116 (by decide) (by omega) (upd_at _ _ _) dX12_like_100 ?_
        refine AX.iret (pc := 101) dX12_like_101 rfl rfl (by decide) (by decide) ?_
        have sz : Same [114, 115, 116, 117] h h2 := (sx.wide (by decide)).trans (s2.wide (by decide))
        refine ⟨by unfold aLike; rw [if_pos h_x, if_pos h_y, nI_nat (show yn < 2147483648 by omega), he], mdS_lt sz (by decide), c.racks sz ⟨_, _, _, f, s2.at (by simp) ((xset_ne (by decide)).trans ((xset_ne (by decide)).trans (xset_same _ _ _))), s2.at (by simp) ((xset_ne (by decide)).trans (xset_same _ _ _)), y116, y117, fun y hy => ?_⟩⟩
        unfold stK
        by_cases e : y = xn
        · subst e
          rw [if_pos rfl]
          exact ⟨upd_at _ _ _, upd_at _ _ _, upd_at _ _ _, fun j hj => (b1 j hj).trans (x4 j hj)⟩
        · rw [if_neg e]
          have qy := qk y hy
          cases hy2 : sk s y with
          | none =>
            rw [hy2] at qy
            exact (upd_off e).trans qy
          | some p =>
            rw [hy2] at qy
            obtain ⟨z1, z2, z3⟩ := p
            obtain ⟨y1, y2, y3, y4⟩ := qy
            exact ⟨(upd_off e).trans y1, (upd_off e).trans y2, (upd_off e).trans y3, fun j hj => (b2 y e j hj).trans (y4 j hj)⟩
    · refine CA.of (by decide) rfl (fun _ => Nat.le_of_ble_eq_true rfl) ?_
      show AX w M_X12_like 0 0 0 [.ref 87, .int (nI xn), .int y, .null] [] h _
      refine AX.iload_n (pc := 0) dX12_like_0 rfl ?_
      refine AX.callS (pc := 1) (M2 := M_X12_isRack) (As := [.int (nI xn)]) (rest := []) (c_mRack w h (nI xn)) xc_X12_like__X12_isRack gX12_like_X12_isRack rfl (Nat.le_of_ble_eq_true rfl) dX12_like_1 ?_
      rintro _ h9 ⟨rfl, e9⟩
      have e9 := e9.symm
      subst e9
      rw [decide_eq_true h_x]
      show AX w M_X12_like 0 0 4 [.ref 87, .int (nI xn), .int y, .null] [.int (bI true)] _ _
      refine AX.if_eqB (pc := 4) (tgt := 14) dX12_like_4 (by decide) (fun q => absurd q (by decide)) (fun hc4 => ?_)
      refine AX.iload_n (pc := 7) dX12_like_7 rfl ?_
      refine AX.callS (pc := 8) (M2 := M_X12_isRack) (As := [.int y]) (rest := []) (c_mRack w h y) xc_X12_like__X12_isRack gX12_like_X12_isRack rfl (Nat.le_of_ble_eq_true rfl) dX12_like_8 ?_
      rintro _ h9 ⟨rfl, e9⟩
      have e9 := e9.symm
      subst e9
      rw [decide_eq_false h_y]
      show AX w M_X12_like 0 0 11 [.ref 87, .int (nI xn), .int y, .null] [.int (bI false)] _ _
      refine AX.if_neB (pc := 11) (tgt := 16) dX12_like_11 (by decide) (fun q => absurd q (by decide)) (fun hc11 => ?_)
      refine AX.iconst (pc := 14) (v := (-1)) dX12_like_14 (by decide) ?_
      refine AX.iret (pc := 15) dX12_like_15 rfl rfl (by decide) (by decide) ?_
      have en : nLike (sk s) (nI xn) y = sk s := by unfold nLike; rw [if_pos h_x, if_neg h_y]
      rw [en]
      exact ⟨by unfold aLike; rw [if_pos h_x, if_neg h_y]; try rfl, Same.rf, c⟩
  · refine CA.of (by decide) rfl (fun _ => Nat.le_of_ble_eq_true rfl) ?_
    show AX w M_X12_like 0 0 0 [.ref 87, .int x, .int y, .null] [] h _
    refine AX.iload_n (pc := 0) dX12_like_0 rfl ?_
    refine AX.callS (pc := 1) (M2 := M_X12_isRack) (As := [.int x]) (rest := []) (c_mRack w h x) xc_X12_like__X12_isRack gX12_like_X12_isRack rfl (Nat.le_of_ble_eq_true rfl) dX12_like_1 ?_
    rintro _ h9 ⟨rfl, e9⟩
    have e9 := e9.symm
    subst e9
    rw [decide_eq_false h_x]
    show AX w M_X12_like 0 0 4 [.ref 87, .int x, .int y, .null] [.int (bI false)] _ _
    refine AX.if_eqB (pc := 4) (tgt := 14) dX12_like_4 (by decide) (fun hc4 => ?_) (fun q => absurd q (by decide))
    refine AX.iconst (pc := 14) (v := (-1)) dX12_like_14 (by decide) ?_
    refine AX.iret (pc := 15) dX12_like_15 rfl rfl (by decide) (by decide) ?_
    have en : nLike (sk s) x y = sk s := by unfold nLike; rw [if_neg h_x]
    rw [en]
    exact ⟨by unfold aLike; rw [if_neg h_x]; try rfl, Same.rf, c⟩
theorem c_mLays (w : XW) (h : XH) {s : SS} (c : MS h s) (t : TR s) (x : Int32) (i : Int32) (z : Int32) : CA w M_X12_lays [.ref 87, .int x, .int i, .int z] h (fun v' h'' => v' = some (.int (aLays (sk s) x i z)) ∧ Same mdS h h'' ∧ MS h'' (wk s (nLays (sk s) x i z))) := by
  obtain ⟨v, hO, hv⟩ := id c.ob
  obtain ⟨f1, f2, f3, f4, e114, e115, e116, e117, qk⟩ := id c.rk
  by_cases h_x : inR 0 3 x
  · obtain ⟨xn, rfl, l_x, u_x⟩ := inR_nat (by decide) h_x
    by_cases hz : z = -1 ∨ inR 0 62 z
    · have okk := t.at xn
      have qx := qk xn (by omega)
      cases he : sk s xn with
      | none =>
        rw [he] at qx okk
        have qx : f1 xn = bI false := qx
        have en : nLays (sk s) (nI xn) i z = sk s := by unfold nLays; rw [if_pos h_x, if_pos hz, nI_nat (show xn < 2147483648 by omega), he]
        rw [en]
        refine CA.of (by decide) rfl (fun _ => Nat.le_of_ble_eq_true rfl) ?_
        show AX w M_X12_lays 0 0 0 [.ref 87, .int (nI xn), .int i, .int z] [] h _
        refine AX.iload_n (pc := 0) dX12_lays_0 rfl ?_
        refine AX.callS (pc := 1) (M2 := M_X12_isRack) (As := [.int (nI xn)]) (rest := []) (c_mRack w h (nI xn)) xc_X12_lays__X12_isRack gX12_lays_X12_isRack rfl (Nat.le_of_ble_eq_true rfl) dX12_lays_1 ?_
        rintro _ h9 ⟨rfl, e9⟩
        have e9 := e9.symm
        subst e9
        rw [decide_eq_true h_x]
        show AX w M_X12_lays 0 0 4 [.ref 87, .int (nI xn), .int i, .int z] [.int (bI true)] _ _
        refine AX.if_eqB (pc := 4) (tgt := 21) dX12_lays_4 (by decide) (fun q => absurd q (by decide)) (fun hc4 => ?_)
        refine AX.iload_n (pc := 7) dX12_lays_7 rfl ?_
        refine AX.i2l (pc := 8) dX12_lays_8 ?_
        refine AX.ldc2 (pc := 9) (v := (-1)) dX12_lays_9 cX12_lays_274 ?_
        refine AX.ldc2 (pc := 12) (v := 62) dX12_lays_12 cX12_lays_112 ?_
        refine AX.callS (pc := 15) (M2 := M_X12_in) (As := [.long z.toInt64, .long (-1), .long 62]) (rest := []) (c_in w h (z.toInt64) ((-1)) (62)) xc_X12_lays__X12_in gX12_lays_X12_in rfl (Nat.le_of_ble_eq_true rfl) dX12_lays_15 ?_
        rintro _ h9 ⟨rfl, e9⟩
        have e9 := e9.symm
        subst e9
        rw [decide_eq_true (bm1_iff.mpr hz)]
        show AX w M_X12_lays 0 0 18 [.ref 87, .int (nI xn), .int i, .int z] [.int (bI true)] _ _
        refine AX.if_neB (pc := 18) (tgt := 23) dX12_lays_18 (by decide) (fun hc18 => ?_) (fun q => absurd q (by decide))
        refine AX.aload_n (pc := 23) dX12_lays_23 rfl ?_
        refine AX.getf (pc := 24) fX12_lays_90 (lt_k c.hn (by decide)) hO rfl dX12_lays_24 ?_
        refine AX.iload_n (pc := 27) dX12_lays_27 rfl ?_
        refine AX.zaldN (pc := 28) (i := xn) (v := (bI false)) (lt_k c.hn (by decide)) e114 (by decide) (by omega) qx dX12_lays_28 ?_
        refine AX.if_neB (pc := 29) (tgt := 35) dX12_lays_29 (by decide) (fun q => absurd q (by decide)) (fun hc29 => ?_)
        refine AX.bipush (pc := 32) (v := (-11)) dX12_lays_32 (by decide) ?_
        refine AX.iret (pc := 34) dX12_lays_34 rfl rfl (by decide) (by decide) ?_
        exact ⟨by unfold aLays; rw [if_pos h_x, if_pos hz, nI_nat (show xn < 2147483648 by omega), he], Same.rf, c⟩
      | some p =>
        rw [he] at qx okk
        obtain ⟨kk, nn, g⟩ := p
        obtain ⟨x1, x2, x3, x4⟩ := qx
        have hkk : kk ≤ 5 := okk.1
        have hnn : nn ≤ 20 := okk.2.1
        by_cases hi : inL nn i
        · obtain ⟨in_, rfl, u_i⟩ := inL_nat hi
          by_cases hm : z = -1
          · have hu : z = -1 ∨ unN z.toNatClampNeg kk = true := Or.inl hm
            have en : nLays (sk s) (nI xn) (nI in_) z = stK (sk s) xn (some (kk, nn, upd g in_ (-5))) := by unfold nLays; rw [if_pos h_x, if_pos hz, nI_nat (show xn < 2147483648 by omega), he]; show (if inL nn (nI in_) then (if z = -1 ∨ unN (z).toNatClampNeg kk = true then stK (sk s) xn (some (kk, nn, upd g (nI in_).toNatClampNeg (if z = -1 then -5 else z))) else sk s) else sk s) = _; rw [if_pos hi, if_pos hu, nI_nat (show in_ < 2147483648 by omega), if_pos hm]
            rw [en]
            refine CA.of (by decide) rfl (fun _ => Nat.le_of_ble_eq_true rfl) ?_
            show AX w M_X12_lays 0 0 0 [.ref 87, .int (nI xn), .int (nI in_), .int z] [] h _
            refine AX.iload_n (pc := 0) dX12_lays_0 rfl ?_
            refine AX.callS (pc := 1) (M2 := M_X12_isRack) (As := [.int (nI xn)]) (rest := []) (c_mRack w h (nI xn)) xc_X12_lays__X12_isRack gX12_lays_X12_isRack rfl (Nat.le_of_ble_eq_true rfl) dX12_lays_1 ?_
            rintro _ h9 ⟨rfl, e9⟩
            have e9 := e9.symm
            subst e9
            rw [decide_eq_true h_x]
            show AX w M_X12_lays 0 0 4 [.ref 87, .int (nI xn), .int (nI in_), .int z] [.int (bI true)] _ _
            refine AX.if_eqB (pc := 4) (tgt := 21) dX12_lays_4 (by decide) (fun q => absurd q (by decide)) (fun hc4 => ?_)
            refine AX.iload_n (pc := 7) dX12_lays_7 rfl ?_
            refine AX.i2l (pc := 8) dX12_lays_8 ?_
            refine AX.ldc2 (pc := 9) (v := (-1)) dX12_lays_9 cX12_lays_274 ?_
            refine AX.ldc2 (pc := 12) (v := 62) dX12_lays_12 cX12_lays_112 ?_
            refine AX.callS (pc := 15) (M2 := M_X12_in) (As := [.long z.toInt64, .long (-1), .long 62]) (rest := []) (c_in w h (z.toInt64) ((-1)) (62)) xc_X12_lays__X12_in gX12_lays_X12_in rfl (Nat.le_of_ble_eq_true rfl) dX12_lays_15 ?_
            rintro _ h9 ⟨rfl, e9⟩
            have e9 := e9.symm
            subst e9
            rw [decide_eq_true (bm1_iff.mpr hz)]
            show AX w M_X12_lays 0 0 18 [.ref 87, .int (nI xn), .int (nI in_), .int z] [.int (bI true)] _ _
            refine AX.if_neB (pc := 18) (tgt := 23) dX12_lays_18 (by decide) (fun hc18 => ?_) (fun q => absurd q (by decide))
            refine AX.aload_n (pc := 23) dX12_lays_23 rfl ?_
            refine AX.getf (pc := 24) fX12_lays_90 (lt_k c.hn (by decide)) hO rfl dX12_lays_24 ?_
            refine AX.iload_n (pc := 27) dX12_lays_27 rfl ?_
            refine AX.zaldN (pc := 28) (i := xn) (v := (bI true)) (lt_k c.hn (by decide)) e114 (by decide) (by omega) x1 dX12_lays_28 ?_
            refine AX.if_neB (pc := 29) (tgt := 35) dX12_lays_29 (by decide) (fun hc29 => ?_) (fun q => absurd q (by decide))
            refine AX.iload_n (pc := 35) dX12_lays_35 rfl ?_
            refine AX.i2l (pc := 36) dX12_lays_36 ?_
            refine AX.lconst (pc := 37) (v := 0) dX12_lays_37 (by decide) ?_
            refine AX.aload_n (pc := 38) dX12_lays_38 rfl ?_
            refine AX.getf (pc := 39) fX12_lays_96 (lt_k c.hn (by decide)) hO rfl dX12_lays_39 ?_
            refine AX.iload_n (pc := 42) dX12_lays_42 rfl ?_
            refine AX.ialdN (pc := 43) (i := xn) (v := (nI nn)) (lt_k c.hn (by decide)) e116 (by decide) (by omega) x3 dX12_lays_43 ?_
            refine AX.iconst (pc := 44) (v := nI 1) dX12_lays_44 (by decide) ?_
            refine AX.isub (pc := 45) dX12_lays_45 ?_
            refine AX.i2l (pc := 46) dX12_lays_46 ?_
            refine AX.callS (pc := 47) (M2 := M_X12_in) (As := [.long ((nI in_).toInt64), .long 0, .long ((nI nn - nI 1).toInt64)]) (rest := []) (c_in w h ((nI in_).toInt64) (0) ((nI nn - nI 1).toInt64)) xc_X12_lays__X12_in gX12_lays_X12_in rfl (Nat.le_of_ble_eq_true rfl) dX12_lays_47 ?_
            rintro _ h9 ⟨rfl, e9⟩
            have e9 := e9.symm
            subst e9
            rw [decide_eq_true ((inL_iff hnn).mpr hi)]
            show AX w M_X12_lays 0 0 50 [.ref 87, .int (nI xn), .int (nI in_), .int z] [.int (bI true)] _ _
            refine AX.if_neB (pc := 50) (tgt := 56) dX12_lays_50 (by decide) (fun hc50 => ?_) (fun q => absurd q (by decide))
            refine AX.iload_n (pc := 56) dX12_lays_56 rfl ?_
            refine AX.if_lt (pc := 57) (tgt := 76) dX12_lays_57 (by decide) (fun hc57 => ?_) (fun q => absurd (by rw [hm]; decide) q)
            refine AX.aload_n (pc := 76) dX12_lays_76 rfl ?_
            refine AX.getf (pc := 77) fX12_lays_99 (lt_k c.hn (by decide)) hO rfl dX12_lays_77 ?_
            refine AX.bipush (pc := 80) (v := nI 20) dX12_lays_80 (by decide) ?_
            refine AX.iload_n (pc := 82) dX12_lays_82 rfl ?_
            refine AX.imulN (pc := 83) (c := 20 * xn) dX12_lays_83 rfl ?_
            refine AX.iload_n (pc := 84) dX12_lays_84 rfl ?_
            refine AX.iaddN (pc := 85) (c := 20 * xn + in_) dX12_lays_85 rfl ?_
            refine AX.iload_n (pc := 86) dX12_lays_86 rfl ?_
            refine AX.if_ge (pc := 87) (tgt := 95) dX12_lays_87 (by decide) (fun q => absurd q (by rw [hm]; decide)) (fun hc87 => ?_)
            refine AX.bipush (pc := 90) (v := (-5)) dX12_lays_90 (by decide) ?_
            refine AX.goto (pc := 92) (tgt := 96) dX12_lays_92 (by decide) ?_
            refine AX.iastN (pc := 96) (i := 20 * xn + in_) (g := upd f4 (20 * xn + in_) (-5)) (lt_k c.hn (by decide)) e117 (by decide) (by omega) rfl dX12_lays_96 ?_
            refine AX.iconst (pc := 97) (v := nI 1) dX12_lays_97 (by decide) ?_
            refine AX.iret (pc := 98) dX12_lays_98 rfl rfl (by decide) (by decide) ?_
            have sx : Same [117] h (xset h 117 (.inl (0, 80, .inl (upd f4 (20 * xn + in_) (-5))))) := Same.rest
            refine ⟨by unfold aLays; rw [if_pos h_x, if_pos hz, nI_nat (show xn < 2147483648 by omega), he]; show _ = some (Value.int (if inL nn (nI in_) then (if z = -1 ∨ unN (z).toNatClampNeg kk = true then 1 else -16) else -12)); rw [if_pos hi, if_pos hu]; try rfl, mdS_lt sx (by decide), c.racks (sx.wide (by decide)) ⟨f1, f2, f3, _, sx.at (by simp) e114, sx.at (by simp) e115, sx.at (by simp) e116, (xset_same _ _ _), fun y hy => ?_⟩⟩
            unfold stK
            by_cases e : y = xn
            · subst e
              rw [if_pos rfl]
              refine ⟨x1, x2, x3, fun j hj => ?_⟩
              by_cases ej : j = in_
              · subst ej
                exact (upd_at _ _ _).trans (upd_at _ _ _).symm
              · exact (upd_off (by omega)).trans ((x4 j hj).trans (upd_off ej).symm)
            · rw [if_neg e]
              have qy := qk y hy
              cases hy2 : sk s y with
              | none =>
                rw [hy2] at qy
                exact qy
              | some p =>
                rw [hy2] at qy
                obtain ⟨z1, z2, z3⟩ := p
                obtain ⟨y1, y2, y3, y4⟩ := qy
                exact ⟨y1, y2, y3, fun j hj => (upd_off (by omega)).trans (y4 j hj)⟩
          obtain ⟨zn, rfl, l_z, u_z⟩ := inR_nat (by decide) (hz.resolve_left hm)
          have hzne := hm
          by_cases hun : unN zn kk = true
          · have hu : nI zn = -1 ∨ unN (nI zn).toNatClampNeg kk = true := Or.inr (by rw [nI_nat (by omega)]; exact hun)
            have en : nLays (sk s) (nI xn) (nI in_) (nI zn) = stK (sk s) xn (some (kk, nn, upd g in_ (nI zn))) := by unfold nLays; rw [if_pos h_x, if_pos hz, nI_nat (show xn < 2147483648 by omega), he]; show (if inL nn (nI in_) then (if (nI zn) = -1 ∨ unN ((nI zn)).toNatClampNeg kk = true then stK (sk s) xn (some (kk, nn, upd g (nI in_).toNatClampNeg (if (nI zn) = -1 then -5 else (nI zn)))) else sk s) else sk s) = _; rw [if_pos hi, if_pos hu, nI_nat (show in_ < 2147483648 by omega), if_neg hzne]
            rw [en]
            refine CA.of (by decide) rfl (fun _ => Nat.le_of_ble_eq_true rfl) ?_
            show AX w M_X12_lays 0 0 0 [.ref 87, .int (nI xn), .int (nI in_), .int (nI zn)] [] h _
            refine AX.iload_n (pc := 0) dX12_lays_0 rfl ?_
            refine AX.callS (pc := 1) (M2 := M_X12_isRack) (As := [.int (nI xn)]) (rest := []) (c_mRack w h (nI xn)) xc_X12_lays__X12_isRack gX12_lays_X12_isRack rfl (Nat.le_of_ble_eq_true rfl) dX12_lays_1 ?_
            rintro _ h9 ⟨rfl, e9⟩
            have e9 := e9.symm
            subst e9
            rw [decide_eq_true h_x]
            show AX w M_X12_lays 0 0 4 [.ref 87, .int (nI xn), .int (nI in_), .int (nI zn)] [.int (bI true)] _ _
            refine AX.if_eqB (pc := 4) (tgt := 21) dX12_lays_4 (by decide) (fun q => absurd q (by decide)) (fun hc4 => ?_)
            refine AX.iload_n (pc := 7) dX12_lays_7 rfl ?_
            refine AX.i2l (pc := 8) dX12_lays_8 ?_
            refine AX.ldc2 (pc := 9) (v := (-1)) dX12_lays_9 cX12_lays_274 ?_
            refine AX.ldc2 (pc := 12) (v := 62) dX12_lays_12 cX12_lays_112 ?_
            refine AX.callS (pc := 15) (M2 := M_X12_in) (As := [.long ((nI zn).toInt64), .long (-1), .long 62]) (rest := []) (c_in w h ((nI zn).toInt64) ((-1)) (62)) xc_X12_lays__X12_in gX12_lays_X12_in rfl (Nat.le_of_ble_eq_true rfl) dX12_lays_15 ?_
            rintro _ h9 ⟨rfl, e9⟩
            have e9 := e9.symm
            subst e9
            rw [decide_eq_true (bm1_iff.mpr hz)]
            show AX w M_X12_lays 0 0 18 [.ref 87, .int (nI xn), .int (nI in_), .int (nI zn)] [.int (bI true)] _ _
            refine AX.if_neB (pc := 18) (tgt := 23) dX12_lays_18 (by decide) (fun hc18 => ?_) (fun q => absurd q (by decide))
            refine AX.aload_n (pc := 23) dX12_lays_23 rfl ?_
            refine AX.getf (pc := 24) fX12_lays_90 (lt_k c.hn (by decide)) hO rfl dX12_lays_24 ?_
            refine AX.iload_n (pc := 27) dX12_lays_27 rfl ?_
            refine AX.zaldN (pc := 28) (i := xn) (v := (bI true)) (lt_k c.hn (by decide)) e114 (by decide) (by omega) x1 dX12_lays_28 ?_
            refine AX.if_neB (pc := 29) (tgt := 35) dX12_lays_29 (by decide) (fun hc29 => ?_) (fun q => absurd q (by decide))
            refine AX.iload_n (pc := 35) dX12_lays_35 rfl ?_
            refine AX.i2l (pc := 36) dX12_lays_36 ?_
            refine AX.lconst (pc := 37) (v := 0) dX12_lays_37 (by decide) ?_
            refine AX.aload_n (pc := 38) dX12_lays_38 rfl ?_
            refine AX.getf (pc := 39) fX12_lays_96 (lt_k c.hn (by decide)) hO rfl dX12_lays_39 ?_
            refine AX.iload_n (pc := 42) dX12_lays_42 rfl ?_
            refine AX.ialdN (pc := 43) (i := xn) (v := (nI nn)) (lt_k c.hn (by decide)) e116 (by decide) (by omega) x3 dX12_lays_43 ?_
            refine AX.iconst (pc := 44) (v := nI 1) dX12_lays_44 (by decide) ?_
            refine AX.isub (pc := 45) dX12_lays_45 ?_
            refine AX.i2l (pc := 46) dX12_lays_46 ?_
            refine AX.callS (pc := 47) (M2 := M_X12_in) (As := [.long ((nI in_).toInt64), .long 0, .long ((nI nn - nI 1).toInt64)]) (rest := []) (c_in w h ((nI in_).toInt64) (0) ((nI nn - nI 1).toInt64)) xc_X12_lays__X12_in gX12_lays_X12_in rfl (Nat.le_of_ble_eq_true rfl) dX12_lays_47 ?_
            rintro _ h9 ⟨rfl, e9⟩
            have e9 := e9.symm
            subst e9
            rw [decide_eq_true ((inL_iff hnn).mpr hi)]
            show AX w M_X12_lays 0 0 50 [.ref 87, .int (nI xn), .int (nI in_), .int (nI zn)] [.int (bI true)] _ _
            refine AX.if_neB (pc := 50) (tgt := 56) dX12_lays_50 (by decide) (fun hc50 => ?_) (fun q => absurd q (by decide))
            refine AX.iload_n (pc := 56) dX12_lays_56 rfl ?_
            refine AX.if_ltN (pc := 57) (tgt := 76) dX12_lays_57 (by decide) (by omega) (fun q => absurd q (by omega)) (fun hc57 => ?_)
            refine AX.iload_n (pc := 60) dX12_lays_60 rfl ?_
            refine AX.aload_n (pc := 61) dX12_lays_61 rfl ?_
            refine AX.getf (pc := 62) fX12_lays_93 (lt_k c.hn (by decide)) hO rfl dX12_lays_62 ?_
            refine AX.iload_n (pc := 65) dX12_lays_65 rfl ?_
            refine AX.ialdN (pc := 66) (i := xn) (v := (nI kk)) (lt_k c.hn (by decide)) e115 (by decide) (by omega) x2 dX12_lays_66 ?_
            refine AX.callS (pc := 67) (M2 := M_X12_isUnder) (As := [.int (nI zn), .int (nI kk)]) (rest := []) (c_mUnder w h zn kk (by omega) (by omega)) xc_X12_lays__X12_isUnder gX12_lays_X12_isUnder rfl (Nat.le_of_ble_eq_true rfl) dX12_lays_67 ?_
            rintro _ h9 ⟨rfl, e9⟩
            have e9 := e9.symm
            subst e9
            rw [hun]
            show AX w M_X12_lays 0 0 70 [.ref 87, .int (nI xn), .int (nI in_), .int (nI zn)] [.int (bI true)] _ _
            refine AX.if_neB (pc := 70) (tgt := 76) dX12_lays_70 (by decide) (fun hc70 => ?_) (fun q => absurd q (by decide))
            refine AX.aload_n (pc := 76) dX12_lays_76 rfl ?_
            refine AX.getf (pc := 77) fX12_lays_99 (lt_k c.hn (by decide)) hO rfl dX12_lays_77 ?_
            refine AX.bipush (pc := 80) (v := nI 20) dX12_lays_80 (by decide) ?_
            refine AX.iload_n (pc := 82) dX12_lays_82 rfl ?_
            refine AX.imulN (pc := 83) (c := 20 * xn) dX12_lays_83 rfl ?_
            refine AX.iload_n (pc := 84) dX12_lays_84 rfl ?_
            refine AX.iaddN (pc := 85) (c := 20 * xn + in_) dX12_lays_85 rfl ?_
            refine AX.iload_n (pc := 86) dX12_lays_86 rfl ?_
            refine AX.if_geN (pc := 87) (tgt := 95) dX12_lays_87 (by decide) (by omega) (fun hc87 => ?_) (fun q => absurd q (by omega))
            refine AX.iload_n (pc := 95) dX12_lays_95 rfl ?_
            refine AX.iastN (pc := 96) (i := 20 * xn + in_) (g := upd f4 (20 * xn + in_) (nI zn)) (lt_k c.hn (by decide)) e117 (by decide) (by omega) rfl dX12_lays_96 ?_
            refine AX.iconst (pc := 97) (v := nI 1) dX12_lays_97 (by decide) ?_
            refine AX.iret (pc := 98) dX12_lays_98 rfl rfl (by decide) (by decide) ?_
            have sx : Same [117] h (xset h 117 (.inl (0, 80, .inl (upd f4 (20 * xn + in_) (nI zn))))) := Same.rest
            refine ⟨by unfold aLays; rw [if_pos h_x, if_pos hz, nI_nat (show xn < 2147483648 by omega), he]; show _ = some (Value.int (if inL nn (nI in_) then (if (nI zn) = -1 ∨ unN ((nI zn)).toNatClampNeg kk = true then 1 else -16) else -12)); rw [if_pos hi, if_pos hu]; try rfl, mdS_lt sx (by decide), c.racks (sx.wide (by decide)) ⟨f1, f2, f3, _, sx.at (by simp) e114, sx.at (by simp) e115, sx.at (by simp) e116, (xset_same _ _ _), fun y hy => ?_⟩⟩
            unfold stK
            by_cases e : y = xn
            · subst e
              rw [if_pos rfl]
              refine ⟨x1, x2, x3, fun j hj => ?_⟩
              by_cases ej : j = in_
              · subst ej
                exact (upd_at _ _ _).trans (upd_at _ _ _).symm
              · exact (upd_off (by omega)).trans ((x4 j hj).trans (upd_off ej).symm)
            · rw [if_neg e]
              have qy := qk y hy
              cases hy2 : sk s y with
              | none =>
                rw [hy2] at qy
                exact qy
              | some p =>
                rw [hy2] at qy
                obtain ⟨z1, z2, z3⟩ := p
                obtain ⟨y1, y2, y3, y4⟩ := qy
                exact ⟨y1, y2, y3, fun j hj => (upd_off (by omega)).trans (y4 j hj)⟩
          have hu : ¬ (nI zn = -1 ∨ unN (nI zn).toNatClampNeg kk = true) := by rw [nI_nat (by omega)]; exact fun q => q.elim hm hun
          have en : nLays (sk s) (nI xn) (nI in_) (nI zn) = sk s := by unfold nLays; rw [if_pos h_x, if_pos hz, nI_nat (show xn < 2147483648 by omega), he]; show (if inL nn (nI in_) then (if (nI zn) = -1 ∨ unN ((nI zn)).toNatClampNeg kk = true then _ else sk s) else sk s) = _; rw [if_pos hi, if_neg hu]
          rw [en]
          refine CA.of (by decide) rfl (fun _ => Nat.le_of_ble_eq_true rfl) ?_
          show AX w M_X12_lays 0 0 0 [.ref 87, .int (nI xn), .int (nI in_), .int (nI zn)] [] h _
          refine AX.iload_n (pc := 0) dX12_lays_0 rfl ?_
          refine AX.callS (pc := 1) (M2 := M_X12_isRack) (As := [.int (nI xn)]) (rest := []) (c_mRack w h (nI xn)) xc_X12_lays__X12_isRack gX12_lays_X12_isRack rfl (Nat.le_of_ble_eq_true rfl) dX12_lays_1 ?_
          rintro _ h9 ⟨rfl, e9⟩
          have e9 := e9.symm
          subst e9
          rw [decide_eq_true h_x]
          show AX w M_X12_lays 0 0 4 [.ref 87, .int (nI xn), .int (nI in_), .int (nI zn)] [.int (bI true)] _ _
          refine AX.if_eqB (pc := 4) (tgt := 21) dX12_lays_4 (by decide) (fun q => absurd q (by decide)) (fun hc4 => ?_)
          refine AX.iload_n (pc := 7) dX12_lays_7 rfl ?_
          refine AX.i2l (pc := 8) dX12_lays_8 ?_
          refine AX.ldc2 (pc := 9) (v := (-1)) dX12_lays_9 cX12_lays_274 ?_
          refine AX.ldc2 (pc := 12) (v := 62) dX12_lays_12 cX12_lays_112 ?_
          refine AX.callS (pc := 15) (M2 := M_X12_in) (As := [.long ((nI zn).toInt64), .long (-1), .long 62]) (rest := []) (c_in w h ((nI zn).toInt64) ((-1)) (62)) xc_X12_lays__X12_in gX12_lays_X12_in rfl (Nat.le_of_ble_eq_true rfl) dX12_lays_15 ?_
          rintro _ h9 ⟨rfl, e9⟩
          have e9 := e9.symm
          subst e9
          rw [decide_eq_true (bm1_iff.mpr hz)]
          show AX w M_X12_lays 0 0 18 [.ref 87, .int (nI xn), .int (nI in_), .int (nI zn)] [.int (bI true)] _ _
          refine AX.if_neB (pc := 18) (tgt := 23) dX12_lays_18 (by decide) (fun hc18 => ?_) (fun q => absurd q (by decide))
          refine AX.aload_n (pc := 23) dX12_lays_23 rfl ?_
          refine AX.getf (pc := 24) fX12_lays_90 (lt_k c.hn (by decide)) hO rfl dX12_lays_24 ?_
          refine AX.iload_n (pc := 27) dX12_lays_27 rfl ?_
          refine AX.zaldN (pc := 28) (i := xn) (v := (bI true)) (lt_k c.hn (by decide)) e114 (by decide) (by omega) x1 dX12_lays_28 ?_
          refine AX.if_neB (pc := 29) (tgt := 35) dX12_lays_29 (by decide) (fun hc29 => ?_) (fun q => absurd q (by decide))
          refine AX.iload_n (pc := 35) dX12_lays_35 rfl ?_
          refine AX.i2l (pc := 36) dX12_lays_36 ?_
          refine AX.lconst (pc := 37) (v := 0) dX12_lays_37 (by decide) ?_
          refine AX.aload_n (pc := 38) dX12_lays_38 rfl ?_
          refine AX.getf (pc := 39) fX12_lays_96 (lt_k c.hn (by decide)) hO rfl dX12_lays_39 ?_
          refine AX.iload_n (pc := 42) dX12_lays_42 rfl ?_
          refine AX.ialdN (pc := 43) (i := xn) (v := (nI nn)) (lt_k c.hn (by decide)) e116 (by decide) (by omega) x3 dX12_lays_43 ?_
          refine AX.iconst (pc := 44) (v := nI 1) dX12_lays_44 (by decide) ?_
          refine AX.isub (pc := 45) dX12_lays_45 ?_
          refine AX.i2l (pc := 46) dX12_lays_46 ?_
          refine AX.callS (pc := 47) (M2 := M_X12_in) (As := [.long ((nI in_).toInt64), .long 0, .long ((nI nn - nI 1).toInt64)]) (rest := []) (c_in w h ((nI in_).toInt64) (0) ((nI nn - nI 1).toInt64)) xc_X12_lays__X12_in gX12_lays_X12_in rfl (Nat.le_of_ble_eq_true rfl) dX12_lays_47 ?_
          rintro _ h9 ⟨rfl, e9⟩
          have e9 := e9.symm
          subst e9
          rw [decide_eq_true ((inL_iff hnn).mpr hi)]
          show AX w M_X12_lays 0 0 50 [.ref 87, .int (nI xn), .int (nI in_), .int (nI zn)] [.int (bI true)] _ _
          refine AX.if_neB (pc := 50) (tgt := 56) dX12_lays_50 (by decide) (fun hc50 => ?_) (fun q => absurd q (by decide))
          refine AX.iload_n (pc := 56) dX12_lays_56 rfl ?_
          refine AX.if_ltN (pc := 57) (tgt := 76) dX12_lays_57 (by decide) (by omega) (fun q => absurd q (by omega)) (fun hc57 => ?_)
          refine AX.iload_n (pc := 60) dX12_lays_60 rfl ?_
          refine AX.aload_n (pc := 61) dX12_lays_61 rfl ?_
          refine AX.getf (pc := 62) fX12_lays_93 (lt_k c.hn (by decide)) hO rfl dX12_lays_62 ?_
          refine AX.iload_n (pc := 65) dX12_lays_65 rfl ?_
          refine AX.ialdN (pc := 66) (i := xn) (v := (nI kk)) (lt_k c.hn (by decide)) e115 (by decide) (by omega) x2 dX12_lays_66 ?_
          refine AX.callS (pc := 67) (M2 := M_X12_isUnder) (As := [.int (nI zn), .int (nI kk)]) (rest := []) (c_mUnder w h zn kk (by omega) (by omega)) xc_X12_lays__X12_isUnder gX12_lays_X12_isUnder rfl (Nat.le_of_ble_eq_true rfl) dX12_lays_67 ?_
          rintro _ h9 ⟨rfl, e9⟩
          have e9 := e9.symm
          subst e9
          rw [Bool.eq_false_iff.mpr hun]
          show AX w M_X12_lays 0 0 70 [.ref 87, .int (nI xn), .int (nI in_), .int (nI zn)] [.int (bI false)] _ _
          refine AX.if_neB (pc := 70) (tgt := 76) dX12_lays_70 (by decide) (fun q => absurd q (by decide)) (fun hc70 => ?_)
          refine AX.bipush (pc := 73) (v := (-16)) dX12_lays_73 (by decide) ?_
          refine AX.iret (pc := 75) dX12_lays_75 rfl rfl (by decide) (by decide) ?_
          exact ⟨by unfold aLays; rw [if_pos h_x, if_pos hz, nI_nat (show xn < 2147483648 by omega), he]; show _ = some (Value.int (if inL nn (nI in_) then (if (nI zn) = -1 ∨ unN ((nI zn)).toNatClampNeg kk = true then 1 else -16) else -12)); rw [if_pos hi, if_neg hu]; try rfl, Same.rf, c⟩
        have en : nLays (sk s) (nI xn) i z = sk s := by unfold nLays; rw [if_pos h_x, if_pos hz, nI_nat (show xn < 2147483648 by omega), he]; exact if_neg hi
        rw [en]
        refine CA.of (by decide) rfl (fun _ => Nat.le_of_ble_eq_true rfl) ?_
        show AX w M_X12_lays 0 0 0 [.ref 87, .int (nI xn), .int i, .int z] [] h _
        refine AX.iload_n (pc := 0) dX12_lays_0 rfl ?_
        refine AX.callS (pc := 1) (M2 := M_X12_isRack) (As := [.int (nI xn)]) (rest := []) (c_mRack w h (nI xn)) xc_X12_lays__X12_isRack gX12_lays_X12_isRack rfl (Nat.le_of_ble_eq_true rfl) dX12_lays_1 ?_
        rintro _ h9 ⟨rfl, e9⟩
        have e9 := e9.symm
        subst e9
        rw [decide_eq_true h_x]
        show AX w M_X12_lays 0 0 4 [.ref 87, .int (nI xn), .int i, .int z] [.int (bI true)] _ _
        refine AX.if_eqB (pc := 4) (tgt := 21) dX12_lays_4 (by decide) (fun q => absurd q (by decide)) (fun hc4 => ?_)
        refine AX.iload_n (pc := 7) dX12_lays_7 rfl ?_
        refine AX.i2l (pc := 8) dX12_lays_8 ?_
        refine AX.ldc2 (pc := 9) (v := (-1)) dX12_lays_9 cX12_lays_274 ?_
        refine AX.ldc2 (pc := 12) (v := 62) dX12_lays_12 cX12_lays_112 ?_
        refine AX.callS (pc := 15) (M2 := M_X12_in) (As := [.long z.toInt64, .long (-1), .long 62]) (rest := []) (c_in w h (z.toInt64) ((-1)) (62)) xc_X12_lays__X12_in gX12_lays_X12_in rfl (Nat.le_of_ble_eq_true rfl) dX12_lays_15 ?_
        rintro _ h9 ⟨rfl, e9⟩
        have e9 := e9.symm
        subst e9
        rw [decide_eq_true (bm1_iff.mpr hz)]
        show AX w M_X12_lays 0 0 18 [.ref 87, .int (nI xn), .int i, .int z] [.int (bI true)] _ _
        refine AX.if_neB (pc := 18) (tgt := 23) dX12_lays_18 (by decide) (fun hc18 => ?_) (fun q => absurd q (by decide))
        refine AX.aload_n (pc := 23) dX12_lays_23 rfl ?_
        refine AX.getf (pc := 24) fX12_lays_90 (lt_k c.hn (by decide)) hO rfl dX12_lays_24 ?_
        refine AX.iload_n (pc := 27) dX12_lays_27 rfl ?_
        refine AX.zaldN (pc := 28) (i := xn) (v := (bI true)) (lt_k c.hn (by decide)) e114 (by decide) (by omega) x1 dX12_lays_28 ?_
        refine AX.if_neB (pc := 29) (tgt := 35) dX12_lays_29 (by decide) (fun hc29 => ?_) (fun q => absurd q (by decide))
        refine AX.iload_n (pc := 35) dX12_lays_35 rfl ?_
        refine AX.i2l (pc := 36) dX12_lays_36 ?_
        refine AX.lconst (pc := 37) (v := 0) dX12_lays_37 (by decide) ?_
        refine AX.aload_n (pc := 38) dX12_lays_38 rfl ?_
        refine AX.getf (pc := 39) fX12_lays_96 (lt_k c.hn (by decide)) hO rfl dX12_lays_39 ?_
        refine AX.iload_n (pc := 42) dX12_lays_42 rfl ?_
        refine AX.ialdN (pc := 43) (i := xn) (v := (nI nn)) (lt_k c.hn (by decide)) e116 (by decide) (by omega) x3 dX12_lays_43 ?_
        refine AX.iconst (pc := 44) (v := nI 1) dX12_lays_44 (by decide) ?_
        refine AX.isub (pc := 45) dX12_lays_45 ?_
        refine AX.i2l (pc := 46) dX12_lays_46 ?_
        refine AX.callS (pc := 47) (M2 := M_X12_in) (As := [.long i.toInt64, .long 0, .long ((nI nn - nI 1).toInt64)]) (rest := []) (c_in w h (i.toInt64) (0) ((nI nn - nI 1).toInt64)) xc_X12_lays__X12_in gX12_lays_X12_in rfl (Nat.le_of_ble_eq_true rfl) dX12_lays_47 ?_
        rintro _ h9 ⟨rfl, e9⟩
        have e9 := e9.symm
        subst e9
        rw [decide_eq_false (fun q => hi ((inL_iff hnn).mp q))]
        show AX w M_X12_lays 0 0 50 [.ref 87, .int (nI xn), .int i, .int z] [.int (bI false)] _ _
        refine AX.if_neB (pc := 50) (tgt := 56) dX12_lays_50 (by decide) (fun q => absurd q (by decide)) (fun hc50 => ?_)
        refine AX.bipush (pc := 53) (v := (-12)) dX12_lays_53 (by decide) ?_
        refine AX.iret (pc := 55) dX12_lays_55 rfl rfl (by decide) (by decide) ?_
        exact ⟨by unfold aLays; rw [if_pos h_x, if_pos hz, nI_nat (show xn < 2147483648 by omega), he]; show _ = some (Value.int (if inL nn i then (if z = -1 ∨ unN (z).toNatClampNeg kk = true then 1 else -16) else -12)); rw [if_neg hi]; try rfl, Same.rf, c⟩
    have en : nLays (sk s) (nI xn) i z = sk s := by unfold nLays; rw [if_pos h_x, if_neg hz]
    rw [en]
    refine CA.of (by decide) rfl (fun _ => Nat.le_of_ble_eq_true rfl) ?_
    show AX w M_X12_lays 0 0 0 [.ref 87, .int (nI xn), .int i, .int z] [] h _
    refine AX.iload_n (pc := 0) dX12_lays_0 rfl ?_
    refine AX.callS (pc := 1) (M2 := M_X12_isRack) (As := [.int (nI xn)]) (rest := []) (c_mRack w h (nI xn)) xc_X12_lays__X12_isRack gX12_lays_X12_isRack rfl (Nat.le_of_ble_eq_true rfl) dX12_lays_1 ?_
    rintro _ h9 ⟨rfl, e9⟩
    have e9 := e9.symm
    subst e9
    rw [decide_eq_true h_x]
    show AX w M_X12_lays 0 0 4 [.ref 87, .int (nI xn), .int i, .int z] [.int (bI true)] _ _
    refine AX.if_eqB (pc := 4) (tgt := 21) dX12_lays_4 (by decide) (fun q => absurd q (by decide)) (fun hc4 => ?_)
    refine AX.iload_n (pc := 7) dX12_lays_7 rfl ?_
    refine AX.i2l (pc := 8) dX12_lays_8 ?_
    refine AX.ldc2 (pc := 9) (v := (-1)) dX12_lays_9 cX12_lays_274 ?_
    refine AX.ldc2 (pc := 12) (v := 62) dX12_lays_12 cX12_lays_112 ?_
    refine AX.callS (pc := 15) (M2 := M_X12_in) (As := [.long z.toInt64, .long (-1), .long 62]) (rest := []) (c_in w h (z.toInt64) ((-1)) (62)) xc_X12_lays__X12_in gX12_lays_X12_in rfl (Nat.le_of_ble_eq_true rfl) dX12_lays_15 ?_
    rintro _ h9 ⟨rfl, e9⟩
    have e9 := e9.symm
    subst e9
    rw [decide_eq_false (fun q => hz (bm1_iff.mp q))]
    show AX w M_X12_lays 0 0 18 [.ref 87, .int (nI xn), .int i, .int z] [.int (bI false)] _ _
    refine AX.if_neB (pc := 18) (tgt := 23) dX12_lays_18 (by decide) (fun q => absurd q (by decide)) (fun hc18 => ?_)
    refine AX.iconst (pc := 21) (v := (-1)) dX12_lays_21 (by decide) ?_
    refine AX.iret (pc := 22) dX12_lays_22 rfl rfl (by decide) (by decide) ?_
    exact ⟨by unfold aLays; rw [if_pos h_x, if_neg hz]; try rfl, Same.rf, c⟩
  · refine CA.of (by decide) rfl (fun _ => Nat.le_of_ble_eq_true rfl) ?_
    show AX w M_X12_lays 0 0 0 [.ref 87, .int x, .int i, .int z] [] h _
    refine AX.iload_n (pc := 0) dX12_lays_0 rfl ?_
    refine AX.callS (pc := 1) (M2 := M_X12_isRack) (As := [.int x]) (rest := []) (c_mRack w h x) xc_X12_lays__X12_isRack gX12_lays_X12_isRack rfl (Nat.le_of_ble_eq_true rfl) dX12_lays_1 ?_
    rintro _ h9 ⟨rfl, e9⟩
    have e9 := e9.symm
    subst e9
    rw [decide_eq_false h_x]
    show AX w M_X12_lays 0 0 4 [.ref 87, .int x, .int i, .int z] [.int (bI false)] _ _
    refine AX.if_eqB (pc := 4) (tgt := 21) dX12_lays_4 (by decide) (fun hc4 => ?_) (fun q => absurd q (by decide))
    refine AX.iconst (pc := 21) (v := (-1)) dX12_lays_21 (by decide) ?_
    refine AX.iret (pc := 22) dX12_lays_22 rfl rfl (by decide) (by decide) ?_
    have en : nLays (sk s) x i z = sk s := by unfold nLays; rw [if_neg h_x]
    rw [en]
    exact ⟨by unfold aLays; rw [if_neg h_x]; try rfl, Same.rf, c⟩
theorem l_mImage (w : XW) (P : Option Value → XH → Prop) (h0 : XH) {v f89 : Nat → Int32} (hn0 : 118 ≤ h0.1) (hO0 : MO h0 v) (e89 : h0.2 89 = .inl (0, 19, .inl f89)) (kk : ∀ h' (f : Nat → Int32), Same [90] h0 h' → h'.2 90 = .inl (0, 19, .inl f) → (∀ j, j < 19 → f j = f89 j) → AX w M_X12_image 0 0 31 [.ref 87, .int (nI 19)] [] h' P) : ∀ (g j : Nat) (h : XH) (f : Nat → Int32), j + g = 19 → Same [90] h0 h → h.2 90 = .inl (0, 19, .inl f) → (∀ i, i < j → f i = f89 i) → AX w M_X12_image 0 0 7 [.ref 87, .int (nI j)] [] h P
  | 0, j, h, f, hg, hS, e90, a1 => by
    have e : j = 19 := by omega
    subst e
    have hn := hS.le hn0
    refine AX.iload_n (pc := 7) dX12_image_7 rfl ?_
    refine AX.bipush (pc := 8) (v := nI 19) dX12_image_8 (by decide) ?_
    refine AX.icmp_geN (pc := 10) (tgt := 31) dX12_image_10 (by decide) (by decide) (by decide) (fun hc10 => ?_) (fun q => absurd q (by decide))
    exact kk h f hS e90 a1
  | g + 1, j, h, f, hg, hS, e90, a1 => by
    have hn := hS.le hn0
    have hO := hO0.same hS (by simp)
    refine AX.iload_n (pc := 7) dX12_image_7 rfl ?_
    refine AX.bipush (pc := 8) (v := nI 19) dX12_image_8 (by decide) ?_
    refine AX.icmp_geN (pc := 10) (tgt := 31) dX12_image_10 (by decide) (by omega) (by decide) (fun q => absurd q (by omega)) (fun hc10 => ?_)
    refine AX.aload_n (pc := 13) dX12_image_13 rfl ?_
    refine AX.getf (pc := 14) fX12_image_16 (lt_k hn (by decide)) hO rfl dX12_image_14 ?_
    refine AX.iload_n (pc := 17) dX12_image_17 rfl ?_
    refine AX.aload_n (pc := 18) dX12_image_18 rfl ?_
    refine AX.getf (pc := 19) fX12_image_13 (lt_k hn (by decide)) hO rfl dX12_image_19 ?_
    refine AX.iload_n (pc := 22) dX12_image_22 rfl ?_
    refine AX.ialdN (pc := 23) (i := j) (v := (f89 j)) (lt_k hn (by decide)) (hS.at (by simp) e89) (by decide) (by omega) rfl dX12_image_23 ?_
    refine AX.iastN (pc := 24) (i := j) (g := upd f j (f89 j)) (lt_k hn (by decide)) e90 (by decide) (by omega) rfl dX12_image_24 ?_
    refine AX.iincN (c := j + 1) (pc := 25) (L' := [.ref 87, .int (nI (j + 1))]) dX12_image_25 rfl (inc1 _) (by decide) rfl ?_
    refine AX.goto (pc := 28) (tgt := 7) dX12_image_28 (by decide) ?_
    exact l_mImage w P h0 hn0 hO0 e89 kk g (j + 1) _ _ (by omega) (hS.trans Same.rest) (xset_same _ _ _) (fun i hi => if e : i = j then (by subst e; exact upd_at _ _ _) else (by rw [upd_off e]; exact a1 i (by omega)))
theorem c_mImage (w : XW) (h : XH) {s : SS} (c : MS h s) : CA w M_X12_image [.ref 87] h (fun v' h'' => v' = some (.int (sq s 6 + sq s 7)) ∧ Same mdS h h'' ∧ MS h'' (wb (wp s (sq s)) true)) := by
  obtain ⟨v, hO, hv⟩ := id c.ob
  obtain ⟨f89, e89, q89⟩ := id c.nw
  obtain ⟨f90, e90, -⟩ := id c.im
  refine CA.of (by decide) rfl (fun _ => Nat.le_of_ble_eq_true rfl) ?_
  show AX w M_X12_image 0 0 0 [.ref 87, .null] [] h _
  refine AX.aload_n (pc := 0) dX12_image_0 rfl ?_
  refine AX.iconst (pc := 1) (v := nI 1) dX12_image_1 (by decide) ?_
  refine AX.putf (pc := 2) (fs' := [.ref 88, .ref 89, .ref 90, .int (nI 1), .int (v 1), .ref 91, .ref 92, .ref 93, .ref 94, .ref 95, .ref 96, .ref 97, .ref 98, .ref 99, .ref 100, .ref 101, .int (v 2), .ref 102, .ref 103, .ref 104, .ref 105, .ref 106, .ref 107, .ref 108, .int (v 3), .ref 109, .int (v 4), .ref 110, .ref 111, .int (v 5), .ref 112, .int (v 6), .int (v 7), .int (v 8), .ref 113, .int (v 9), .ref 114, .ref 115, .ref 116, .ref 117]) fX12_image_348 rfl (lt_k c.hn (by decide)) hO (Nat.le_of_ble_eq_true rfl) rfl rfl rfl dX12_image_2 ?_
  refine AX.iconst (pc := 5) (v := nI 0) dX12_image_5 (by decide) ?_
  refine AX.istore_n (pc := 6) (L' := [.ref 87, .int (nI 0)]) dX12_image_6 (by decide) rfl ?_
  have sx : Same [87] h (xset h 87 (.inr (11, [.ref 88, .ref 89, .ref 90, .int (nI 1), .int (v 1), .ref 91, .ref 92, .ref 93, .ref 94, .ref 95, .ref 96, .ref 97, .ref 98, .ref 99, .ref 100, .ref 101, .int (v 2), .ref 102, .ref 103, .ref 104, .ref 105, .ref 106, .ref 107, .ref 108, .int (v 3), .ref 109, .int (v 4), .ref 110, .ref 111, .int (v 5), .ref 112, .int (v 6), .int (v 7), .int (v 8), .ref 113, .int (v 9), .ref 114, .ref 115, .ref 116, .ref 117]))) := Same.rest
  have Om : MO (xset h 87 (.inr (11, [.ref 88, .ref 89, .ref 90, .int (nI 1), .int (v 1), .ref 91, .ref 92, .ref 93, .ref 94, .ref 95, .ref 96, .ref 97, .ref 98, .ref 99, .ref 100, .ref 101, .int (v 2), .ref 102, .ref 103, .ref 104, .ref 105, .ref 106, .ref 107, .ref 108, .int (v 3), .ref 109, .int (v 4), .ref 110, .ref 111, .int (v 5), .ref 112, .int (v 6), .int (v 7), .int (v 8), .ref 113, .int (v 9), .ref 114, .ref 115, .ref 116, .ref 117]))) (upd v 0 (nI 1)) := (xset_same _ _ _)
  refine l_mImage w _ (xset h 87 (.inr (11, [.ref 88, .ref 89, .ref 90, .int (nI 1), .int (v 1), .ref 91, .ref 92, .ref 93, .ref 94, .ref 95, .ref 96, .ref 97, .ref 98, .ref 99, .ref 100, .ref 101, .int (v 2), .ref 102, .ref 103, .ref 104, .ref 105, .ref 106, .ref 107, .ref 108, .int (v 3), .ref 109, .int (v 4), .ref 110, .ref 111, .int (v 5), .ref 112, .int (v 6), .int (v 7), .int (v 8), .ref 113, .int (v 9), .ref 114, .ref 115, .ref 116, .ref 117]))) (v := upd v 0 (nI 1)) (sx.le c.hn) Om (sx.at (by simp) e89) (fun h2 f s2 y90 b1 => ?_) 19 0 _ f90 (Nat.zero_add _) Same.rf (sx.at (by simp) e90) (fun i hi => absurd hi (Nat.not_lt_zero _))
  refine AX.aload_n (pc := 31) dX12_image_31 rfl ?_
  refine AX.getf (pc := 32) fX12_image_13 (lt_k (s2.le (sx.le c.hn)) (by omega)) (s2.at (by simp) (xset_same _ _ _)) rfl dX12_image_32 ?_
  refine AX.bipush (pc := 35) (v := nI 6) dX12_image_35 (by decide) ?_
  refine AX.ialdN (pc := 37) (i := 6) (v := (sq s 6)) (lt_k (s2.le (sx.le c.hn)) (by omega)) (s2.at (by simp) (sx.at (by simp) e89)) (by decide) (by decide) (q89 6 (by decide)) dX12_image_37 ?_
  refine AX.aload_n (pc := 38) dX12_image_38 rfl ?_
  refine AX.getf (pc := 39) fX12_image_13 (lt_k (s2.le (sx.le c.hn)) (by omega)) (s2.at (by simp) (xset_same _ _ _)) rfl dX12_image_39 ?_
  refine AX.bipush (pc := 42) (v := nI 7) dX12_image_42 (by decide) ?_
  refine AX.ialdN (pc := 44) (i := 7) (v := (sq s 7)) (lt_k (s2.le (sx.le c.hn)) (by omega)) (s2.at (by simp) (sx.at (by simp) e89)) (by decide) (by decide) (q89 7 (by decide)) dX12_image_44 ?_
  refine AX.iadd (pc := 45) dX12_image_45 ?_
  refine AX.iret (pc := 46) dX12_image_46 rfl rfl (by decide) (by decide) ?_
  have sz : Same [87, 90] h h2 := (sx.wide (by decide)).trans (s2.wide (by decide))
  exact ⟨rfl, mdS_lt sz (by decide), c.pic sz ⟨upd v 0 (nI 1), s2.at (by simp) Om, rfl, hv.2.1, hv.2.2⟩ ⟨f, y90, fun j hj => (b1 j hj).trans (q89 j hj)⟩⟩
theorem l_mUndo (w : XW) (P : Option Value → XH → Prop) (h0 : XH) {v f90 : Nat → Int32} (hn0 : 118 ≤ h0.1) (hO0 : MO h0 v) (e90 : h0.2 90 = .inl (0, 19, .inl f90)) (kk : ∀ h' (f : Nat → Int32), Same [89] h0 h' → h'.2 89 = .inl (0, 19, .inl f) → (∀ j, j < 19 → f j = f90 j) → AX w M_X12_undo 0 0 36 [.ref 87, .int (nI 19)] [] h' P) : ∀ (g j : Nat) (h : XH) (f : Nat → Int32), j + g = 19 → Same [89] h0 h → h.2 89 = .inl (0, 19, .inl f) → (∀ i, i < j → f i = f90 i) → AX w M_X12_undo 0 0 12 [.ref 87, .int (nI j)] [] h P
  | 0, j, h, f, hg, hS, e89, a1 => by
    have e : j = 19 := by omega
    subst e
    have hn := hS.le hn0
    refine AX.iload_n (pc := 12) dX12_undo_12 rfl ?_
    refine AX.bipush (pc := 13) (v := nI 19) dX12_undo_13 (by decide) ?_
    refine AX.icmp_geN (pc := 15) (tgt := 36) dX12_undo_15 (by decide) (by decide) (by decide) (fun hc15 => ?_) (fun q => absurd q (by decide))
    exact kk h f hS e89 a1
  | g + 1, j, h, f, hg, hS, e89, a1 => by
    have hn := hS.le hn0
    have hO := hO0.same hS (by simp)
    refine AX.iload_n (pc := 12) dX12_undo_12 rfl ?_
    refine AX.bipush (pc := 13) (v := nI 19) dX12_undo_13 (by decide) ?_
    refine AX.icmp_geN (pc := 15) (tgt := 36) dX12_undo_15 (by decide) (by omega) (by decide) (fun q => absurd q (by omega)) (fun hc15 => ?_)
    refine AX.aload_n (pc := 18) dX12_undo_18 rfl ?_
    refine AX.getf (pc := 19) fX12_undo_13 (lt_k hn (by decide)) hO rfl dX12_undo_19 ?_
    refine AX.iload_n (pc := 22) dX12_undo_22 rfl ?_
    refine AX.aload_n (pc := 23) dX12_undo_23 rfl ?_
    refine AX.getf (pc := 24) fX12_undo_16 (lt_k hn (by decide)) hO rfl dX12_undo_24 ?_
    refine AX.iload_n (pc := 27) dX12_undo_27 rfl ?_
    refine AX.ialdN (pc := 28) (i := j) (v := (f90 j)) (lt_k hn (by decide)) (hS.at (by simp) e90) (by decide) (by omega) rfl dX12_undo_28 ?_
    refine AX.iastN (pc := 29) (i := j) (g := upd f j (f90 j)) (lt_k hn (by decide)) e89 (by decide) (by omega) rfl dX12_undo_29 ?_
    refine AX.iincN (c := j + 1) (pc := 30) (L' := [.ref 87, .int (nI (j + 1))]) dX12_undo_30 rfl (inc1 _) (by decide) rfl ?_
    refine AX.goto (pc := 33) (tgt := 12) dX12_undo_33 (by decide) ?_
    exact l_mUndo w P h0 hn0 hO0 e90 kk g (j + 1) _ _ (by omega) (hS.trans Same.rest) (xset_same _ _ _) (fun i hi => if e : i = j then (by subst e; exact upd_at _ _ _) else (by rw [upd_off e]; exact a1 i (by omega)))
theorem c_mUndo (w : XW) (h : XH) {s : SS} (c : MS h s) : CA w M_X12_undo [.ref 87] h (fun v' h'' => v' = some (.int (aUndo s)) ∧ Same mdS h h'' ∧ MS h'' (wq s (nUndo s))) := by
  obtain ⟨v, hO, hv⟩ := id c.ob
  obtain ⟨f89, e89, q89⟩ := id c.nw
  obtain ⟨f90, e90, q90⟩ := id c.im
  have hO0 : h.2 87 = .inr (11, [.ref 88, .ref 89, .ref 90, .int (bI (sb s)), .int (v 1), .ref 91, .ref 92, .ref 93, .ref 94, .ref 95, .ref 96, .ref 97, .ref 98, .ref 99, .ref 100, .ref 101, .int (v 2), .ref 102, .ref 103, .ref 104, .ref 105, .ref 106, .ref 107, .ref 108, .int (v 3), .ref 109, .int (v 4), .ref 110, .ref 111, .int (v 5), .ref 112, .int (v 6), .int (v 7), .int (v 8), .ref 113, .int (v 9), .ref 114, .ref 115, .ref 116, .ref 117]) := by rw [← hv.1]; exact hO
  by_cases hb : sb s = true
  · have en : nUndo s = sp_ s := if_pos hb
    have ea : aUndo s = sp_ s 6 + sp_ s 7 := if_pos hb
    rw [en, ea]
    rw [hb] at hO0
    refine CA.of (by decide) rfl (fun _ => Nat.le_of_ble_eq_true rfl) ?_
    show AX w M_X12_undo 0 0 0 [.ref 87, .null] [] h _
    refine AX.aload_n (pc := 0) dX12_undo_0 rfl ?_
    refine AX.getf (pc := 1) fX12_undo_348 (lt_k c.hn (by decide)) hO0 rfl dX12_undo_1 ?_
    refine AX.if_neB (pc := 4) (tgt := 10) dX12_undo_4 (by decide) (fun hc4 => ?_) (fun q => absurd q (by decide))
    refine AX.iconst (pc := 10) (v := nI 0) dX12_undo_10 (by decide) ?_
    refine AX.istore_n (pc := 11) (L' := [.ref 87, .int (nI 0)]) dX12_undo_11 (by decide) rfl ?_
    refine l_mUndo w _ h (v := v) c.hn hO e90 (fun h2 f s2 y89 b1 => ?_) 19 0 h f89 (Nat.zero_add _) Same.rf e89 (fun i hi => absurd hi (Nat.not_lt_zero _))
    refine AX.aload_n (pc := 36) dX12_undo_36 rfl ?_
    refine AX.getf (pc := 37) fX12_undo_13 (lt_k (s2.le c.hn) (by omega)) (s2.at (by simp) hO) rfl dX12_undo_37 ?_
    refine AX.bipush (pc := 40) (v := nI 6) dX12_undo_40 (by decide) ?_
    refine AX.ialdN (pc := 42) (i := 6) (v := (sp_ s 6)) (lt_k (s2.le c.hn) (by omega)) y89 (by decide) (by decide) ((b1 6 (by decide)).trans (q90 hb 6 (by decide))) dX12_undo_42 ?_
    refine AX.aload_n (pc := 43) dX12_undo_43 rfl ?_
    refine AX.getf (pc := 44) fX12_undo_13 (lt_k (s2.le c.hn) (by omega)) (s2.at (by simp) hO) rfl dX12_undo_44 ?_
    refine AX.bipush (pc := 47) (v := nI 7) dX12_undo_47 (by decide) ?_
    refine AX.ialdN (pc := 49) (i := 7) (v := (sp_ s 7)) (lt_k (s2.le c.hn) (by omega)) y89 (by decide) (by decide) ((b1 7 (by decide)).trans (q90 hb 7 (by decide))) dX12_undo_49 ?_
    refine AX.iadd (pc := 50) dX12_undo_50 ?_
    refine AX.iret (pc := 51) dX12_undo_51 rfl rfl (by decide) (by decide) ?_
    exact ⟨rfl, mdS_lt s2 (by decide), c.now s2 ⟨f, y89, fun j hj => (b1 j hj).trans (q90 hb j hj)⟩⟩
  have hb2 : sb s = false := Bool.eq_false_iff.mpr hb
  have en : nUndo s = sq s := if_neg hb
  have ea : aUndo s = -3 := if_neg hb
  rw [en, ea]
  rw [hb2] at hO0
  refine CA.of (by decide) rfl (fun _ => Nat.le_of_ble_eq_true rfl) ?_
  show AX w M_X12_undo 0 0 0 [.ref 87, .null] [] h _
  refine AX.aload_n (pc := 0) dX12_undo_0 rfl ?_
  refine AX.getf (pc := 1) fX12_undo_348 (lt_k c.hn (by decide)) hO0 rfl dX12_undo_1 ?_
  refine AX.if_neB (pc := 4) (tgt := 10) dX12_undo_4 (by decide) (fun q => absurd q (by decide)) (fun hc4 => ?_)
  refine AX.bipush (pc := 7) (v := (-3)) dX12_undo_7 (by decide) ?_
  refine AX.iret (pc := 9) dX12_undo_9 rfl rfl (by decide) (by decide) ?_
  exact ⟨rfl, Same.rf, c⟩
theorem l_mJd (w : XW) (P : Option Value → XH → Prop) (h0 : XH) {v f3 f4 g : Nat → Int32} {x i0 z0 kd nn : Nat} {Z : List Int32} (hn0 : 118 ≤ h0.1) (hx : x ≤ 3) (okk : okK (some (kd, nn, g))) (e116 : h0.2 116 = .inl (0, 4, .inl f3)) (x3 : f3 x = nI nn) (e117 : h0.2 117 = .inl (0, 80, .inl f4)) (x4 : ∀ j, j < 20 → f4 (20 * x + j) = g j) (kk : ∀ h' (f : Nat → Int32), Same [87, 113] h0 h' → h'.2 87 = .inr (11, [.ref 88, .ref 89, .ref 90, .int (v 0), .int (v 1), .ref 91, .ref 92, .ref 93, .ref 94, .ref 95, .ref 96, .ref 97, .ref 98, .ref 99, .ref 100, .ref 101, .int (v 2), .ref 102, .ref 103, .ref 104, .ref 105, .ref 106, .ref 107, .ref 108, .int (v 3), .ref 109, .int (v 4), .ref 110, .ref 111, .int (v 5), .ref 112, .int (v 6), .int (v 7), .int (v 8), .ref 113, .int (nI Z.length), .ref 114, .ref 115, .ref 116, .ref 117]) → h'.2 113 = .inl (0, 20, .inl f) → (∀ j, j < Z.length → f j = Z.getD j 0) → AX w M_X12_judged 0 0 125 [.ref 87, .int (nI x), .int (nI i0), .int (nI z0), .int (nI nn)] [] h' P) : ∀ (c k : Nat) (h : XH) (f : Nat → Int32) (Y : List Int32), k + c = nn → Same [87, 113] h0 h → h.2 87 = .inr (11, [.ref 88, .ref 89, .ref 90, .int (v 0), .int (v 1), .ref 91, .ref 92, .ref 93, .ref 94, .ref 95, .ref 96, .ref 97, .ref 98, .ref 99, .ref 100, .ref 101, .int (v 2), .ref 102, .ref 103, .ref 104, .ref 105, .ref 106, .ref 107, .ref 108, .int (v 3), .ref 109, .int (v 4), .ref 110, .ref 111, .int (v 5), .ref 112, .int (v 6), .int (v 7), .int (v 8), .ref 113, .int (nI Y.length), .ref 114, .ref 115, .ref 116, .ref 117]) → h.2 113 = .inl (0, 20, .inl f) → (∀ j, j < Y.length → f j = Y.getD j 0) → Y.length ≤ k → Y ++ gaN g c k = Z → AX w M_X12_judged 0 0 62 [.ref 87, .int (nI x), .int (nI i0), .int (nI z0), .int (nI k)] [] h P
  | 0, k, h, f, Y, hg, hS, hO, e113, q, hy, hZ => by
    have e : k = nn := by omega
    subst e
    have hn := hS.le hn0
    rw [show gaN g 0 k = [] from rfl, List.append_nil] at hZ
    subst hZ
    have hnn : k ≤ 20 := okk.2.1
    refine AX.iload (pc := 62) dX12_judged_62 rfl ?_
    refine AX.aload_n (pc := 64) dX12_judged_64 rfl ?_
    refine AX.getf (pc := 65) fX12_judged_96 (lt_k hn (by decide)) hO rfl dX12_judged_65 ?_
    refine AX.iload_n (pc := 68) dX12_judged_68 rfl ?_
    refine AX.ialdN (pc := 69) (i := x) (v := (nI k)) (lt_k hn (by decide)) (hS.at (by simp) e116) (by decide) (by omega) x3 dX12_judged_69 ?_
    refine AX.icmp_geN (pc := 70) (tgt := 125) dX12_judged_70 (by decide) (by omega) (by omega) (fun hc70 => ?_) (fun q => absurd q (Nat.lt_irrefl _))
    exact kk h f hS hO e113 q
  | c + 1, k, h, f, Y, hg, hS, hO, e113, q, hy, hZ => by
    have hn := hS.le hn0
    have hnn : nn ≤ 20 := okk.2.1
    have hk4 := x4 k (by omega)
    have hga : gaN g (c + 1) k = if g k = -5 then gaN g c (k + 1) else g k :: gaN g c (k + 1) := rfl
    by_cases h5 : g k = -5
    · rw [hga, if_pos h5] at hZ
      refine AX.iload (pc := 62) dX12_judged_62 rfl ?_
      refine AX.aload_n (pc := 64) dX12_judged_64 rfl ?_
      refine AX.getf (pc := 65) fX12_judged_96 (lt_k hn (by decide)) hO rfl dX12_judged_65 ?_
      refine AX.iload_n (pc := 68) dX12_judged_68 rfl ?_
      refine AX.ialdN (pc := 69) (i := x) (v := (nI nn)) (lt_k hn (by decide)) (hS.at (by simp) e116) (by decide) (by omega) x3 dX12_judged_69 ?_
      refine AX.icmp_geN (pc := 70) (tgt := 125) dX12_judged_70 (by decide) (by omega) (by omega) (fun q => absurd q (by omega)) (fun hc70 => ?_)
      refine AX.aload_n (pc := 73) dX12_judged_73 rfl ?_
      refine AX.getf (pc := 74) fX12_judged_99 (lt_k hn (by decide)) hO rfl dX12_judged_74 ?_
      refine AX.bipush (pc := 77) (v := nI 20) dX12_judged_77 (by decide) ?_
      refine AX.iload_n (pc := 79) dX12_judged_79 rfl ?_
      refine AX.imulN (pc := 80) (c := 20 * x) dX12_judged_80 rfl ?_
      refine AX.iload (pc := 81) dX12_judged_81 rfl ?_
      refine AX.iaddN (pc := 83) (c := 20 * x + k) dX12_judged_83 rfl ?_
      refine AX.ialdN (pc := 84) (i := 20 * x + k) (v := (-5)) (lt_k hn (by decide)) (hS.at (by simp) e117) (by decide) (by omega) (hk4.trans h5) dX12_judged_84 ?_
      refine AX.if_lt (pc := 85) (tgt := 119) dX12_judged_85 (by decide) (fun hc85 => ?_) (fun q => absurd (by decide) q)
      refine AX.iincN (c := k + 1) (pc := 119) (L' := [.ref 87, .int (nI x), .int (nI i0), .int (nI z0), .int (nI (k + 1))]) dX12_judged_119 rfl (inc1 _) (by decide) rfl ?_
      refine AX.goto (pc := 122) (tgt := 62) dX12_judged_122 (by decide) ?_
      exact l_mJd w P h0 hn0 hx okk e116 x3 e117 x4 kk c (k + 1) h f Y (by omega) hS hO e113 q (by omega) hZ
    rw [hga, if_neg h5] at hZ
    obtain ⟨zz, hz1, hz2⟩ := (okk.2.2 k (by omega)).resolve_left h5
    refine AX.iload (pc := 62) dX12_judged_62 rfl ?_
    refine AX.aload_n (pc := 64) dX12_judged_64 rfl ?_
    refine AX.getf (pc := 65) fX12_judged_96 (lt_k hn (by decide)) hO rfl dX12_judged_65 ?_
    refine AX.iload_n (pc := 68) dX12_judged_68 rfl ?_
    refine AX.ialdN (pc := 69) (i := x) (v := (nI nn)) (lt_k hn (by decide)) (hS.at (by simp) e116) (by decide) (by omega) x3 dX12_judged_69 ?_
    refine AX.icmp_geN (pc := 70) (tgt := 125) dX12_judged_70 (by decide) (by omega) (by omega) (fun q => absurd q (by omega)) (fun hc70 => ?_)
    refine AX.aload_n (pc := 73) dX12_judged_73 rfl ?_
    refine AX.getf (pc := 74) fX12_judged_99 (lt_k hn (by decide)) hO rfl dX12_judged_74 ?_
    refine AX.bipush (pc := 77) (v := nI 20) dX12_judged_77 (by decide) ?_
    refine AX.iload_n (pc := 79) dX12_judged_79 rfl ?_
    refine AX.imulN (pc := 80) (c := 20 * x) dX12_judged_80 rfl ?_
    refine AX.iload (pc := 81) dX12_judged_81 rfl ?_
    refine AX.iaddN (pc := 83) (c := 20 * x + k) dX12_judged_83 rfl ?_
    refine AX.ialdN (pc := 84) (i := 20 * x + k) (v := (nI zz)) (lt_k hn (by decide)) (hS.at (by simp) e117) (by decide) (by omega) (hk4.trans hz2) dX12_judged_84 ?_
    refine AX.if_ltN (pc := 85) (tgt := 119) dX12_judged_85 (by decide) (by omega) (fun q => absurd q (by omega)) (fun hc85 => ?_)
    refine AX.aload_n (pc := 88) dX12_judged_88 rfl ?_
    refine AX.getf (pc := 89) fX12_judged_87 (lt_k hn (by decide)) hO rfl dX12_judged_89 ?_
    refine AX.aload_n (pc := 92) dX12_judged_92 rfl ?_
    refine AX.getf (pc := 93) fX12_judged_332 (lt_k hn (by decide)) hO rfl dX12_judged_93 ?_
    refine AX.aload_n (pc := 96) dX12_judged_96 rfl ?_
    refine AX.getf (pc := 97) fX12_judged_99 (lt_k hn (by decide)) hO rfl dX12_judged_97 ?_
    refine AX.bipush (pc := 100) (v := nI 20) dX12_judged_100 (by decide) ?_
    refine AX.iload_n (pc := 102) dX12_judged_102 rfl ?_
    refine AX.imulN (pc := 103) (c := 20 * x) dX12_judged_103 rfl ?_
    refine AX.iload (pc := 104) dX12_judged_104 rfl ?_
    refine AX.iaddN (pc := 106) (c := 20 * x + k) dX12_judged_106 rfl ?_
    refine AX.ialdN (pc := 107) (i := 20 * x + k) (v := (nI zz)) (lt_k hn (by decide)) (hS.at (by simp) e117) (by decide) (by omega) (hk4.trans hz2) dX12_judged_107 ?_
    refine AX.iastN (pc := 108) (i := Y.length) (g := upd f Y.length (nI zz)) (lt_k hn (by decide)) e113 (by decide) (by omega) rfl dX12_judged_108 ?_
    refine AX.aload_n (pc := 109) dX12_judged_109 rfl ?_
    refine AX.dup (pc := 110) dX12_judged_110 rfl ?_
    refine AX.getf (pc := 111) fX12_judged_332 (lt_k hn (by decide)) ((xset_ne (by decide)).trans hO) rfl dX12_judged_111 ?_
    refine AX.iconst (pc := 114) (v := nI 1) dX12_judged_114 (by decide) ?_
    refine AX.iaddN (pc := 115) (c := Y.length + 1) dX12_judged_115 rfl ?_
    refine AX.putf (pc := 116) (h := xset h 113 (.inl (0, 20, .inl (upd f Y.length (nI zz))))) (a := 87) (fs' := [.ref 88, .ref 89, .ref 90, .int (v 0), .int (v 1), .ref 91, .ref 92, .ref 93, .ref 94, .ref 95, .ref 96, .ref 97, .ref 98, .ref 99, .ref 100, .ref 101, .int (v 2), .ref 102, .ref 103, .ref 104, .ref 105, .ref 106, .ref 107, .ref 108, .int (v 3), .ref 109, .int (v 4), .ref 110, .ref 111, .int (v 5), .ref 112, .int (v 6), .int (v 7), .int (v 8), .ref 113, .int (nI (Y.length + 1)), .ref 114, .ref 115, .ref 116, .ref 117]) fX12_judged_332 rfl (lt_k hn (by decide)) ((xset_ne (by decide)).trans hO) (Nat.le_of_ble_eq_true rfl) rfl rfl rfl dX12_judged_116 ?_
    refine AX.iincN (c := k + 1) (pc := 119) (L' := [.ref 87, .int (nI x), .int (nI i0), .int (nI z0), .int (nI (k + 1))]) dX12_judged_119 rfl (inc1 _) (by decide) rfl ?_
    refine AX.goto (pc := 122) (tgt := 62) dX12_judged_122 (by decide) ?_
    have sx : Same [87, 113] h (xset (xset h 113 (.inl (0, 20, .inl (upd f Y.length (nI zz))))) 87 (.inr (11, [.ref 88, .ref 89, .ref 90, .int (v 0), .int (v 1), .ref 91, .ref 92, .ref 93, .ref 94, .ref 95, .ref 96, .ref 97, .ref 98, .ref 99, .ref 100, .ref 101, .int (v 2), .ref 102, .ref 103, .ref 104, .ref 105, .ref 106, .ref 107, .ref 108, .int (v 3), .ref 109, .int (v 4), .ref 110, .ref 111, .int (v 5), .ref 112, .int (v 6), .int (v 7), .int (v 8), .ref 113, .int (nI (Y.length + 1)), .ref 114, .ref 115, .ref 116, .ref 117]))) := Same.set (Same.set (Same.rf) (by simp)) (by simp)
    have el : (Y ++ [g k]).length = Y.length + 1 := by rw [List.length_append]; rfl
    have qq : ∀ j, j < (Y ++ [g k]).length → upd f Y.length (nI zz) j = (Y ++ [g k]).getD j 0 := fun j hj => by
      rw [el] at hj
      by_cases e : j = Y.length
      · subst e
        rw [upd_at, List.getD_eq_getElem?_getD, List.getElem?_append_right (Nat.le_refl _), ← hz2]
        simp
      · rw [upd_off e, q j (by omega), List.getD_eq_getElem?_getD, List.getD_eq_getElem?_getD, List.getElem?_append_left (by omega)]
    exact l_mJd w P h0 hn0 hx okk e116 x3 e117 x4 kk c (k + 1) _ _ (Y ++ [g k]) (by omega) (hS.trans sx) (by rw [el]; exact (xset_same _ _ _)) ((xset_ne (by decide)).trans (xset_same _ _ _)) qq (by omega) (by rw [List.append_assoc]; exact hZ)
theorem c_mJudged (w : XW) (h : XH) {s : SS} {n o : Nat} {a b : Nat × Nat} (c : MS h s) (l : LV (sq s) n o a b) (t : TR s) (x : Int32) (i : Int32) (z : Int32) : CA w M_X12_judged [.ref 87, .int x, .int i, .int z] h (fun v' h'' => v' = some (.int (aJudged o (sk s) x i z)) ∧ Same mdS h h'' ∧ MS h'' s) := by
  obtain ⟨v, hO, hv⟩ := id c.ob
  obtain ⟨f1, f2, f3, f4, e114, e115, e116, e117, qk⟩ := id c.rk
  obtain ⟨f113, e113⟩ := id c.td
  obtain ⟨f89, e89, q89⟩ := id c.nw
  by_cases h_x : inR 0 3 x
  · obtain ⟨xn, rfl, l_x, u_x⟩ := inR_nat (by decide) h_x
    by_cases h_z : inR (leN o) 501 z
    · obtain ⟨zn, rfl, l_z, u_z⟩ := inR_nat (by decide) h_z
      have p_z := leN_pos o
      have okk := t.at xn
      have qx := qk xn (by omega)
      cases he : sk s xn with
      | none =>
        rw [he] at qx okk
        have qx : f1 xn = bI false := qx
        refine CA.of (by decide) rfl (fun _ => Nat.le_of_ble_eq_true rfl) ?_
        show AX w M_X12_judged 0 0 0 [.ref 87, .int (nI xn), .int i, .int (nI zn), .null] [] h _
        refine AX.iload_n (pc := 0) dX12_judged_0 rfl ?_
        refine AX.callS (pc := 1) (M2 := M_X12_isRack) (As := [.int (nI xn)]) (rest := []) (c_mRack w h (nI xn)) xc_X12_judged__X12_isRack gX12_judged_X12_isRack rfl (Nat.le_of_ble_eq_true rfl) dX12_judged_1 ?_
        rintro _ h9 ⟨rfl, e9⟩
        have e9 := e9.symm
        subst e9
        rw [decide_eq_true h_x]
        show AX w M_X12_judged 0 0 4 [.ref 87, .int (nI xn), .int i, .int (nI zn), .null] [.int (bI true)] _ _
        refine AX.if_neB (pc := 4) (tgt := 9) dX12_judged_4 (by decide) (fun hc4 => ?_) (fun q => absurd q (by decide))
        refine AX.aload_n (pc := 9) dX12_judged_9 rfl ?_
        refine AX.iload_n (pc := 10) dX12_judged_10 rfl ?_
        refine AX.sipush (pc := 11) (v := nI 501) dX12_judged_11 (by decide) ?_
        refine AX.callV (pc := 14) (M2 := M_X12_isRest) (As := [.int (nI zn), .int (nI 501)]) (rest := []) (c_mRest w h c l (nI zn) 501 (by decide)) xc_X12_judged__X12_isRest gX12_judged_X12_isRest (ci := 11) rfl (lt_k c.hn (by decide)) hO rfl (Nat.le_of_ble_eq_true rfl) dX12_judged_14 ?_
        rintro _ h9 ⟨rfl, e9⟩
        have e9 := e9.symm
        subst e9
        rw [decide_eq_true h_z]
        show AX w M_X12_judged 0 0 17 [.ref 87, .int (nI xn), .int i, .int (nI zn), .null] [.int (bI true)] _ _
        refine AX.if_neB (pc := 17) (tgt := 23) dX12_judged_17 (by decide) (fun hc17 => ?_) (fun q => absurd q (by decide))
        refine AX.aload_n (pc := 23) dX12_judged_23 rfl ?_
        refine AX.getf (pc := 24) fX12_judged_90 (lt_k c.hn (by decide)) hO rfl dX12_judged_24 ?_
        refine AX.iload_n (pc := 27) dX12_judged_27 rfl ?_
        refine AX.zaldN (pc := 28) (i := xn) (v := (bI false)) (lt_k c.hn (by decide)) e114 (by decide) (by omega) qx dX12_judged_28 ?_
        refine AX.if_neB (pc := 29) (tgt := 35) dX12_judged_29 (by decide) (fun q => absurd q (by decide)) (fun hc29 => ?_)
        refine AX.bipush (pc := 32) (v := (-11)) dX12_judged_32 (by decide) ?_
        refine AX.iret (pc := 34) dX12_judged_34 rfl rfl (by decide) (by decide) ?_
        exact ⟨by unfold aJudged; rw [if_pos h_x, if_pos h_z, nI_nat (show xn < 2147483648 by omega), he], Same.rf, c⟩
      | some p =>
        rw [he] at qx okk
        obtain ⟨kk, nn, g⟩ := p
        obtain ⟨x1, x2, x3, x4⟩ := qx
        have hkk : kk ≤ 5 := okk.1
        have hnn : nn ≤ 20 := okk.2.1
        by_cases hi : inR 0 nn i
        · obtain ⟨in_, rfl, l_i, u_i⟩ := inR_nat (show nn < 2147483648 by omega) hi
          refine CA.of (by decide) rfl (fun _ => Nat.le_of_ble_eq_true rfl) ?_
          show AX w M_X12_judged 0 0 0 [.ref 87, .int (nI xn), .int (nI in_), .int (nI zn), .null] [] h _
          refine AX.iload_n (pc := 0) dX12_judged_0 rfl ?_
          refine AX.callS (pc := 1) (M2 := M_X12_isRack) (As := [.int (nI xn)]) (rest := []) (c_mRack w h (nI xn)) xc_X12_judged__X12_isRack gX12_judged_X12_isRack rfl (Nat.le_of_ble_eq_true rfl) dX12_judged_1 ?_
          rintro _ h9 ⟨rfl, e9⟩
          have e9 := e9.symm
          subst e9
          rw [decide_eq_true h_x]
          show AX w M_X12_judged 0 0 4 [.ref 87, .int (nI xn), .int (nI in_), .int (nI zn), .null] [.int (bI true)] _ _
          refine AX.if_neB (pc := 4) (tgt := 9) dX12_judged_4 (by decide) (fun hc4 => ?_) (fun q => absurd q (by decide))
          refine AX.aload_n (pc := 9) dX12_judged_9 rfl ?_
          refine AX.iload_n (pc := 10) dX12_judged_10 rfl ?_
          refine AX.sipush (pc := 11) (v := nI 501) dX12_judged_11 (by decide) ?_
          refine AX.callV (pc := 14) (M2 := M_X12_isRest) (As := [.int (nI zn), .int (nI 501)]) (rest := []) (c_mRest w h c l (nI zn) 501 (by decide)) xc_X12_judged__X12_isRest gX12_judged_X12_isRest (ci := 11) rfl (lt_k c.hn (by decide)) hO rfl (Nat.le_of_ble_eq_true rfl) dX12_judged_14 ?_
          rintro _ h9 ⟨rfl, e9⟩
          have e9 := e9.symm
          subst e9
          rw [decide_eq_true h_z]
          show AX w M_X12_judged 0 0 17 [.ref 87, .int (nI xn), .int (nI in_), .int (nI zn), .null] [.int (bI true)] _ _
          refine AX.if_neB (pc := 17) (tgt := 23) dX12_judged_17 (by decide) (fun hc17 => ?_) (fun q => absurd q (by decide))
          refine AX.aload_n (pc := 23) dX12_judged_23 rfl ?_
          refine AX.getf (pc := 24) fX12_judged_90 (lt_k c.hn (by decide)) hO rfl dX12_judged_24 ?_
          refine AX.iload_n (pc := 27) dX12_judged_27 rfl ?_
          refine AX.zaldN (pc := 28) (i := xn) (v := (bI true)) (lt_k c.hn (by decide)) e114 (by decide) (by omega) x1 dX12_judged_28 ?_
          refine AX.if_neB (pc := 29) (tgt := 35) dX12_judged_29 (by decide) (fun hc29 => ?_) (fun q => absurd q (by decide))
          refine AX.iload_n (pc := 35) dX12_judged_35 rfl ?_
          refine AX.i2l (pc := 36) dX12_judged_36 ?_
          refine AX.lconst (pc := 37) (v := 0) dX12_judged_37 (by decide) ?_
          refine AX.aload_n (pc := 38) dX12_judged_38 rfl ?_
          refine AX.getf (pc := 39) fX12_judged_96 (lt_k c.hn (by decide)) hO rfl dX12_judged_39 ?_
          refine AX.iload_n (pc := 42) dX12_judged_42 rfl ?_
          refine AX.ialdN (pc := 43) (i := xn) (v := (nI nn)) (lt_k c.hn (by decide)) e116 (by decide) (by omega) x3 dX12_judged_43 ?_
          refine AX.i2l (pc := 44) dX12_judged_44 ?_
          refine AX.callS (pc := 45) (M2 := M_X12_in) (As := [.long ((nI in_).toInt64), .long 0, .long ((nI nn).toInt64)]) (rest := []) (c_in w h ((nI in_).toInt64) (0) ((nI nn).toInt64)) xc_X12_judged__X12_in gX12_judged_X12_in rfl (Nat.le_of_ble_eq_true rfl) dX12_judged_45 ?_
          rintro _ h9 ⟨rfl, e9⟩
          have e9 := e9.symm
          subst e9
          rw [decide_eq_true ((in_iff (L := 0) (by decide) (n64 nn (by omega))).mpr hi)]
          show AX w M_X12_judged 0 0 48 [.ref 87, .int (nI xn), .int (nI in_), .int (nI zn), .null] [.int (bI true)] _ _
          refine AX.if_neB (pc := 48) (tgt := 54) dX12_judged_48 (by decide) (fun hc48 => ?_) (fun q => absurd q (by decide))
          refine AX.aload_n (pc := 54) dX12_judged_54 rfl ?_
          refine AX.iconst (pc := 55) (v := nI 0) dX12_judged_55 (by decide) ?_
          refine AX.putf (pc := 56) (fs' := [.ref 88, .ref 89, .ref 90, .int (v 0), .int (v 1), .ref 91, .ref 92, .ref 93, .ref 94, .ref 95, .ref 96, .ref 97, .ref 98, .ref 99, .ref 100, .ref 101, .int (v 2), .ref 102, .ref 103, .ref 104, .ref 105, .ref 106, .ref 107, .ref 108, .int (v 3), .ref 109, .int (v 4), .ref 110, .ref 111, .int (v 5), .ref 112, .int (v 6), .int (v 7), .int (v 8), .ref 113, .int (nI 0), .ref 114, .ref 115, .ref 116, .ref 117]) fX12_judged_332 rfl (lt_k c.hn (by decide)) hO (Nat.le_of_ble_eq_true rfl) rfl rfl rfl dX12_judged_56 ?_
          refine AX.iload_n (pc := 59) dX12_judged_59 rfl ?_
          refine AX.istore (pc := 60) (L' := [.ref 87, .int (nI xn), .int (nI in_), .int (nI zn), .int (nI in_)]) dX12_judged_60 (by decide) rfl ?_
          have sx : Same [87] h (xset h 87 (.inr (11, [.ref 88, .ref 89, .ref 90, .int (v 0), .int (v 1), .ref 91, .ref 92, .ref 93, .ref 94, .ref 95, .ref 96, .ref 97, .ref 98, .ref 99, .ref 100, .ref 101, .int (v 2), .ref 102, .ref 103, .ref 104, .ref 105, .ref 106, .ref 107, .ref 108, .int (v 3), .ref 109, .int (v 4), .ref 110, .ref 111, .int (v 5), .ref 112, .int (v 6), .int (v 7), .int (v 8), .ref 113, .int (nI 0), .ref 114, .ref 115, .ref 116, .ref 117]))) := Same.rest
          refine l_mJd w _ (xset h 87 (.inr (11, [.ref 88, .ref 89, .ref 90, .int (v 0), .int (v 1), .ref 91, .ref 92, .ref 93, .ref 94, .ref 95, .ref 96, .ref 97, .ref 98, .ref 99, .ref 100, .ref 101, .int (v 2), .ref 102, .ref 103, .ref 104, .ref 105, .ref 106, .ref 107, .ref 108, .int (v 3), .ref 109, .int (v 4), .ref 110, .ref 111, .int (v 5), .ref 112, .int (v 6), .int (v 7), .int (v 8), .ref 113, .int (nI 0), .ref 114, .ref 115, .ref 116, .ref 117]))) (v := v) (i0 := in_) (z0 := zn) (Z := (gaN g (nn - in_) in_)) (sx.le c.hn) u_x okk (sx.at (by simp) e116) x3 (sx.at (by simp) e117) x4 (fun h2 f s2 O2 y113 q2 => ?_) (nn - in_) in_ _ f113 [] (by omega) Same.rf (xset_same _ _ _) (sx.at (by simp) e113) (fun j hj => absurd hj (Nat.not_lt_zero _)) (Nat.zero_le _) (List.nil_append _)
          have sz : Same [87, 113] h h2 := (sx.wide (by decide)).trans s2
          have c2 : MS h2 s := c.told sz ⟨upd v 9 (nI (gaN g (nn - in_) in_).length), O2, hv.1, hv.2.1, hv.2.2⟩ ⟨f, y113⟩
          have hgl := gaN_le g (nn - in_) in_
          refine AX.aload_n (pc := 125) dX12_judged_125 rfl ?_
          refine AX.iload_n (pc := 126) dX12_judged_126 rfl ?_
          refine AX.callV (pc := 127) (M2 := M_X12_judgedFrom) (As := [.int (nI zn)]) (rest := []) (c_judgedFrom w h2 (s2.le (sx.le c.hn)) O2 c2.nw l.q12 l.ho y113 (by omega) (gaS g (nn - in_) in_) (fun j hj => ⟨(q2 j hj).trans (gaS_ok okk u_i hj).1, (gaS_ok okk u_i hj).2⟩) zn u_z) xc_X12_judged__X12_judgedFrom gX12_judged_X12_judgedFrom (ci := 11) rfl (lt_k (s2.le (sx.le c.hn)) (by omega)) O2 rfl (Nat.le_of_ble_eq_true rfl) dX12_judged_127 ?_
          rintro _ h9 ⟨rfl, e9⟩
          have e9 := e9.symm
          subst e9
          refine AX.iret (pc := 130) dX12_judged_130 rfl rfl (by decide) (by decide) ?_
          exact ⟨by unfold aJudged; rw [if_pos h_x, if_pos h_z, nI_nat (show xn < 2147483648 by omega), he]; show _ = some (Value.int (if inR 0 nn (nI in_) then _ else _)); rw [if_pos hi, nI_nat (show in_ < 2147483648 by omega), nI_nat (show zn < 2147483648 by omega)], mdS_lt sz (by decide), c2⟩
        refine CA.of (by decide) rfl (fun _ => Nat.le_of_ble_eq_true rfl) ?_
        show AX w M_X12_judged 0 0 0 [.ref 87, .int (nI xn), .int i, .int (nI zn), .null] [] h _
        refine AX.iload_n (pc := 0) dX12_judged_0 rfl ?_
        refine AX.callS (pc := 1) (M2 := M_X12_isRack) (As := [.int (nI xn)]) (rest := []) (c_mRack w h (nI xn)) xc_X12_judged__X12_isRack gX12_judged_X12_isRack rfl (Nat.le_of_ble_eq_true rfl) dX12_judged_1 ?_
        rintro _ h9 ⟨rfl, e9⟩
        have e9 := e9.symm
        subst e9
        rw [decide_eq_true h_x]
        show AX w M_X12_judged 0 0 4 [.ref 87, .int (nI xn), .int i, .int (nI zn), .null] [.int (bI true)] _ _
        refine AX.if_neB (pc := 4) (tgt := 9) dX12_judged_4 (by decide) (fun hc4 => ?_) (fun q => absurd q (by decide))
        refine AX.aload_n (pc := 9) dX12_judged_9 rfl ?_
        refine AX.iload_n (pc := 10) dX12_judged_10 rfl ?_
        refine AX.sipush (pc := 11) (v := nI 501) dX12_judged_11 (by decide) ?_
        refine AX.callV (pc := 14) (M2 := M_X12_isRest) (As := [.int (nI zn), .int (nI 501)]) (rest := []) (c_mRest w h c l (nI zn) 501 (by decide)) xc_X12_judged__X12_isRest gX12_judged_X12_isRest (ci := 11) rfl (lt_k c.hn (by decide)) hO rfl (Nat.le_of_ble_eq_true rfl) dX12_judged_14 ?_
        rintro _ h9 ⟨rfl, e9⟩
        have e9 := e9.symm
        subst e9
        rw [decide_eq_true h_z]
        show AX w M_X12_judged 0 0 17 [.ref 87, .int (nI xn), .int i, .int (nI zn), .null] [.int (bI true)] _ _
        refine AX.if_neB (pc := 17) (tgt := 23) dX12_judged_17 (by decide) (fun hc17 => ?_) (fun q => absurd q (by decide))
        refine AX.aload_n (pc := 23) dX12_judged_23 rfl ?_
        refine AX.getf (pc := 24) fX12_judged_90 (lt_k c.hn (by decide)) hO rfl dX12_judged_24 ?_
        refine AX.iload_n (pc := 27) dX12_judged_27 rfl ?_
        refine AX.zaldN (pc := 28) (i := xn) (v := (bI true)) (lt_k c.hn (by decide)) e114 (by decide) (by omega) x1 dX12_judged_28 ?_
        refine AX.if_neB (pc := 29) (tgt := 35) dX12_judged_29 (by decide) (fun hc29 => ?_) (fun q => absurd q (by decide))
        refine AX.iload_n (pc := 35) dX12_judged_35 rfl ?_
        refine AX.i2l (pc := 36) dX12_judged_36 ?_
        refine AX.lconst (pc := 37) (v := 0) dX12_judged_37 (by decide) ?_
        refine AX.aload_n (pc := 38) dX12_judged_38 rfl ?_
        refine AX.getf (pc := 39) fX12_judged_96 (lt_k c.hn (by decide)) hO rfl dX12_judged_39 ?_
        refine AX.iload_n (pc := 42) dX12_judged_42 rfl ?_
        refine AX.ialdN (pc := 43) (i := xn) (v := (nI nn)) (lt_k c.hn (by decide)) e116 (by decide) (by omega) x3 dX12_judged_43 ?_
        refine AX.i2l (pc := 44) dX12_judged_44 ?_
        refine AX.callS (pc := 45) (M2 := M_X12_in) (As := [.long i.toInt64, .long 0, .long ((nI nn).toInt64)]) (rest := []) (c_in w h (i.toInt64) (0) ((nI nn).toInt64)) xc_X12_judged__X12_in gX12_judged_X12_in rfl (Nat.le_of_ble_eq_true rfl) dX12_judged_45 ?_
        rintro _ h9 ⟨rfl, e9⟩
        have e9 := e9.symm
        subst e9
        rw [decide_eq_false (fun q => hi ((in_iff (L := 0) (by decide) (n64 nn (by omega))).mp q))]
        show AX w M_X12_judged 0 0 48 [.ref 87, .int (nI xn), .int i, .int (nI zn), .null] [.int (bI false)] _ _
        refine AX.if_neB (pc := 48) (tgt := 54) dX12_judged_48 (by decide) (fun q => absurd q (by decide)) (fun hc48 => ?_)
        refine AX.bipush (pc := 51) (v := (-12)) dX12_judged_51 (by decide) ?_
        refine AX.iret (pc := 53) dX12_judged_53 rfl rfl (by decide) (by decide) ?_
        exact ⟨by unfold aJudged; rw [if_pos h_x, if_pos h_z, nI_nat (show xn < 2147483648 by omega), he]; show _ = some (Value.int (if inR 0 nn i then _ else _)); rw [if_neg hi], Same.rf, c⟩
    · refine CA.of (by decide) rfl (fun _ => Nat.le_of_ble_eq_true rfl) ?_
      show AX w M_X12_judged 0 0 0 [.ref 87, .int (nI xn), .int i, .int z, .null] [] h _
      refine AX.iload_n (pc := 0) dX12_judged_0 rfl ?_
      refine AX.callS (pc := 1) (M2 := M_X12_isRack) (As := [.int (nI xn)]) (rest := []) (c_mRack w h (nI xn)) xc_X12_judged__X12_isRack gX12_judged_X12_isRack rfl (Nat.le_of_ble_eq_true rfl) dX12_judged_1 ?_
      rintro _ h9 ⟨rfl, e9⟩
      have e9 := e9.symm
      subst e9
      rw [decide_eq_true h_x]
      show AX w M_X12_judged 0 0 4 [.ref 87, .int (nI xn), .int i, .int z, .null] [.int (bI true)] _ _
      refine AX.if_neB (pc := 4) (tgt := 9) dX12_judged_4 (by decide) (fun hc4 => ?_) (fun q => absurd q (by decide))
      refine AX.aload_n (pc := 9) dX12_judged_9 rfl ?_
      refine AX.iload_n (pc := 10) dX12_judged_10 rfl ?_
      refine AX.sipush (pc := 11) (v := nI 501) dX12_judged_11 (by decide) ?_
      refine AX.callV (pc := 14) (M2 := M_X12_isRest) (As := [.int z, .int (nI 501)]) (rest := []) (c_mRest w h c l z 501 (by decide)) xc_X12_judged__X12_isRest gX12_judged_X12_isRest (ci := 11) rfl (lt_k c.hn (by decide)) hO rfl (Nat.le_of_ble_eq_true rfl) dX12_judged_14 ?_
      rintro _ h9 ⟨rfl, e9⟩
      have e9 := e9.symm
      subst e9
      rw [decide_eq_false h_z]
      show AX w M_X12_judged 0 0 17 [.ref 87, .int (nI xn), .int i, .int z, .null] [.int (bI false)] _ _
      refine AX.if_neB (pc := 17) (tgt := 23) dX12_judged_17 (by decide) (fun q => absurd q (by decide)) (fun hc17 => ?_)
      refine AX.bipush (pc := 20) (v := (-2)) dX12_judged_20 (by decide) ?_
      refine AX.iret (pc := 22) dX12_judged_22 rfl rfl (by decide) (by decide) ?_
      exact ⟨by unfold aJudged; rw [if_pos h_x, if_neg h_z]; try rfl, Same.rf, c⟩
  · refine CA.of (by decide) rfl (fun _ => Nat.le_of_ble_eq_true rfl) ?_
    show AX w M_X12_judged 0 0 0 [.ref 87, .int x, .int i, .int z, .null] [] h _
    refine AX.iload_n (pc := 0) dX12_judged_0 rfl ?_
    refine AX.callS (pc := 1) (M2 := M_X12_isRack) (As := [.int x]) (rest := []) (c_mRack w h x) xc_X12_judged__X12_isRack gX12_judged_X12_isRack rfl (Nat.le_of_ble_eq_true rfl) dX12_judged_1 ?_
    rintro _ h9 ⟨rfl, e9⟩
    have e9 := e9.symm
    subst e9
    rw [decide_eq_false h_x]
    show AX w M_X12_judged 0 0 4 [.ref 87, .int x, .int i, .int z, .null] [.int (bI false)] _ _
    refine AX.if_neB (pc := 4) (tgt := 9) dX12_judged_4 (by decide) (fun q => absurd q (by decide)) (fun hc4 => ?_)
    refine AX.iconst (pc := 7) (v := (-1)) dX12_judged_7 (by decide) ?_
    refine AX.iret (pc := 8) dX12_judged_8 rfl rfl (by decide) (by decide) ?_
    exact ⟨by unfold aJudged; rw [if_neg h_x]; try rfl, Same.rf, c⟩
