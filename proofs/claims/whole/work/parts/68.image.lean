/-! ===== THE FACE: LAYS, IMAGE, UNDO ===== -/
theorem upd_agree {f g : Nat → Int32} {n i : Nat} {x : Int32} (h : ∀ j, j < n → f j = g j) : ∀ j, j < n → upd f i x j = upd g i x j := fun j hj => by
  simp only [upd]
  split
  · rfl
  · exact h j hj
def aUndo (s : SS) : Int32 := if sb s = true then sp_ s 6 + sp_ s 7 else -3
def nUndo (s : SS) : Nat → Int32 := if sb s = true then sp_ s else sq s
theorem c_lays (w : XW) (h : XH) {s : SS} {o : Nat} {a b : Nat × Nat} (c : CSo h s o a b) (t : TR s) (x : Int32) (i : Int32) (z : Int32) : CA w M_X11_lays [.ref 0, .int x, .int i, .int z] h (fun v' h'' => v' = some (.int (aLays (sk s) x i z)) ∧ Same clS h h'' ∧ CSo h'' (wk s (nLays (sk s) x i z)) o a b) := by
  obtain ⟨f77, e77, q77⟩ := id c.rr
  by_cases h_x : inR 0 3 x
  · obtain ⟨xn, rfl, l_x, u_x⟩ := inR_nat (by decide) h_x
    by_cases hz1 : z = -1
    · subst hz1
      obtain ⟨m_, hm, kd, sz, f, RK1, RM⟩ := c.rx2 (x := xn) (by omega)
      have okk := t.at xn
      cases he : sk s xn with
      | none =>
        rw [he] at RM okk
        have RM : sz = -11 := RM
        have en : nLays (sk s) (nI xn) i (-1 : Int32) = sk s := by unfold nLays; rw [if_pos h_x, if_pos (Or.inl rfl), nI_nat (show xn < 2147483648 by omega), he]
        rw [en]
        refine CA.of (by decide) rfl (fun _ => Nat.le_of_ble_eq_true rfl) ?_
        show AX w M_X11_lays 0 0 0 [.ref 0, .int (nI xn), .int i, .int (-1), .null] [] h _
        refine AX.iload_n (pc := 0) dX11_lays_0 rfl ?_
        refine AX.callS (pc := 1) (M2 := M_X11_isRack) (As := [.int (nI xn)]) (rest := []) (c_isRack w h (nI xn)) xc_X11_lays__X11_isRack gX11_lays_X11_isRack rfl (Nat.le_of_ble_eq_true rfl) dX11_lays_1 ?_
        rintro _ h9 ⟨rfl, e9⟩
        have e9 := e9.symm
        subst e9
        rw [decide_eq_true (rack_iff.mpr h_x)]
        show AX w M_X11_lays 0 0 4 [.ref 0, .int (nI xn), .int i, .int (-1), .null] [.int (bI true)] _ _
        refine AX.if_eqB (pc := 4) (tgt := 19) dX11_lays_4 (by decide) (fun q => absurd q (by decide)) (fun hc4 => ?_)
        refine AX.iload_n (pc := 7) dX11_lays_7 rfl ?_
        refine AX.iconst (pc := 8) (v := (-1)) dX11_lays_8 (by decide) ?_
        refine AX.icmp_eq (pc := 9) (tgt := 21) dX11_lays_9 (by decide) (fun hc9 => ?_) (fun q => absurd rfl q)
        refine AX.aload_n (pc := 21) dX11_lays_21 rfl ?_
        refine AX.getf (pc := 22) fX11_lays_77 (lt_k c.hn (by omega)) c.dm rfl dX11_lays_22 ?_
        refine AX.iload_n (pc := 25) dX11_lays_25 rfl ?_
        refine AX.aaldN (pc := 26) (i := xn) (b := m_) (by decide) (lt_k c.hn (by omega)) e77 (by decide) (by omega) ((q77 xn (by omega)).trans (by rw [hm])) dX11_lays_26 ?_
        refine AX.astore (pc := 27) (L' := [.ref 0, .int (nI xn), .int i, .int (-1), .ref m_]) dX11_lays_27 (by decide) rfl ?_
        refine AX.aload (pc := 29) dX11_lays_29 rfl ?_
        refine AX.callV (pc := 31) (M2 := M_X8_isMissing) (As := []) (rest := []) (c_isMissing w h (K := 86) (show m_ < 86 by omega) (show 86 ≤ h.1 by have := c.hn; omega) RK1) xc_X11_lays__X8_isMissing gX11_lays_X8_isMissing (ci := 7) rfl (lt_k c.hn (by omega)) RK1.1 rfl (Nat.le_of_ble_eq_true rfl) dX11_lays_31 ?_
        rintro _ h9 ⟨rfl, e9⟩
        have e9 := e9.symm
        subst e9
        rw [decide_eq_true RM]
        show AX w M_X11_lays 0 0 34 [.ref 0, .int (nI xn), .int i, .int (-1), .ref m_] [.int (bI true)] _ _
        refine AX.if_eqB (pc := 34) (tgt := 40) dX11_lays_34 (by decide) (fun q => absurd q (by decide)) (fun hc34 => ?_)
        refine AX.bipush (pc := 37) (v := (-11)) dX11_lays_37 (by decide) ?_
        refine AX.iret (pc := 39) dX11_lays_39 rfl rfl (by decide) (by decide) ?_
        exact ⟨by unfold aLays; rw [if_pos h_x, if_pos (Or.inl rfl), nI_nat (show xn < 2147483648 by omega), he], Same.rf, c⟩
      | some p =>
        rw [he] at RM okk
        obtain ⟨kk, nn, g⟩ := p
        obtain ⟨rfl, rfl, hf⟩ := RM
        have hnn : nn ≤ 20 := okk.2.1
        have hkk : kk ≤ 5 := okk.1
        have ea : aLays (sk s) (nI xn) i (-1 : Int32) = if inL nn i then if (-1 : Int32) = -1 ∨ unN ((-1 : Int32) : Int32).toNatClampNeg kk = true then 1 else -16 else -12 := by unfold aLays; rw [if_pos h_x, if_pos (Or.inl rfl), nI_nat (show xn < 2147483648 by omega), he]
        have en : nLays (sk s) (nI xn) i (-1 : Int32) = if inL nn i then if (-1 : Int32) = -1 ∨ unN ((-1 : Int32) : Int32).toNatClampNeg kk = true then stK (sk s) xn (some (kk, nn, upd g i.toNatClampNeg (if (-1 : Int32) = -1 then -5 else (-1 : Int32)))) else sk s else sk s := by unfold nLays; rw [if_pos h_x, if_pos (Or.inl rfl), nI_nat (show xn < 2147483648 by omega), he]
        rw [ea, en]
        by_cases hi : inL nn i
        · rw [if_pos hi, if_pos hi]
          obtain ⟨in_, rfl, u_i⟩ := inL_nat hi
          rw [if_pos (Or.inl rfl), if_pos (Or.inl rfl), if_pos rfl, nI_nat (show in_ < 2147483648 by omega)]
          refine CA.of (by decide) rfl (fun _ => Nat.le_of_ble_eq_true rfl) ?_
          show AX w M_X11_lays 0 0 0 [.ref 0, .int (nI xn), .int (nI in_), .int (-1), .null] [] h _
          refine AX.iload_n (pc := 0) dX11_lays_0 rfl ?_
          refine AX.callS (pc := 1) (M2 := M_X11_isRack) (As := [.int (nI xn)]) (rest := []) (c_isRack w h (nI xn)) xc_X11_lays__X11_isRack gX11_lays_X11_isRack rfl (Nat.le_of_ble_eq_true rfl) dX11_lays_1 ?_
          rintro _ h9 ⟨rfl, e9⟩
          have e9 := e9.symm
          subst e9
          rw [decide_eq_true (rack_iff.mpr h_x)]
          show AX w M_X11_lays 0 0 4 [.ref 0, .int (nI xn), .int (nI in_), .int (-1), .null] [.int (bI true)] _ _
          refine AX.if_eqB (pc := 4) (tgt := 19) dX11_lays_4 (by decide) (fun q => absurd q (by decide)) (fun hc4 => ?_)
          refine AX.iload_n (pc := 7) dX11_lays_7 rfl ?_
          refine AX.iconst (pc := 8) (v := (-1)) dX11_lays_8 (by decide) ?_
          refine AX.icmp_eq (pc := 9) (tgt := 21) dX11_lays_9 (by decide) (fun hc9 => ?_) (fun q => absurd rfl q)
          refine AX.aload_n (pc := 21) dX11_lays_21 rfl ?_
          refine AX.getf (pc := 22) fX11_lays_77 (lt_k c.hn (by omega)) c.dm rfl dX11_lays_22 ?_
          refine AX.iload_n (pc := 25) dX11_lays_25 rfl ?_
          refine AX.aaldN (pc := 26) (i := xn) (b := m_) (by decide) (lt_k c.hn (by omega)) e77 (by decide) (by omega) ((q77 xn (by omega)).trans (by rw [hm])) dX11_lays_26 ?_
          refine AX.astore (pc := 27) (L' := [.ref 0, .int (nI xn), .int (nI in_), .int (-1), .ref m_]) dX11_lays_27 (by decide) rfl ?_
          refine AX.aload (pc := 29) dX11_lays_29 rfl ?_
          refine AX.callV (pc := 31) (M2 := M_X8_isMissing) (As := []) (rest := []) (c_isMissing w h (K := 86) (show m_ < 86 by omega) (show 86 ≤ h.1 by have := c.hn; omega) RK1) xc_X11_lays__X8_isMissing gX11_lays_X8_isMissing (ci := 7) rfl (lt_k c.hn (by omega)) RK1.1 rfl (Nat.le_of_ble_eq_true rfl) dX11_lays_31 ?_
          rintro _ h9 ⟨rfl, e9⟩
          have e9 := e9.symm
          subst e9
          rw [decide_eq_false (nI_i11 (show nn < 100 by omega))]
          show AX w M_X11_lays 0 0 34 [.ref 0, .int (nI xn), .int (nI in_), .int (-1), .ref m_] [.int (bI false)] _ _
          refine AX.if_eqB (pc := 34) (tgt := 40) dX11_lays_34 (by decide) (fun hc34 => ?_) (fun q => absurd q (by decide))
          refine AX.iload_n (pc := 40) dX11_lays_40 rfl ?_
          refine AX.if_ltN (pc := 41) (tgt := 53) dX11_lays_41 (by decide) (by omega) (fun q => absurd q (by omega)) (fun hc41 => ?_)
          refine AX.iload_n (pc := 44) dX11_lays_44 rfl ?_
          refine AX.aload (pc := 45) dX11_lays_45 rfl ?_
          refine AX.getf (pc := 47) fX11_lays_293 (lt_k c.hn (by omega)) RK1.1 rfl dX11_lays_47 ?_
          refine AX.icmp_ltN (pc := 50) (tgt := 56) dX11_lays_50 (by decide) (by omega) (by omega) (fun hc50 => ?_) (fun q => absurd q (by omega))
          refine AX.iload_n (pc := 56) dX11_lays_56 rfl ?_
          refine AX.iconst (pc := 57) (v := (-1)) dX11_lays_57 (by decide) ?_
          refine AX.icmp_eq (pc := 58) (tgt := 76) dX11_lays_58 (by decide) (fun hc58 => ?_) (fun q => absurd rfl q)
          refine AX.aload (pc := 76) dX11_lays_76 rfl ?_
          refine AX.getf (pc := 78) fX11_lays_297 (lt_k c.hn (by omega)) RK1.1 rfl dX11_lays_78 ?_
          refine AX.iload_n (pc := 81) dX11_lays_81 rfl ?_
          refine AX.iload_n (pc := 82) dX11_lays_82 rfl ?_
          refine AX.iconst (pc := 83) (v := (-1)) dX11_lays_83 (by decide) ?_
          refine AX.icmp_ne (pc := 84) (tgt := 92) dX11_lays_84 (by decide) (fun q => absurd rfl q) (fun hc84 => ?_)
          refine AX.bipush (pc := 87) (v := (-5)) dX11_lays_87 (by decide) ?_
          refine AX.goto (pc := 89) (tgt := 93) dX11_lays_89 (by decide) ?_
          refine AX.iastN (pc := 93) (i := in_) (g := upd f in_ (-5)) (lt_k c.hn (by omega)) RK1.2 (by decide) (by omega) rfl dX11_lays_93 ?_
          refine AX.iconst (pc := 94) (v := nI 1) dX11_lays_94 (by decide) ?_
          refine AX.iret (pc := 95) dX11_lays_95 rfl rfl (by decide) (by decide) ?_
          have sx : Same [78 + 2 * xn, 78 + 2 * xn + 1] h (xset h (m_ + 1) (.inl (0, 20, .inl (upd f in_ (-5))))) := by rw [hm]; exact Same.set Same.rf (by simp)
          exact ⟨rfl, clS_in sx (by intro k hk; simp at hk; omega), c.rack (r := xn) (by omega) sx (hm ▸ ⟨_, _, upd f in_ (-5), ⟨((xset_ne (by omega)).trans RK1.1), (xset_same _ _ _)⟩, rfl, rfl, upd_agree hf⟩)⟩
        · rw [if_neg hi, if_neg hi]
          rcases nL hi with hl | hu2
          · refine CA.of (by decide) rfl (fun _ => Nat.le_of_ble_eq_true rfl) ?_
            show AX w M_X11_lays 0 0 0 [.ref 0, .int (nI xn), .int i, .int (-1), .null] [] h _
            refine AX.iload_n (pc := 0) dX11_lays_0 rfl ?_
            refine AX.callS (pc := 1) (M2 := M_X11_isRack) (As := [.int (nI xn)]) (rest := []) (c_isRack w h (nI xn)) xc_X11_lays__X11_isRack gX11_lays_X11_isRack rfl (Nat.le_of_ble_eq_true rfl) dX11_lays_1 ?_
            rintro _ h9 ⟨rfl, e9⟩
            have e9 := e9.symm
            subst e9
            rw [decide_eq_true (rack_iff.mpr h_x)]
            show AX w M_X11_lays 0 0 4 [.ref 0, .int (nI xn), .int i, .int (-1), .null] [.int (bI true)] _ _
            refine AX.if_eqB (pc := 4) (tgt := 19) dX11_lays_4 (by decide) (fun q => absurd q (by decide)) (fun hc4 => ?_)
            refine AX.iload_n (pc := 7) dX11_lays_7 rfl ?_
            refine AX.iconst (pc := 8) (v := (-1)) dX11_lays_8 (by decide) ?_
            refine AX.icmp_eq (pc := 9) (tgt := 21) dX11_lays_9 (by decide) (fun hc9 => ?_) (fun q => absurd rfl q)
            refine AX.aload_n (pc := 21) dX11_lays_21 rfl ?_
            refine AX.getf (pc := 22) fX11_lays_77 (lt_k c.hn (by omega)) c.dm rfl dX11_lays_22 ?_
            refine AX.iload_n (pc := 25) dX11_lays_25 rfl ?_
            refine AX.aaldN (pc := 26) (i := xn) (b := m_) (by decide) (lt_k c.hn (by omega)) e77 (by decide) (by omega) ((q77 xn (by omega)).trans (by rw [hm])) dX11_lays_26 ?_
            refine AX.astore (pc := 27) (L' := [.ref 0, .int (nI xn), .int i, .int (-1), .ref m_]) dX11_lays_27 (by decide) rfl ?_
            refine AX.aload (pc := 29) dX11_lays_29 rfl ?_
            refine AX.callV (pc := 31) (M2 := M_X8_isMissing) (As := []) (rest := []) (c_isMissing w h (K := 86) (show m_ < 86 by omega) (show 86 ≤ h.1 by have := c.hn; omega) RK1) xc_X11_lays__X8_isMissing gX11_lays_X8_isMissing (ci := 7) rfl (lt_k c.hn (by omega)) RK1.1 rfl (Nat.le_of_ble_eq_true rfl) dX11_lays_31 ?_
            rintro _ h9 ⟨rfl, e9⟩
            have e9 := e9.symm
            subst e9
            rw [decide_eq_false (nI_i11 (show nn < 100 by omega))]
            show AX w M_X11_lays 0 0 34 [.ref 0, .int (nI xn), .int i, .int (-1), .ref m_] [.int (bI false)] _ _
            refine AX.if_eqB (pc := 34) (tgt := 40) dX11_lays_34 (by decide) (fun hc34 => ?_) (fun q => absurd q (by decide))
            refine AX.iload_n (pc := 40) dX11_lays_40 rfl ?_
            refine AX.if_lt (pc := 41) (tgt := 53) dX11_lays_41 (by decide) (fun hc41 => ?_) (fun q => absurd (ltT rfl i0 (by omega)) q)
            refine AX.bipush (pc := 53) (v := (-12)) dX11_lays_53 (by decide) ?_
            refine AX.iret (pc := 55) dX11_lays_55 rfl rfl (by decide) (by decide) ?_
            exact ⟨rfl, Same.rf, c⟩
          · refine CA.of (by decide) rfl (fun _ => Nat.le_of_ble_eq_true rfl) ?_
            show AX w M_X11_lays 0 0 0 [.ref 0, .int (nI xn), .int i, .int (-1), .null] [] h _
            refine AX.iload_n (pc := 0) dX11_lays_0 rfl ?_
            refine AX.callS (pc := 1) (M2 := M_X11_isRack) (As := [.int (nI xn)]) (rest := []) (c_isRack w h (nI xn)) xc_X11_lays__X11_isRack gX11_lays_X11_isRack rfl (Nat.le_of_ble_eq_true rfl) dX11_lays_1 ?_
            rintro _ h9 ⟨rfl, e9⟩
            have e9 := e9.symm
            subst e9
            rw [decide_eq_true (rack_iff.mpr h_x)]
            show AX w M_X11_lays 0 0 4 [.ref 0, .int (nI xn), .int i, .int (-1), .null] [.int (bI true)] _ _
            refine AX.if_eqB (pc := 4) (tgt := 19) dX11_lays_4 (by decide) (fun q => absurd q (by decide)) (fun hc4 => ?_)
            refine AX.iload_n (pc := 7) dX11_lays_7 rfl ?_
            refine AX.iconst (pc := 8) (v := (-1)) dX11_lays_8 (by decide) ?_
            refine AX.icmp_eq (pc := 9) (tgt := 21) dX11_lays_9 (by decide) (fun hc9 => ?_) (fun q => absurd rfl q)
            refine AX.aload_n (pc := 21) dX11_lays_21 rfl ?_
            refine AX.getf (pc := 22) fX11_lays_77 (lt_k c.hn (by omega)) c.dm rfl dX11_lays_22 ?_
            refine AX.iload_n (pc := 25) dX11_lays_25 rfl ?_
            refine AX.aaldN (pc := 26) (i := xn) (b := m_) (by decide) (lt_k c.hn (by omega)) e77 (by decide) (by omega) ((q77 xn (by omega)).trans (by rw [hm])) dX11_lays_26 ?_
            refine AX.astore (pc := 27) (L' := [.ref 0, .int (nI xn), .int i, .int (-1), .ref m_]) dX11_lays_27 (by decide) rfl ?_
            refine AX.aload (pc := 29) dX11_lays_29 rfl ?_
            refine AX.callV (pc := 31) (M2 := M_X8_isMissing) (As := []) (rest := []) (c_isMissing w h (K := 86) (show m_ < 86 by omega) (show 86 ≤ h.1 by have := c.hn; omega) RK1) xc_X11_lays__X8_isMissing gX11_lays_X8_isMissing (ci := 7) rfl (lt_k c.hn (by omega)) RK1.1 rfl (Nat.le_of_ble_eq_true rfl) dX11_lays_31 ?_
            rintro _ h9 ⟨rfl, e9⟩
            have e9 := e9.symm
            subst e9
            rw [decide_eq_false (nI_i11 (show nn < 100 by omega))]
            show AX w M_X11_lays 0 0 34 [.ref 0, .int (nI xn), .int i, .int (-1), .ref m_] [.int (bI false)] _ _
            refine AX.if_eqB (pc := 34) (tgt := 40) dX11_lays_34 (by decide) (fun hc34 => ?_) (fun q => absurd q (by decide))
            refine AX.iload_n (pc := 40) dX11_lays_40 rfl ?_
            refine AX.if_lt (pc := 41) (tgt := 53) dX11_lays_41 (by decide) (fun q => absurd q (ltF rfl i0 (by omega))) (fun hc41 => ?_)
            refine AX.iload_n (pc := 44) dX11_lays_44 rfl ?_
            refine AX.aload (pc := 45) dX11_lays_45 rfl ?_
            refine AX.getf (pc := 47) fX11_lays_293 (lt_k c.hn (by omega)) RK1.1 rfl dX11_lays_47 ?_
            refine AX.icmp_lt (pc := 50) (tgt := 56) dX11_lays_50 (by decide) (fun q => absurd q (ltF rfl (iN nn (by omega)) (by omega))) (fun hc50 => ?_)
            refine AX.bipush (pc := 53) (v := (-12)) dX11_lays_53 (by decide) ?_
            refine AX.iret (pc := 55) dX11_lays_55 rfl rfl (by decide) (by decide) ?_
            exact ⟨rfl, Same.rf, c⟩
    by_cases hz : inR 0 62 z
    · obtain ⟨zn, rfl, l_z, u_z⟩ := inR_nat (by decide) hz
      obtain ⟨m_, hm, kd, sz, f, RK1, RM⟩ := c.rx2 (x := xn) (by omega)
      have okk := t.at xn
      cases he : sk s xn with
      | none =>
        rw [he] at RM okk
        have RM : sz = -11 := RM
        have en : nLays (sk s) (nI xn) i (nI zn) = sk s := by unfold nLays; rw [if_pos h_x, if_pos (Or.inr hz), nI_nat (show xn < 2147483648 by omega), he]
        rw [en]
        refine CA.of (by decide) rfl (fun _ => Nat.le_of_ble_eq_true rfl) ?_
        show AX w M_X11_lays 0 0 0 [.ref 0, .int (nI xn), .int i, .int (nI zn), .null] [] h _
        refine AX.iload_n (pc := 0) dX11_lays_0 rfl ?_
        refine AX.callS (pc := 1) (M2 := M_X11_isRack) (As := [.int (nI xn)]) (rest := []) (c_isRack w h (nI xn)) xc_X11_lays__X11_isRack gX11_lays_X11_isRack rfl (Nat.le_of_ble_eq_true rfl) dX11_lays_1 ?_
        rintro _ h9 ⟨rfl, e9⟩
        have e9 := e9.symm
        subst e9
        rw [decide_eq_true (rack_iff.mpr h_x)]
        show AX w M_X11_lays 0 0 4 [.ref 0, .int (nI xn), .int i, .int (nI zn), .null] [.int (bI true)] _ _
        refine AX.if_eqB (pc := 4) (tgt := 19) dX11_lays_4 (by decide) (fun q => absurd q (by decide)) (fun hc4 => ?_)
        refine AX.iload_n (pc := 7) dX11_lays_7 rfl ?_
        refine AX.iconst (pc := 8) (v := (-1)) dX11_lays_8 (by decide) ?_
        refine AX.icmp_eq (pc := 9) (tgt := 21) dX11_lays_9 (by decide) (fun q => absurd q (neT (iN zn (by omega)) iM1 (by omega))) (fun hc9 => ?_)
        refine AX.iload_n (pc := 12) dX11_lays_12 rfl ?_
        refine AX.callS (pc := 13) (M2 := M_X11_isSpot) (As := [.int (nI zn)]) (rest := []) (c_isSpot w h (nI zn)) xc_X11_lays__X11_isSpot gX11_lays_X11_isSpot rfl (Nat.le_of_ble_eq_true rfl) dX11_lays_13 ?_
        rintro _ h9 ⟨rfl, e9⟩
        have e9 := e9.symm
        subst e9
        rw [decide_eq_true (spot_iff.mpr hz)]
        show AX w M_X11_lays 0 0 16 [.ref 0, .int (nI xn), .int i, .int (nI zn), .null] [.int (bI true)] _ _
        refine AX.if_neB (pc := 16) (tgt := 21) dX11_lays_16 (by decide) (fun hc16 => ?_) (fun q => absurd q (by decide))
        refine AX.aload_n (pc := 21) dX11_lays_21 rfl ?_
        refine AX.getf (pc := 22) fX11_lays_77 (lt_k c.hn (by omega)) c.dm rfl dX11_lays_22 ?_
        refine AX.iload_n (pc := 25) dX11_lays_25 rfl ?_
        refine AX.aaldN (pc := 26) (i := xn) (b := m_) (by decide) (lt_k c.hn (by omega)) e77 (by decide) (by omega) ((q77 xn (by omega)).trans (by rw [hm])) dX11_lays_26 ?_
        refine AX.astore (pc := 27) (L' := [.ref 0, .int (nI xn), .int i, .int (nI zn), .ref m_]) dX11_lays_27 (by decide) rfl ?_
        refine AX.aload (pc := 29) dX11_lays_29 rfl ?_
        refine AX.callV (pc := 31) (M2 := M_X8_isMissing) (As := []) (rest := []) (c_isMissing w h (K := 86) (show m_ < 86 by omega) (show 86 ≤ h.1 by have := c.hn; omega) RK1) xc_X11_lays__X8_isMissing gX11_lays_X8_isMissing (ci := 7) rfl (lt_k c.hn (by omega)) RK1.1 rfl (Nat.le_of_ble_eq_true rfl) dX11_lays_31 ?_
        rintro _ h9 ⟨rfl, e9⟩
        have e9 := e9.symm
        subst e9
        rw [decide_eq_true RM]
        show AX w M_X11_lays 0 0 34 [.ref 0, .int (nI xn), .int i, .int (nI zn), .ref m_] [.int (bI true)] _ _
        refine AX.if_eqB (pc := 34) (tgt := 40) dX11_lays_34 (by decide) (fun q => absurd q (by decide)) (fun hc34 => ?_)
        refine AX.bipush (pc := 37) (v := (-11)) dX11_lays_37 (by decide) ?_
        refine AX.iret (pc := 39) dX11_lays_39 rfl rfl (by decide) (by decide) ?_
        exact ⟨by unfold aLays; rw [if_pos h_x, if_pos (Or.inr hz), nI_nat (show xn < 2147483648 by omega), he], Same.rf, c⟩
      | some p =>
        rw [he] at RM okk
        obtain ⟨kk, nn, g⟩ := p
        obtain ⟨rfl, rfl, hf⟩ := RM
        have hnn : nn ≤ 20 := okk.2.1
        have hkk : kk ≤ 5 := okk.1
        have ea : aLays (sk s) (nI xn) i (nI zn) = if inL nn i then if (nI zn) = -1 ∨ unN ((nI zn) : Int32).toNatClampNeg kk = true then 1 else -16 else -12 := by unfold aLays; rw [if_pos h_x, if_pos (Or.inr hz), nI_nat (show xn < 2147483648 by omega), he]
        have en : nLays (sk s) (nI xn) i (nI zn) = if inL nn i then if (nI zn) = -1 ∨ unN ((nI zn) : Int32).toNatClampNeg kk = true then stK (sk s) xn (some (kk, nn, upd g i.toNatClampNeg (if (nI zn) = -1 then -5 else (nI zn)))) else sk s else sk s := by unfold nLays; rw [if_pos h_x, if_pos (Or.inr hz), nI_nat (show xn < 2147483648 by omega), he]
        rw [ea, en]
        by_cases hi : inL nn i
        · rw [if_pos hi, if_pos hi]
          obtain ⟨in_, rfl, u_i⟩ := inL_nat hi
          rw [nI_nat (show zn < 2147483648 by omega), nI_nat (show in_ < 2147483648 by omega), if_neg hz1]
          by_cases hu : unN zn kk = true
          · rw [if_pos (Or.inr hu), if_pos (Or.inr hu)]
            refine CA.of (by decide) rfl (fun _ => Nat.le_of_ble_eq_true rfl) ?_
            show AX w M_X11_lays 0 0 0 [.ref 0, .int (nI xn), .int (nI in_), .int (nI zn), .null] [] h _
            refine AX.iload_n (pc := 0) dX11_lays_0 rfl ?_
            refine AX.callS (pc := 1) (M2 := M_X11_isRack) (As := [.int (nI xn)]) (rest := []) (c_isRack w h (nI xn)) xc_X11_lays__X11_isRack gX11_lays_X11_isRack rfl (Nat.le_of_ble_eq_true rfl) dX11_lays_1 ?_
            rintro _ h9 ⟨rfl, e9⟩
            have e9 := e9.symm
            subst e9
            rw [decide_eq_true (rack_iff.mpr h_x)]
            show AX w M_X11_lays 0 0 4 [.ref 0, .int (nI xn), .int (nI in_), .int (nI zn), .null] [.int (bI true)] _ _
            refine AX.if_eqB (pc := 4) (tgt := 19) dX11_lays_4 (by decide) (fun q => absurd q (by decide)) (fun hc4 => ?_)
            refine AX.iload_n (pc := 7) dX11_lays_7 rfl ?_
            refine AX.iconst (pc := 8) (v := (-1)) dX11_lays_8 (by decide) ?_
            refine AX.icmp_eq (pc := 9) (tgt := 21) dX11_lays_9 (by decide) (fun q => absurd q (neT (iN zn (by omega)) iM1 (by omega))) (fun hc9 => ?_)
            refine AX.iload_n (pc := 12) dX11_lays_12 rfl ?_
            refine AX.callS (pc := 13) (M2 := M_X11_isSpot) (As := [.int (nI zn)]) (rest := []) (c_isSpot w h (nI zn)) xc_X11_lays__X11_isSpot gX11_lays_X11_isSpot rfl (Nat.le_of_ble_eq_true rfl) dX11_lays_13 ?_
            rintro _ h9 ⟨rfl, e9⟩
            have e9 := e9.symm
            subst e9
            rw [decide_eq_true (spot_iff.mpr hz)]
            show AX w M_X11_lays 0 0 16 [.ref 0, .int (nI xn), .int (nI in_), .int (nI zn), .null] [.int (bI true)] _ _
            refine AX.if_neB (pc := 16) (tgt := 21) dX11_lays_16 (by decide) (fun hc16 => ?_) (fun q => absurd q (by decide))
            refine AX.aload_n (pc := 21) dX11_lays_21 rfl ?_
            refine AX.getf (pc := 22) fX11_lays_77 (lt_k c.hn (by omega)) c.dm rfl dX11_lays_22 ?_
            refine AX.iload_n (pc := 25) dX11_lays_25 rfl ?_
            refine AX.aaldN (pc := 26) (i := xn) (b := m_) (by decide) (lt_k c.hn (by omega)) e77 (by decide) (by omega) ((q77 xn (by omega)).trans (by rw [hm])) dX11_lays_26 ?_
            refine AX.astore (pc := 27) (L' := [.ref 0, .int (nI xn), .int (nI in_), .int (nI zn), .ref m_]) dX11_lays_27 (by decide) rfl ?_
            refine AX.aload (pc := 29) dX11_lays_29 rfl ?_
            refine AX.callV (pc := 31) (M2 := M_X8_isMissing) (As := []) (rest := []) (c_isMissing w h (K := 86) (show m_ < 86 by omega) (show 86 ≤ h.1 by have := c.hn; omega) RK1) xc_X11_lays__X8_isMissing gX11_lays_X8_isMissing (ci := 7) rfl (lt_k c.hn (by omega)) RK1.1 rfl (Nat.le_of_ble_eq_true rfl) dX11_lays_31 ?_
            rintro _ h9 ⟨rfl, e9⟩
            have e9 := e9.symm
            subst e9
            rw [decide_eq_false (nI_i11 (show nn < 100 by omega))]
            show AX w M_X11_lays 0 0 34 [.ref 0, .int (nI xn), .int (nI in_), .int (nI zn), .ref m_] [.int (bI false)] _ _
            refine AX.if_eqB (pc := 34) (tgt := 40) dX11_lays_34 (by decide) (fun hc34 => ?_) (fun q => absurd q (by decide))
            refine AX.iload_n (pc := 40) dX11_lays_40 rfl ?_
            refine AX.if_ltN (pc := 41) (tgt := 53) dX11_lays_41 (by decide) (by omega) (fun q => absurd q (by omega)) (fun hc41 => ?_)
            refine AX.iload_n (pc := 44) dX11_lays_44 rfl ?_
            refine AX.aload (pc := 45) dX11_lays_45 rfl ?_
            refine AX.getf (pc := 47) fX11_lays_293 (lt_k c.hn (by omega)) RK1.1 rfl dX11_lays_47 ?_
            refine AX.icmp_ltN (pc := 50) (tgt := 56) dX11_lays_50 (by decide) (by omega) (by omega) (fun hc50 => ?_) (fun q => absurd q (by omega))
            refine AX.iload_n (pc := 56) dX11_lays_56 rfl ?_
            refine AX.iconst (pc := 57) (v := (-1)) dX11_lays_57 (by decide) ?_
            refine AX.icmp_eq (pc := 58) (tgt := 76) dX11_lays_58 (by decide) (fun q => absurd q (neT (iN zn (by omega)) iM1 (by omega))) (fun hc58 => ?_)
            refine AX.iload_n (pc := 61) dX11_lays_61 rfl ?_
            refine AX.aload (pc := 62) dX11_lays_62 rfl ?_
            refine AX.getf (pc := 64) fX11_lays_294 (lt_k c.hn (by omega)) RK1.1 rfl dX11_lays_64 ?_
            refine AX.callS (pc := 67) (M2 := M_X0_isOfKind) (As := [.int (nI zn), .int (nI kk)]) (rest := []) (c_isOfKind w h zn kk (by omega) hkk) xc_X11_lays__X0_isOfKind gX11_lays_X0_isOfKind rfl (Nat.le_of_ble_eq_true rfl) dX11_lays_67 ?_
            rintro _ h9 ⟨rfl, e9⟩
            have e9 := e9.symm
            subst e9
            show AX w M_X11_lays 0 0 70 [.ref 0, .int (nI xn), .int (nI in_), .int (nI zn), .ref m_] [.int (bI (unN zn kk))] _ _
            refine AX.if_neB (pc := 70) (tgt := 76) dX11_lays_70 (by decide) (fun hc70 => ?_) (fun q => absurd q (by rw [hu]; decide))
            refine AX.aload (pc := 76) dX11_lays_76 rfl ?_
            refine AX.getf (pc := 78) fX11_lays_297 (lt_k c.hn (by omega)) RK1.1 rfl dX11_lays_78 ?_
            refine AX.iload_n (pc := 81) dX11_lays_81 rfl ?_
            refine AX.iload_n (pc := 82) dX11_lays_82 rfl ?_
            refine AX.iconst (pc := 83) (v := (-1)) dX11_lays_83 (by decide) ?_
            refine AX.icmp_ne (pc := 84) (tgt := 92) dX11_lays_84 (by decide) (fun hc84 => ?_) (fun q => absurd q (neT (iN zn (by omega)) iM1 (by omega)))
            refine AX.iload_n (pc := 92) dX11_lays_92 rfl ?_
            refine AX.iastN (pc := 93) (i := in_) (g := upd f in_ (nI zn)) (lt_k c.hn (by omega)) RK1.2 (by decide) (by omega) rfl dX11_lays_93 ?_
            refine AX.iconst (pc := 94) (v := nI 1) dX11_lays_94 (by decide) ?_
            refine AX.iret (pc := 95) dX11_lays_95 rfl rfl (by decide) (by decide) ?_
            have sx : Same [78 + 2 * xn, 78 + 2 * xn + 1] h (xset h (m_ + 1) (.inl (0, 20, .inl (upd f in_ (nI zn))))) := by rw [hm]; exact Same.set Same.rf (by simp)
            exact ⟨rfl, clS_in sx (by intro k hk; simp at hk; omega), c.rack (r := xn) (by omega) sx (hm ▸ ⟨_, _, upd f in_ (nI zn), ⟨((xset_ne (by omega)).trans RK1.1), (xset_same _ _ _)⟩, rfl, rfl, upd_agree hf⟩)⟩
          · have hor : ¬ (nI zn = -1 ∨ unN zn kk = true) := fun q => q.elim hz1 hu
            rw [if_neg hor, if_neg hor]
            refine CA.of (by decide) rfl (fun _ => Nat.le_of_ble_eq_true rfl) ?_
            show AX w M_X11_lays 0 0 0 [.ref 0, .int (nI xn), .int (nI in_), .int (nI zn), .null] [] h _
            refine AX.iload_n (pc := 0) dX11_lays_0 rfl ?_
            refine AX.callS (pc := 1) (M2 := M_X11_isRack) (As := [.int (nI xn)]) (rest := []) (c_isRack w h (nI xn)) xc_X11_lays__X11_isRack gX11_lays_X11_isRack rfl (Nat.le_of_ble_eq_true rfl) dX11_lays_1 ?_
            rintro _ h9 ⟨rfl, e9⟩
            have e9 := e9.symm
            subst e9
            rw [decide_eq_true (rack_iff.mpr h_x)]
            show AX w M_X11_lays 0 0 4 [.ref 0, .int (nI xn), .int (nI in_), .int (nI zn), .null] [.int (bI true)] _ _
            refine AX.if_eqB (pc := 4) (tgt := 19) dX11_lays_4 (by decide) (fun q => absurd q (by decide)) (fun hc4 => ?_)
            refine AX.iload_n (pc := 7) dX11_lays_7 rfl ?_
            refine AX.iconst (pc := 8) (v := (-1)) dX11_lays_8 (by decide) ?_
            refine AX.icmp_eq (pc := 9) (tgt := 21) dX11_lays_9 (by decide) (fun q => absurd q (neT (iN zn (by omega)) iM1 (by omega))) (fun hc9 => ?_)
            refine AX.iload_n (pc := 12) dX11_lays_12 rfl ?_
            refine AX.callS (pc := 13) (M2 := M_X11_isSpot) (As := [.int (nI zn)]) (rest := []) (c_isSpot w h (nI zn)) xc_X11_lays__X11_isSpot gX11_lays_X11_isSpot rfl (Nat.le_of_ble_eq_true rfl) dX11_lays_13 ?_
            rintro _ h9 ⟨rfl, e9⟩
            have e9 := e9.symm
            subst e9
            rw [decide_eq_true (spot_iff.mpr hz)]
            show AX w M_X11_lays 0 0 16 [.ref 0, .int (nI xn), .int (nI in_), .int (nI zn), .null] [.int (bI true)] _ _
            refine AX.if_neB (pc := 16) (tgt := 21) dX11_lays_16 (by decide) (fun hc16 => ?_) (fun q => absurd q (by decide))
            refine AX.aload_n (pc := 21) dX11_lays_21 rfl ?_
            refine AX.getf (pc := 22) fX11_lays_77 (lt_k c.hn (by omega)) c.dm rfl dX11_lays_22 ?_
            refine AX.iload_n (pc := 25) dX11_lays_25 rfl ?_
            refine AX.aaldN (pc := 26) (i := xn) (b := m_) (by decide) (lt_k c.hn (by omega)) e77 (by decide) (by omega) ((q77 xn (by omega)).trans (by rw [hm])) dX11_lays_26 ?_
            refine AX.astore (pc := 27) (L' := [.ref 0, .int (nI xn), .int (nI in_), .int (nI zn), .ref m_]) dX11_lays_27 (by decide) rfl ?_
            refine AX.aload (pc := 29) dX11_lays_29 rfl ?_
            refine AX.callV (pc := 31) (M2 := M_X8_isMissing) (As := []) (rest := []) (c_isMissing w h (K := 86) (show m_ < 86 by omega) (show 86 ≤ h.1 by have := c.hn; omega) RK1) xc_X11_lays__X8_isMissing gX11_lays_X8_isMissing (ci := 7) rfl (lt_k c.hn (by omega)) RK1.1 rfl (Nat.le_of_ble_eq_true rfl) dX11_lays_31 ?_
            rintro _ h9 ⟨rfl, e9⟩
            have e9 := e9.symm
            subst e9
            rw [decide_eq_false (nI_i11 (show nn < 100 by omega))]
            show AX w M_X11_lays 0 0 34 [.ref 0, .int (nI xn), .int (nI in_), .int (nI zn), .ref m_] [.int (bI false)] _ _
            refine AX.if_eqB (pc := 34) (tgt := 40) dX11_lays_34 (by decide) (fun hc34 => ?_) (fun q => absurd q (by decide))
            refine AX.iload_n (pc := 40) dX11_lays_40 rfl ?_
            refine AX.if_ltN (pc := 41) (tgt := 53) dX11_lays_41 (by decide) (by omega) (fun q => absurd q (by omega)) (fun hc41 => ?_)
            refine AX.iload_n (pc := 44) dX11_lays_44 rfl ?_
            refine AX.aload (pc := 45) dX11_lays_45 rfl ?_
            refine AX.getf (pc := 47) fX11_lays_293 (lt_k c.hn (by omega)) RK1.1 rfl dX11_lays_47 ?_
            refine AX.icmp_ltN (pc := 50) (tgt := 56) dX11_lays_50 (by decide) (by omega) (by omega) (fun hc50 => ?_) (fun q => absurd q (by omega))
            refine AX.iload_n (pc := 56) dX11_lays_56 rfl ?_
            refine AX.iconst (pc := 57) (v := (-1)) dX11_lays_57 (by decide) ?_
            refine AX.icmp_eq (pc := 58) (tgt := 76) dX11_lays_58 (by decide) (fun q => absurd q (neT (iN zn (by omega)) iM1 (by omega))) (fun hc58 => ?_)
            refine AX.iload_n (pc := 61) dX11_lays_61 rfl ?_
            refine AX.aload (pc := 62) dX11_lays_62 rfl ?_
            refine AX.getf (pc := 64) fX11_lays_294 (lt_k c.hn (by omega)) RK1.1 rfl dX11_lays_64 ?_
            refine AX.callS (pc := 67) (M2 := M_X0_isOfKind) (As := [.int (nI zn), .int (nI kk)]) (rest := []) (c_isOfKind w h zn kk (by omega) hkk) xc_X11_lays__X0_isOfKind gX11_lays_X0_isOfKind rfl (Nat.le_of_ble_eq_true rfl) dX11_lays_67 ?_
            rintro _ h9 ⟨rfl, e9⟩
            have e9 := e9.symm
            subst e9
            show AX w M_X11_lays 0 0 70 [.ref 0, .int (nI xn), .int (nI in_), .int (nI zn), .ref m_] [.int (bI (unN zn kk))] _ _
            refine AX.if_neB (pc := 70) (tgt := 76) dX11_lays_70 (by decide) (fun q => absurd q hu) (fun hc70 => ?_)
            refine AX.bipush (pc := 73) (v := (-16)) dX11_lays_73 (by decide) ?_
            refine AX.iret (pc := 75) dX11_lays_75 rfl rfl (by decide) (by decide) ?_
            exact ⟨rfl, Same.rf, c⟩
        · rw [if_neg hi, if_neg hi]
          rcases nL hi with hl | hu2
          · refine CA.of (by decide) rfl (fun _ => Nat.le_of_ble_eq_true rfl) ?_
            show AX w M_X11_lays 0 0 0 [.ref 0, .int (nI xn), .int i, .int (nI zn), .null] [] h _
            refine AX.iload_n (pc := 0) dX11_lays_0 rfl ?_
            refine AX.callS (pc := 1) (M2 := M_X11_isRack) (As := [.int (nI xn)]) (rest := []) (c_isRack w h (nI xn)) xc_X11_lays__X11_isRack gX11_lays_X11_isRack rfl (Nat.le_of_ble_eq_true rfl) dX11_lays_1 ?_
            rintro _ h9 ⟨rfl, e9⟩
            have e9 := e9.symm
            subst e9
            rw [decide_eq_true (rack_iff.mpr h_x)]
            show AX w M_X11_lays 0 0 4 [.ref 0, .int (nI xn), .int i, .int (nI zn), .null] [.int (bI true)] _ _
            refine AX.if_eqB (pc := 4) (tgt := 19) dX11_lays_4 (by decide) (fun q => absurd q (by decide)) (fun hc4 => ?_)
            refine AX.iload_n (pc := 7) dX11_lays_7 rfl ?_
            refine AX.iconst (pc := 8) (v := (-1)) dX11_lays_8 (by decide) ?_
            refine AX.icmp_eq (pc := 9) (tgt := 21) dX11_lays_9 (by decide) (fun q => absurd q (neT (iN zn (by omega)) iM1 (by omega))) (fun hc9 => ?_)
            refine AX.iload_n (pc := 12) dX11_lays_12 rfl ?_
            refine AX.callS (pc := 13) (M2 := M_X11_isSpot) (As := [.int (nI zn)]) (rest := []) (c_isSpot w h (nI zn)) xc_X11_lays__X11_isSpot gX11_lays_X11_isSpot rfl (Nat.le_of_ble_eq_true rfl) dX11_lays_13 ?_
            rintro _ h9 ⟨rfl, e9⟩
            have e9 := e9.symm
            subst e9
            rw [decide_eq_true (spot_iff.mpr hz)]
            show AX w M_X11_lays 0 0 16 [.ref 0, .int (nI xn), .int i, .int (nI zn), .null] [.int (bI true)] _ _
            refine AX.if_neB (pc := 16) (tgt := 21) dX11_lays_16 (by decide) (fun hc16 => ?_) (fun q => absurd q (by decide))
            refine AX.aload_n (pc := 21) dX11_lays_21 rfl ?_
            refine AX.getf (pc := 22) fX11_lays_77 (lt_k c.hn (by omega)) c.dm rfl dX11_lays_22 ?_
            refine AX.iload_n (pc := 25) dX11_lays_25 rfl ?_
            refine AX.aaldN (pc := 26) (i := xn) (b := m_) (by decide) (lt_k c.hn (by omega)) e77 (by decide) (by omega) ((q77 xn (by omega)).trans (by rw [hm])) dX11_lays_26 ?_
            refine AX.astore (pc := 27) (L' := [.ref 0, .int (nI xn), .int i, .int (nI zn), .ref m_]) dX11_lays_27 (by decide) rfl ?_
            refine AX.aload (pc := 29) dX11_lays_29 rfl ?_
            refine AX.callV (pc := 31) (M2 := M_X8_isMissing) (As := []) (rest := []) (c_isMissing w h (K := 86) (show m_ < 86 by omega) (show 86 ≤ h.1 by have := c.hn; omega) RK1) xc_X11_lays__X8_isMissing gX11_lays_X8_isMissing (ci := 7) rfl (lt_k c.hn (by omega)) RK1.1 rfl (Nat.le_of_ble_eq_true rfl) dX11_lays_31 ?_
            rintro _ h9 ⟨rfl, e9⟩
            have e9 := e9.symm
            subst e9
            rw [decide_eq_false (nI_i11 (show nn < 100 by omega))]
            show AX w M_X11_lays 0 0 34 [.ref 0, .int (nI xn), .int i, .int (nI zn), .ref m_] [.int (bI false)] _ _
            refine AX.if_eqB (pc := 34) (tgt := 40) dX11_lays_34 (by decide) (fun hc34 => ?_) (fun q => absurd q (by decide))
            refine AX.iload_n (pc := 40) dX11_lays_40 rfl ?_
            refine AX.if_lt (pc := 41) (tgt := 53) dX11_lays_41 (by decide) (fun hc41 => ?_) (fun q => absurd (ltT rfl i0 (by omega)) q)
            refine AX.bipush (pc := 53) (v := (-12)) dX11_lays_53 (by decide) ?_
            refine AX.iret (pc := 55) dX11_lays_55 rfl rfl (by decide) (by decide) ?_
            exact ⟨rfl, Same.rf, c⟩
          · refine CA.of (by decide) rfl (fun _ => Nat.le_of_ble_eq_true rfl) ?_
            show AX w M_X11_lays 0 0 0 [.ref 0, .int (nI xn), .int i, .int (nI zn), .null] [] h _
            refine AX.iload_n (pc := 0) dX11_lays_0 rfl ?_
            refine AX.callS (pc := 1) (M2 := M_X11_isRack) (As := [.int (nI xn)]) (rest := []) (c_isRack w h (nI xn)) xc_X11_lays__X11_isRack gX11_lays_X11_isRack rfl (Nat.le_of_ble_eq_true rfl) dX11_lays_1 ?_
            rintro _ h9 ⟨rfl, e9⟩
            have e9 := e9.symm
            subst e9
            rw [decide_eq_true (rack_iff.mpr h_x)]
            show AX w M_X11_lays 0 0 4 [.ref 0, .int (nI xn), .int i, .int (nI zn), .null] [.int (bI true)] _ _
            refine AX.if_eqB (pc := 4) (tgt := 19) dX11_lays_4 (by decide) (fun q => absurd q (by decide)) (fun hc4 => ?_)
            refine AX.iload_n (pc := 7) dX11_lays_7 rfl ?_
            refine AX.iconst (pc := 8) (v := (-1)) dX11_lays_8 (by decide) ?_
            refine AX.icmp_eq (pc := 9) (tgt := 21) dX11_lays_9 (by decide) (fun q => absurd q (neT (iN zn (by omega)) iM1 (by omega))) (fun hc9 => ?_)
            refine AX.iload_n (pc := 12) dX11_lays_12 rfl ?_
            refine AX.callS (pc := 13) (M2 := M_X11_isSpot) (As := [.int (nI zn)]) (rest := []) (c_isSpot w h (nI zn)) xc_X11_lays__X11_isSpot gX11_lays_X11_isSpot rfl (Nat.le_of_ble_eq_true rfl) dX11_lays_13 ?_
            rintro _ h9 ⟨rfl, e9⟩
            have e9 := e9.symm
            subst e9
            rw [decide_eq_true (spot_iff.mpr hz)]
            show AX w M_X11_lays 0 0 16 [.ref 0, .int (nI xn), .int i, .int (nI zn), .null] [.int (bI true)] _ _
            refine AX.if_neB (pc := 16) (tgt := 21) dX11_lays_16 (by decide) (fun hc16 => ?_) (fun q => absurd q (by decide))
            refine AX.aload_n (pc := 21) dX11_lays_21 rfl ?_
            refine AX.getf (pc := 22) fX11_lays_77 (lt_k c.hn (by omega)) c.dm rfl dX11_lays_22 ?_
            refine AX.iload_n (pc := 25) dX11_lays_25 rfl ?_
            refine AX.aaldN (pc := 26) (i := xn) (b := m_) (by decide) (lt_k c.hn (by omega)) e77 (by decide) (by omega) ((q77 xn (by omega)).trans (by rw [hm])) dX11_lays_26 ?_
            refine AX.astore (pc := 27) (L' := [.ref 0, .int (nI xn), .int i, .int (nI zn), .ref m_]) dX11_lays_27 (by decide) rfl ?_
            refine AX.aload (pc := 29) dX11_lays_29 rfl ?_
            refine AX.callV (pc := 31) (M2 := M_X8_isMissing) (As := []) (rest := []) (c_isMissing w h (K := 86) (show m_ < 86 by omega) (show 86 ≤ h.1 by have := c.hn; omega) RK1) xc_X11_lays__X8_isMissing gX11_lays_X8_isMissing (ci := 7) rfl (lt_k c.hn (by omega)) RK1.1 rfl (Nat.le_of_ble_eq_true rfl) dX11_lays_31 ?_
            rintro _ h9 ⟨rfl, e9⟩
            have e9 := e9.symm
            subst e9
            rw [decide_eq_false (nI_i11 (show nn < 100 by omega))]
            show AX w M_X11_lays 0 0 34 [.ref 0, .int (nI xn), .int i, .int (nI zn), .ref m_] [.int (bI false)] _ _
            refine AX.if_eqB (pc := 34) (tgt := 40) dX11_lays_34 (by decide) (fun hc34 => ?_) (fun q => absurd q (by decide))
            refine AX.iload_n (pc := 40) dX11_lays_40 rfl ?_
            refine AX.if_lt (pc := 41) (tgt := 53) dX11_lays_41 (by decide) (fun q => absurd q (ltF rfl i0 (by omega))) (fun hc41 => ?_)
            refine AX.iload_n (pc := 44) dX11_lays_44 rfl ?_
            refine AX.aload (pc := 45) dX11_lays_45 rfl ?_
            refine AX.getf (pc := 47) fX11_lays_293 (lt_k c.hn (by omega)) RK1.1 rfl dX11_lays_47 ?_
            refine AX.icmp_lt (pc := 50) (tgt := 56) dX11_lays_50 (by decide) (fun q => absurd q (ltF rfl (iN nn (by omega)) (by omega))) (fun hc50 => ?_)
            refine AX.bipush (pc := 53) (v := (-12)) dX11_lays_53 (by decide) ?_
            refine AX.iret (pc := 55) dX11_lays_55 rfl rfl (by decide) (by decide) ?_
            exact ⟨rfl, Same.rf, c⟩
    have hor : ¬ (z = -1 ∨ inR 0 62 z) := fun q => q.elim hz1 hz
    have en : nLays (sk s) (nI xn) i z = sk s := by unfold nLays; rw [if_pos h_x, if_neg hor]
    rw [en]
    refine CA.of (by decide) rfl (fun _ => Nat.le_of_ble_eq_true rfl) ?_
    show AX w M_X11_lays 0 0 0 [.ref 0, .int (nI xn), .int i, .int z, .null] [] h _
    refine AX.iload_n (pc := 0) dX11_lays_0 rfl ?_
    refine AX.callS (pc := 1) (M2 := M_X11_isRack) (As := [.int (nI xn)]) (rest := []) (c_isRack w h (nI xn)) xc_X11_lays__X11_isRack gX11_lays_X11_isRack rfl (Nat.le_of_ble_eq_true rfl) dX11_lays_1 ?_
    rintro _ h9 ⟨rfl, e9⟩
    have e9 := e9.symm
    subst e9
    rw [decide_eq_true (rack_iff.mpr h_x)]
    show AX w M_X11_lays 0 0 4 [.ref 0, .int (nI xn), .int i, .int z, .null] [.int (bI true)] _ _
    refine AX.if_eqB (pc := 4) (tgt := 19) dX11_lays_4 (by decide) (fun q => absurd q (by decide)) (fun hc4 => ?_)
    refine AX.iload_n (pc := 7) dX11_lays_7 rfl ?_
    refine AX.iconst (pc := 8) (v := (-1)) dX11_lays_8 (by decide) ?_
    refine AX.icmp_eq (pc := 9) (tgt := 21) dX11_lays_9 (by decide) (fun q => absurd q hz1) (fun hc9 => ?_)
    refine AX.iload_n (pc := 12) dX11_lays_12 rfl ?_
    refine AX.callS (pc := 13) (M2 := M_X11_isSpot) (As := [.int z]) (rest := []) (c_isSpot w h z) xc_X11_lays__X11_isSpot gX11_lays_X11_isSpot rfl (Nat.le_of_ble_eq_true rfl) dX11_lays_13 ?_
    rintro _ h9 ⟨rfl, e9⟩
    have e9 := e9.symm
    subst e9
    rw [decide_eq_false (fun q => hz (spot_iff.mp q))]
    show AX w M_X11_lays 0 0 16 [.ref 0, .int (nI xn), .int i, .int z, .null] [.int (bI false)] _ _
    refine AX.if_neB (pc := 16) (tgt := 21) dX11_lays_16 (by decide) (fun q => absurd q (by decide)) (fun hc16 => ?_)
    refine AX.iconst (pc := 19) (v := (-1)) dX11_lays_19 (by decide) ?_
    refine AX.iret (pc := 20) dX11_lays_20 rfl rfl (by decide) (by decide) ?_
    exact ⟨by unfold aLays; rw [if_pos h_x, if_neg hor], Same.rf, c⟩
  · refine CA.of (by decide) rfl (fun _ => Nat.le_of_ble_eq_true rfl) ?_
    show AX w M_X11_lays 0 0 0 [.ref 0, .int x, .int i, .int z, .null] [] h _
    refine AX.iload_n (pc := 0) dX11_lays_0 rfl ?_
    refine AX.callS (pc := 1) (M2 := M_X11_isRack) (As := [.int x]) (rest := []) (c_isRack w h x) xc_X11_lays__X11_isRack gX11_lays_X11_isRack rfl (Nat.le_of_ble_eq_true rfl) dX11_lays_1 ?_
    rintro _ h9 ⟨rfl, e9⟩
    have e9 := e9.symm
    subst e9
    rw [decide_eq_false (fun q => h_x (rack_iff.mp q))]
    show AX w M_X11_lays 0 0 4 [.ref 0, .int x, .int i, .int z, .null] [.int (bI false)] _ _
    refine AX.if_eqB (pc := 4) (tgt := 19) dX11_lays_4 (by decide) (fun hc4 => ?_) (fun q => absurd q (by decide))
    refine AX.iconst (pc := 19) (v := (-1)) dX11_lays_19 (by decide) ?_
    refine AX.iret (pc := 20) dX11_lays_20 rfl rfl (by decide) (by decide) ?_
    have en : nLays (sk s) x i z = sk s := by unfold nLays; rw [if_neg h_x]
    rw [en]
    exact ⟨by unfold aLays; rw [if_neg h_x], Same.rf, c⟩
theorem c_image (w : XW) (h : XH) {s : SS} {o : Nat} {a b : Nat × Nat} (c : CSo h s o a b) : CA w M_X11_image [.ref 0] h (fun v' h'' => v' = some (.int (sq s 6 + sq s 7)) ∧ Same clS h h'' ∧ CSo h'' (wb (wp s (sq s)) true) o a b) := by
  refine CA.of (by decide) rfl (fun _ => Nat.le_of_ble_eq_true rfl) ?_
  show AX w M_X11_image 0 0 0 [.ref 0] [] h _
  refine AX.aload_n (pc := 0) dX11_image_0 rfl ?_
  refine AX.getf (pc := 1) fX11_image_57 (lt_k c.hn (by omega)) c.dm rfl dX11_image_1 ?_
  refine AX.aload_n (pc := 4) dX11_image_4 rfl ?_
  refine AX.getf (pc := 5) fX11_image_53 (lt_k c.hn (by omega)) c.dm rfl dX11_image_5 ?_
  refine AX.callV (pc := 8) (M2 := M_X3_become) (As := [.ref 64]) (rest := []) (c_lBecome68 w h (show 72 ≤ h.1 by have := c.hn; omega) c.pi c.lg) xc_X11_image__X3_become gX11_image_X3_become (ci := 2) rfl (lt_k c.hn (by omega)) c.pi.1 rfl (Nat.le_of_ble_eq_true rfl) dX11_image_8 ?_
  rintro _ h1 ⟨rfl, s1, l1⟩
  have c1 : CSo h1 (wp s (sq s)) o a b := c.pic s1 l1
  show AX w M_X11_image 0 0 11 [.ref 0] [] _ _
  refine AX.aload_n (pc := 11) dX11_image_11 rfl ?_
  refine AX.iconst (pc := 12) (v := nI 1) dX11_image_12 (by decide) ?_
  refine AX.putf (pc := 13) (fs' := [.ref 1, .ref 4, .ref 9, .ref 42, .ref 57, .ref 64, .ref 68, .int (nI 1), .ref 72, .ref 75, .ref 77, .ref 86]) fX11_image_311 rfl (lt_k (s1.le c.hn) (by omega)) c1.dm (Nat.le_of_ble_eq_true rfl) rfl rfl rfl dX11_image_13 ?_
  have sx : Same [0] h1 (xset h1 0 (.inr (10, [.ref 1, .ref 4, .ref 9, .ref 42, .ref 57, .ref 64, .ref 68, .int (nI 1), .ref 72, .ref 75, .ref 77, .ref 86]))) := Same.rest
  have c2 : CSo (xset h1 0 (.inr (10, [.ref 1, .ref 4, .ref 9, .ref 42, .ref 57, .ref 64, .ref 68, .int (nI 1), .ref 72, .ref 75, .ref 77, .ref 86]))) (wb (wp s (sq s)) true) o a b := c1.flag sx (xset_same _ _ _)
  refine AX.aload_n (pc := 16) dX11_image_16 rfl ?_
  refine AX.getf (pc := 17) fX11_image_53 (lt_k (s1.le c.hn) (by omega)) (xset_same _ _ _) rfl dX11_image_17 ?_
  refine AX.callV (pc := 20) (M2 := M_X3_legsOfBoth) (As := []) (rest := []) (c_legsOfBoth w (xset h1 0 (.inr (10, [.ref 1, .ref 4, .ref 9, .ref 42, .ref 57, .ref 64, .ref 68, .int (nI 1), .ref 72, .ref 75, .ref 77, .ref 86]))) (show 72 ≤ _ from Nat.le_trans (by decide) c2.hn) (q := sq s) c2.lg) xc_X11_image__X3_legsOfBoth gX11_image_X3_legsOfBoth (ci := 2) rfl (lt_k (s1.le c.hn) (by omega)) ((xset_ne (by decide)).trans c1.lg.1) rfl (Nat.le_of_ble_eq_true rfl) dX11_image_20 ?_
  rintro _ h9 ⟨rfl, e9⟩
  have e9 := e9.symm
  subst e9
  show AX w M_X11_image 0 0 23 [.ref 0] [.int (sq s 6 + sq s 7)] _ _
  refine AX.iret (pc := 23) dX11_image_23 rfl rfl (by decide) (by decide) ?_
  exact ⟨rfl, clS_in ((s1.wide (T := [0, 68, 70, 71]) (by decide)).trans (sx.wide (by decide))) (by decide), c2⟩
theorem c_undo (w : XW) (h : XH) {s : SS} {n n' o o' : Nat} {a b a' b' : Nat × Nat} (c : CSo h s o a b) (l : LV (sq s) n o a b) (l' : LV (nUndo s) n' o' a' b') : CA w M_X11_undo [.ref 0] h (fun v' h'' => v' = some (.int (aUndo s)) ∧ Same clS h h'' ∧ CSo h'' (wq s (nUndo s)) o' a' b') := by
  by_cases hp : sb s = true
  · have en : nUndo s = sp_ s := by unfold nUndo; rw [if_pos hp]
    rw [en] at l' ⊢
    refine CA.of (by decide) rfl (fun _ => Nat.le_of_ble_eq_true rfl) ?_
    show AX w M_X11_undo 0 0 0 [.ref 0] [] h _
    refine AX.aload_n (pc := 0) dX11_undo_0 rfl ?_
    refine AX.getf (pc := 1) fX11_undo_311 (lt_k c.hn (by omega)) c.dm rfl dX11_undo_1 ?_
    refine AX.if_neB (pc := 4) (tgt := 10) dX11_undo_4 (by decide) (fun hc4 => ?_) (fun q => absurd q (by rw [hp]; decide))
    refine AX.aload_n (pc := 10) dX11_undo_10 rfl ?_
    refine AX.getf (pc := 11) fX11_undo_53 (lt_k c.hn (by omega)) c.dm rfl dX11_undo_11 ?_
    refine AX.aload_n (pc := 14) dX11_undo_14 rfl ?_
    refine AX.getf (pc := 15) fX11_undo_57 (lt_k c.hn (by omega)) c.dm rfl dX11_undo_15 ?_
    refine AX.callV (pc := 18) (M2 := M_X3_become) (As := [.ref 68]) (rest := []) (c_lBecome64 w h (show 72 ≤ h.1 by have := c.hn; omega) c.lg c.pi) xc_X11_undo__X3_become gX11_undo_X3_become (ci := 2) rfl (lt_k c.hn (by omega)) c.lg.1 rfl (Nat.le_of_ble_eq_true rfl) dX11_undo_18 ?_
    rintro _ h1 ⟨rfl, s1, l1⟩
    have c1 : CSo h1 (wq s (sp_ s)) o a b := c.leg s1 l1
    show AX w M_X11_undo 0 0 21 [.ref 0] [] _ _
    refine AX.aload_n (pc := 21) dX11_undo_21 rfl ?_
    refine AX.callV (pc := 22) (M2 := M_X11_renewMinds) (As := []) (rest := []) (c_renewMinds w h1 c1 l') xc_X11_undo__X11_renewMinds gX11_undo_X11_renewMinds (ci := 10) rfl (lt_k (s1.le c.hn) (by omega)) c1.dm rfl (Nat.le_of_ble_eq_true rfl) dX11_undo_22 ?_
    rintro _ h2 ⟨rfl, s2, c2⟩
    show AX w M_X11_undo 0 0 25 [.ref 0] [] _ _
    refine AX.aload_n (pc := 25) dX11_undo_25 rfl ?_
    refine AX.getf (pc := 26) fX11_undo_53 (lt_k (s2.le (s1.le c.hn)) (by omega)) c2.dm rfl dX11_undo_26 ?_
    refine AX.callV (pc := 29) (M2 := M_X3_legsOfBoth) (As := []) (rest := []) (c_legsOfBoth w h2 (show 72 ≤ h2.1 from Nat.le_trans (by decide) c2.hn) (q := sp_ s) c2.lg) xc_X11_undo__X3_legsOfBoth gX11_undo_X3_legsOfBoth (ci := 2) rfl (lt_k (s2.le (s1.le c.hn)) (by omega)) c2.lg.1 rfl (Nat.le_of_ble_eq_true rfl) dX11_undo_29 ?_
    rintro _ h9 ⟨rfl, e9⟩
    have e9 := e9.symm
    subst e9
    show AX w M_X11_undo 0 0 32 [.ref 0] [.int (sp_ s 6 + sp_ s 7)] _ _
    refine AX.iret (pc := 32) dX11_undo_32 rfl rfl (by decide) (by decide) ?_
    exact ⟨by unfold aUndo; rw [if_pos hp], clS_in ((s1.wide (T := [1, 3, 10, 11, 12, 26, 27, 28, 49, 57, 64, 66, 67]) (by decide)).trans (s2.wide (by decide))) (by decide), c2⟩
  · have en : nUndo s = sq s := by unfold nUndo; rw [if_neg hp]
    rw [en] at l' ⊢
    obtain ⟨rfl, rfl, rfl⟩ := l.inj l'
    refine CA.of (by decide) rfl (fun _ => Nat.le_of_ble_eq_true rfl) ?_
    show AX w M_X11_undo 0 0 0 [.ref 0] [] h _
    refine AX.aload_n (pc := 0) dX11_undo_0 rfl ?_
    refine AX.getf (pc := 1) fX11_undo_311 (lt_k c.hn (by omega)) c.dm rfl dX11_undo_1 ?_
    refine AX.if_neB (pc := 4) (tgt := 10) dX11_undo_4 (by decide) (fun q => absurd q hp) (fun hc4 => ?_)
    refine AX.bipush (pc := 7) (v := (-3)) dX11_undo_7 (by decide) ?_
    refine AX.iret (pc := 9) dX11_undo_9 rfl rfl (by decide) (by decide) ?_
    exact ⟨by unfold aUndo; rw [if_neg hp], Same.rf, c⟩
