/-! ===== THE REFERENCE: FEED, CLEAR, SPELL, PAPER ===== -/
theorem MS.tape {h h' : XH} {s : SS} (c : MS h s) {T : List Nat} (hs : Same [87, 112] h h') (ob : ∃ v, MO h' v ∧ v 0 = bI (sb s) ∧ v 5 = nI (sX s).length ∧ v 6 = nI (T).length) (tp : ∃ f : Nat → Int32, h'.2 112 = .inl (0, 60, .inl f) ∧ (∀ j, j < T.length → f j = nI (T.getD j 0)) ∧ T.length ≤ 60) : MS h' (wT s T) := by
  have x_hn : 118 ≤ h'.1 := hs.le c.hn
  have x_rg : iA h' 88 20 (fun k => nI (rgN k)) := c.rg.same hs (by simp)
  have x_nw : iA h' 89 19 (sq s) := c.nw.same hs (by simp)
  have x_im : (∃ f : Nat → Int32, h'.2 90 = .inl (0, 19, .inl f) ∧ (sb s = true → ∀ j, j < 19 → f j = sp_ s j)) := c.im.imp (fun _ z => ⟨hs.at (by simp) z.1, z.2⟩)
  have x_fx : FX h' := c.fx.same hs (by simp) (by simp) (by simp) (by simp) (by simp)
  have x_dt : DT h' := c.dt.same hs (by simp) (by simp) (by simp) (by simp) (by simp)
  have x_ch : (∃ f : Nat → UInt64, h'.2 101 = .inl (2, 724, .inr (.inr (.inr (.inl f))))) := c.ch.imp (fun _ z => hs.at (by simp) z)
  have x_rt : RT h' := c.rt.same hs (by simp) (by simp) (by simp) (by simp)
  have x_b1 : (∃ f : Nat → Int32, h'.2 106 = .inl (0, 126, .inl f)) := c.b1.imp (fun _ z => hs.at (by simp) z)
  have x_b2 : (∃ f : Nat → Int32, h'.2 107 = .inl (0, 630, .inl f)) := c.b2.imp (fun _ z => hs.at (by simp) z)
  have x_b3 : (∃ f : Nat → Int32, h'.2 108 = .inl (0, 630, .inl f)) := c.b3.imp (fun _ z => hs.at (by simp) z)
  have x_pa : (∃ f : Nat → Int32, h'.2 109 = .inl (0, 3, .inl f)) := c.pa.imp (fun _ z => hs.at (by simp) z)
  have x_en : (∃ f : Nat → Int32, h'.2 110 = .inl (0, 181, .inl f)) := c.en.imp (fun _ z => hs.at (by simp) z)
  have x_pp : (∃ f : Nat → Int32, h'.2 111 = .inl (0, 20, .inl f) ∧ (∀ j, j < (sX s).length → f j = nI ((sX s).getD j 0)) ∧ (sX s).length ≤ 12) := c.pp.imp (fun _ z => ⟨hs.at (by simp) z.1, z.2⟩)
  have x_td : (∃ f : Nat → Int32, h'.2 113 = .inl (0, 20, .inl f)) := c.td.imp (fun _ z => hs.at (by simp) z)
  have x_rk : RMq h' (sk s) := c.rk.same hs (by simp) (by simp) (by simp) (by simp)
  exact ⟨x_hn, ob, x_rg, x_nw, x_im, x_fx, x_dt, x_ch, x_rt, x_b1, x_b2, x_b3, x_pa, x_en, x_pp, tp, x_td, x_rk⟩
theorem MS.paper {h h' : XH} {s : SS} (c : MS h s) {X : List Nat} (hs : Same [87, 109, 110, 111] h h') (ob : ∃ v, MO h' v ∧ v 0 = bI (sb s) ∧ v 5 = nI (X).length ∧ v 6 = nI (sT s).length) (pa : ∃ f : Nat → Int32, h'.2 109 = .inl (0, 3, .inl f)) (en : ∃ f : Nat → Int32, h'.2 110 = .inl (0, 181, .inl f)) (pp : ∃ f : Nat → Int32, h'.2 111 = .inl (0, 20, .inl f) ∧ (∀ j, j < X.length → f j = nI (X.getD j 0)) ∧ X.length ≤ 12) : MS h' (wX s X) := by
  have x_hn : 118 ≤ h'.1 := hs.le c.hn
  have x_rg : iA h' 88 20 (fun k => nI (rgN k)) := c.rg.same hs (by simp)
  have x_nw : iA h' 89 19 (sq s) := c.nw.same hs (by simp)
  have x_im : (∃ f : Nat → Int32, h'.2 90 = .inl (0, 19, .inl f) ∧ (sb s = true → ∀ j, j < 19 → f j = sp_ s j)) := c.im.imp (fun _ z => ⟨hs.at (by simp) z.1, z.2⟩)
  have x_fx : FX h' := c.fx.same hs (by simp) (by simp) (by simp) (by simp) (by simp)
  have x_dt : DT h' := c.dt.same hs (by simp) (by simp) (by simp) (by simp) (by simp)
  have x_ch : (∃ f : Nat → UInt64, h'.2 101 = .inl (2, 724, .inr (.inr (.inr (.inl f))))) := c.ch.imp (fun _ z => hs.at (by simp) z)
  have x_rt : RT h' := c.rt.same hs (by simp) (by simp) (by simp) (by simp)
  have x_b1 : (∃ f : Nat → Int32, h'.2 106 = .inl (0, 126, .inl f)) := c.b1.imp (fun _ z => hs.at (by simp) z)
  have x_b2 : (∃ f : Nat → Int32, h'.2 107 = .inl (0, 630, .inl f)) := c.b2.imp (fun _ z => hs.at (by simp) z)
  have x_b3 : (∃ f : Nat → Int32, h'.2 108 = .inl (0, 630, .inl f)) := c.b3.imp (fun _ z => hs.at (by simp) z)
  have x_tp : (∃ f : Nat → Int32, h'.2 112 = .inl (0, 60, .inl f) ∧ (∀ j, j < (sT s).length → f j = nI ((sT s).getD j 0)) ∧ (sT s).length ≤ 60) := c.tp.imp (fun _ z => ⟨hs.at (by simp) z.1, z.2⟩)
  have x_td : (∃ f : Nat → Int32, h'.2 113 = .inl (0, 20, .inl f)) := c.td.imp (fun _ z => hs.at (by simp) z)
  have x_rk : RMq h' (sk s) := c.rk.same hs (by simp) (by simp) (by simp) (by simp)
  exact ⟨x_hn, ob, x_rg, x_nw, x_im, x_fx, x_dt, x_ch, x_rt, x_b1, x_b2, x_b3, pa, en, pp, x_tp, x_td, x_rk⟩
def TB (T : List Nat) : Prop := ∀ j, j < T.length → T.getD j 0 < 128
theorem c_mFeed (w : XW) (h : XH) {s : SS} {n o : Nat} {a b : Nat × Nat} (c : MS h s) (l : LV (sq s) n o a b) (x : Int32) : CA w M_X12_feed [.ref 87, .int x] h (fun v' h'' => v' = some (.int (aFeed (sT s) x)) ∧ Same mdS h h'' ∧ MS h'' (wT s (nFeed (sT s) x))) := by
  obtain ⟨v, hO, hv⟩ := id c.ob
  obtain ⟨f89, e89, q89⟩ := id c.nw
  have hO6 : h.2 87 = .inr (11, [.ref 88, .ref 89, .ref 90, .int (v 0), .int (v 1), .ref 91, .ref 92, .ref 93, .ref 94, .ref 95, .ref 96, .ref 97, .ref 98, .ref 99, .ref 100, .ref 101, .int (v 2), .ref 102, .ref 103, .ref 104, .ref 105, .ref 106, .ref 107, .ref 108, .int (v 3), .ref 109, .int (v 4), .ref 110, .ref 111, .int (v 5), .ref 112, .int (nI ((sT s).length)), .int (v 7), .int (v 8), .ref 113, .int (v 9), .ref 114, .ref 115, .ref 116, .ref 117]) := by rw [← hv.2.2]; exact hO
  obtain ⟨f112, e112, q112, l112⟩ := id c.tp
  by_cases h_x : inR 1 127 x
  · obtain ⟨xn, rfl, l_x, u_x⟩ := inR_nat (by decide) h_x
    by_cases hl : (sT s).length < 60
    · have en : nFeed (sT s) (nI xn) = sT s ++ [xn] := by unfold nFeed; rw [if_pos h_x, if_pos hl, nI_nat (by omega)]
      rw [en]
      refine CA.of (by decide) rfl (fun _ => Nat.le_of_ble_eq_true rfl) ?_
      show AX w M_X12_feed 0 0 0 [.ref 87, .int (nI xn)] [] h _
      refine AX.iload_n (pc := 0) dX12_feed_0 rfl ?_
      refine AX.i2l (pc := 1) dX12_feed_1 ?_
      refine AX.lconst (pc := 2) (v := 1) dX12_feed_2 (by decide) ?_
      refine AX.ldc2 (pc := 3) (v := 127) dX12_feed_3 cX12_feed_308 ?_
      refine AX.callS (pc := 6) (M2 := M_X12_in) (As := [.long ((nI xn).toInt64), .long 1, .long 127]) (rest := []) (c_in w h ((nI xn).toInt64) (1) (127)) xc_X12_feed__X12_in gX12_feed_X12_in rfl (Nat.le_of_ble_eq_true rfl) dX12_feed_6 ?_
      rintro _ h9 ⟨rfl, e9⟩
      have e9 := e9.symm
      subst e9
      rw [decide_eq_true ((in_iff (by decide) (by decide)).mpr h_x)]
      show AX w M_X12_feed 0 0 9 [.ref 87, .int (nI xn)] [.int (bI true)] _ _
      refine AX.if_neB (pc := 9) (tgt := 15) dX12_feed_9 (by decide) (fun hc9 => ?_) (fun q => absurd q (by decide))
      refine AX.aload_n (pc := 15) dX12_feed_15 rfl ?_
      refine AX.getf (pc := 16) fX12_feed_301 (lt_k c.hn (by decide)) hO6 rfl dX12_feed_16 ?_
      refine AX.bipush (pc := 19) (v := nI 60) dX12_feed_19 (by decide) ?_
      refine AX.icmp_neN (pc := 21) (tgt := 27) dX12_feed_21 (by decide) (by omega) (by decide) (fun hc21 => ?_) (fun q => absurd q (by omega))
      refine AX.aload_n (pc := 27) dX12_feed_27 rfl ?_
      refine AX.getf (pc := 28) fX12_feed_84 (lt_k c.hn (by decide)) hO6 rfl dX12_feed_28 ?_
      refine AX.aload_n (pc := 31) dX12_feed_31 rfl ?_
      refine AX.getf (pc := 32) fX12_feed_301 (lt_k c.hn (by decide)) hO6 rfl dX12_feed_32 ?_
      refine AX.iload_n (pc := 35) dX12_feed_35 rfl ?_
      refine AX.iastN (pc := 36) (i := (sT s).length) (g := upd f112 ((sT s).length) (nI xn)) (lt_k c.hn (by decide)) e112 (by decide) (by omega) rfl dX12_feed_36 ?_
      refine AX.aload_n (pc := 37) dX12_feed_37 rfl ?_
      refine AX.dup (pc := 38) dX12_feed_38 rfl ?_
      refine AX.getf (pc := 39) fX12_feed_301 (lt_k c.hn (by decide)) ((xset_ne (by decide)).trans hO6) rfl dX12_feed_39 ?_
      refine AX.iconst (pc := 42) (v := nI 1) dX12_feed_42 (by decide) ?_
      refine AX.iaddN (pc := 43) (c := (sT s).length + 1) dX12_feed_43 rfl ?_
      refine AX.putf (pc := 44) (h := xset h 112 (.inl (0, 60, .inl (upd f112 ((sT s).length) (nI xn))))) (a := 87) (fs' := [.ref 88, .ref 89, .ref 90, .int (v 0), .int (v 1), .ref 91, .ref 92, .ref 93, .ref 94, .ref 95, .ref 96, .ref 97, .ref 98, .ref 99, .ref 100, .ref 101, .int (v 2), .ref 102, .ref 103, .ref 104, .ref 105, .ref 106, .ref 107, .ref 108, .int (v 3), .ref 109, .int (v 4), .ref 110, .ref 111, .int (v 5), .ref 112, .int (nI ((sT s).length + 1)), .int (v 7), .int (v 8), .ref 113, .int (v 9), .ref 114, .ref 115, .ref 116, .ref 117]) fX12_feed_301 rfl (lt_k c.hn (by decide)) ((xset_ne (by decide)).trans hO6) (Nat.le_of_ble_eq_true rfl) rfl rfl rfl dX12_feed_44 ?_
      refine AX.aload_n (pc := 47) dX12_feed_47 rfl ?_
      refine AX.getf (pc := 48) fX12_feed_301 (lt_k c.hn (by decide)) (xset_same _ _ _) rfl dX12_feed_48 ?_
      refine AX.iret (pc := 51) dX12_feed_51 rfl rfl (by decide) (by decide) ?_
      have sx : Same [87, 112] h (xset (xset h 112 (.inl (0, 60, .inl (upd f112 ((sT s).length) (nI xn))))) 87 (.inr (11, [.ref 88, .ref 89, .ref 90, .int (v 0), .int (v 1), .ref 91, .ref 92, .ref 93, .ref 94, .ref 95, .ref 96, .ref 97, .ref 98, .ref 99, .ref 100, .ref 101, .int (v 2), .ref 102, .ref 103, .ref 104, .ref 105, .ref 106, .ref 107, .ref 108, .int (v 3), .ref 109, .int (v 4), .ref 110, .ref 111, .int (v 5), .ref 112, .int (nI ((sT s).length + 1)), .int (v 7), .int (v 8), .ref 113, .int (v 9), .ref 114, .ref 115, .ref 116, .ref 117]))) := Same.set (Same.set Same.rf (by simp)) (by simp)
      have el : (sT s ++ [xn]).length = (sT s).length + 1 := by rw [List.length_append]; rfl
      exact ⟨by unfold aFeed; rw [if_pos h_x, if_pos hl], mdS_lt sx (by decide), c.tape sx ⟨upd v 6 (nI ((sT s).length + 1)), (xset_same _ _ _), hv.1, hv.2.1, by rw [el]; exact upd_at _ _ _⟩ ⟨_, ((xset_ne (by decide)).trans (xset_same _ _ _)), getD_push q112, by rw [el]; omega⟩⟩
    · have en : nFeed (sT s) (nI xn) = sT s := by unfold nFeed; rw [if_pos h_x, if_neg hl]
      rw [en]
      refine CA.of (by decide) rfl (fun _ => Nat.le_of_ble_eq_true rfl) ?_
      show AX w M_X12_feed 0 0 0 [.ref 87, .int (nI xn)] [] h _
      refine AX.iload_n (pc := 0) dX12_feed_0 rfl ?_
      refine AX.i2l (pc := 1) dX12_feed_1 ?_
      refine AX.lconst (pc := 2) (v := 1) dX12_feed_2 (by decide) ?_
      refine AX.ldc2 (pc := 3) (v := 127) dX12_feed_3 cX12_feed_308 ?_
      refine AX.callS (pc := 6) (M2 := M_X12_in) (As := [.long ((nI xn).toInt64), .long 1, .long 127]) (rest := []) (c_in w h ((nI xn).toInt64) (1) (127)) xc_X12_feed__X12_in gX12_feed_X12_in rfl (Nat.le_of_ble_eq_true rfl) dX12_feed_6 ?_
      rintro _ h9 ⟨rfl, e9⟩
      have e9 := e9.symm
      subst e9
      rw [decide_eq_true ((in_iff (by decide) (by decide)).mpr h_x)]
      show AX w M_X12_feed 0 0 9 [.ref 87, .int (nI xn)] [.int (bI true)] _ _
      refine AX.if_neB (pc := 9) (tgt := 15) dX12_feed_9 (by decide) (fun hc9 => ?_) (fun q => absurd q (by decide))
      refine AX.aload_n (pc := 15) dX12_feed_15 rfl ?_
      refine AX.getf (pc := 16) fX12_feed_301 (lt_k c.hn (by decide)) hO6 rfl dX12_feed_16 ?_
      refine AX.bipush (pc := 19) (v := nI 60) dX12_feed_19 (by decide) ?_
      refine AX.icmp_neN (pc := 21) (tgt := 27) dX12_feed_21 (by decide) (by omega) (by decide) (fun q => absurd q (by omega)) (fun hc21 => ?_)
      refine AX.bipush (pc := 24) (v := (-4)) dX12_feed_24 (by decide) ?_
      refine AX.iret (pc := 26) dX12_feed_26 rfl rfl (by decide) (by decide) ?_
      exact ⟨by unfold aFeed; rw [if_pos h_x, if_neg hl]; try rfl, Same.rf, c⟩
  · refine CA.of (by decide) rfl (fun _ => Nat.le_of_ble_eq_true rfl) ?_
    show AX w M_X12_feed 0 0 0 [.ref 87, .int x] [] h _
    refine AX.iload_n (pc := 0) dX12_feed_0 rfl ?_
    refine AX.i2l (pc := 1) dX12_feed_1 ?_
    refine AX.lconst (pc := 2) (v := 1) dX12_feed_2 (by decide) ?_
    refine AX.ldc2 (pc := 3) (v := 127) dX12_feed_3 cX12_feed_308 ?_
    refine AX.callS (pc := 6) (M2 := M_X12_in) (As := [.long x.toInt64, .long 1, .long 127]) (rest := []) (c_in w h (x.toInt64) (1) (127)) xc_X12_feed__X12_in gX12_feed_X12_in rfl (Nat.le_of_ble_eq_true rfl) dX12_feed_6 ?_
    rintro _ h9 ⟨rfl, e9⟩
    have e9 := e9.symm
    subst e9
    rw [decide_eq_false (fun q => h_x ((in_iff (by decide) (by decide)).mp q))]
    show AX w M_X12_feed 0 0 9 [.ref 87, .int x] [.int (bI false)] _ _
    refine AX.if_neB (pc := 9) (tgt := 15) dX12_feed_9 (by decide) (fun q => absurd q (by decide)) (fun hc9 => ?_)
    refine AX.bipush (pc := 12) (v := (-2)) dX12_feed_12 (by decide) ?_
    refine AX.iret (pc := 14) dX12_feed_14 rfl rfl (by decide) (by decide) ?_
    have en : nFeed (sT s) x = sT s := by unfold nFeed; rw [if_neg h_x]
    rw [en]
    exact ⟨by unfold aFeed; rw [if_neg h_x]; try rfl, Same.rf, c⟩
theorem c_mClear (w : XW) (h : XH) {s : SS} (c : MS h s) : CA w M_X12_clear [.ref 87] h (fun v' h'' => v' = some (.int (nI (sT s).length)) ∧ Same mdS h h'' ∧ MS h'' (wT s [])) := by
  obtain ⟨v, hO, hv⟩ := id c.ob
  obtain ⟨f89, e89, q89⟩ := id c.nw
  have hO6 : h.2 87 = .inr (11, [.ref 88, .ref 89, .ref 90, .int (v 0), .int (v 1), .ref 91, .ref 92, .ref 93, .ref 94, .ref 95, .ref 96, .ref 97, .ref 98, .ref 99, .ref 100, .ref 101, .int (v 2), .ref 102, .ref 103, .ref 104, .ref 105, .ref 106, .ref 107, .ref 108, .int (v 3), .ref 109, .int (v 4), .ref 110, .ref 111, .int (v 5), .ref 112, .int (nI ((sT s).length)), .int (v 7), .int (v 8), .ref 113, .int (v 9), .ref 114, .ref 115, .ref 116, .ref 117]) := by rw [← hv.2.2]; exact hO
  obtain ⟨f112, e112, q112, l112⟩ := id c.tp
  refine CA.of (by decide) rfl (fun _ => Nat.le_of_ble_eq_true rfl) ?_
  show AX w M_X12_clear 0 0 0 [.ref 87, .null] [] h _
  refine AX.aload_n (pc := 0) dX12_clear_0 rfl ?_
  refine AX.getf (pc := 1) fX12_clear_301 (lt_k c.hn (by decide)) hO6 rfl dX12_clear_1 ?_
  refine AX.istore_n (pc := 4) (L' := [.ref 87, .int (nI ((sT s).length))]) dX12_clear_4 (by decide) rfl ?_
  refine AX.aload_n (pc := 5) dX12_clear_5 rfl ?_
  refine AX.iconst (pc := 6) (v := nI 0) dX12_clear_6 (by decide) ?_
  refine AX.putf (pc := 7) (fs' := [.ref 88, .ref 89, .ref 90, .int (v 0), .int (v 1), .ref 91, .ref 92, .ref 93, .ref 94, .ref 95, .ref 96, .ref 97, .ref 98, .ref 99, .ref 100, .ref 101, .int (v 2), .ref 102, .ref 103, .ref 104, .ref 105, .ref 106, .ref 107, .ref 108, .int (v 3), .ref 109, .int (v 4), .ref 110, .ref 111, .int (v 5), .ref 112, .int (nI 0), .int (v 7), .int (v 8), .ref 113, .int (v 9), .ref 114, .ref 115, .ref 116, .ref 117]) fX12_clear_301 rfl (lt_k c.hn (by decide)) hO6 (Nat.le_of_ble_eq_true rfl) rfl rfl rfl dX12_clear_7 ?_
  refine AX.iload_n (pc := 10) dX12_clear_10 rfl ?_
  refine AX.iret (pc := 11) dX12_clear_11 rfl rfl (by decide) (by decide) ?_
  have sx : Same [87] h (xset h 87 (.inr (11, [.ref 88, .ref 89, .ref 90, .int (v 0), .int (v 1), .ref 91, .ref 92, .ref 93, .ref 94, .ref 95, .ref 96, .ref 97, .ref 98, .ref 99, .ref 100, .ref 101, .int (v 2), .ref 102, .ref 103, .ref 104, .ref 105, .ref 106, .ref 107, .ref 108, .int (v 3), .ref 109, .int (v 4), .ref 110, .ref 111, .int (v 5), .ref 112, .int (nI 0), .int (v 7), .int (v 8), .ref 113, .int (v 9), .ref 114, .ref 115, .ref 116, .ref 117]))) := Same.rest
  exact ⟨rfl, mdS_lt sx (by decide), c.tape (T := []) (sx.wide (by decide)) ⟨upd v 6 (nI 0), (xset_same _ _ _), hv.1, hv.2.1, rfl⟩ ⟨f112, sx.at (by simp) e112, fun j hj => absurd hj (Nat.not_lt_zero _), Nat.zero_le _⟩⟩
theorem c_mPaper (w : XW) (h : XH) {s : SS} (c : MS h s) (i : Int32) : CA w M_X12_paper [.ref 87, .int i] h (fun v' h'' => v' = some (.int (aPaper (sX s) i)) ∧ h'' = h) := by
  obtain ⟨v, hO, hv⟩ := id c.ob
  have hO5 : h.2 87 = .inr (11, [.ref 88, .ref 89, .ref 90, .int (v 0), .int (v 1), .ref 91, .ref 92, .ref 93, .ref 94, .ref 95, .ref 96, .ref 97, .ref 98, .ref 99, .ref 100, .ref 101, .int (v 2), .ref 102, .ref 103, .ref 104, .ref 105, .ref 106, .ref 107, .ref 108, .int (v 3), .ref 109, .int (v 4), .ref 110, .ref 111, .int (nI ((sX s).length)), .ref 112, .int (v 6), .int (v 7), .int (v 8), .ref 113, .int (v 9), .ref 114, .ref 115, .ref 116, .ref 117]) := by rw [← hv.2.1]; exact hO
  obtain ⟨f111, e111, q111, l111⟩ := id c.pp
  by_cases hz : (sX s).length = 0
  · have ea : aPaper (sX s) i = -1 := by unfold aPaper; rw [hz]; split; exact if_neg (Nat.not_lt_zero _); rfl
    rw [ea]
    rw [hz] at hO5
    refine CA.of (by decide) rfl (fun _ => Nat.le_of_ble_eq_true rfl) ?_
    show AX w M_X12_paper 0 0 0 [.ref 87, .int i] [] h _
    refine AX.iload_n (pc := 0) dX12_paper_0 rfl ?_
    refine AX.i2l (pc := 1) dX12_paper_1 ?_
    refine AX.lconst (pc := 2) (v := 0) dX12_paper_2 (by decide) ?_
    refine AX.aload_n (pc := 3) dX12_paper_3 rfl ?_
    refine AX.getf (pc := 4) fX12_paper_276 (lt_k c.hn (by decide)) hO5 rfl dX12_paper_4 ?_
    refine AX.iconst (pc := 7) (v := nI 1) dX12_paper_7 (by decide) ?_
    refine AX.isub (pc := 8) dX12_paper_8 ?_
    refine AX.i2l (pc := 9) dX12_paper_9 ?_
    refine AX.callS (pc := 10) (M2 := M_X12_in) (As := [.long i.toInt64, .long 0, .long ((nI 0 - nI 1).toInt64)]) (rest := []) (c_in w h (i.toInt64) (0) ((nI 0 - nI 1).toInt64)) xc_X12_paper__X12_in gX12_paper_X12_in rfl (Nat.le_of_ble_eq_true rfl) dX12_paper_10 ?_
    rintro _ h9 ⟨rfl, e9⟩
    have e9 := e9.symm
    subst e9
    rw [decide_eq_false (fun q => by have q1 := q.1; have q2 := q.2; rw [show ((nI 0 - nI 1).toInt64).toInt = -1 by decide] at q2; rw [show (0 : Int64).toInt = 0 by decide] at q1; omega)]
    show AX w M_X12_paper 0 0 13 [.ref 87, .int i] [.int (bI false)] _ _
    refine AX.if_eqB (pc := 13) (tgt := 25) dX12_paper_13 (by decide) (fun hc13 => ?_) (fun q => absurd q (by decide))
    refine AX.iconst (pc := 25) (v := (-1)) dX12_paper_25 (by decide) ?_
    refine AX.iret (pc := 26) dX12_paper_26 rfl rfl (by decide) (by decide) ?_
    exact ⟨rfl, rfl⟩
  by_cases h_i : inR 0 2147483647 i
  · obtain ⟨in_, rfl, l_i, u_i⟩ := inR_nat (by decide) h_i
    have hi_ := iN in_ (show in_ < 2147483648 by omega)
    by_cases hw : in_ < (sX s).length
    · refine CA.of (by decide) rfl (fun _ => Nat.le_of_ble_eq_true rfl) ?_
      show AX w M_X12_paper 0 0 0 [.ref 87, .int (nI in_)] [] h _
      refine AX.iload_n (pc := 0) dX12_paper_0 rfl ?_
      refine AX.i2l (pc := 1) dX12_paper_1 ?_
      refine AX.lconst (pc := 2) (v := 0) dX12_paper_2 (by decide) ?_
      refine AX.aload_n (pc := 3) dX12_paper_3 rfl ?_
      refine AX.getf (pc := 4) fX12_paper_276 (lt_k c.hn (by decide)) hO5 rfl dX12_paper_4 ?_
      refine AX.iconst (pc := 7) (v := nI 1) dX12_paper_7 (by decide) ?_
      refine AX.isubN (pc := 8) (c := (sX s).length - 1) dX12_paper_8 (by omega) ?_
      refine AX.i2l (pc := 9) dX12_paper_9 ?_
      refine AX.callS (pc := 10) (M2 := M_X12_in) (As := [.long ((nI in_).toInt64), .long 0, .long ((nI ((sX s).length - 1)).toInt64)]) (rest := []) (c_in w h ((nI in_).toInt64) (0) ((nI ((sX s).length - 1)).toInt64)) xc_X12_paper__X12_in gX12_paper_X12_in rfl (Nat.le_of_ble_eq_true rfl) dX12_paper_10 ?_
      rintro _ h9 ⟨rfl, e9⟩
      have e9 := e9.symm
      subst e9
      rw [decide_eq_true ((in_iff (L := 0) (by decide) (n64 ((sX s).length - 1) (by omega))).mpr ⟨by omega, by omega⟩)]
      show AX w M_X12_paper 0 0 13 [.ref 87, .int (nI in_)] [.int (bI true)] _ _
      refine AX.if_eqB (pc := 13) (tgt := 25) dX12_paper_13 (by decide) (fun q => absurd q (by decide)) (fun hc13 => ?_)
      refine AX.aload_n (pc := 16) dX12_paper_16 rfl ?_
      refine AX.getf (pc := 17) fX12_paper_81 (lt_k c.hn (by decide)) hO5 rfl dX12_paper_17 ?_
      refine AX.iload_n (pc := 20) dX12_paper_20 rfl ?_
      refine AX.ialdN (pc := 21) (i := in_) (v := (nI ((sX s).getD in_ 0))) (lt_k c.hn (by decide)) e111 (by decide) (by omega) (q111 in_ hw) dX12_paper_21 ?_
      refine AX.goto (pc := 22) (tgt := 26) dX12_paper_22 (by decide) ?_
      refine AX.iret (pc := 26) dX12_paper_26 rfl rfl (by decide) (by decide) ?_
      exact ⟨by unfold aPaper; rw [if_pos h_i, nI_nat (show in_ < 2147483648 by omega), if_pos hw]; try rfl, rfl⟩
    refine CA.of (by decide) rfl (fun _ => Nat.le_of_ble_eq_true rfl) ?_
    show AX w M_X12_paper 0 0 0 [.ref 87, .int (nI in_)] [] h _
    refine AX.iload_n (pc := 0) dX12_paper_0 rfl ?_
    refine AX.i2l (pc := 1) dX12_paper_1 ?_
    refine AX.lconst (pc := 2) (v := 0) dX12_paper_2 (by decide) ?_
    refine AX.aload_n (pc := 3) dX12_paper_3 rfl ?_
    refine AX.getf (pc := 4) fX12_paper_276 (lt_k c.hn (by decide)) hO5 rfl dX12_paper_4 ?_
    refine AX.iconst (pc := 7) (v := nI 1) dX12_paper_7 (by decide) ?_
    refine AX.isubN (pc := 8) (c := (sX s).length - 1) dX12_paper_8 (by omega) ?_
    refine AX.i2l (pc := 9) dX12_paper_9 ?_
    refine AX.callS (pc := 10) (M2 := M_X12_in) (As := [.long ((nI in_).toInt64), .long 0, .long ((nI ((sX s).length - 1)).toInt64)]) (rest := []) (c_in w h ((nI in_).toInt64) (0) ((nI ((sX s).length - 1)).toInt64)) xc_X12_paper__X12_in gX12_paper_X12_in rfl (Nat.le_of_ble_eq_true rfl) dX12_paper_10 ?_
    rintro _ h9 ⟨rfl, e9⟩
    have e9 := e9.symm
    subst e9
    rw [decide_eq_false (fun q => by have q2 := ((in_iff (L := 0) (by decide) (n64 ((sX s).length - 1) (by omega))).mp q).2; omega)]
    show AX w M_X12_paper 0 0 13 [.ref 87, .int (nI in_)] [.int (bI false)] _ _
    refine AX.if_eqB (pc := 13) (tgt := 25) dX12_paper_13 (by decide) (fun hc13 => ?_) (fun q => absurd q (by decide))
    refine AX.iconst (pc := 25) (v := (-1)) dX12_paper_25 (by decide) ?_
    refine AX.iret (pc := 26) dX12_paper_26 rfl rfl (by decide) (by decide) ?_
    exact ⟨by unfold aPaper; rw [if_pos h_i, nI_nat (show in_ < 2147483648 by omega), if_neg hw]; try rfl, rfl⟩
  refine CA.of (by decide) rfl (fun _ => Nat.le_of_ble_eq_true rfl) ?_
  show AX w M_X12_paper 0 0 0 [.ref 87, .int i] [] h _
  refine AX.iload_n (pc := 0) dX12_paper_0 rfl ?_
  refine AX.i2l (pc := 1) dX12_paper_1 ?_
  refine AX.lconst (pc := 2) (v := 0) dX12_paper_2 (by decide) ?_
  refine AX.aload_n (pc := 3) dX12_paper_3 rfl ?_
  refine AX.getf (pc := 4) fX12_paper_276 (lt_k c.hn (by decide)) hO5 rfl dX12_paper_4 ?_
  refine AX.iconst (pc := 7) (v := nI 1) dX12_paper_7 (by decide) ?_
  refine AX.isubN (pc := 8) (c := (sX s).length - 1) dX12_paper_8 (by omega) ?_
  refine AX.i2l (pc := 9) dX12_paper_9 ?_
  refine AX.callS (pc := 10) (M2 := M_X12_in) (As := [.long i.toInt64, .long 0, .long ((nI ((sX s).length - 1)).toInt64)]) (rest := []) (c_in w h (i.toInt64) (0) ((nI ((sX s).length - 1)).toInt64)) xc_X12_paper__X12_in gX12_paper_X12_in rfl (Nat.le_of_ble_eq_true rfl) dX12_paper_10 ?_
  rintro _ h9 ⟨rfl, e9⟩
  have e9 := e9.symm
  subst e9
  rw [decide_eq_false (fun q => by have q1 := ((in_iff (L := 0) (by decide) (n64 ((sX s).length - 1) (by omega))).mp q); have k1 := nR h_i; have k2 := q1.1; have k3 := i.toInt_lt; omega)]
  show AX w M_X12_paper 0 0 13 [.ref 87, .int i] [.int (bI false)] _ _
  refine AX.if_eqB (pc := 13) (tgt := 25) dX12_paper_13 (by decide) (fun hc13 => ?_) (fun q => absurd q (by decide))
  refine AX.iconst (pc := 25) (v := (-1)) dX12_paper_25 (by decide) ?_
  refine AX.iret (pc := 26) dX12_paper_26 rfl rfl (by decide) (by decide) ?_
  exact ⟨by unfold aPaper; rw [if_neg h_i]; try rfl, rfl⟩
theorem l_mSpell (w : XW) (P : Option Value → XH → Prop) (h0 : XH) {v : Nat → Int32} {m : Nat} {fp : Nat → Int32} {r0 x0 : Int32} (sp : Nat → Nat) (hm : m ≤ 3) (e0 : h0.2 109 = .inl (0, 3, .inl fp)) (hsp : ∀ j, j < m → fp j = nI (sp j) ∧ 1 ≤ sp j ∧ sp j < 63) (hP : ∀ h', Same [87, 111] h0 h' → PP h' (upd v 4 (nI m)) (txN sp m) → P (some (.int (nI (txN sp m).length))) h') : ∀ (g k : Nat) (h : XH), k + g = m → 118 ≤ h.1 → PP h (upd v 4 (nI m)) (txN sp k) → Same [87, 111] h0 h → AX w M_X12_spell 0 0 29 [.ref 87, .int r0, .int x0, .int (nI k)] [] h P
  | 0, k, h, hg, hn, hP2, hS => by
    have e : k = m := by omega
    subst e
    refine AX.iload_n (pc := 29) dX12_spell_29 rfl ?_
    refine AX.aload_n (pc := 30) dX12_spell_30 rfl ?_
    refine AX.getf (pc := 31) fX12_spell_265 (lt_k hn (by decide)) hP2.1 rfl dX12_spell_31 ?_
    refine AX.icmp_geN (pc := 34) (tgt := 63) dX12_spell_34 (by decide) (by omega) (by omega) (fun hc34 => ?_) (fun q => absurd q (Nat.lt_irrefl _))
    refine AX.aload_n (pc := 63) dX12_spell_63 rfl ?_
    refine AX.getf (pc := 64) fX12_spell_276 (lt_k hn (by decide)) hP2.1 rfl dX12_spell_64 ?_
    refine AX.iret (pc := 67) dX12_spell_67 rfl rfl (by decide) (by decide) ?_
    exact hP h hS hP2
  | g + 1, k, h, hg, hn, hP2, hS => by
    have hlen := txN_le sp k
    obtain ⟨p1, p2, p3⟩ := hsp k (by omega)
    by_cases hk : k = 0
    · subst hk
      refine AX.iload_n (pc := 29) dX12_spell_29 rfl ?_
      refine AX.aload_n (pc := 30) dX12_spell_30 rfl ?_
      refine AX.getf (pc := 31) fX12_spell_265 (lt_k hn (by decide)) hP2.1 rfl dX12_spell_31 ?_
      refine AX.icmp_geN (pc := 34) (tgt := 63) dX12_spell_34 (by decide) (by decide) (by omega) (fun q => absurd q (by omega)) (fun hc34 => ?_)
      refine AX.iload_n (pc := 37) dX12_spell_37 rfl ?_
      refine AX.if_leN (pc := 38) (tgt := 47) dX12_spell_38 (by decide) (by decide) (fun hc38 => ?_) (fun q => absurd q (by decide))
      refine AX.aload_n (pc := 47) dX12_spell_47 rfl ?_
      refine AX.aload_n (pc := 48) dX12_spell_48 rfl ?_
      refine AX.getf (pc := 49) fX12_spell_75 (lt_k hn (by decide)) hP2.1 rfl dX12_spell_49 ?_
      refine AX.iload_n (pc := 52) dX12_spell_52 rfl ?_
      refine AX.ialdN (pc := 53) (i := 0) (v := (nI (sp 0))) (lt_k hn (by decide)) (hS.at (by simp) e0) (by decide) (by decide) p1 dX12_spell_53 ?_
      refine AX.callV (pc := 54) (M2 := M_X12_writesSpot) (As := [.int (nI (sp 0))]) (rest := []) (c_writesSpot w h (sp 0) hn hP2 p2 p3 (by omega)) xc_X12_spell__X12_writesSpot gX12_spell_X12_writesSpot (ci := 11) rfl (lt_k hn (by decide)) hP2.1 rfl (Nat.le_of_ble_eq_true rfl) dX12_spell_54 ?_
      rintro _ h2 ⟨rfl, s2, P2⟩
      have t2 : Same [87, 111] h h2 := s2
      show AX w M_X12_spell 0 0 57 [.ref 87, .int r0, .int x0, .int (nI 0)] [] _ _
      refine AX.iincN (c := 1) (pc := 57) (L' := [.ref 87, .int r0, .int x0, .int (nI 1)]) dX12_spell_57 rfl (inc1 _) (by decide) rfl ?_
      refine AX.goto (pc := 60) (tgt := 29) dX12_spell_60 (by decide) ?_
      have e : txN sp (0 + 1) = txN sp 0 ++ spN (sp 0) := by simp [txN]
      rw [← e] at P2
      refine AX.atL (L' := [.ref 87, .int r0, .int x0, .int (nI (0 + 1))]) rfl ?_
      exact l_mSpell w P h0 sp hm e0 hsp hP g (0 + 1) h2 (by omega) (t2.le hn) P2 (hS.trans t2)
    refine AX.iload_n (pc := 29) dX12_spell_29 rfl ?_
    refine AX.aload_n (pc := 30) dX12_spell_30 rfl ?_
    refine AX.getf (pc := 31) fX12_spell_265 (lt_k hn (by decide)) hP2.1 rfl dX12_spell_31 ?_
    refine AX.icmp_geN (pc := 34) (tgt := 63) dX12_spell_34 (by decide) (by omega) (by omega) (fun q => absurd q (by omega)) (fun hc34 => ?_)
    refine AX.iload_n (pc := 37) dX12_spell_37 rfl ?_
    refine AX.if_leN (pc := 38) (tgt := 47) dX12_spell_38 (by decide) (by omega) (fun q => absurd q (by omega)) (fun hc38 => ?_)
    refine AX.aload_n (pc := 41) dX12_spell_41 rfl ?_
    refine AX.bipush (pc := 42) (v := nI 32) dX12_spell_42 (by decide) ?_
    refine AX.callV (pc := 44) (M2 := M_X12_writes) (As := [.int (nI 32)]) (rest := []) (c_writes w h 32 hn hP2 (by omega)) xc_X12_spell__X12_writes gX12_spell_X12_writes (ci := 11) rfl (lt_k hn (by decide)) hP2.1 rfl (Nat.le_of_ble_eq_true rfl) dX12_spell_44 ?_
    rintro _ h1 ⟨rfl, s1, P1⟩
    have t1 : Same [87, 111] h h1 := s1
    show AX w M_X12_spell 0 0 47 [.ref 87, .int r0, .int x0, .int (nI k)] [] _ _
    refine AX.aload_n (pc := 47) dX12_spell_47 rfl ?_
    refine AX.aload_n (pc := 48) dX12_spell_48 rfl ?_
    refine AX.getf (pc := 49) fX12_spell_75 (lt_k (s1.le hn) (by decide)) P1.1 rfl dX12_spell_49 ?_
    refine AX.iload_n (pc := 52) dX12_spell_52 rfl ?_
    refine AX.ialdN (pc := 53) (i := k) (v := (nI (sp k))) (lt_k (s1.le hn) (by decide)) (s1.at (by simp) (hS.at (by simp) e0)) (by decide) (by omega) p1 dX12_spell_53 ?_
    refine AX.callV (pc := 54) (M2 := M_X12_writesSpot) (As := [.int (nI (sp k))]) (rest := []) (c_writesSpot w h1 (sp k) (s1.le hn) P1 p2 p3 (by rw [List.length_append, List.length_singleton]; omega)) xc_X12_spell__X12_writesSpot gX12_spell_X12_writesSpot (ci := 11) rfl (lt_k (s1.le hn) (by decide)) P1.1 rfl (Nat.le_of_ble_eq_true rfl) dX12_spell_54 ?_
    rintro _ h2 ⟨rfl, s2, P2⟩
    have t2 : Same [87, 111] h h2 := t1.trans s2
    show AX w M_X12_spell 0 0 57 [.ref 87, .int r0, .int x0, .int (nI k)] [] _ _
    refine AX.iincN (c := k + 1) (pc := 57) (L' := [.ref 87, .int r0, .int x0, .int (nI (k + 1))]) dX12_spell_57 rfl (inc1 _) (by decide) rfl ?_
    refine AX.goto (pc := 60) (tgt := 29) dX12_spell_60 (by decide) ?_
    have e : txN sp (k + 1) = txN sp k ++ [32] ++ spN (sp k) := by simp only [txN]; rw [if_neg hk]; simp
    rw [← e] at P2
    exact l_mSpell w P h0 sp hm e0 hsp hP g (k + 1) h2 (by omega) (t2.le hn) P2 (hS.trans t2)
theorem c_mSpell (w : XW) (h : XH) {s : SS} {n o : Nat} {a b : Nat × Nat} (c : MS h s) (l : LV (sq s) n o a b) (r : Int32) (i : Int32) : CA w M_X12_spell [.ref 87, .int r, .int i] h (fun v' h'' => v' = some (.int (aSpell o r i)) ∧ Same mdS h h'' ∧ MS h'' (wX s (nSpell o (sX s) r i))) := by
  obtain ⟨v, hO, hv⟩ := id c.ob
  obtain ⟨f89, e89, q89⟩ := id c.nw
  by_cases h_r : inR (leN o) 180 r
  · obtain ⟨rn, rfl, l_r, u_r⟩ := inR_nat (by decide) h_r
    have p_r := leN_pos o
    by_cases h_i : inR 0 2147483647 i
    · obtain ⟨in_, rfl, l_i, u_i⟩ := inR_nat (by decide) h_i
      by_cases hA : in_ < wyA o rn
      · obtain ⟨k1, k2, k3⟩ := wyK_ok hA
        have en : nSpell o (sX s) (nI rn) (nI in_) = fnT o rn in_ := by unfold nSpell; rw [if_pos h_r, if_pos h_i, nI_nat (show rn < 2147483648 by omega), nI_nat (show in_ < 2147483648 by omega), if_pos hA]
        rw [en]
        have ea : aSpell o (nI rn) (nI in_) = nI (fnT o rn in_).length := by unfold aSpell; rw [if_pos h_r, if_pos h_i, nI_nat (show rn < 2147483648 by omega), nI_nat (show in_ < 2147483648 by omega), if_pos hA]
        rw [ea]
        refine CA.of (by decide) rfl (fun _ => Nat.le_of_ble_eq_true rfl) ?_
        show AX w M_X12_spell 0 0 0 [.ref 87, .int (nI rn), .int (nI in_), .null] [] h _
        refine AX.aload_n (pc := 0) dX12_spell_0 rfl ?_
        refine AX.iload_n (pc := 1) dX12_spell_1 rfl ?_
        refine AX.sipush (pc := 2) (v := nI 180) dX12_spell_2 (by decide) ?_
        refine AX.callV (pc := 5) (M2 := M_X12_isRest) (As := [.int (nI rn), .int (nI 180)]) (rest := []) (c_mRest w h c l (nI rn) 180 (by decide)) xc_X12_spell__X12_isRest gX12_spell_X12_isRest (ci := 11) rfl (lt_k c.hn (by decide)) hO rfl (Nat.le_of_ble_eq_true rfl) dX12_spell_5 ?_
        rintro _ h9 ⟨rfl, e9⟩
        have e9 := e9.symm
        subst e9
        rw [decide_eq_true h_r]
        show AX w M_X12_spell 0 0 8 [.ref 87, .int (nI rn), .int (nI in_), .null] [.int (bI true)] _ _
        refine AX.if_eqB (pc := 8) (tgt := 20) dX12_spell_8 (by decide) (fun q => absurd q (by decide)) (fun hc8 => ?_)
        refine AX.aload_n (pc := 11) dX12_spell_11 rfl ?_
        refine AX.iload_n (pc := 12) dX12_spell_12 rfl ?_
        refine AX.iload_n (pc := 13) dX12_spell_13 rfl ?_
        refine AX.callV (pc := 14) (M2 := M_X12_layWay) (As := [.int (nI rn), .int (nI in_)]) (rest := []) (c_layWay w h c l u_r hA) xc_X12_spell__X12_layWay gX12_spell_X12_layWay (ci := 11) rfl (lt_k c.hn (by decide)) hO rfl (Nat.le_of_ble_eq_true rfl) dX12_spell_14 ?_
        rintro _ h1 ⟨rfl, s1, c1, ⟨v2, O2, hv2⟩, f9, y9, q9⟩
        have eO2 : h1.2 87 = .inr (11, [.ref 88, .ref 89, .ref 90, .int (v2 0), .int (v2 1), .ref 91, .ref 92, .ref 93, .ref 94, .ref 95, .ref 96, .ref 97, .ref 98, .ref 99, .ref 100, .ref 101, .int (v2 2), .ref 102, .ref 103, .ref 104, .ref 105, .ref 106, .ref 107, .ref 108, .int (v2 3), .ref 109, .int (nI ((wyK o rn in_).1)), .ref 110, .ref 111, .int (v2 5), .ref 112, .int (v2 6), .int (v2 7), .int (v2 8), .ref 113, .int (v2 9), .ref 114, .ref 115, .ref 116, .ref 117]) := O2
        show AX w M_X12_spell 0 0 17 [.ref 87, .int (nI rn), .int (nI in_), .null] [.int (bI true)] _ _
        refine AX.if_neB (pc := 17) (tgt := 22) dX12_spell_17 (by decide) (fun hc17 => ?_) (fun q => absurd q (by decide))
        refine AX.aload_n (pc := 22) dX12_spell_22 rfl ?_
        refine AX.iconst (pc := 23) (v := nI 0) dX12_spell_23 (by decide) ?_
        refine AX.putf (pc := 24) (fs' := [.ref 88, .ref 89, .ref 90, .int (v2 0), .int (v2 1), .ref 91, .ref 92, .ref 93, .ref 94, .ref 95, .ref 96, .ref 97, .ref 98, .ref 99, .ref 100, .ref 101, .int (v2 2), .ref 102, .ref 103, .ref 104, .ref 105, .ref 106, .ref 107, .ref 108, .int (v2 3), .ref 109, .int (nI ((wyK o rn in_).1)), .ref 110, .ref 111, .int (nI 0), .ref 112, .int (v2 6), .int (v2 7), .int (v2 8), .ref 113, .int (v2 9), .ref 114, .ref 115, .ref 116, .ref 117]) fX12_spell_276 rfl (lt_k (s1.le c.hn) (by decide)) eO2 (Nat.le_of_ble_eq_true rfl) rfl rfl rfl dX12_spell_24 ?_
        refine AX.iconst (pc := 27) (v := nI 0) dX12_spell_27 (by decide) ?_
        refine AX.istore_n (pc := 28) (L' := [.ref 87, .int (nI rn), .int (nI in_), .int (nI 0)]) dX12_spell_28 (by decide) rfl ?_
        have sx0 : Same [87] h1 (xset h1 87 (.inr (11, [.ref 88, .ref 89, .ref 90, .int (v2 0), .int (v2 1), .ref 91, .ref 92, .ref 93, .ref 94, .ref 95, .ref 96, .ref 97, .ref 98, .ref 99, .ref 100, .ref 101, .int (v2 2), .ref 102, .ref 103, .ref 104, .ref 105, .ref 106, .ref 107, .ref 108, .int (v2 3), .ref 109, .int (nI ((wyK o rn in_).1)), .ref 110, .ref 111, .int (nI 0), .ref 112, .int (v2 6), .int (v2 7), .int (v2 8), .ref 113, .int (v2 9), .ref 114, .ref 115, .ref 116, .ref 117]))) := Same.rest
        have sx : Same [87, 111] h1 (xset h1 87 (.inr (11, [.ref 88, .ref 89, .ref 90, .int (v2 0), .int (v2 1), .ref 91, .ref 92, .ref 93, .ref 94, .ref 95, .ref 96, .ref 97, .ref 98, .ref 99, .ref 100, .ref 101, .int (v2 2), .ref 102, .ref 103, .ref 104, .ref 105, .ref 106, .ref 107, .ref 108, .int (v2 3), .ref 109, .int (nI ((wyK o rn in_).1)), .ref 110, .ref 111, .int (nI 0), .ref 112, .int (v2 6), .int (v2 7), .int (v2 8), .ref 113, .int (v2 9), .ref 114, .ref 115, .ref 116, .ref 117]))) := sx0.wide (by decide)
        obtain ⟨f111, e111, q111, l111⟩ := id c1.pp
        exact l_mSpell w _ (xset h1 87 (.inr (11, [.ref 88, .ref 89, .ref 90, .int (v2 0), .int (v2 1), .ref 91, .ref 92, .ref 93, .ref 94, .ref 95, .ref 96, .ref 97, .ref 98, .ref 99, .ref 100, .ref 101, .int (v2 2), .ref 102, .ref 103, .ref 104, .ref 105, .ref 106, .ref 107, .ref 108, .int (v2 3), .ref 109, .int (nI ((wyK o rn in_).1)), .ref 110, .ref 111, .int (nI 0), .ref 112, .int (v2 6), .int (v2 7), .int (v2 8), .ref 113, .int (v2 9), .ref 114, .ref 115, .ref 116, .ref 117]))) (v := v2) (m := (wyK o rn in_).1) (fnS o rn in_) k2 (sx.at (by simp) y9) (fun j hj => ⟨q9 j hj, fnS_lt hA hj⟩) (fun h2 a1 a2 => ⟨rfl, mdS_lt ((s1.wide (T := [87, 109, 110, 111]) (by decide)).trans ((sx.trans a1).wide (by decide))) (by decide), by
              obtain ⟨b1, b2, f2, b3, b4⟩ := a2
              have sz := (s1.wide (T := [87, 109, 110, 111]) (by decide)).trans ((sx.trans a1).wide (T := [87, 109, 110, 111]) (by decide))
              exact c.paper sz ⟨_, b1, hv2.1, rfl, hv2.2.2⟩ ⟨f9, a1.at (by simp) (sx.at (by simp) y9)⟩ (c1.en.imp (fun _ z => a1.at (by simp) (sx.at (by simp) z))) ⟨f2, b3, b4, b2⟩⟩) (wyK o rn in_).1 0 _ (Nat.zero_add _) (sx.le (s1.le c.hn)) ⟨(xset_same _ _ _), Nat.zero_le _, f111, sx0.at (by simp) e111, fun j hj => absurd hj (Nat.not_lt_zero _)⟩ Same.rf
      · have en : nSpell o (sX s) (nI rn) (nI in_) = sX s := by unfold nSpell; rw [if_pos h_r, if_pos h_i, nI_nat (show rn < 2147483648 by omega), nI_nat (show in_ < 2147483648 by omega), if_neg hA]
        rw [en]
        refine CA.of (by decide) rfl (fun _ => Nat.le_of_ble_eq_true rfl) ?_
        show AX w M_X12_spell 0 0 0 [.ref 87, .int (nI rn), .int (nI in_), .null] [] h _
        refine AX.aload_n (pc := 0) dX12_spell_0 rfl ?_
        refine AX.iload_n (pc := 1) dX12_spell_1 rfl ?_
        refine AX.sipush (pc := 2) (v := nI 180) dX12_spell_2 (by decide) ?_
        refine AX.callV (pc := 5) (M2 := M_X12_isRest) (As := [.int (nI rn), .int (nI 180)]) (rest := []) (c_mRest w h c l (nI rn) 180 (by decide)) xc_X12_spell__X12_isRest gX12_spell_X12_isRest (ci := 11) rfl (lt_k c.hn (by decide)) hO rfl (Nat.le_of_ble_eq_true rfl) dX12_spell_5 ?_
        rintro _ h9 ⟨rfl, e9⟩
        have e9 := e9.symm
        subst e9
        rw [decide_eq_true h_r]
        show AX w M_X12_spell 0 0 8 [.ref 87, .int (nI rn), .int (nI in_), .null] [.int (bI true)] _ _
        refine AX.if_eqB (pc := 8) (tgt := 20) dX12_spell_8 (by decide) (fun q => absurd q (by decide)) (fun hc8 => ?_)
        refine AX.aload_n (pc := 11) dX12_spell_11 rfl ?_
        refine AX.iload_n (pc := 12) dX12_spell_12 rfl ?_
        refine AX.iload_n (pc := 13) dX12_spell_13 rfl ?_
        refine AX.callV (pc := 14) (M2 := M_X12_layWay) (As := [.int (nI rn), .int (nI in_)]) (rest := []) (c_layWayO w h c l u_r (i := in_) (by omega) (by omega)) xc_X12_spell__X12_layWay gX12_spell_X12_layWay (ci := 11) rfl (lt_k c.hn (by decide)) hO rfl (Nat.le_of_ble_eq_true rfl) dX12_spell_14 ?_
        rintro _ h1 ⟨rfl, s1, c1⟩
        show AX w M_X12_spell 0 0 17 [.ref 87, .int (nI rn), .int (nI in_), .null] [.int (bI false)] _ _
        refine AX.if_neB (pc := 17) (tgt := 22) dX12_spell_17 (by decide) (fun q => absurd q (by decide)) (fun hc17 => ?_)
        refine AX.iconst (pc := 20) (v := (-1)) dX12_spell_20 (by decide) ?_
        refine AX.iret (pc := 21) dX12_spell_21 rfl rfl (by decide) (by decide) ?_
        exact ⟨by unfold aSpell; rw [if_pos h_r, if_pos h_i, nI_nat (show rn < 2147483648 by omega), nI_nat (show in_ < 2147483648 by omega), if_neg hA], mdS_lt s1 (by decide), c1⟩
    · have en : nSpell o (sX s) (nI rn) i = sX s := by unfold nSpell; rw [if_pos h_r, if_neg h_i]
      rw [en]
      refine CA.of (by decide) rfl (fun _ => Nat.le_of_ble_eq_true rfl) ?_
      show AX w M_X12_spell 0 0 0 [.ref 87, .int (nI rn), .int i, .null] [] h _
      refine AX.aload_n (pc := 0) dX12_spell_0 rfl ?_
      refine AX.iload_n (pc := 1) dX12_spell_1 rfl ?_
      refine AX.sipush (pc := 2) (v := nI 180) dX12_spell_2 (by decide) ?_
      refine AX.callV (pc := 5) (M2 := M_X12_isRest) (As := [.int (nI rn), .int (nI 180)]) (rest := []) (c_mRest w h c l (nI rn) 180 (by decide)) xc_X12_spell__X12_isRest gX12_spell_X12_isRest (ci := 11) rfl (lt_k c.hn (by decide)) hO rfl (Nat.le_of_ble_eq_true rfl) dX12_spell_5 ?_
      rintro _ h9 ⟨rfl, e9⟩
      have e9 := e9.symm
      subst e9
      rw [decide_eq_true h_r]
      show AX w M_X12_spell 0 0 8 [.ref 87, .int (nI rn), .int i, .null] [.int (bI true)] _ _
      refine AX.if_eqB (pc := 8) (tgt := 20) dX12_spell_8 (by decide) (fun q => absurd q (by decide)) (fun hc8 => ?_)
      refine AX.aload_n (pc := 11) dX12_spell_11 rfl ?_
      refine AX.iload_n (pc := 12) dX12_spell_12 rfl ?_
      refine AX.iload_n (pc := 13) dX12_spell_13 rfl ?_
      refine AX.callV (pc := 14) (M2 := M_X12_layWay) (As := [.int (nI rn), .int i]) (rest := []) (c_layWayN w h c l u_r (neg_of h_i)) xc_X12_spell__X12_layWay gX12_spell_X12_layWay (ci := 11) rfl (lt_k c.hn (by decide)) hO rfl (Nat.le_of_ble_eq_true rfl) dX12_spell_14 ?_
      rintro _ h1 ⟨rfl, s1, c1⟩
      show AX w M_X12_spell 0 0 17 [.ref 87, .int (nI rn), .int i, .null] [.int (bI false)] _ _
      refine AX.if_neB (pc := 17) (tgt := 22) dX12_spell_17 (by decide) (fun q => absurd q (by decide)) (fun hc17 => ?_)
      refine AX.iconst (pc := 20) (v := (-1)) dX12_spell_20 (by decide) ?_
      refine AX.iret (pc := 21) dX12_spell_21 rfl rfl (by decide) (by decide) ?_
      exact ⟨by unfold aSpell; rw [if_pos h_r, if_neg h_i], mdS_lt s1 (by decide), c1⟩
  · refine CA.of (by decide) rfl (fun _ => Nat.le_of_ble_eq_true rfl) ?_
    show AX w M_X12_spell 0 0 0 [.ref 87, .int r, .int i, .null] [] h _
    refine AX.aload_n (pc := 0) dX12_spell_0 rfl ?_
    refine AX.iload_n (pc := 1) dX12_spell_1 rfl ?_
    refine AX.sipush (pc := 2) (v := nI 180) dX12_spell_2 (by decide) ?_
    refine AX.callV (pc := 5) (M2 := M_X12_isRest) (As := [.int r, .int (nI 180)]) (rest := []) (c_mRest w h c l r 180 (by decide)) xc_X12_spell__X12_isRest gX12_spell_X12_isRest (ci := 11) rfl (lt_k c.hn (by decide)) hO rfl (Nat.le_of_ble_eq_true rfl) dX12_spell_5 ?_
    rintro _ h9 ⟨rfl, e9⟩
    have e9 := e9.symm
    subst e9
    rw [decide_eq_false h_r]
    show AX w M_X12_spell 0 0 8 [.ref 87, .int r, .int i, .null] [.int (bI false)] _ _
    refine AX.if_eqB (pc := 8) (tgt := 20) dX12_spell_8 (by decide) (fun hc8 => ?_) (fun q => absurd q (by decide))
    refine AX.iconst (pc := 20) (v := (-1)) dX12_spell_20 (by decide) ?_
    refine AX.iret (pc := 21) dX12_spell_21 rfl rfl (by decide) (by decide) ?_
    have en : nSpell o (sX s) r i = sX s := by unfold nSpell; rw [if_neg h_r]
    rw [en]
    exact ⟨by unfold aSpell; rw [if_neg h_r]; try rfl, Same.rf, c⟩
