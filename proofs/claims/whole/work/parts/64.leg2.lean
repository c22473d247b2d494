/-! ===== THE FACE: START, THROWN, THROWSAT, SEED, TOLD ===== -/
theorem CSo.mt {h : XH} {s : SS} {o t : Nat} {a b : Nat × Nat} (c : CSo h s o a b) (ht : t ≤ 1) : MM h (10 + 16 * t) o (hh a b t) := by
  rcases (show t = 0 ∨ t = 1 by omega) with rfl | rfl
  · exact c.m0
  · exact c.m1
theorem CSo.mindt {h h' : XH} {s : SS} {o t : Nat} {a b : Nat × Nat} (c : CSo h s o a b) (ht : t ≤ 1) {S : List Nat} (hs : Same S h h') (hS : ∀ k, k ∈ S → 10 + 16 * t ≤ k ∧ k < 26 + 16 * t) (m : MM h' (10 + 16 * t) o (hh a b t)) : CSo h' s o a b := by
  rcases (show t = 0 ∨ t = 1 by omega) with rfl | rfl
  · exact c.mind0 hs hS m
  · exact c.mind1 hs hS m
theorem at_eq {o m : Nat} {a b : Nat × Nat} {q : Nat → Int32} (h : qt q ≤ 1) : atN o a b q m = ldN (dwN q) (qt q) (qg q) (nxN o (qr q) (faN a b q m)) := by
  have e1 : qt (dwN q) = qt q := rfl
  have e2 : qg (dwN q) = qg q := rfl
  have e3 : qr (dwN q) = qr q := by
    unfold qr
    rw [e1, dwN_lo (show 4 + qt q < 18 by omega)]
  unfold atN thN
  rw [e1, e2, e3]
theorem c_start (w : XW) (h : XH) {s : SS} {n o : Nat} {a b : Nat × Nat} (c : CSo h s o a b) (l : LV (sq s) n o a b) (x : Int32) : CA w M_X11_start [.ref 0, .int x] h (fun v' h'' => v' = some (.int (aStart (sq s) x)) ∧ Same clS h h'' ∧ CSo h'' (wq s (nStart (sq s) x)) o a b) := by
  by_cases h_x : inR 2 501 x
  · obtain ⟨xn, rfl, l_x, u_x⟩ := inR_nat (by decide) h_x
    have en : nStart (sq s) (nI xn) = bgN (upd (sq s) 13 (nI xn)) (qg (sq s)) := by unfold nStart; rw [if_pos h_x]
    rw [en]
    refine CA.of (by decide) rfl (fun _ => Nat.le_of_ble_eq_true rfl) ?_
    show AX w M_X11_start 0 0 0 [.ref 0, .int (nI xn), .null] [] h _
    refine AX.iload_n (pc := 0) dX11_start_0 rfl ?_
    refine AX.iconst (pc := 1) (v := nI 2) dX11_start_1 (by decide) ?_
    refine AX.icmp_ltN (pc := 2) (tgt := 12) dX11_start_2 (by decide) (by omega) (by decide) (fun q => absurd q (by omega)) (fun hc2 => ?_)
    refine AX.iload_n (pc := 5) dX11_start_5 rfl ?_
    refine AX.sipush (pc := 6) (v := nI 501) dX11_start_6 (by decide) ?_
    refine AX.icmp_leN (pc := 9) (tgt := 15) dX11_start_9 (by decide) (by omega) (by decide) (fun hc9 => ?_) (fun q => absurd q (by omega))
    refine AX.aload_n (pc := 15) dX11_start_15 rfl ?_
    refine AX.getf (pc := 16) fX11_start_53 (lt_k c.hn (by omega)) c.dm rfl dX11_start_16 ?_
    refine AX.getf (pc := 19) fX11_start_221 (lt_k c.hn (by omega)) c.lg.1 rfl dX11_start_19 ?_
    refine AX.istore_n (pc := 22) (L' := [.ref 0, .int (nI xn), .int (sq s 13)]) dX11_start_22 (by decide) rfl ?_
    refine AX.aload_n (pc := 23) dX11_start_23 rfl ?_
    refine AX.getf (pc := 24) fX11_start_53 (lt_k c.hn (by omega)) c.dm rfl dX11_start_24 ?_
    refine AX.iload_n (pc := 27) dX11_start_27 rfl ?_
    refine AX.putf (pc := 28) (fs' := [.ref 65, .int (sq s 12), .int (nI xn), .int (sq s 14), .int (sq s 15), .int (sq s 16), .int (sq s 17), .int (sq s 18)]) fX11_start_221 rfl (lt_k c.hn (by omega)) c.lg.1 (Nat.le_of_ble_eq_true rfl) rfl rfl rfl dX11_start_28 ?_
    have sx : Same [64] h (xset h 64 (.inr (2, [.ref 65, .int (sq s 12), .int (nI xn), .int (sq s 14), .int (sq s 15), .int (sq s 16), .int (sq s 17), .int (sq s 18)]))) := Same.rest
    refine AX.aload_n (pc := 31) dX11_start_31 rfl ?_
    refine AX.getf (pc := 32) fX11_start_53 (lt_k c.hn (by omega)) ((xset_ne (by decide)).trans c.dm) rfl dX11_start_32 ?_
    refine AX.callV (pc := 35) (M2 := M_X3_begin) (As := []) (rest := []) (c_begin w (xset h 64 (.inr (2, [.ref 65, .int (sq s 12), .int (nI xn), .int (sq s 14), .int (sq s 15), .int (sq s 16), .int (sq s 17), .int (sq s 18)]))) (sx.le (show 72 ≤ h.1 by have := c.hn; omega)) (q := upd (sq s) 13 (nI xn)) ⟨(xset_same _ _ _), c.lg.2.1.same sx (by simp), ((xset_ne (by decide)).trans c.lg.2.2.1), ((xset_ne (by decide)).trans c.lg.2.2.2)⟩ (qg (sq s)) l.now.2.1 l.now.2.2.2.1) xc_X11_start__X3_begin gX11_start_X3_begin (ci := 2) rfl (lt_k c.hn (by omega)) (xset_same _ _ _) rfl (Nat.le_of_ble_eq_true rfl) dX11_start_35 ?_
    rintro _ h1 ⟨rfl, s1, l1⟩
    have c1 : CSo h1 (wq s (bgN (upd (sq s) 13 (nI xn)) (qg (sq s)))) o a b := c.leg ((sx.wide (by decide)).trans s1) l1
    show AX w M_X11_start 0 0 38 [.ref 0, .int (nI xn), .int (sq s 13)] [] _ _
    refine AX.iload_n (pc := 38) dX11_start_38 rfl ?_
    refine AX.iret (pc := 39) dX11_start_39 rfl rfl (by decide) (by decide) ?_
    exact ⟨by unfold aStart; rw [if_pos h_x]; try rfl, clS_in ((sx.wide (T := [64, 66, 67]) (by decide)).trans s1) (by decide), c1⟩
  · rcases nR h_x with hl | hu
    · refine CA.of (by decide) rfl (fun _ => Nat.le_of_ble_eq_true rfl) ?_
      show AX w M_X11_start 0 0 0 [.ref 0, .int x, .null] [] h _
      refine AX.iload_n (pc := 0) dX11_start_0 rfl ?_
      refine AX.iconst (pc := 1) (v := nI 2) dX11_start_1 (by decide) ?_
      refine AX.icmp_lt (pc := 2) (tgt := 12) dX11_start_2 (by decide) (fun hc2 => ?_) (fun q => absurd (ltT rfl (iN 2 (by omega)) (by omega)) q)
      refine AX.bipush (pc := 12) (v := (-2)) dX11_start_12 (by decide) ?_
      refine AX.iret (pc := 14) dX11_start_14 rfl rfl (by decide) (by decide) ?_
      have en : nStart (sq s) x = sq s := by unfold nStart; rw [if_neg h_x]
      rw [en]
      exact ⟨by unfold aStart; rw [if_neg h_x]; try rfl, Same.rf, c⟩
    · refine CA.of (by decide) rfl (fun _ => Nat.le_of_ble_eq_true rfl) ?_
      show AX w M_X11_start 0 0 0 [.ref 0, .int x, .null] [] h _
      refine AX.iload_n (pc := 0) dX11_start_0 rfl ?_
      refine AX.iconst (pc := 1) (v := nI 2) dX11_start_1 (by decide) ?_
      refine AX.icmp_lt (pc := 2) (tgt := 12) dX11_start_2 (by decide) (fun q => absurd q (ltF rfl (iN 2 (by omega)) (by omega))) (fun hc2 => ?_)
      refine AX.iload_n (pc := 5) dX11_start_5 rfl ?_
      refine AX.sipush (pc := 6) (v := nI 501) dX11_start_6 (by decide) ?_
      refine AX.icmp_le (pc := 9) (tgt := 15) dX11_start_9 (by decide) (fun q => absurd q (leF rfl (iN 501 (by omega)) (by omega))) (fun hc9 => ?_)
      refine AX.bipush (pc := 12) (v := (-2)) dX11_start_12 (by decide) ?_
      refine AX.iret (pc := 14) dX11_start_14 rfl rfl (by decide) (by decide) ?_
      have en : nStart (sq s) x = sq s := by unfold nStart; rw [if_neg h_x]
      rw [en]
      exact ⟨by unfold aStart; rw [if_neg h_x]; try rfl, Same.rf, c⟩
theorem c_thrown (w : XW) (h : XH) {s : SS} {n o : Nat} {a b : Nat × Nat} (c : CSo h s o a b) (l : LV (sq s) n o a b) (x : Int32) : CA w M_X11_thrown [.ref 0, .int x] h (fun v' h'' => v' = some (.int (aThrown o (sq s) x)) ∧ Same clS h h'' ∧ CSo h'' (wq s (nThrown o (sq s) x)) o a b) := by
  by_cases h_x : inR 0 62 x
  · obtain ⟨xn, rfl, l_x, u_x⟩ := inR_nat (by decide) h_x
    have en : nThrown o (sq s) (nI xn) = thN o (sq s) xn := by unfold nThrown; rw [if_pos h_x, nI_nat (by omega)]
    rw [en]
    obtain ⟨t1, g1, e15, e14, e4, r1, r5⟩ := l.now
    refine CA.of (by decide) rfl (fun _ => Nat.le_of_ble_eq_true rfl) ?_
    show AX w M_X11_thrown 0 0 0 [.ref 0, .int (nI xn)] [] h _
    refine AX.iload_n (pc := 0) dX11_thrown_0 rfl ?_
    refine AX.callS (pc := 1) (M2 := M_X11_isSpot) (As := [.int (nI xn)]) (rest := []) (c_isSpot w h (nI xn)) xc_X11_thrown__X11_isSpot gX11_thrown_X11_isSpot rfl (Nat.le_of_ble_eq_true rfl) dX11_thrown_1 ?_
    rintro _ h9 ⟨rfl, e9⟩
    have e9 := e9.symm
    subst e9
    rw [decide_eq_true (spot_iff.mpr h_x)]
    show AX w M_X11_thrown 0 0 4 [.ref 0, .int (nI xn)] [.int (bI true)] _ _
    refine AX.if_eqB (pc := 4) (tgt := 15) dX11_thrown_4 (by decide) (fun q => absurd q (by decide)) (fun hc4 => ?_)
    refine AX.aload_n (pc := 7) dX11_thrown_7 rfl ?_
    refine AX.iload_n (pc := 8) dX11_thrown_8 rfl ?_
    refine AX.callV (pc := 9) (M2 := M_X11_throwUpon) (As := [.int (nI xn)]) (rest := []) (c_throwUpon w h c.hn c.dm c.ru c.lg t1 g1 e15 e14 e4 r5 (show xn < 63 by omega)) xc_X11_thrown__X11_throwUpon gX11_thrown_X11_throwUpon (ci := 10) rfl (lt_k c.hn (by omega)) c.dm rfl (Nat.le_of_ble_eq_true rfl) dX11_thrown_9 ?_
    rintro _ h1 ⟨rfl, s1, l1⟩
    have c1 : CSo h1 (wq s (thN o (sq s) xn)) o a b := c.leg s1 l1
    show AX w M_X11_thrown 0 0 12 [.ref 0, .int (nI xn)] [.int (oI (nxN o (qr (sq s)) xn))] _ _
    refine AX.goto (pc := 12) (tgt := 16) dX11_thrown_12 (by decide) ?_
    refine AX.iret (pc := 16) dX11_thrown_16 rfl rfl (by decide) (by decide) ?_
    exact ⟨by unfold aThrown; rw [if_pos h_x, nI_nat (show xn < 2147483648 by omega)]; try rfl, clS_in s1 (by decide), c1⟩
  · refine CA.of (by decide) rfl (fun _ => Nat.le_of_ble_eq_true rfl) ?_
    show AX w M_X11_thrown 0 0 0 [.ref 0, .int x] [] h _
    refine AX.iload_n (pc := 0) dX11_thrown_0 rfl ?_
    refine AX.callS (pc := 1) (M2 := M_X11_isSpot) (As := [.int x]) (rest := []) (c_isSpot w h x) xc_X11_thrown__X11_isSpot gX11_thrown_X11_isSpot rfl (Nat.le_of_ble_eq_true rfl) dX11_thrown_1 ?_
    rintro _ h9 ⟨rfl, e9⟩
    have e9 := e9.symm
    subst e9
    rw [decide_eq_false (fun q => h_x (spot_iff.mp q))]
    show AX w M_X11_thrown 0 0 4 [.ref 0, .int x] [.int (bI false)] _ _
    refine AX.if_eqB (pc := 4) (tgt := 15) dX11_thrown_4 (by decide) (fun hc4 => ?_) (fun q => absurd q (by decide))
    refine AX.iconst (pc := 15) (v := (-1)) dX11_thrown_15 (by decide) ?_
    refine AX.iret (pc := 16) dX11_thrown_16 rfl rfl (by decide) (by decide) ?_
    have en : nThrown o (sq s) x = sq s := by unfold nThrown; rw [if_neg h_x]
    rw [en]
    exact ⟨by unfold aThrown; rw [if_neg h_x]; try rfl, Same.rf, c⟩
theorem c_throwsAt (w : XW) (h : XH) {s : SS} {n o : Nat} {a b : Nat × Nat} (c : CSo h s o a b) (l : LV (sq s) n o a b) (x : Int32) : CA w M_X11_throwsAt [.ref 0, .int x] h (fun v' h'' => v' = some (.int (aAt a b (sq s) x)) ∧ Same clS h h'' ∧ CSo h'' (wq s (nAt o a b (sq s) x)) o a b) := by
  by_cases h_x : inR 1 62 x
  · obtain ⟨xn, rfl, l_x, u_x⟩ := inR_nat (by decide) h_x
    obtain ⟨t1, g1, e15, e14, e4, r1, r5⟩ := l.now
    have en : nAt o a b (sq s) (nI xn) = ldN (dwN (sq s)) (qt (sq s)) (qg (sq s)) (nxN o (qr (sq s)) (faN a b (sq s) xn)) := by unfold nAt; rw [if_pos h_x, nI_nat (by omega), at_eq t1]
    rw [en]
    obtain ⟨dk, ck, fn, mA, -⟩ := c.mt t1
    refine CA.of (by decide) rfl (fun _ => Nat.le_of_ble_eq_true rfl) ?_
    show AX w M_X11_throwsAt 0 0 0 [.ref 0, .int (nI xn)] [] h _
    refine AX.iload_n (pc := 0) dX11_throwsAt_0 rfl ?_
    refine AX.callS (pc := 1) (M2 := M_X11_isAim) (As := [.int (nI xn)]) (rest := []) (c_isAim w h (nI xn)) xc_X11_throwsAt__X11_isAim gX11_throwsAt_X11_isAim rfl (Nat.le_of_ble_eq_true rfl) dX11_throwsAt_1 ?_
    rintro _ h9 ⟨rfl, e9⟩
    have e9 := e9.symm
    subst e9
    rw [decide_eq_true (aim_iff.mpr h_x)]
    show AX w M_X11_throwsAt 0 0 4 [.ref 0, .int (nI xn)] [.int (bI true)] _ _
    refine AX.if_eqB (pc := 4) (tgt := 15) dX11_throwsAt_4 (by decide) (fun q => absurd q (by decide)) (fun hc4 => ?_)
    refine AX.aload_n (pc := 7) dX11_throwsAt_7 rfl ?_
    refine AX.iload_n (pc := 8) dX11_throwsAt_8 rfl ?_
    refine AX.callV (pc := 9) (M2 := M_X11_throwByDraw) (As := [.int (nI xn)]) (rest := []) (c_throwByDraw w h c.hn c.dm c.ru c.fa c.rs.2.1 rfl mA c.lg t1 g1 e15 e14 e4 r5 l_x (show xn < 63 by omega)) xc_X11_throwsAt__X11_throwByDraw gX11_throwsAt_X11_throwByDraw (ci := 10) rfl (lt_k c.hn (by omega)) c.dm rfl (Nat.le_of_ble_eq_true rfl) dX11_throwsAt_9 ?_
    rintro _ h1 ⟨rfl, s1, l1⟩
    have c1 : CSo h1 (wq s (ldN (dwN (sq s)) (qt (sq s)) (qg (sq s)) (nxN o (qr (sq s)) (faN a b (sq s) xn)))) o a b := c.leg s1 l1
    show AX w M_X11_throwsAt 0 0 12 [.ref 0, .int (nI xn)] [.int (nI (faN a b (sq s) xn))] _ _
    refine AX.goto (pc := 12) (tgt := 16) dX11_throwsAt_12 (by decide) ?_
    refine AX.iret (pc := 16) dX11_throwsAt_16 rfl rfl (by decide) (by decide) ?_
    exact ⟨by unfold aAt; rw [if_pos h_x, nI_nat (show xn < 2147483648 by omega)]; try rfl, clS_in s1 (by decide), c1⟩
  · refine CA.of (by decide) rfl (fun _ => Nat.le_of_ble_eq_true rfl) ?_
    show AX w M_X11_throwsAt 0 0 0 [.ref 0, .int x] [] h _
    refine AX.iload_n (pc := 0) dX11_throwsAt_0 rfl ?_
    refine AX.callS (pc := 1) (M2 := M_X11_isAim) (As := [.int x]) (rest := []) (c_isAim w h x) xc_X11_throwsAt__X11_isAim gX11_throwsAt_X11_isAim rfl (Nat.le_of_ble_eq_true rfl) dX11_throwsAt_1 ?_
    rintro _ h9 ⟨rfl, e9⟩
    have e9 := e9.symm
    subst e9
    rw [decide_eq_false (fun q => h_x (aim_iff.mp q))]
    show AX w M_X11_throwsAt 0 0 4 [.ref 0, .int x] [.int (bI false)] _ _
    refine AX.if_eqB (pc := 4) (tgt := 15) dX11_throwsAt_4 (by decide) (fun hc4 => ?_) (fun q => absurd q (by decide))
    refine AX.iconst (pc := 15) (v := (-1)) dX11_throwsAt_15 (by decide) ?_
    refine AX.iret (pc := 16) dX11_throwsAt_16 rfl rfl (by decide) (by decide) ?_
    have en : nAt o a b (sq s) x = sq s := by unfold nAt; rw [if_neg h_x]
    rw [en]
    exact ⟨by unfold aAt; rw [if_neg h_x]; try rfl, Same.rf, c⟩
theorem c_seed (w : XW) (h : XH) {s : SS} {o : Nat} {a b : Nat × Nat} (c : CSo h s o a b) (x : Int32) : CA w M_X11_seed [.ref 0, .int x] h (fun v' h'' => v' = some (.int (sq s 18)) ∧ Same clS h h'' ∧ CSo h'' (wq s (nSeed (sq s) x)) o a b) := by
  refine CA.of (by decide) rfl (fun _ => Nat.le_of_ble_eq_true rfl) ?_
  show AX w M_X11_seed 0 0 0 [.ref 0, .int x, .null] [] h _
  refine AX.aload_n (pc := 0) dX11_seed_0 rfl ?_
  refine AX.getf (pc := 1) fX11_seed_53 (lt_k c.hn (by omega)) c.dm rfl dX11_seed_1 ?_
  refine AX.getf (pc := 4) fX11_seed_243 (lt_k c.hn (by omega)) c.lg.1 rfl dX11_seed_4 ?_
  refine AX.istore_n (pc := 7) (L' := [.ref 0, .int x, .int (sq s 18)]) dX11_seed_7 (by decide) rfl ?_
  refine AX.aload_n (pc := 8) dX11_seed_8 rfl ?_
  refine AX.getf (pc := 9) fX11_seed_53 (lt_k c.hn (by omega)) c.dm rfl dX11_seed_9 ?_
  refine AX.iload_n (pc := 12) dX11_seed_12 rfl ?_
  refine AX.putf (pc := 13) (fs' := [.ref 65, .int (sq s 12), .int (sq s 13), .int (sq s 14), .int (sq s 15), .int (sq s 16), .int (sq s 17), .int x]) fX11_seed_243 rfl (lt_k c.hn (by omega)) c.lg.1 (Nat.le_of_ble_eq_true rfl) rfl rfl rfl dX11_seed_13 ?_
  refine AX.iload_n (pc := 16) dX11_seed_16 rfl ?_
  refine AX.iret (pc := 17) dX11_seed_17 rfl rfl (by decide) (by decide) ?_
  have sx : Same [64, 66, 67] h (xset h 64 (.inr (2, [.ref 65, .int (sq s 12), .int (sq s 13), .int (sq s 14), .int (sq s 15), .int (sq s 16), .int (sq s 17), .int x]))) := Same.set Same.rf (by simp)
  exact ⟨rfl, clS_in sx (by decide), c.leg (q := nSeed (sq s) x) sx ⟨(xset_same _ _ _), c.lg.2.1.same sx (by simp), ((xset_ne (by decide)).trans c.lg.2.2.1), ((xset_ne (by decide)).trans c.lg.2.2.2)⟩⟩
theorem c_told (w : XW) (h : XH) {s : SS} {o : Nat} {a b : Nat × Nat} (c : CSo h s o a b) (x : Int32) : CA w M_X11_told [.ref 0, .int x] h (fun v' h'' => v' = some (.int (aTold s x)) ∧ h'' = h) := by
  obtain ⟨f65, e65, q65⟩ := id c.lg.2.1
  obtain ⟨y72, a72, X72, t72, -⟩ := id c.tp
  by_cases h1 : inR 0 8 x
  · obtain ⟨xn, rfl, l_x, u_x⟩ := inR_nat (by decide) h1
    rcases (show xn = 0 ∨ xn = 1 ∨ xn = 2 ∨ xn = 3 ∨ xn = 4 ∨ xn = 5 ∨ xn = 6 ∨ xn = 7 ∨ xn = 8 by omega) with rfl | rfl | rfl | rfl | rfl | rfl | rfl | rfl | rfl
    · refine CA.of (by decide) rfl (fun _ => Nat.le_of_ble_eq_true rfl) ?_
      show AX w M_X11_told 0 0 0 [.ref 0, .int (nI 0)] [] h _
      refine AX.iload_n (pc := 0) dX11_told_0 rfl ?_
      refine AX.bipush (pc := 1) (v := nI 10) dX11_told_1 (by decide) ?_
      refine AX.icmp_ltN (pc := 3) (tgt := 29) dX11_told_3 (by decide) (by decide) (by decide) (fun hc3 => ?_) (fun q => absurd q (by decide))
      refine AX.iload_n (pc := 29) dX11_told_29 rfl ?_
      refine AX.bipush (pc := 30) (v := nI 20) dX11_told_30 (by decide) ?_
      refine AX.icmp_ltN (pc := 32) (tgt := 58) dX11_told_32 (by decide) (by decide) (by decide) (fun hc32 => ?_) (fun q => absurd q (by decide))
      refine AX.iload_n (pc := 58) dX11_told_58 rfl ?_
      refine AX.tableIn (pc := 59) (off := 49) (tgt := 108) dX11_told_59 (by decide) (by decide) (by decide) (by decide) ?_
      refine AX.aload_n (pc := 108) dX11_told_108 rfl ?_
      refine AX.getf (pc := 109) fX11_told_53 (lt_k c.hn (by omega)) c.dm rfl dX11_told_109 ?_
      refine AX.getf (pc := 112) fX11_told_237 (lt_k c.hn (by omega)) c.lg.1 rfl dX11_told_112 ?_
      refine AX.iret (pc := 115) dX11_told_115 rfl rfl (by decide) (by decide) ?_
      exact ⟨by unfold aTold; rw [if_pos h1]; rfl, rfl⟩
    · refine CA.of (by decide) rfl (fun _ => Nat.le_of_ble_eq_true rfl) ?_
      show AX w M_X11_told 0 0 0 [.ref 0, .int (nI 1)] [] h _
      refine AX.iload_n (pc := 0) dX11_told_0 rfl ?_
      refine AX.bipush (pc := 1) (v := nI 10) dX11_told_1 (by decide) ?_
      refine AX.icmp_ltN (pc := 3) (tgt := 29) dX11_told_3 (by decide) (by decide) (by decide) (fun hc3 => ?_) (fun q => absurd q (by decide))
      refine AX.iload_n (pc := 29) dX11_told_29 rfl ?_
      refine AX.bipush (pc := 30) (v := nI 20) dX11_told_30 (by decide) ?_
      refine AX.icmp_ltN (pc := 32) (tgt := 58) dX11_told_32 (by decide) (by decide) (by decide) (fun hc32 => ?_) (fun q => absurd q (by decide))
      refine AX.iload_n (pc := 58) dX11_told_58 rfl ?_
      refine AX.tableIn (pc := 59) (off := 57) (tgt := 116) dX11_told_59 (by decide) (by decide) (by decide) (by decide) ?_
      refine AX.aload_n (pc := 116) dX11_told_116 rfl ?_
      refine AX.getf (pc := 117) fX11_told_53 (lt_k c.hn (by omega)) c.dm rfl dX11_told_117 ?_
      refine AX.getf (pc := 120) fX11_told_256 (lt_k c.hn (by omega)) c.lg.1 rfl dX11_told_120 ?_
      refine AX.iret (pc := 123) dX11_told_123 rfl rfl (by decide) (by decide) ?_
      exact ⟨by unfold aTold; rw [if_pos h1]; rfl, rfl⟩
    · refine CA.of (by decide) rfl (fun _ => Nat.le_of_ble_eq_true rfl) ?_
      show AX w M_X11_told 0 0 0 [.ref 0, .int (nI 2)] [] h _
      refine AX.iload_n (pc := 0) dX11_told_0 rfl ?_
      refine AX.bipush (pc := 1) (v := nI 10) dX11_told_1 (by decide) ?_
      refine AX.icmp_ltN (pc := 3) (tgt := 29) dX11_told_3 (by decide) (by decide) (by decide) (fun hc3 => ?_) (fun q => absurd q (by decide))
      refine AX.iload_n (pc := 29) dX11_told_29 rfl ?_
      refine AX.bipush (pc := 30) (v := nI 20) dX11_told_30 (by decide) ?_
      refine AX.icmp_ltN (pc := 32) (tgt := 58) dX11_told_32 (by decide) (by decide) (by decide) (fun hc32 => ?_) (fun q => absurd q (by decide))
      refine AX.iload_n (pc := 58) dX11_told_58 rfl ?_
      refine AX.tableIn (pc := 59) (off := 65) (tgt := 124) dX11_told_59 (by decide) (by decide) (by decide) (by decide) ?_
      refine AX.aload_n (pc := 124) dX11_told_124 rfl ?_
      refine AX.getf (pc := 125) fX11_told_53 (lt_k c.hn (by omega)) c.dm rfl dX11_told_125 ?_
      refine AX.getf (pc := 128) fX11_told_259 (lt_k c.hn (by omega)) c.lg.1 rfl dX11_told_128 ?_
      refine AX.iret (pc := 131) dX11_told_131 rfl rfl (by decide) (by decide) ?_
      exact ⟨by unfold aTold; rw [if_pos h1]; rfl, rfl⟩
    · refine CA.of (by decide) rfl (fun _ => Nat.le_of_ble_eq_true rfl) ?_
      show AX w M_X11_told 0 0 0 [.ref 0, .int (nI 3)] [] h _
      refine AX.iload_n (pc := 0) dX11_told_0 rfl ?_
      refine AX.bipush (pc := 1) (v := nI 10) dX11_told_1 (by decide) ?_
      refine AX.icmp_ltN (pc := 3) (tgt := 29) dX11_told_3 (by decide) (by decide) (by decide) (fun hc3 => ?_) (fun q => absurd q (by decide))
      refine AX.iload_n (pc := 29) dX11_told_29 rfl ?_
      refine AX.bipush (pc := 30) (v := nI 20) dX11_told_30 (by decide) ?_
      refine AX.icmp_ltN (pc := 32) (tgt := 58) dX11_told_32 (by decide) (by decide) (by decide) (fun hc32 => ?_) (fun q => absurd q (by decide))
      refine AX.iload_n (pc := 58) dX11_told_58 rfl ?_
      refine AX.tableIn (pc := 59) (off := 73) (tgt := 132) dX11_told_59 (by decide) (by decide) (by decide) (by decide) ?_
      refine AX.aload_n (pc := 132) dX11_told_132 rfl ?_
      refine AX.getf (pc := 133) fX11_told_53 (lt_k c.hn (by omega)) c.dm rfl dX11_told_133 ?_
      refine AX.getf (pc := 136) fX11_told_221 (lt_k c.hn (by omega)) c.lg.1 rfl dX11_told_136 ?_
      refine AX.iret (pc := 139) dX11_told_139 rfl rfl (by decide) (by decide) ?_
      exact ⟨by unfold aTold; rw [if_pos h1]; rfl, rfl⟩
    · refine CA.of (by decide) rfl (fun _ => Nat.le_of_ble_eq_true rfl) ?_
      show AX w M_X11_told 0 0 0 [.ref 0, .int (nI 4)] [] h _
      refine AX.iload_n (pc := 0) dX11_told_0 rfl ?_
      refine AX.bipush (pc := 1) (v := nI 10) dX11_told_1 (by decide) ?_
      refine AX.icmp_ltN (pc := 3) (tgt := 29) dX11_told_3 (by decide) (by decide) (by decide) (fun hc3 => ?_) (fun q => absurd q (by decide))
      refine AX.iload_n (pc := 29) dX11_told_29 rfl ?_
      refine AX.bipush (pc := 30) (v := nI 20) dX11_told_30 (by decide) ?_
      refine AX.icmp_ltN (pc := 32) (tgt := 58) dX11_told_32 (by decide) (by decide) (by decide) (fun hc32 => ?_) (fun q => absurd q (by decide))
      refine AX.iload_n (pc := 58) dX11_told_58 rfl ?_
      refine AX.tableIn (pc := 59) (off := 81) (tgt := 140) dX11_told_59 (by decide) (by decide) (by decide) (by decide) ?_
      refine AX.aload_n (pc := 140) dX11_told_140 rfl ?_
      refine AX.getf (pc := 141) fX11_told_53 (lt_k c.hn (by omega)) c.dm rfl dX11_told_141 ?_
      refine AX.getf (pc := 144) fX11_told_147 (lt_k c.hn (by omega)) c.lg.1 rfl dX11_told_144 ?_
      refine AX.iret (pc := 147) dX11_told_147 rfl rfl (by decide) (by decide) ?_
      exact ⟨by unfold aTold; rw [if_pos h1]; rfl, rfl⟩
    · refine CA.of (by decide) rfl (fun _ => Nat.le_of_ble_eq_true rfl) ?_
      show AX w M_X11_told 0 0 0 [.ref 0, .int (nI 5)] [] h _
      refine AX.iload_n (pc := 0) dX11_told_0 rfl ?_
      refine AX.bipush (pc := 1) (v := nI 10) dX11_told_1 (by decide) ?_
      refine AX.icmp_ltN (pc := 3) (tgt := 29) dX11_told_3 (by decide) (by decide) (by decide) (fun hc3 => ?_) (fun q => absurd q (by decide))
      refine AX.iload_n (pc := 29) dX11_told_29 rfl ?_
      refine AX.bipush (pc := 30) (v := nI 20) dX11_told_30 (by decide) ?_
      refine AX.icmp_ltN (pc := 32) (tgt := 58) dX11_told_32 (by decide) (by decide) (by decide) (fun hc32 => ?_) (fun q => absurd q (by decide))
      refine AX.iload_n (pc := 58) dX11_told_58 rfl ?_
      refine AX.tableIn (pc := 59) (off := 89) (tgt := 148) dX11_told_59 (by decide) (by decide) (by decide) (by decide) ?_
      refine AX.aload_n (pc := 148) dX11_told_148 rfl ?_
      refine AX.getf (pc := 149) fX11_told_53 (lt_k c.hn (by omega)) c.dm rfl dX11_told_149 ?_
      refine AX.getf (pc := 152) fX11_told_262 (lt_k c.hn (by omega)) c.lg.1 rfl dX11_told_152 ?_
      refine AX.iret (pc := 155) dX11_told_155 rfl rfl (by decide) (by decide) ?_
      exact ⟨by unfold aTold; rw [if_pos h1]; rfl, rfl⟩
    · refine CA.of (by decide) rfl (fun _ => Nat.le_of_ble_eq_true rfl) ?_
      show AX w M_X11_told 0 0 0 [.ref 0, .int (nI 6)] [] h _
      refine AX.iload_n (pc := 0) dX11_told_0 rfl ?_
      refine AX.bipush (pc := 1) (v := nI 10) dX11_told_1 (by decide) ?_
      refine AX.icmp_ltN (pc := 3) (tgt := 29) dX11_told_3 (by decide) (by decide) (by decide) (fun hc3 => ?_) (fun q => absurd q (by decide))
      refine AX.iload_n (pc := 29) dX11_told_29 rfl ?_
      refine AX.bipush (pc := 30) (v := nI 20) dX11_told_30 (by decide) ?_
      refine AX.icmp_ltN (pc := 32) (tgt := 58) dX11_told_32 (by decide) (by decide) (by decide) (fun hc32 => ?_) (fun q => absurd q (by decide))
      refine AX.iload_n (pc := 58) dX11_told_58 rfl ?_
      refine AX.tableIn (pc := 59) (off := 97) (tgt := 156) dX11_told_59 (by decide) (by decide) (by decide) (by decide) ?_
      refine AX.aload_n (pc := 156) dX11_told_156 rfl ?_
      refine AX.getf (pc := 157) fX11_told_53 (lt_k c.hn (by omega)) c.dm rfl dX11_told_157 ?_
      refine AX.getf (pc := 160) fX11_told_243 (lt_k c.hn (by omega)) c.lg.1 rfl dX11_told_160 ?_
      refine AX.iret (pc := 163) dX11_told_163 rfl rfl (by decide) (by decide) ?_
      exact ⟨by unfold aTold; rw [if_pos h1]; rfl, rfl⟩
    · refine CA.of (by decide) rfl (fun _ => Nat.le_of_ble_eq_true rfl) ?_
      show AX w M_X11_told 0 0 0 [.ref 0, .int (nI 7)] [] h _
      refine AX.iload_n (pc := 0) dX11_told_0 rfl ?_
      refine AX.bipush (pc := 1) (v := nI 10) dX11_told_1 (by decide) ?_
      refine AX.icmp_ltN (pc := 3) (tgt := 29) dX11_told_3 (by decide) (by decide) (by decide) (fun hc3 => ?_) (fun q => absurd q (by decide))
      refine AX.iload_n (pc := 29) dX11_told_29 rfl ?_
      refine AX.bipush (pc := 30) (v := nI 20) dX11_told_30 (by decide) ?_
      refine AX.icmp_ltN (pc := 32) (tgt := 58) dX11_told_32 (by decide) (by decide) (by decide) (fun hc32 => ?_) (fun q => absurd q (by decide))
      refine AX.iload_n (pc := 58) dX11_told_58 rfl ?_
      refine AX.tableIn (pc := 59) (off := 105) (tgt := 164) dX11_told_59 (by decide) (by decide) (by decide) (by decide) ?_
      refine AX.aload_n (pc := 164) dX11_told_164 rfl ?_
      refine AX.getf (pc := 165) fX11_told_63 (lt_k c.hn (by omega)) c.dm rfl dX11_told_165 ?_
      refine AX.getf (pc := 168) fX11_told_265 (lt_k c.hn (by omega)) t72.1 rfl dX11_told_168 ?_
      refine AX.iret (pc := 171) dX11_told_171 rfl rfl (by decide) (by decide) ?_
      exact ⟨by unfold aTold; rw [if_pos h1]; rfl, rfl⟩
    · refine CA.of (by decide) rfl (fun _ => Nat.le_of_ble_eq_true rfl) ?_
      show AX w M_X11_told 0 0 0 [.ref 0, .int (nI 8)] [] h _
      refine AX.iload_n (pc := 0) dX11_told_0 rfl ?_
      refine AX.bipush (pc := 1) (v := nI 10) dX11_told_1 (by decide) ?_
      refine AX.icmp_ltN (pc := 3) (tgt := 29) dX11_told_3 (by decide) (by decide) (by decide) (fun hc3 => ?_) (fun q => absurd q (by decide))
      refine AX.iload_n (pc := 29) dX11_told_29 rfl ?_
      refine AX.bipush (pc := 30) (v := nI 20) dX11_told_30 (by decide) ?_
      refine AX.icmp_ltN (pc := 32) (tgt := 58) dX11_told_32 (by decide) (by decide) (by decide) (fun hc32 => ?_) (fun q => absurd q (by decide))
      refine AX.iload_n (pc := 58) dX11_told_58 rfl ?_
      refine AX.tableIn (pc := 59) (off := 113) (tgt := 172) dX11_told_59 (by decide) (by decide) (by decide) (by decide) ?_
      refine AX.aload_n (pc := 172) dX11_told_172 rfl ?_
      refine AX.getf (pc := 173) fX11_told_70 (lt_k c.hn (by omega)) c.dm rfl dX11_told_173 ?_
      refine AX.getf (pc := 176) fX11_told_218 (lt_k c.hn (by omega)) c.pt.1 rfl dX11_told_176 ?_
      refine AX.iret (pc := 179) dX11_told_179 rfl rfl (by decide) (by decide) ?_
      exact ⟨by unfold aTold; rw [if_pos h1]; rfl, rfl⟩
  by_cases h2 : inR 10 15 x
  · obtain ⟨xn, rfl, l_x, u_x⟩ := inR_nat (by decide) h2
    rcases (show xn = 10 ∨ xn = 11 ∨ xn = 12 ∨ xn = 13 ∨ xn = 14 ∨ xn = 15 by omega) with rfl | rfl | rfl | rfl | rfl | rfl
    · refine CA.of (by decide) rfl (fun _ => Nat.le_of_ble_eq_true rfl) ?_
      show AX w M_X11_told 0 0 0 [.ref 0, .int (nI 10)] [] h _
      refine AX.iload_n (pc := 0) dX11_told_0 rfl ?_
      refine AX.bipush (pc := 1) (v := nI 10) dX11_told_1 (by decide) ?_
      refine AX.icmp_ltN (pc := 3) (tgt := 29) dX11_told_3 (by decide) (by decide) (by decide) (fun q => absurd q (by decide)) (fun hc3 => ?_)
      refine AX.iload_n (pc := 6) dX11_told_6 rfl ?_
      refine AX.bipush (pc := 7) (v := nI 15) dX11_told_7 (by decide) ?_
      refine AX.icmp_gtN (pc := 9) (tgt := 29) dX11_told_9 (by decide) (by decide) (by decide) (fun q => absurd q (by decide)) (fun hc9 => ?_)
      refine AX.aload_n (pc := 12) dX11_told_12 rfl ?_
      refine AX.getf (pc := 13) fX11_told_53 (lt_k c.hn (by omega)) c.dm rfl dX11_told_13 ?_
      refine AX.getf (pc := 16) fX11_told_115 (lt_k c.hn (by omega)) c.lg.1 rfl dX11_told_16 ?_
      refine AX.iconst (pc := 19) (v := nI 0) dX11_told_19 (by decide) ?_
      refine AX.aaldN (pc := 20) (i := 0) (b := 66) (by decide) (lt_k c.hn (by omega)) e65 (by decide) (by decide) (q65 _ (by decide)) dX11_told_20 ?_
      refine AX.iload_n (pc := 21) dX11_told_21 rfl ?_
      refine AX.bipush (pc := 22) (v := nI 10) dX11_told_22 (by decide) ?_
      refine AX.isubN (pc := 24) (c := 0) dX11_told_24 rfl ?_
      refine AX.callV (pc := 25) (M2 := M_X6_tell) (As := [.int (nI 0)]) (rest := []) (c_tell0 w h (lt_k c.hn (by decide)) c.lg.2.2.1) xc_X11_told__X6_tell gX11_told_X6_tell (ci := 5) rfl (lt_k c.hn (by omega)) c.lg.2.2.1 rfl (Nat.le_of_ble_eq_true rfl) dX11_told_25 ?_
      rintro _ h9 ⟨rfl, e9⟩
      have e9 := e9.symm
      subst e9
      show AX w M_X11_told 0 0 28 [.ref 0, .int (nI 10)] [.int (sq s 4)] _ _
      refine AX.iret (pc := 28) dX11_told_28 rfl rfl (by decide) (by decide) ?_
      exact ⟨by unfold aTold; rw [if_neg h1, if_pos h2]; rfl, rfl⟩
    · refine CA.of (by decide) rfl (fun _ => Nat.le_of_ble_eq_true rfl) ?_
      show AX w M_X11_told 0 0 0 [.ref 0, .int (nI 11)] [] h _
      refine AX.iload_n (pc := 0) dX11_told_0 rfl ?_
      refine AX.bipush (pc := 1) (v := nI 10) dX11_told_1 (by decide) ?_
      refine AX.icmp_ltN (pc := 3) (tgt := 29) dX11_told_3 (by decide) (by decide) (by decide) (fun q => absurd q (by decide)) (fun hc3 => ?_)
      refine AX.iload_n (pc := 6) dX11_told_6 rfl ?_
      refine AX.bipush (pc := 7) (v := nI 15) dX11_told_7 (by decide) ?_
      refine AX.icmp_gtN (pc := 9) (tgt := 29) dX11_told_9 (by decide) (by decide) (by decide) (fun q => absurd q (by decide)) (fun hc9 => ?_)
      refine AX.aload_n (pc := 12) dX11_told_12 rfl ?_
      refine AX.getf (pc := 13) fX11_told_53 (lt_k c.hn (by omega)) c.dm rfl dX11_told_13 ?_
      refine AX.getf (pc := 16) fX11_told_115 (lt_k c.hn (by omega)) c.lg.1 rfl dX11_told_16 ?_
      refine AX.iconst (pc := 19) (v := nI 0) dX11_told_19 (by decide) ?_
      refine AX.aaldN (pc := 20) (i := 0) (b := 66) (by decide) (lt_k c.hn (by omega)) e65 (by decide) (by decide) (q65 _ (by decide)) dX11_told_20 ?_
      refine AX.iload_n (pc := 21) dX11_told_21 rfl ?_
      refine AX.bipush (pc := 22) (v := nI 10) dX11_told_22 (by decide) ?_
      refine AX.isubN (pc := 24) (c := 1) dX11_told_24 rfl ?_
      refine AX.callV (pc := 25) (M2 := M_X6_tell) (As := [.int (nI 1)]) (rest := []) (c_tell1 w h (lt_k c.hn (by decide)) c.lg.2.2.1) xc_X11_told__X6_tell gX11_told_X6_tell (ci := 5) rfl (lt_k c.hn (by omega)) c.lg.2.2.1 rfl (Nat.le_of_ble_eq_true rfl) dX11_told_25 ?_
      rintro _ h9 ⟨rfl, e9⟩
      have e9 := e9.symm
      subst e9
      show AX w M_X11_told 0 0 28 [.ref 0, .int (nI 11)] [.int (sq s 6)] _ _
      refine AX.iret (pc := 28) dX11_told_28 rfl rfl (by decide) (by decide) ?_
      exact ⟨by unfold aTold; rw [if_neg h1, if_pos h2]; rfl, rfl⟩
    · refine CA.of (by decide) rfl (fun _ => Nat.le_of_ble_eq_true rfl) ?_
      show AX w M_X11_told 0 0 0 [.ref 0, .int (nI 12)] [] h _
      refine AX.iload_n (pc := 0) dX11_told_0 rfl ?_
      refine AX.bipush (pc := 1) (v := nI 10) dX11_told_1 (by decide) ?_
      refine AX.icmp_ltN (pc := 3) (tgt := 29) dX11_told_3 (by decide) (by decide) (by decide) (fun q => absurd q (by decide)) (fun hc3 => ?_)
      refine AX.iload_n (pc := 6) dX11_told_6 rfl ?_
      refine AX.bipush (pc := 7) (v := nI 15) dX11_told_7 (by decide) ?_
      refine AX.icmp_gtN (pc := 9) (tgt := 29) dX11_told_9 (by decide) (by decide) (by decide) (fun q => absurd q (by decide)) (fun hc9 => ?_)
      refine AX.aload_n (pc := 12) dX11_told_12 rfl ?_
      refine AX.getf (pc := 13) fX11_told_53 (lt_k c.hn (by omega)) c.dm rfl dX11_told_13 ?_
      refine AX.getf (pc := 16) fX11_told_115 (lt_k c.hn (by omega)) c.lg.1 rfl dX11_told_16 ?_
      refine AX.iconst (pc := 19) (v := nI 0) dX11_told_19 (by decide) ?_
      refine AX.aaldN (pc := 20) (i := 0) (b := 66) (by decide) (lt_k c.hn (by omega)) e65 (by decide) (by decide) (q65 _ (by decide)) dX11_told_20 ?_
      refine AX.iload_n (pc := 21) dX11_told_21 rfl ?_
      refine AX.bipush (pc := 22) (v := nI 10) dX11_told_22 (by decide) ?_
      refine AX.isubN (pc := 24) (c := 2) dX11_told_24 rfl ?_
      refine AX.callV (pc := 25) (M2 := M_X6_tell) (As := [.int (nI 2)]) (rest := []) (c_tell2 w h (lt_k c.hn (by decide)) c.lg.2.2.1) xc_X11_told__X6_tell gX11_told_X6_tell (ci := 5) rfl (lt_k c.hn (by omega)) c.lg.2.2.1 rfl (Nat.le_of_ble_eq_true rfl) dX11_told_25 ?_
      rintro _ h9 ⟨rfl, e9⟩
      have e9 := e9.symm
      subst e9
      show AX w M_X11_told 0 0 28 [.ref 0, .int (nI 12)] [.int (sq s 8)] _ _
      refine AX.iret (pc := 28) dX11_told_28 rfl rfl (by decide) (by decide) ?_
      exact ⟨by unfold aTold; rw [if_neg h1, if_pos h2]; rfl, rfl⟩
    · refine CA.of (by decide) rfl (fun _ => Nat.le_of_ble_eq_true rfl) ?_
      show AX w M_X11_told 0 0 0 [.ref 0, .int (nI 13)] [] h _
      refine AX.iload_n (pc := 0) dX11_told_0 rfl ?_
      refine AX.bipush (pc := 1) (v := nI 10) dX11_told_1 (by decide) ?_
      refine AX.icmp_ltN (pc := 3) (tgt := 29) dX11_told_3 (by decide) (by decide) (by decide) (fun q => absurd q (by decide)) (fun hc3 => ?_)
      refine AX.iload_n (pc := 6) dX11_told_6 rfl ?_
      refine AX.bipush (pc := 7) (v := nI 15) dX11_told_7 (by decide) ?_
      refine AX.icmp_gtN (pc := 9) (tgt := 29) dX11_told_9 (by decide) (by decide) (by decide) (fun q => absurd q (by decide)) (fun hc9 => ?_)
      refine AX.aload_n (pc := 12) dX11_told_12 rfl ?_
      refine AX.getf (pc := 13) fX11_told_53 (lt_k c.hn (by omega)) c.dm rfl dX11_told_13 ?_
      refine AX.getf (pc := 16) fX11_told_115 (lt_k c.hn (by omega)) c.lg.1 rfl dX11_told_16 ?_
      refine AX.iconst (pc := 19) (v := nI 0) dX11_told_19 (by decide) ?_
      refine AX.aaldN (pc := 20) (i := 0) (b := 66) (by decide) (lt_k c.hn (by omega)) e65 (by decide) (by decide) (q65 _ (by decide)) dX11_told_20 ?_
      refine AX.iload_n (pc := 21) dX11_told_21 rfl ?_
      refine AX.bipush (pc := 22) (v := nI 10) dX11_told_22 (by decide) ?_
      refine AX.isubN (pc := 24) (c := 3) dX11_told_24 rfl ?_
      refine AX.callV (pc := 25) (M2 := M_X6_tell) (As := [.int (nI 3)]) (rest := []) (c_tell3 w h (lt_k c.hn (by decide)) c.lg.2.2.1) xc_X11_told__X6_tell gX11_told_X6_tell (ci := 5) rfl (lt_k c.hn (by omega)) c.lg.2.2.1 rfl (Nat.le_of_ble_eq_true rfl) dX11_told_25 ?_
      rintro _ h9 ⟨rfl, e9⟩
      have e9 := e9.symm
      subst e9
      show AX w M_X11_told 0 0 28 [.ref 0, .int (nI 13)] [.int (sq s 10)] _ _
      refine AX.iret (pc := 28) dX11_told_28 rfl rfl (by decide) (by decide) ?_
      exact ⟨by unfold aTold; rw [if_neg h1, if_pos h2]; rfl, rfl⟩
    · refine CA.of (by decide) rfl (fun _ => Nat.le_of_ble_eq_true rfl) ?_
      show AX w M_X11_told 0 0 0 [.ref 0, .int (nI 14)] [] h _
      refine AX.iload_n (pc := 0) dX11_told_0 rfl ?_
      refine AX.bipush (pc := 1) (v := nI 10) dX11_told_1 (by decide) ?_
      refine AX.icmp_ltN (pc := 3) (tgt := 29) dX11_told_3 (by decide) (by decide) (by decide) (fun q => absurd q (by decide)) (fun hc3 => ?_)
      refine AX.iload_n (pc := 6) dX11_told_6 rfl ?_
      refine AX.bipush (pc := 7) (v := nI 15) dX11_told_7 (by decide) ?_
      refine AX.icmp_gtN (pc := 9) (tgt := 29) dX11_told_9 (by decide) (by decide) (by decide) (fun q => absurd q (by decide)) (fun hc9 => ?_)
      refine AX.aload_n (pc := 12) dX11_told_12 rfl ?_
      refine AX.getf (pc := 13) fX11_told_53 (lt_k c.hn (by omega)) c.dm rfl dX11_told_13 ?_
      refine AX.getf (pc := 16) fX11_told_115 (lt_k c.hn (by omega)) c.lg.1 rfl dX11_told_16 ?_
      refine AX.iconst (pc := 19) (v := nI 0) dX11_told_19 (by decide) ?_
      refine AX.aaldN (pc := 20) (i := 0) (b := 66) (by decide) (lt_k c.hn (by omega)) e65 (by decide) (by decide) (q65 _ (by decide)) dX11_told_20 ?_
      refine AX.iload_n (pc := 21) dX11_told_21 rfl ?_
      refine AX.bipush (pc := 22) (v := nI 10) dX11_told_22 (by decide) ?_
      refine AX.isubN (pc := 24) (c := 4) dX11_told_24 rfl ?_
      refine AX.callV (pc := 25) (M2 := M_X6_tell) (As := [.int (nI 4)]) (rest := []) (c_tell4 w h (lt_k c.hn (by decide)) c.lg.2.2.1) xc_X11_told__X6_tell gX11_told_X6_tell (ci := 5) rfl (lt_k c.hn (by omega)) c.lg.2.2.1 rfl (Nat.le_of_ble_eq_true rfl) dX11_told_25 ?_
      rintro _ h9 ⟨rfl, e9⟩
      have e9 := e9.symm
      subst e9
      show AX w M_X11_told 0 0 28 [.ref 0, .int (nI 14)] [.int (sq s 0)] _ _
      refine AX.iret (pc := 28) dX11_told_28 rfl rfl (by decide) (by decide) ?_
      exact ⟨by unfold aTold; rw [if_neg h1, if_pos h2]; rfl, rfl⟩
    · refine CA.of (by decide) rfl (fun _ => Nat.le_of_ble_eq_true rfl) ?_
      show AX w M_X11_told 0 0 0 [.ref 0, .int (nI 15)] [] h _
      refine AX.iload_n (pc := 0) dX11_told_0 rfl ?_
      refine AX.bipush (pc := 1) (v := nI 10) dX11_told_1 (by decide) ?_
      refine AX.icmp_ltN (pc := 3) (tgt := 29) dX11_told_3 (by decide) (by decide) (by decide) (fun q => absurd q (by decide)) (fun hc3 => ?_)
      refine AX.iload_n (pc := 6) dX11_told_6 rfl ?_
      refine AX.bipush (pc := 7) (v := nI 15) dX11_told_7 (by decide) ?_
      refine AX.icmp_gtN (pc := 9) (tgt := 29) dX11_told_9 (by decide) (by decide) (by decide) (fun q => absurd q (by decide)) (fun hc9 => ?_)
      refine AX.aload_n (pc := 12) dX11_told_12 rfl ?_
      refine AX.getf (pc := 13) fX11_told_53 (lt_k c.hn (by omega)) c.dm rfl dX11_told_13 ?_
      refine AX.getf (pc := 16) fX11_told_115 (lt_k c.hn (by omega)) c.lg.1 rfl dX11_told_16 ?_
      refine AX.iconst (pc := 19) (v := nI 0) dX11_told_19 (by decide) ?_
      refine AX.aaldN (pc := 20) (i := 0) (b := 66) (by decide) (lt_k c.hn (by omega)) e65 (by decide) (by decide) (q65 _ (by decide)) dX11_told_20 ?_
      refine AX.iload_n (pc := 21) dX11_told_21 rfl ?_
      refine AX.bipush (pc := 22) (v := nI 10) dX11_told_22 (by decide) ?_
      refine AX.isubN (pc := 24) (c := 5) dX11_told_24 rfl ?_
      refine AX.callV (pc := 25) (M2 := M_X6_tell) (As := [.int (nI 5)]) (rest := []) (c_tell5 w h (lt_k c.hn (by decide)) c.lg.2.2.1) xc_X11_told__X6_tell gX11_told_X6_tell (ci := 5) rfl (lt_k c.hn (by omega)) c.lg.2.2.1 rfl (Nat.le_of_ble_eq_true rfl) dX11_told_25 ?_
      rintro _ h9 ⟨rfl, e9⟩
      have e9 := e9.symm
      subst e9
      show AX w M_X11_told 0 0 28 [.ref 0, .int (nI 15)] [.int (sq s 2)] _ _
      refine AX.iret (pc := 28) dX11_told_28 rfl rfl (by decide) (by decide) ?_
      exact ⟨by unfold aTold; rw [if_neg h1, if_pos h2]; rfl, rfl⟩
  by_cases h3 : inR 20 25 x
  · obtain ⟨xn, rfl, l_x, u_x⟩ := inR_nat (by decide) h3
    rcases (show xn = 20 ∨ xn = 21 ∨ xn = 22 ∨ xn = 23 ∨ xn = 24 ∨ xn = 25 by omega) with rfl | rfl | rfl | rfl | rfl | rfl
    · refine CA.of (by decide) rfl (fun _ => Nat.le_of_ble_eq_true rfl) ?_
      show AX w M_X11_told 0 0 0 [.ref 0, .int (nI 20)] [] h _
      refine AX.iload_n (pc := 0) dX11_told_0 rfl ?_
      refine AX.bipush (pc := 1) (v := nI 10) dX11_told_1 (by decide) ?_
      refine AX.icmp_ltN (pc := 3) (tgt := 29) dX11_told_3 (by decide) (by decide) (by decide) (fun q => absurd q (by decide)) (fun hc3 => ?_)
      refine AX.iload_n (pc := 6) dX11_told_6 rfl ?_
      refine AX.bipush (pc := 7) (v := nI 15) dX11_told_7 (by decide) ?_
      refine AX.icmp_gtN (pc := 9) (tgt := 29) dX11_told_9 (by decide) (by decide) (by decide) (fun hc9 => ?_) (fun q => absurd q (by decide))
      refine AX.iload_n (pc := 29) dX11_told_29 rfl ?_
      refine AX.bipush (pc := 30) (v := nI 20) dX11_told_30 (by decide) ?_
      refine AX.icmp_ltN (pc := 32) (tgt := 58) dX11_told_32 (by decide) (by decide) (by decide) (fun q => absurd q (by decide)) (fun hc32 => ?_)
      refine AX.iload_n (pc := 35) dX11_told_35 rfl ?_
      refine AX.bipush (pc := 36) (v := nI 25) dX11_told_36 (by decide) ?_
      refine AX.icmp_gtN (pc := 38) (tgt := 58) dX11_told_38 (by decide) (by decide) (by decide) (fun q => absurd q (by decide)) (fun hc38 => ?_)
      refine AX.aload_n (pc := 41) dX11_told_41 rfl ?_
      refine AX.getf (pc := 42) fX11_told_53 (lt_k c.hn (by omega)) c.dm rfl dX11_told_42 ?_
      refine AX.getf (pc := 45) fX11_told_115 (lt_k c.hn (by omega)) c.lg.1 rfl dX11_told_45 ?_
      refine AX.iconst (pc := 48) (v := nI 1) dX11_told_48 (by decide) ?_
      refine AX.aaldN (pc := 49) (i := 1) (b := 67) (by decide) (lt_k c.hn (by omega)) e65 (by decide) (by decide) (q65 _ (by decide)) dX11_told_49 ?_
      refine AX.iload_n (pc := 50) dX11_told_50 rfl ?_
      refine AX.bipush (pc := 51) (v := nI 20) dX11_told_51 (by decide) ?_
      refine AX.isubN (pc := 53) (c := 0) dX11_told_53 rfl ?_
      refine AX.callV (pc := 54) (M2 := M_X6_tell) (As := [.int (nI 0)]) (rest := []) (c_tell0 w h (lt_k c.hn (by decide)) c.lg.2.2.2) xc_X11_told__X6_tell gX11_told_X6_tell (ci := 5) rfl (lt_k c.hn (by omega)) c.lg.2.2.2 rfl (Nat.le_of_ble_eq_true rfl) dX11_told_54 ?_
      rintro _ h9 ⟨rfl, e9⟩
      have e9 := e9.symm
      subst e9
      show AX w M_X11_told 0 0 57 [.ref 0, .int (nI 20)] [.int (sq s 5)] _ _
      refine AX.iret (pc := 57) dX11_told_57 rfl rfl (by decide) (by decide) ?_
      exact ⟨by unfold aTold; rw [if_neg h1, if_neg h2, if_pos h3]; rfl, rfl⟩
    · refine CA.of (by decide) rfl (fun _ => Nat.le_of_ble_eq_true rfl) ?_
      show AX w M_X11_told 0 0 0 [.ref 0, .int (nI 21)] [] h _
      refine AX.iload_n (pc := 0) dX11_told_0 rfl ?_
      refine AX.bipush (pc := 1) (v := nI 10) dX11_told_1 (by decide) ?_
      refine AX.icmp_ltN (pc := 3) (tgt := 29) dX11_told_3 (by decide) (by decide) (by decide) (fun q => absurd q (by decide)) (fun hc3 => ?_)
      refine AX.iload_n (pc := 6) dX11_told_6 rfl ?_
      refine AX.bipush (pc := 7) (v := nI 15) dX11_told_7 (by decide) ?_
      refine AX.icmp_gtN (pc := 9) (tgt := 29) dX11_told_9 (by decide) (by decide) (by decide) (fun hc9 => ?_) (fun q => absurd q (by decide))
      refine AX.iload_n (pc := 29) dX11_told_29 rfl ?_
      refine AX.bipush (pc := 30) (v := nI 20) dX11_told_30 (by decide) ?_
      refine AX.icmp_ltN (pc := 32) (tgt := 58) dX11_told_32 (by decide) (by decide) (by decide) (fun q => absurd q (by decide)) (fun hc32 => ?_)
      refine AX.iload_n (pc := 35) dX11_told_35 rfl ?_
      refine AX.bipush (pc := 36) (v := nI 25) dX11_told_36 (by decide) ?_
      refine AX.icmp_gtN (pc := 38) (tgt := 58) dX11_told_38 (by decide) (by decide) (by decide) (fun q => absurd q (by decide)) (fun hc38 => ?_)
      refine AX.aload_n (pc := 41) dX11_told_41 rfl ?_
      refine AX.getf (pc := 42) fX11_told_53 (lt_k c.hn (by omega)) c.dm rfl dX11_told_42 ?_
      refine AX.getf (pc := 45) fX11_told_115 (lt_k c.hn (by omega)) c.lg.1 rfl dX11_told_45 ?_
      refine AX.iconst (pc := 48) (v := nI 1) dX11_told_48 (by decide) ?_
      refine AX.aaldN (pc := 49) (i := 1) (b := 67) (by decide) (lt_k c.hn (by omega)) e65 (by decide) (by decide) (q65 _ (by decide)) dX11_told_49 ?_
      refine AX.iload_n (pc := 50) dX11_told_50 rfl ?_
      refine AX.bipush (pc := 51) (v := nI 20) dX11_told_51 (by decide) ?_
      refine AX.isubN (pc := 53) (c := 1) dX11_told_53 rfl ?_
      refine AX.callV (pc := 54) (M2 := M_X6_tell) (As := [.int (nI 1)]) (rest := []) (c_tell1 w h (lt_k c.hn (by decide)) c.lg.2.2.2) xc_X11_told__X6_tell gX11_told_X6_tell (ci := 5) rfl (lt_k c.hn (by omega)) c.lg.2.2.2 rfl (Nat.le_of_ble_eq_true rfl) dX11_told_54 ?_
      rintro _ h9 ⟨rfl, e9⟩
      have e9 := e9.symm
      subst e9
      show AX w M_X11_told 0 0 57 [.ref 0, .int (nI 21)] [.int (sq s 7)] _ _
      refine AX.iret (pc := 57) dX11_told_57 rfl rfl (by decide) (by decide) ?_
      exact ⟨by unfold aTold; rw [if_neg h1, if_neg h2, if_pos h3]; rfl, rfl⟩
    · refine CA.of (by decide) rfl (fun _ => Nat.le_of_ble_eq_true rfl) ?_
      show AX w M_X11_told 0 0 0 [.ref 0, .int (nI 22)] [] h _
      refine AX.iload_n (pc := 0) dX11_told_0 rfl ?_
      refine AX.bipush (pc := 1) (v := nI 10) dX11_told_1 (by decide) ?_
      refine AX.icmp_ltN (pc := 3) (tgt := 29) dX11_told_3 (by decide) (by decide) (by decide) (fun q => absurd q (by decide)) (fun hc3 => ?_)
      refine AX.iload_n (pc := 6) dX11_told_6 rfl ?_
      refine AX.bipush (pc := 7) (v := nI 15) dX11_told_7 (by decide) ?_
      refine AX.icmp_gtN (pc := 9) (tgt := 29) dX11_told_9 (by decide) (by decide) (by decide) (fun hc9 => ?_) (fun q => absurd q (by decide))
      refine AX.iload_n (pc := 29) dX11_told_29 rfl ?_
      refine AX.bipush (pc := 30) (v := nI 20) dX11_told_30 (by decide) ?_
      refine AX.icmp_ltN (pc := 32) (tgt := 58) dX11_told_32 (by decide) (by decide) (by decide) (fun q => absurd q (by decide)) (fun hc32 => ?_)
      refine AX.iload_n (pc := 35) dX11_told_35 rfl ?_
      refine AX.bipush (pc := 36) (v := nI 25) dX11_told_36 (by decide) ?_
      refine AX.icmp_gtN (pc := 38) (tgt := 58) dX11_told_38 (by decide) (by decide) (by decide) (fun q => absurd q (by decide)) (fun hc38 => ?_)
      refine AX.aload_n (pc := 41) dX11_told_41 rfl ?_
      refine AX.getf (pc := 42) fX11_told_53 (lt_k c.hn (by omega)) c.dm rfl dX11_told_42 ?_
      refine AX.getf (pc := 45) fX11_told_115 (lt_k c.hn (by omega)) c.lg.1 rfl dX11_told_45 ?_
      refine AX.iconst (pc := 48) (v := nI 1) dX11_told_48 (by decide) ?_
      refine AX.aaldN (pc := 49) (i := 1) (b := 67) (by decide) (lt_k c.hn (by omega)) e65 (by decide) (by decide) (q65 _ (by decide)) dX11_told_49 ?_
      refine AX.iload_n (pc := 50) dX11_told_50 rfl ?_
      refine AX.bipush (pc := 51) (v := nI 20) dX11_told_51 (by decide) ?_
      refine AX.isubN (pc := 53) (c := 2) dX11_told_53 rfl ?_
      refine AX.callV (pc := 54) (M2 := M_X6_tell) (As := [.int (nI 2)]) (rest := []) (c_tell2 w h (lt_k c.hn (by decide)) c.lg.2.2.2) xc_X11_told__X6_tell gX11_told_X6_tell (ci := 5) rfl (lt_k c.hn (by omega)) c.lg.2.2.2 rfl (Nat.le_of_ble_eq_true rfl) dX11_told_54 ?_
      rintro _ h9 ⟨rfl, e9⟩
      have e9 := e9.symm
      subst e9
      show AX w M_X11_told 0 0 57 [.ref 0, .int (nI 22)] [.int (sq s 9)] _ _
      refine AX.iret (pc := 57) dX11_told_57 rfl rfl (by decide) (by decide) ?_
      exact ⟨by unfold aTold; rw [if_neg h1, if_neg h2, if_pos h3]; rfl, rfl⟩
    · refine CA.of (by decide) rfl (fun _ => Nat.le_of_ble_eq_true rfl) ?_
      show AX w M_X11_told 0 0 0 [.ref 0, .int (nI 23)] [] h _
      refine AX.iload_n (pc := 0) dX11_told_0 rfl ?_
      refine AX.bipush (pc := 1) (v := nI 10) dX11_told_1 (by decide) ?_
      refine AX.icmp_ltN (pc := 3) (tgt := 29) dX11_told_3 (by decide) (by decide) (by decide) (fun q => absurd q (by decide)) (fun hc3 => ?_)
      refine AX.iload_n (pc := 6) dX11_told_6 rfl ?_
      refine AX.bipush (pc := 7) (v := nI 15) dX11_told_7 (by decide) ?_
      refine AX.icmp_gtN (pc := 9) (tgt := 29) dX11_told_9 (by decide) (by decide) (by decide) (fun hc9 => ?_) (fun q => absurd q (by decide))
      refine AX.iload_n (pc := 29) dX11_told_29 rfl ?_
      refine AX.bipush (pc := 30) (v := nI 20) dX11_told_30 (by decide) ?_
      refine AX.icmp_ltN (pc := 32) (tgt := 58) dX11_told_32 (by decide) (by decide) (by decide) (fun q => absurd q (by decide)) (fun hc32 => ?_)
      refine AX.iload_n (pc := 35) dX11_told_35 rfl ?_
      refine AX.bipush (pc := 36) (v := nI 25) dX11_told_36 (by decide) ?_
      refine AX.icmp_gtN (pc := 38) (tgt := 58) dX11_told_38 (by decide) (by decide) (by decide) (fun q => absurd q (by decide)) (fun hc38 => ?_)
      refine AX.aload_n (pc := 41) dX11_told_41 rfl ?_
      refine AX.getf (pc := 42) fX11_told_53 (lt_k c.hn (by omega)) c.dm rfl dX11_told_42 ?_
      refine AX.getf (pc := 45) fX11_told_115 (lt_k c.hn (by omega)) c.lg.1 rfl dX11_told_45 ?_
      refine AX.iconst (pc := 48) (v := nI 1) dX11_told_48 (by decide) ?_
      refine AX.aaldN (pc := 49) (i := 1) (b := 67) (by decide) (lt_k c.hn (by omega)) e65 (by decide) (by decide) (q65 _ (by decide)) dX11_told_49 ?_
      refine AX.iload_n (pc := 50) dX11_told_50 rfl ?_
      refine AX.bipush (pc := 51) (v := nI 20) dX11_told_51 (by decide) ?_
      refine AX.isubN (pc := 53) (c := 3) dX11_told_53 rfl ?_
      refine AX.callV (pc := 54) (M2 := M_X6_tell) (As := [.int (nI 3)]) (rest := []) (c_tell3 w h (lt_k c.hn (by decide)) c.lg.2.2.2) xc_X11_told__X6_tell gX11_told_X6_tell (ci := 5) rfl (lt_k c.hn (by omega)) c.lg.2.2.2 rfl (Nat.le_of_ble_eq_true rfl) dX11_told_54 ?_
      rintro _ h9 ⟨rfl, e9⟩
      have e9 := e9.symm
      subst e9
      show AX w M_X11_told 0 0 57 [.ref 0, .int (nI 23)] [.int (sq s 11)] _ _
      refine AX.iret (pc := 57) dX11_told_57 rfl rfl (by decide) (by decide) ?_
      exact ⟨by unfold aTold; rw [if_neg h1, if_neg h2, if_pos h3]; rfl, rfl⟩
    · refine CA.of (by decide) rfl (fun _ => Nat.le_of_ble_eq_true rfl) ?_
      show AX w M_X11_told 0 0 0 [.ref 0, .int (nI 24)] [] h _
      refine AX.iload_n (pc := 0) dX11_told_0 rfl ?_
      refine AX.bipush (pc := 1) (v := nI 10) dX11_told_1 (by decide) ?_
      refine AX.icmp_ltN (pc := 3) (tgt := 29) dX11_told_3 (by decide) (by decide) (by decide) (fun q => absurd q (by decide)) (fun hc3 => ?_)
      refine AX.iload_n (pc := 6) dX11_told_6 rfl ?_
      refine AX.bipush (pc := 7) (v := nI 15) dX11_told_7 (by decide) ?_
      refine AX.icmp_gtN (pc := 9) (tgt := 29) dX11_told_9 (by decide) (by decide) (by decide) (fun hc9 => ?_) (fun q => absurd q (by decide))
      refine AX.iload_n (pc := 29) dX11_told_29 rfl ?_
      refine AX.bipush (pc := 30) (v := nI 20) dX11_told_30 (by decide) ?_
      refine AX.icmp_ltN (pc := 32) (tgt := 58) dX11_told_32 (by decide) (by decide) (by decide) (fun q => absurd q (by decide)) (fun hc32 => ?_)
      refine AX.iload_n (pc := 35) dX11_told_35 rfl ?_
      refine AX.bipush (pc := 36) (v := nI 25) dX11_told_36 (by decide) ?_
      refine AX.icmp_gtN (pc := 38) (tgt := 58) dX11_told_38 (by decide) (by decide) (by decide) (fun q => absurd q (by decide)) (fun hc38 => ?_)
      refine AX.aload_n (pc := 41) dX11_told_41 rfl ?_
      refine AX.getf (pc := 42) fX11_told_53 (lt_k c.hn (by omega)) c.dm rfl dX11_told_42 ?_
      refine AX.getf (pc := 45) fX11_told_115 (lt_k c.hn (by omega)) c.lg.1 rfl dX11_told_45 ?_
      refine AX.iconst (pc := 48) (v := nI 1) dX11_told_48 (by decide) ?_
      refine AX.aaldN (pc := 49) (i := 1) (b := 67) (by decide) (lt_k c.hn (by omega)) e65 (by decide) (by decide) (q65 _ (by decide)) dX11_told_49 ?_
      refine AX.iload_n (pc := 50) dX11_told_50 rfl ?_
      refine AX.bipush (pc := 51) (v := nI 20) dX11_told_51 (by decide) ?_
      refine AX.isubN (pc := 53) (c := 4) dX11_told_53 rfl ?_
      refine AX.callV (pc := 54) (M2 := M_X6_tell) (As := [.int (nI 4)]) (rest := []) (c_tell4 w h (lt_k c.hn (by decide)) c.lg.2.2.2) xc_X11_told__X6_tell gX11_told_X6_tell (ci := 5) rfl (lt_k c.hn (by omega)) c.lg.2.2.2 rfl (Nat.le_of_ble_eq_true rfl) dX11_told_54 ?_
      rintro _ h9 ⟨rfl, e9⟩
      have e9 := e9.symm
      subst e9
      show AX w M_X11_told 0 0 57 [.ref 0, .int (nI 24)] [.int (sq s 1)] _ _
      refine AX.iret (pc := 57) dX11_told_57 rfl rfl (by decide) (by decide) ?_
      exact ⟨by unfold aTold; rw [if_neg h1, if_neg h2, if_pos h3]; rfl, rfl⟩
    · refine CA.of (by decide) rfl (fun _ => Nat.le_of_ble_eq_true rfl) ?_
      show AX w M_X11_told 0 0 0 [.ref 0, .int (nI 25)] [] h _
      refine AX.iload_n (pc := 0) dX11_told_0 rfl ?_
      refine AX.bipush (pc := 1) (v := nI 10) dX11_told_1 (by decide) ?_
      refine AX.icmp_ltN (pc := 3) (tgt := 29) dX11_told_3 (by decide) (by decide) (by decide) (fun q => absurd q (by decide)) (fun hc3 => ?_)
      refine AX.iload_n (pc := 6) dX11_told_6 rfl ?_
      refine AX.bipush (pc := 7) (v := nI 15) dX11_told_7 (by decide) ?_
      refine AX.icmp_gtN (pc := 9) (tgt := 29) dX11_told_9 (by decide) (by decide) (by decide) (fun hc9 => ?_) (fun q => absurd q (by decide))
      refine AX.iload_n (pc := 29) dX11_told_29 rfl ?_
      refine AX.bipush (pc := 30) (v := nI 20) dX11_told_30 (by decide) ?_
      refine AX.icmp_ltN (pc := 32) (tgt := 58) dX11_told_32 (by decide) (by decide) (by decide) (fun q => absurd q (by decide)) (fun hc32 => ?_)
      refine AX.iload_n (pc := 35) dX11_told_35 rfl ?_
      refine AX.bipush (pc := 36) (v := nI 25) dX11_told_36 (by decide) ?_
      refine AX.icmp_gtN (pc := 38) (tgt := 58) dX11_told_38 (by decide) (by decide) (by decide) (fun q => absurd q (by decide)) (fun hc38 => ?_)
      refine AX.aload_n (pc := 41) dX11_told_41 rfl ?_
      refine AX.getf (pc := 42) fX11_told_53 (lt_k c.hn (by omega)) c.dm rfl dX11_told_42 ?_
      refine AX.getf (pc := 45) fX11_told_115 (lt_k c.hn (by omega)) c.lg.1 rfl dX11_told_45 ?_
      refine AX.iconst (pc := 48) (v := nI 1) dX11_told_48 (by decide) ?_
      refine AX.aaldN (pc := 49) (i := 1) (b := 67) (by decide) (lt_k c.hn (by omega)) e65 (by decide) (by decide) (q65 _ (by decide)) dX11_told_49 ?_
      refine AX.iload_n (pc := 50) dX11_told_50 rfl ?_
      refine AX.bipush (pc := 51) (v := nI 20) dX11_told_51 (by decide) ?_
      refine AX.isubN (pc := 53) (c := 5) dX11_told_53 rfl ?_
      refine AX.callV (pc := 54) (M2 := M_X6_tell) (As := [.int (nI 5)]) (rest := []) (c_tell5 w h (lt_k c.hn (by decide)) c.lg.2.2.2) xc_X11_told__X6_tell gX11_told_X6_tell (ci := 5) rfl (lt_k c.hn (by omega)) c.lg.2.2.2 rfl (Nat.le_of_ble_eq_true rfl) dX11_told_54 ?_
      rintro _ h9 ⟨rfl, e9⟩
      have e9 := e9.symm
      subst e9
      show AX w M_X11_told 0 0 57 [.ref 0, .int (nI 25)] [.int (sq s 3)] _ _
      refine AX.iret (pc := 57) dX11_told_57 rfl rfl (by decide) (by decide) ?_
      exact ⟨by unfold aTold; rw [if_neg h1, if_neg h2, if_pos h3]; rfl, rfl⟩
  have k1 := nR h1
  have k2 := nR h2
  have k3 := nR h3
  rcases (show x.toInt < 0 ∨ x.toInt = 9 ∨ (16 ≤ x.toInt ∧ x.toInt ≤ 19) ∨ 25 < x.toInt by omega) with k | k | k | k
  · refine CA.of (by decide) rfl (fun _ => Nat.le_of_ble_eq_true rfl) ?_
    show AX w M_X11_told 0 0 0 [.ref 0, .int x] [] h _
    refine AX.iload_n (pc := 0) dX11_told_0 rfl ?_
    refine AX.bipush (pc := 1) (v := nI 10) dX11_told_1 (by decide) ?_
    refine AX.icmp_lt (pc := 3) (tgt := 29) dX11_told_3 (by decide) (fun hc3 => ?_) (fun q => absurd (ltT rfl (iN 10 (by omega)) (by omega)) q)
    refine AX.iload_n (pc := 29) dX11_told_29 rfl ?_
    refine AX.bipush (pc := 30) (v := nI 20) dX11_told_30 (by decide) ?_
    refine AX.icmp_lt (pc := 32) (tgt := 58) dX11_told_32 (by decide) (fun hc32 => ?_) (fun q => absurd (ltT rfl (iN 20 (by omega)) (by omega)) q)
    refine AX.iload_n (pc := 58) dX11_told_58 rfl ?_
    refine AX.tableOut (pc := 59) (tgt := 180) dX11_told_59 (Or.inl (by omega)) (by decide) ?_
    refine AX.iconst (pc := 180) (v := (-1)) dX11_told_180 (by decide) ?_
    refine AX.iret (pc := 181) dX11_told_181 rfl rfl (by decide) (by decide) ?_
    exact ⟨by unfold aTold; rw [if_neg h1, if_neg h2, if_neg h3], rfl⟩
  · refine CA.of (by decide) rfl (fun _ => Nat.le_of_ble_eq_true rfl) ?_
    show AX w M_X11_told 0 0 0 [.ref 0, .int x] [] h _
    refine AX.iload_n (pc := 0) dX11_told_0 rfl ?_
    refine AX.bipush (pc := 1) (v := nI 10) dX11_told_1 (by decide) ?_
    refine AX.icmp_lt (pc := 3) (tgt := 29) dX11_told_3 (by decide) (fun hc3 => ?_) (fun q => absurd (ltT rfl (iN 10 (by omega)) (by omega)) q)
    refine AX.iload_n (pc := 29) dX11_told_29 rfl ?_
    refine AX.bipush (pc := 30) (v := nI 20) dX11_told_30 (by decide) ?_
    refine AX.icmp_lt (pc := 32) (tgt := 58) dX11_told_32 (by decide) (fun hc32 => ?_) (fun q => absurd (ltT rfl (iN 20 (by omega)) (by omega)) q)
    refine AX.iload_n (pc := 58) dX11_told_58 rfl ?_
    refine AX.tableOut (pc := 59) (tgt := 180) dX11_told_59 (Or.inr (by omega)) (by decide) ?_
    refine AX.iconst (pc := 180) (v := (-1)) dX11_told_180 (by decide) ?_
    refine AX.iret (pc := 181) dX11_told_181 rfl rfl (by decide) (by decide) ?_
    exact ⟨by unfold aTold; rw [if_neg h1, if_neg h2, if_neg h3], rfl⟩
  · refine CA.of (by decide) rfl (fun _ => Nat.le_of_ble_eq_true rfl) ?_
    show AX w M_X11_told 0 0 0 [.ref 0, .int x] [] h _
    refine AX.iload_n (pc := 0) dX11_told_0 rfl ?_
    refine AX.bipush (pc := 1) (v := nI 10) dX11_told_1 (by decide) ?_
    refine AX.icmp_lt (pc := 3) (tgt := 29) dX11_told_3 (by decide) (fun q => absurd q (ltF rfl (iN 10 (by omega)) (by omega))) (fun hc3 => ?_)
    refine AX.iload_n (pc := 6) dX11_told_6 rfl ?_
    refine AX.bipush (pc := 7) (v := nI 15) dX11_told_7 (by decide) ?_
    refine AX.icmp_gt (pc := 9) (tgt := 29) dX11_told_9 (by decide) (fun hc9 => ?_) (fun q => absurd (ltT (iN 15 (by omega)) rfl (by omega)) q)
    refine AX.iload_n (pc := 29) dX11_told_29 rfl ?_
    refine AX.bipush (pc := 30) (v := nI 20) dX11_told_30 (by decide) ?_
    refine AX.icmp_lt (pc := 32) (tgt := 58) dX11_told_32 (by decide) (fun hc32 => ?_) (fun q => absurd (ltT rfl (iN 20 (by omega)) (by omega)) q)
    refine AX.iload_n (pc := 58) dX11_told_58 rfl ?_
    refine AX.tableOut (pc := 59) (tgt := 180) dX11_told_59 (Or.inr (by omega)) (by decide) ?_
    refine AX.iconst (pc := 180) (v := (-1)) dX11_told_180 (by decide) ?_
    refine AX.iret (pc := 181) dX11_told_181 rfl rfl (by decide) (by decide) ?_
    exact ⟨by unfold aTold; rw [if_neg h1, if_neg h2, if_neg h3], rfl⟩
  · refine CA.of (by decide) rfl (fun _ => Nat.le_of_ble_eq_true rfl) ?_
    show AX w M_X11_told 0 0 0 [.ref 0, .int x] [] h _
    refine AX.iload_n (pc := 0) dX11_told_0 rfl ?_
    refine AX.bipush (pc := 1) (v := nI 10) dX11_told_1 (by decide) ?_
    refine AX.icmp_lt (pc := 3) (tgt := 29) dX11_told_3 (by decide) (fun q => absurd q (ltF rfl (iN 10 (by omega)) (by omega))) (fun hc3 => ?_)
    refine AX.iload_n (pc := 6) dX11_told_6 rfl ?_
    refine AX.bipush (pc := 7) (v := nI 15) dX11_told_7 (by decide) ?_
    refine AX.icmp_gt (pc := 9) (tgt := 29) dX11_told_9 (by decide) (fun hc9 => ?_) (fun q => absurd (ltT (iN 15 (by omega)) rfl (by omega)) q)
    refine AX.iload_n (pc := 29) dX11_told_29 rfl ?_
    refine AX.bipush (pc := 30) (v := nI 20) dX11_told_30 (by decide) ?_
    refine AX.icmp_lt (pc := 32) (tgt := 58) dX11_told_32 (by decide) (fun q => absurd q (ltF rfl (iN 20 (by omega)) (by omega))) (fun hc32 => ?_)
    refine AX.iload_n (pc := 35) dX11_told_35 rfl ?_
    refine AX.bipush (pc := 36) (v := nI 25) dX11_told_36 (by decide) ?_
    refine AX.icmp_gt (pc := 38) (tgt := 58) dX11_told_38 (by decide) (fun hc38 => ?_) (fun q => absurd (ltT (iN 25 (by omega)) rfl (by omega)) q)
    refine AX.iload_n (pc := 58) dX11_told_58 rfl ?_
    refine AX.tableOut (pc := 59) (tgt := 180) dX11_told_59 (Or.inr (by omega)) (by decide) ?_
    refine AX.iconst (pc := 180) (v := (-1)) dX11_told_180 (by decide) ?_
    refine AX.iret (pc := 181) dX11_told_181 rfl rfl (by decide) (by decide) ?_
    exact ⟨by unfold aTold; rw [if_neg h1, if_neg h2, if_neg h3], rfl⟩
