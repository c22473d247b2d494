/-! ===== THE FACE: MINDS; the TAPE fed and cleared ===== -/
def aFeed (T : List Nat) (x : Int32) : Int32 := if inR 1 127 x then if T.length < 60 then nI (T.length + 1) else -4 else -2
def nFeed (T : List Nat) (x : Int32) : List Nat := if inR 1 127 x then if T.length < 60 then T ++ [x.toNatClampNeg] else T else T
theorem TQ.push {h' : XH} {T : List Nat} {c : Nat} {y : Nat → Nat} {a : Nat} {X : List Nat} (q : ∀ j, j < T.length → y j = T.getD j 0) (t : TP h' (T.length + 1) (fun j => if j = T.length then c else y j) a X) : TQ h' (T ++ [c]) := by
  refine ⟨fun j => if j = T.length then c else y j, a, X, ?_, fun j hj => ?_⟩
  · rw [List.length_append]
    exact t
  · rw [List.length_append] at hj
    have hj : j < T.length + 1 := hj
    by_cases e : j = T.length
    · subst e
      simp
    · show (if j = T.length then c else y j) = _
      rw [if_neg e, q j (by omega), List.getD_eq_getElem?_getD, List.getD_eq_getElem?_getD, List.getElem?_append_left (by omega)]
theorem l_minds (w : XW) (P : Option Value → XH → Prop) (h0 : XH) {s : SS} {o N : Nat} {a b : Nat × Nat} {qf : Nat → Int32} {z0 : Int32} (hN : N ≤ 12) (hP : ∀ h', Same clS h0 h' → CSo h' (wq s qf) o a b → P (some (.int (qf 6 + qf 7 - z0))) h') : ∀ (g i n : Nat) (h : XH) (q : Nat → Int32), i + g = N → CSo h (wq s q) o a b → LV q n o a b → Same clS h0 h → mdI o a b g q = qf → AX w M_X11_minds 0 0 24 [.ref 0, .int (nI N), .int z0, .int (nI i)] [] h P
  | 0, i, n, h, q, hg, c, l, hS, hq => by
    have e : i = N := by omega
    subst e
    have hq : q = qf := hq
    subst hq
    refine AX.iload_n (pc := 24) dX11_minds_24 rfl ?_
    refine AX.iload_n (pc := 25) dX11_minds_25 rfl ?_
    refine AX.icmp_geN (pc := 26) (tgt := 62) dX11_minds_26 (by decide) (by omega) (by omega) (fun hc26 => ?_) (fun q => absurd q (Nat.lt_irrefl _))
    refine AX.aload_n (pc := 62) dX11_minds_62 rfl ?_
    refine AX.getf (pc := 63) fX11_minds_53 (lt_k c.hn (by omega)) c.dm rfl dX11_minds_63 ?_
    refine AX.callV (pc := 66) (M2 := M_X3_legsOfBoth) (As := []) (rest := []) (c_legsOfBoth w h (show 72 ≤ h.1 by have := c.hn; omega) c.lg) xc_X11_minds__X3_legsOfBoth gX11_minds_X3_legsOfBoth (ci := 2) rfl (lt_k c.hn (by omega)) c.lg.1 rfl (Nat.le_of_ble_eq_true rfl) dX11_minds_66 ?_
    rintro _ h9 ⟨rfl, e9⟩
    have e9 := e9.symm
    subst e9
    show AX w M_X11_minds 0 0 69 [.ref 0, .int (nI i), .int z0, .int (nI i)] [.int (q 6 + q 7)] _ _
    refine AX.iload_n (pc := 69) dX11_minds_69 rfl ?_
    refine AX.isub (pc := 70) dX11_minds_70 ?_
    refine AX.iret (pc := 71) dX11_minds_71 rfl rfl (by decide) (by decide) ?_
    exact hP h hS c
  | g + 1, i, n, h, q, hg, c, l, hS, hq => by
    obtain ⟨t1, g1, e15, e14, e4, r1, r5⟩ := l.now
    obtain ⟨m_, hm⟩ : ∃ z, z = 10 + 16 * qt q := ⟨_, rfl⟩
    have mm := c.mt t1
    rw [← hm] at mm
    obtain ⟨dk, ck, fn, mA, mB, mC, mD⟩ := mm
    obtain ⟨f9, e9_, q9⟩ := id c.rs.2.1
    have dd := dD_ok c.ru.1 mA.2.1 mA.2.2.1 (qr q) r5 r1
    have eb : h.2 64 = .inr (2, [.ref 65, .int (q 12), .int (q 13), .int (q 14), .int (q 15), .int (q 16), .int (q 17), .int (q 18)]) := c.lg.1
    rw [e15] at eb
    refine AX.iload_n (pc := 24) dX11_minds_24 rfl ?_
    refine AX.iload_n (pc := 25) dX11_minds_25 rfl ?_
    refine AX.icmp_geN (pc := 26) (tgt := 62) dX11_minds_26 (by decide) (by omega) (by omega) (fun q => absurd q (by omega)) (fun hc26 => ?_)
    refine AX.aload_n (pc := 29) dX11_minds_29 rfl ?_
    refine AX.aload_n (pc := 30) dX11_minds_30 rfl ?_
    refine AX.getf (pc := 31) fX11_minds_28 (lt_k c.hn (by omega)) c.dm rfl dX11_minds_31 ?_
    refine AX.aload_n (pc := 34) dX11_minds_34 rfl ?_
    refine AX.getf (pc := 35) fX11_minds_53 (lt_k c.hn (by omega)) c.dm rfl dX11_minds_35 ?_
    refine AX.getf (pc := 38) fX11_minds_237 (lt_k c.hn (by omega)) eb rfl dX11_minds_38 ?_
    refine AX.aaldN (pc := 41) (i := qt q) (b := m_) (by decide) (lt_k c.hn (by omega)) e9_ (by decide) (by omega) ((q9 (qt q) (by omega)).trans (by rw [hm])) dX11_minds_41 ?_
    refine AX.aload_n (pc := 42) dX11_minds_42 rfl ?_
    refine AX.getf (pc := 43) fX11_minds_53 (lt_k c.hn (by omega)) c.dm rfl dX11_minds_43 ?_
    refine AX.callV (pc := 46) (M2 := M_X3_restOfThrower) (As := []) (rest := [.ref m_, .ref 0]) (c_restOfThrower w h (show 72 ≤ h.1 by have := c.hn; omega) c.lg t1 e15) xc_X11_minds__X3_restOfThrower gX11_minds_X3_restOfThrower (ci := 2) rfl (lt_k c.hn (by omega)) eb rfl (Nat.le_of_ble_eq_true rfl) dX11_minds_46 ?_
    rintro _ h9 ⟨rfl, e9⟩
    have e9 := e9.symm
    subst e9
    rw [show sq (wq s q) (4 + qt q) = nI (qr q) from e4]
    show AX w M_X11_minds 0 0 49 [.ref 0, .int (nI N), .int z0, .int (nI i)] [.int (nI (qr q)), .ref m_, .ref 0] _ _
    refine AX.callV (pc := 49) (M2 := M_X4_aimAt) (As := [.int (nI (qr q))]) (rest := [.ref 0]) (c_aimAt w h (show 42 ≤ h.1 by have := c.hn; omega) c.ru.1 c.ru c.fa mA mD mB (qr q) r5 r1) xc_X11_minds__X4_aimAt gX11_minds_X4_aimAt (ci := 3) rfl (lt_k c.hn (by omega)) mA.2.2.2.1 rfl (Nat.le_of_ble_eq_true rfl) dX11_minds_49 ?_
    rintro _ h1 ⟨rfl, s1, M1, K1, fn9, N1⟩
    have mm1 : MM h1 m_ o (hh a b (qt q)) := ⟨_, _, fn9, M1, K1, mC.same s1 (by simp) (by simp) (by simp; omega), N1⟩
    have c1 : CSo h1 (wq s q) o a b := c.mindt t1 s1 (by intro k hk; simp at hk; omega) (hm ▸ mm1)
    show AX w M_X11_minds 0 0 52 [.ref 0, .int (nI N), .int z0, .int (nI i)] [.int (nI (mdA o a b q)), .ref 0] _ _
    refine AX.callV (pc := 52) (M2 := M_X11_throwByDraw) (As := [.int (nI (mdA o a b q))]) (rest := []) (c_throwByDraw w h1 c1.hn c1.dm c1.ru c1.fa c1.rs.2.1 hm M1 c1.lg t1 g1 e15 e14 e4 r5 (a := mdA o a b q) dd.2.2.2.1 (show mdA o a b q < 63 from Nat.lt_succ_of_le dd.2.2.2.2)) xc_X11_minds__X11_throwByDraw gX11_minds_X11_throwByDraw (ci := 10) rfl (lt_k (s1.le c.hn) (by omega)) c1.dm rfl (Nat.le_of_ble_eq_true rfl) dX11_minds_52 ?_
    rintro _ h2 ⟨rfl, s2, l2⟩
    have c2 : CSo h2 (wq s (mdN o a b q)) o a b := by
      rw [show mdN o a b q = (ldN (dwN q) (qt q) (qg q) (nxN o (qr q) (faN a b q (mdA o a b q)))) from at_eq t1]
      exact c1.leg s2 l2
    show AX w M_X11_minds 0 0 55 [.ref 0, .int (nI N), .int z0, .int (nI i)] [.int (nI (faN a b q (mdA o a b q)))] _ _
    refine AX.pop (pc := 55) dX11_minds_55 rfl ?_
    refine AX.iincN (c := i + 1) (pc := 56) (L' := [.ref 0, .int (nI N), .int z0, .int (nI (i + 1))]) dX11_minds_56 rfl (inc1 _) (by decide) rfl ?_
    refine AX.goto (pc := 59) (tgt := 24) dX11_minds_59 (by decide) ?_
    exact l_minds w P h0 hN hP g (i + 1) (n + 1) h2 _ (by omega) c2 l.at1 (hS.trans ((clS_in s1 (by intro k hk; simp at hk; omega)).trans (clS_in s2 (by decide)))) hq
theorem c_minds (w : XW) (h : XH) {s : SS} {n o : Nat} {a b : Nat × Nat} (c : CSo h s o a b) (l : LV (sq s) n o a b) (x : Int32) : CA w M_X11_minds [.ref 0, .int x] h (fun v' h'' => v' = some (.int (aMinds o a b (sq s) x)) ∧ Same clS h h'' ∧ CSo h'' (wq s (nMinds o a b (sq s) x)) o a b) := by
  by_cases h_x : inR 1 12 x
  · obtain ⟨xn, rfl, l_x, u_x⟩ := inR_nat (by decide) h_x
    have en : nMinds o a b (sq s) (nI xn) = mdI o a b xn (sq s) := by unfold nMinds; rw [if_pos h_x, nI_nat (by omega)]
    rw [en, show aMinds o a b (sq s) (nI xn) = mdI o a b xn (sq s) 6 + mdI o a b xn (sq s) 7 - (sq s 6 + sq s 7) from by unfold aMinds; rw [if_pos h_x, nI_nat (by omega)]]
    refine CA.of (by decide) rfl (fun _ => Nat.le_of_ble_eq_true rfl) ?_
    show AX w M_X11_minds 0 0 0 [.ref 0, .int (nI xn), .null, .null] [] h _
    refine AX.iload_n (pc := 0) dX11_minds_0 rfl ?_
    refine AX.iconst (pc := 1) (v := nI 1) dX11_minds_1 (by decide) ?_
    refine AX.icmp_ltN (pc := 2) (tgt := 11) dX11_minds_2 (by decide) (by omega) (by decide) (fun q => absurd q (by omega)) (fun hc2 => ?_)
    refine AX.iload_n (pc := 5) dX11_minds_5 rfl ?_
    refine AX.bipush (pc := 6) (v := nI 12) dX11_minds_6 (by decide) ?_
    refine AX.icmp_leN (pc := 8) (tgt := 14) dX11_minds_8 (by decide) (by omega) (by decide) (fun hc8 => ?_) (fun q => absurd q (by omega))
    refine AX.aload_n (pc := 14) dX11_minds_14 rfl ?_
    refine AX.getf (pc := 15) fX11_minds_53 (lt_k c.hn (by omega)) c.dm rfl dX11_minds_15 ?_
    refine AX.callV (pc := 18) (M2 := M_X3_legsOfBoth) (As := []) (rest := []) (c_legsOfBoth w h (show 72 ≤ h.1 by have := c.hn; omega) c.lg) xc_X11_minds__X3_legsOfBoth gX11_minds_X3_legsOfBoth (ci := 2) rfl (lt_k c.hn (by omega)) c.lg.1 rfl (Nat.le_of_ble_eq_true rfl) dX11_minds_18 ?_
    rintro _ h9 ⟨rfl, e9⟩
    have e9 := e9.symm
    subst e9
    show AX w M_X11_minds 0 0 21 [.ref 0, .int (nI xn), .null, .null] [.int (sq s 6 + sq s 7)] _ _
    refine AX.istore_n (pc := 21) (L' := [.ref 0, .int (nI xn), .int (sq s 6 + sq s 7), .null]) dX11_minds_21 (by decide) rfl ?_
    refine AX.iconst (pc := 22) (v := nI 0) dX11_minds_22 (by decide) ?_
    refine AX.istore_n (pc := 23) (L' := [.ref 0, .int (nI xn), .int (sq s 6 + sq s 7), .int (nI 0)]) dX11_minds_23 (by decide) rfl ?_
    exact l_minds w _ h u_x (fun h' a1 a2 => ⟨rfl, a1, a2⟩) xn 0 n h (sq s) (by omega) c l Same.rf rfl
  · rcases nR h_x with hl | hu
    · refine CA.of (by decide) rfl (fun _ => Nat.le_of_ble_eq_true rfl) ?_
      show AX w M_X11_minds 0 0 0 [.ref 0, .int x, .null, .null] [] h _
      refine AX.iload_n (pc := 0) dX11_minds_0 rfl ?_
      refine AX.iconst (pc := 1) (v := nI 1) dX11_minds_1 (by decide) ?_
      refine AX.icmp_lt (pc := 2) (tgt := 11) dX11_minds_2 (by decide) (fun hc2 => ?_) (fun q => absurd (ltT rfl (iN 1 (by omega)) (by omega)) q)
      refine AX.bipush (pc := 11) (v := (-2)) dX11_minds_11 (by decide) ?_
      refine AX.iret (pc := 13) dX11_minds_13 rfl rfl (by decide) (by decide) ?_
      have en : nMinds o a b (sq s) x = sq s := by unfold nMinds; rw [if_neg h_x]
      rw [en]
      exact ⟨by unfold aMinds; rw [if_neg h_x]; try rfl, Same.rf, c⟩
    · refine CA.of (by decide) rfl (fun _ => Nat.le_of_ble_eq_true rfl) ?_
      show AX w M_X11_minds 0 0 0 [.ref 0, .int x, .null, .null] [] h _
      refine AX.iload_n (pc := 0) dX11_minds_0 rfl ?_
      refine AX.iconst (pc := 1) (v := nI 1) dX11_minds_1 (by decide) ?_
      refine AX.icmp_lt (pc := 2) (tgt := 11) dX11_minds_2 (by decide) (fun q => absurd q (ltF rfl (iN 1 (by omega)) (by omega))) (fun hc2 => ?_)
      refine AX.iload_n (pc := 5) dX11_minds_5 rfl ?_
      refine AX.bipush (pc := 6) (v := nI 12) dX11_minds_6 (by decide) ?_
      refine AX.icmp_le (pc := 8) (tgt := 14) dX11_minds_8 (by decide) (fun q => absurd q (leF rfl (iN 12 (by omega)) (by omega))) (fun hc8 => ?_)
      refine AX.bipush (pc := 11) (v := (-2)) dX11_minds_11 (by decide) ?_
      refine AX.iret (pc := 13) dX11_minds_13 rfl rfl (by decide) (by decide) ?_
      have en : nMinds o a b (sq s) x = sq s := by unfold nMinds; rw [if_neg h_x]
      rw [en]
      exact ⟨by unfold aMinds; rw [if_neg h_x]; try rfl, Same.rf, c⟩
theorem c_feed (w : XW) (h : XH) {s : SS} {o : Nat} {a b : Nat × Nat} (c : CSo h s o a b) (x : Int32) : CA w M_X11_feed [.ref 0, .int x] h (fun v' h'' => v' = some (.int (aFeed (sT s) x)) ∧ Same clS h h'' ∧ CSo h'' (wT s (nFeed (sT s) x)) o a b) := by
  obtain ⟨y72, a72, X72, t72, r72⟩ := id c.tp
  by_cases h_x : inR 1 127 x
  · obtain ⟨xn, rfl, l_x, u_x⟩ := inR_nat (by decide) h_x
    by_cases hl : (sT s).length < 60
    · have en : nFeed (sT s) (nI xn) = sT s ++ [xn] := by unfold nFeed; rw [if_pos h_x, if_pos hl, nI_nat (by omega)]
      rw [en]
      refine CA.of (by decide) rfl (fun _ => Nat.le_of_ble_eq_true rfl) ?_
      show AX w M_X11_feed 0 0 0 [.ref 0, .int (nI xn)] [] h _
      refine AX.iload_n (pc := 0) dX11_feed_0 rfl ?_
      refine AX.iconst (pc := 1) (v := nI 1) dX11_feed_1 (by decide) ?_
      refine AX.icmp_ltN (pc := 2) (tgt := 11) dX11_feed_2 (by decide) (by omega) (by decide) (fun q => absurd q (by omega)) (fun hc2 => ?_)
      refine AX.iload_n (pc := 5) dX11_feed_5 rfl ?_
      refine AX.bipush (pc := 6) (v := nI 127) dX11_feed_6 (by decide) ?_
      refine AX.icmp_leN (pc := 8) (tgt := 14) dX11_feed_8 (by decide) (by omega) (by decide) (fun hc8 => ?_) (fun q => absurd q (by omega))
      refine AX.aload_n (pc := 14) dX11_feed_14 rfl ?_
      refine AX.getf (pc := 15) fX11_feed_63 (lt_k c.hn (by omega)) c.dm rfl dX11_feed_15 ?_
      refine AX.iload_n (pc := 18) dX11_feed_18 rfl ?_
      refine AX.callV (pc := 19) (M2 := M_X10_append) (As := [.int (nI xn)]) (rest := []) (c_append w h xn (show xn < 128 by omega) (show 75 ≤ h.1 by have := c.hn; omega) t72 hl) xc_X11_feed__X10_append gX11_feed_X10_append (ci := 9) rfl (lt_k c.hn (by omega)) t72.1 rfl (Nat.le_of_ble_eq_true rfl) dX11_feed_19 ?_
      rintro _ h1 ⟨rfl, s1, T1⟩
      have c1 : CSo h1 (wT s (sT s ++ [xn])) o a b := c.tape (s1.wide (by decide)) (TQ.push r72 T1)
      show AX w M_X11_feed 0 0 22 [.ref 0, .int (nI xn)] [.int (bI true)] _ _
      refine AX.if_eqB (pc := 22) (tgt := 35) dX11_feed_22 (by decide) (fun q => absurd q (by decide)) (fun hc22 => ?_)
      refine AX.aload_n (pc := 25) dX11_feed_25 rfl ?_
      refine AX.getf (pc := 26) fX11_feed_63 (lt_k (s1.le c.hn) (by omega)) (s1.at (by simp) c.dm) rfl dX11_feed_26 ?_
      refine AX.getf (pc := 29) fX11_feed_265 (lt_k (s1.le c.hn) (by omega)) T1.1 rfl dX11_feed_29 ?_
      refine AX.goto (pc := 32) (tgt := 37) dX11_feed_32 (by decide) ?_
      refine AX.iret (pc := 37) dX11_feed_37 rfl rfl (by decide) (by decide) ?_
      exact ⟨by unfold aFeed; rw [if_pos h_x, if_pos hl]; try rfl, clS_in s1 (by decide), c1⟩
    · have en : nFeed (sT s) (nI xn) = sT s := by unfold nFeed; rw [if_pos h_x, if_neg hl]
      rw [en]
      refine CA.of (by decide) rfl (fun _ => Nat.le_of_ble_eq_true rfl) ?_
      show AX w M_X11_feed 0 0 0 [.ref 0, .int (nI xn)] [] h _
      refine AX.iload_n (pc := 0) dX11_feed_0 rfl ?_
      refine AX.iconst (pc := 1) (v := nI 1) dX11_feed_1 (by decide) ?_
      refine AX.icmp_ltN (pc := 2) (tgt := 11) dX11_feed_2 (by decide) (by omega) (by decide) (fun q => absurd q (by omega)) (fun hc2 => ?_)
      refine AX.iload_n (pc := 5) dX11_feed_5 rfl ?_
      refine AX.bipush (pc := 6) (v := nI 127) dX11_feed_6 (by decide) ?_
      refine AX.icmp_leN (pc := 8) (tgt := 14) dX11_feed_8 (by decide) (by omega) (by decide) (fun hc8 => ?_) (fun q => absurd q (by omega))
      refine AX.aload_n (pc := 14) dX11_feed_14 rfl ?_
      refine AX.getf (pc := 15) fX11_feed_63 (lt_k c.hn (by omega)) c.dm rfl dX11_feed_15 ?_
      refine AX.iload_n (pc := 18) dX11_feed_18 rfl ?_
      refine AX.callV (pc := 19) (M2 := M_X10_append) (As := [.int (nI xn)]) (rest := []) (c_appendFull w h xn (show 75 ≤ h.1 by have := c.hn; omega) t72 hl) xc_X11_feed__X10_append gX11_feed_X10_append (ci := 9) rfl (lt_k c.hn (by omega)) t72.1 rfl (Nat.le_of_ble_eq_true rfl) dX11_feed_19 ?_
      rintro _ h9 ⟨rfl, e9⟩
      have e9 := e9.symm
      subst e9
      show AX w M_X11_feed 0 0 22 [.ref 0, .int (nI xn)] [.int (bI false)] _ _
      refine AX.if_eqB (pc := 22) (tgt := 35) dX11_feed_22 (by decide) (fun hc22 => ?_) (fun q => absurd q (by decide))
      refine AX.bipush (pc := 35) (v := (-4)) dX11_feed_35 (by decide) ?_
      refine AX.iret (pc := 37) dX11_feed_37 rfl rfl (by decide) (by decide) ?_
      exact ⟨by unfold aFeed; rw [if_pos h_x, if_neg hl]; try rfl, Same.rf, c⟩
  · rcases nR h_x with hl | hu
    · refine CA.of (by decide) rfl (fun _ => Nat.le_of_ble_eq_true rfl) ?_
      show AX w M_X11_feed 0 0 0 [.ref 0, .int x] [] h _
      refine AX.iload_n (pc := 0) dX11_feed_0 rfl ?_
      refine AX.iconst (pc := 1) (v := nI 1) dX11_feed_1 (by decide) ?_
      refine AX.icmp_lt (pc := 2) (tgt := 11) dX11_feed_2 (by decide) (fun hc2 => ?_) (fun q => absurd (ltT rfl (iN 1 (by omega)) (by omega)) q)
      refine AX.bipush (pc := 11) (v := (-2)) dX11_feed_11 (by decide) ?_
      refine AX.iret (pc := 13) dX11_feed_13 rfl rfl (by decide) (by decide) ?_
      have en : nFeed (sT s) x = sT s := by unfold nFeed; rw [if_neg h_x]
      rw [en]
      exact ⟨by unfold aFeed; rw [if_neg h_x]; try rfl, Same.rf, c⟩
    · refine CA.of (by decide) rfl (fun _ => Nat.le_of_ble_eq_true rfl) ?_
      show AX w M_X11_feed 0 0 0 [.ref 0, .int x] [] h _
      refine AX.iload_n (pc := 0) dX11_feed_0 rfl ?_
      refine AX.iconst (pc := 1) (v := nI 1) dX11_feed_1 (by decide) ?_
      refine AX.icmp_lt (pc := 2) (tgt := 11) dX11_feed_2 (by decide) (fun q => absurd q (ltF rfl (iN 1 (by omega)) (by omega))) (fun hc2 => ?_)
      refine AX.iload_n (pc := 5) dX11_feed_5 rfl ?_
      refine AX.bipush (pc := 6) (v := nI 127) dX11_feed_6 (by decide) ?_
      refine AX.icmp_le (pc := 8) (tgt := 14) dX11_feed_8 (by decide) (fun q => absurd q (leF rfl (iN 127 (by omega)) (by omega))) (fun hc8 => ?_)
      refine AX.bipush (pc := 11) (v := (-2)) dX11_feed_11 (by decide) ?_
      refine AX.iret (pc := 13) dX11_feed_13 rfl rfl (by decide) (by decide) ?_
      have en : nFeed (sT s) x = sT s := by unfold nFeed; rw [if_neg h_x]
      rw [en]
      exact ⟨by unfold aFeed; rw [if_neg h_x]; try rfl, Same.rf, c⟩
theorem c_clear (w : XW) (h : XH) {s : SS} {o : Nat} {a b : Nat × Nat} (c : CSo h s o a b) : CA w M_X11_clear [.ref 0] h (fun v' h'' => v' = some (.int (nI (sT s).length)) ∧ Same clS h h'' ∧ CSo h'' (wT s ([])) o a b) := by
  obtain ⟨y72, a72, X72, t72, r72⟩ := id c.tp
  refine CA.of (by decide) rfl (fun _ => Nat.le_of_ble_eq_true rfl) ?_
  show AX w M_X11_clear 0 0 0 [.ref 0, .null] [] h _
  refine AX.aload_n (pc := 0) dX11_clear_0 rfl ?_
  refine AX.getf (pc := 1) fX11_clear_63 (lt_k c.hn (by omega)) c.dm rfl dX11_clear_1 ?_
  refine AX.getf (pc := 4) fX11_clear_265 (lt_k c.hn (by omega)) t72.1 rfl dX11_clear_4 ?_
  refine AX.istore_n (pc := 7) (L' := [.ref 0, .int (nI ((sT s).length))]) dX11_clear_7 (by decide) rfl ?_
  refine AX.aload_n (pc := 8) dX11_clear_8 rfl ?_
  refine AX.getf (pc := 9) fX11_clear_63 (lt_k c.hn (by omega)) c.dm rfl dX11_clear_9 ?_
  refine AX.iconst (pc := 12) (v := nI 0) dX11_clear_12 (by decide) ?_
  refine AX.putf (pc := 13) (fs' := [.ref 73, .int (nI 0), .ref 74, .int (nI X72.length), .int (nI a72)]) fX11_clear_265 rfl (lt_k c.hn (by omega)) t72.1 (Nat.le_of_ble_eq_true rfl) rfl rfl rfl dX11_clear_13 ?_
  refine AX.iload_n (pc := 16) dX11_clear_16 rfl ?_
  refine AX.iret (pc := 17) dX11_clear_17 rfl rfl (by decide) (by decide) ?_
  have sx : Same [72] h (xset h 72 (.inr (9, [.ref 73, .int (nI 0), .ref 74, .int (nI X72.length), .int (nI a72)]))) := Same.rest
  exact ⟨rfl, clS_in sx (by decide), c.tape (T := []) (sx.wide (by decide)) ⟨y72, a72, X72, t72.len0 sx (xset_same _ _ _), fun j hj => absurd hj (Nat.not_lt_zero _)⟩⟩
