/-! ===== THE REFERENCE: MINDS, SEED, AVERAGE, TOLD ===== -/
/-- a float of the pool by the wide row -/
theorem AX.ldcwf {w : XW} {M : MD} {k n pc : Nat} {L st : List Value} {h : XH} {P : Option Value → XH → Prop} {i : Nat} {v : UInt32} (d : decode (mC M) pc = .ok (.ldc_w i, 3)) (hc : Cond.constantFloat (mY M).cls i v ∈ mW M) (kk : AX w M k n (pc + 3) L (.float v :: st) h P) : AX w M k n pc L st h P := by
  intro R p l e s m args below meth c H locs ls Q hR hX hH hS hL hw hE
  intro T hT X
  obtain ⟨t, a, b⟩ := kk R p l e s m args below meth c H locs ls Q hR hX hH hS hL hw hE T hT X
  obtain ⟨k1, cf, hk, hcf, hcp⟩ := Cond.constantFloat_spec hX.2.2.2.1 (hX.2.2.2.2.1 _ hc)
  obtain ⟨k', hk', he⟩ := X.warmed.alike.2.2 _ _ hk
  refine ⟨t, ?_, b⟩
  have hdg : decode c.code pc = .ok (.ldc_w i, 3) := by rw [hX.2.1]; exact d
  have hexec := hX.1
  jvm_step X.here [hexec, hdg, ldc_w.wp_float (s := T) (f := F0 m pc ls (st.map (xv w))) X.here.top hk' (by rw [he]; exact hcf) hcp]
  exact a
theorem bv_lo {Q : Nat → Int32} {p k : Nat} (hk : k < 15) : bvN Q p k = Q k := by
  unfold bvN
  rw [upd_off (by omega), upd_off (by omega), upd_off (by omega)]
theorem ld_lo {q : Nat → Int32} {t g k : Nat} {x : Option Nat} (ht : t ≤ 1) (hk : k = 6 ∨ k = 7) (hx : x ≠ some 0) : ldN q t g x k = q k := by
  have h4 : ∀ now : Int32, (upd (upd (upd (upd q (8 + t) (q (8 + t) + nI 1)) (10 + t) (q (10 + t) + (q (4 + t) - now))) (4 + t) now) 16 (q 16 - nI 1)) k = q k := fun now => by
    rw [upd_off (by omega), upd_off (by omega), upd_off (by omega), upd_off (by omega)]
  cases x with
  | none =>
    show bvN _ _ k = _
    rw [bv_lo (by omega)]
    exact h4 _
  | some d =>
    cases d with
    | zero => exact absurd rfl hx
    | succ d =>
      show (if q 16 - nI 1 = 0 then bvN _ _ else _) k = _
      split
      · rw [bv_lo (by omega)]
        exact h4 _
      · exact h4 _
theorem ld_hit {q : Nat → Int32} {t g : Nat} (ht : t ≤ 1) : ldN q t g (some 0) 6 + ldN q t g (some 0) 7 = q 6 + q 7 + nI 1 := by
  have h4 : ∀ k, k = 6 ∨ k = 7 → ldN q t g (some 0) k = upd q (6 + t) (q (6 + t) + nI 1) k := fun k hk => by
    show bgN _ _ k = _
    unfold bgN
    rw [bv_lo (by omega), upd_off (by omega), upd_off (by omega), upd_off (by omega)]
    by_cases e : k = 6 + t
    · rw [e, upd_at, upd_at]
    · rw [upd_off e, upd_off e, upd_off (by omega), upd_off (by omega), upd_off (by omega), upd_off (by omega)]
  rw [h4 6 (Or.inl rfl), h4 7 (Or.inr rfl)]
  rcases (show t = 0 ∨ t = 1 by omega) with rfl | rfl
  · rw [show upd q (6 + 0) (q (6 + 0) + nI 1) 6 = q 6 + nI 1 from upd_at _ _ _, upd_off (by decide), Int32.add_assoc, Int32.add_comm (nI 1), ← Int32.add_assoc]
  · rw [show upd q (6 + 1) (q (6 + 1) + nI 1) 7 = q 7 + nI 1 from upd_at _ _ _, upd_off (by decide), ← Int32.add_assoc]
/-- what a DART adds to the LEGS won -/
theorem th_legs {o s n : Nat} {q : Nat → Int32} {a b : Nat × Nat} (l : LV q n o a b) (z : Int32) : (q 6 + q 7 - z) + (if nxN o (qr q) s = some 0 then nI 1 else nI 0) = thN o q s 6 + thN o q s 7 - z := by
  have ht := l.now.1
  have hs : ∀ x y : Int32, x - z + y = x + y - z := fun x y => by
    rw [Int32.sub_eq_add_neg, Int32.sub_eq_add_neg, Int32.add_assoc, Int32.add_comm (-z), ← Int32.add_assoc]
  unfold thN
  by_cases e : nxN o (qr q) s = some 0
  · rw [if_pos e, e, ld_hit ht, hs]
  · rw [if_neg e, ld_lo ht (Or.inl rfl) e, ld_lo ht (Or.inr rfl) e, show nI 0 = 0 from rfl, Int32.add_zero]
theorem th_hit {o s n : Nat} {q : Nat → Int32} {a b : Nat × Nat} (l : LV q n o a b) (z : Int32) (e : nxN o (qr q) s = some 0) : (q 6 + q 7 - z) + nI 1 = thN o q s 6 + thN o q s 7 - z := by
  have := th_legs (s := s) l z
  rw [if_pos e] at this
  exact this
theorem th_no {o s n : Nat} {q : Nat → Int32} {a b : Nat × Nat} (l : LV q n o a b) (z : Int32) (e : ¬ nxN o (qr q) s = some 0) : (q 6 + q 7 - z) + nI 0 = thN o q s 6 + thN o q s 7 - z := by
  have := th_legs (s := s) l z
  rw [if_neg e] at this
  exact this
theorem i32_self (a : Int32) : nI 0 = a - a := by
  refine Int32.toBitVec_inj.mp ?_
  rw [Int32.toBitVec_sub, BitVec.sub_self]
  rfl
theorem oI_n0 {x : Option Nat} (hx : x ≠ some 0) (hb : ∀ d, x = some d → d ≤ 501) : ¬ oI x = 0 := by
  cases x with
  | none => decide
  | some d =>
    have hd := hb d rfl
    show ¬ nI d = nI 0
    exact fun e => hx (by rw [nI_inj (by omega) (by decide) e])
theorem l_mMinds (w : XW) (P : Option Value → XH → Prop) (h0 : XH) {s : SS} {o N : Nat} {a b : Nat × Nat} {qf : Nat → Int32} {z0 : Int32} (hN : N ≤ 12) (hP : ∀ h', Same mdS h0 h' → MS h' (wq s qf) → P (some (.int (qf 6 + qf 7 - z0))) h') : ∀ (g i n : Nat) (h : XH) (q : Nat → Int32), i + g = N → MS h (wq s q) → LV q n o a b → Same mdS h0 h → mdI o a b g q = qf → AX w M_X12_minds 0 0 19 [.ref 87, .int (nI N), .int (q 6 + q 7 - z0), .int (nI i), .null, .null] [] h P
  | 0, i, n, h, q, hg, c, l, hS, hq => by
    have e : i = N := by omega
    subst e
    have hq : q = qf := hq
    subst hq
    refine AX.iload_n (pc := 19) dX12_minds_19 rfl ?_
    refine AX.iload_n (pc := 20) dX12_minds_20 rfl ?_
    refine AX.icmp_geN (pc := 21) (tgt := 89) dX12_minds_21 (by decide) (by omega) (by omega) (fun hc21 => ?_) (fun q => absurd q (Nat.lt_irrefl _))
    refine AX.iload_n (pc := 89) dX12_minds_89 rfl ?_
    refine AX.iret (pc := 90) dX12_minds_90 rfl rfl (by decide) (by decide) ?_
    exact hP h hS c
  | g + 1, i, n, h, q, hg, c, l, hS, hq => by
    obtain ⟨v, hO, hv⟩ := id c.ob
    obtain ⟨f89, e89, q89⟩ := id c.nw
    obtain ⟨t1, g1, e15, e14, e4, r1, r5⟩ := l.now
    obtain ⟨hs1, hr1, hs2, hr2⟩ := l.hq t1
    have dd := dD_ok l.ho hs2 hr2 (qr q) r5 r1
    have hm1 : 1 ≤ mdA o a b q := dd.2.2.2.1
    have hm2 : mdA o a b q ≤ 62 := dd.2.2.2.2
    have hfa : faN a b q (mdA o a b q) < 63 := fuN_lt (by omega) _ 0 (Nat.zero_add _)
    have hnb : ∀ d, nxN o (qr (dwN q)) (faN a b q (mdA o a b q)) = some d → d ≤ 501 := fun d e => Nat.le_trans (nxN_le e) l.draw.now.2.2.2.2.2.2
    by_cases hz : nxN o (qr (dwN q)) (faN a b q (mdA o a b q)) = some 0
    · refine AX.iload_n (pc := 19) dX12_minds_19 rfl ?_
      refine AX.iload_n (pc := 20) dX12_minds_20 rfl ?_
      refine AX.icmp_geN (pc := 21) (tgt := 89) dX12_minds_21 (by decide) (by omega) (by omega) (fun q => absurd q (by omega)) (fun hc21 => ?_)
      refine AX.aload_n (pc := 24) dX12_minds_24 rfl ?_
      refine AX.getf (pc := 25) fX12_minds_13 (lt_k c.hn (by omega)) hO rfl dX12_minds_25 ?_
      refine AX.bipush (pc := 28) (v := nI 15) dX12_minds_28 (by decide) ?_
      refine AX.ialdN (pc := 30) (i := 15) (v := (nI (qt q))) (lt_k c.hn (by omega)) e89 (by decide) (by decide) ((q89 _ (by omega)).trans e15) dX12_minds_30 ?_
      refine AX.istore (pc := 31) (L' := [.ref 87, .int (nI N), .int (q 6 + q 7 - z0), .int (nI i), .int (nI (qt q)), .null]) dX12_minds_31 (by decide) rfl ?_
      refine AX.aload_n (pc := 33) dX12_minds_33 rfl ?_
      refine AX.iload (pc := 34) dX12_minds_34 rfl ?_
      refine AX.callV (pc := 36) (M2 := M_X12_layDarts) (As := [.int (nI (qt q))]) (rest := []) (c_layDarts w h c.hn hO c.nw c.rg c.fx c.dt t1 hs1 hr1 l.q12 l.ho hs2 hr2) xc_X12_minds__X12_layDarts gX12_minds_X12_layDarts (ci := 11) rfl (lt_k c.hn (by omega)) hO rfl (Nat.le_of_ble_eq_true rfl) dX12_minds_36 ?_
      rintro _ h1 ⟨rfl, s1, ⟨xx, O1⟩, X1, T1, fd, fa, e93, e94, tab⟩
      have c1 : MS h1 (wq s q) := c.darts s1 (MS.obv hv 1 (by decide) O1) X1 T1
      show AX w M_X12_minds 0 0 39 [.ref 87, .int (nI N), .int (q 6 + q 7 - z0), .int (nI i), .int (nI (qt q)), .null] [] _ _
      refine AX.aload_n (pc := 39) dX12_minds_39 rfl ?_
      refine AX.aload_n (pc := 40) dX12_minds_40 rfl ?_
      refine AX.getf (pc := 41) fX12_minds_29 (lt_k (s1.le c.hn) (by omega)) O1 rfl dX12_minds_41 ?_
      refine AX.sipush (pc := 44) (v := nI 502) dX12_minds_44 (by decide) ?_
      refine AX.iload (pc := 47) dX12_minds_47 rfl ?_
      refine AX.imulN (pc := 49) (c := 502 * (qt q)) dX12_minds_49 rfl ?_
      refine AX.aload_n (pc := 50) dX12_minds_50 rfl ?_
      refine AX.getf (pc := 51) fX12_minds_13 (lt_k (s1.le c.hn) (by omega)) O1 rfl dX12_minds_51 ?_
      refine AX.iconst (pc := 54) (v := nI 4) dX12_minds_54 (by decide) ?_
      refine AX.iload (pc := 55) dX12_minds_55 rfl ?_
      refine AX.iaddN (pc := 57) (c := 4 + (qt q)) dX12_minds_57 rfl ?_
      refine AX.ialdN (pc := 58) (i := 4 + (qt q)) (v := (nI (qr q))) (lt_k (s1.le c.hn) (by omega)) (s1.at (by simp) e89) (by decide) (by omega) ((q89 _ (by omega)).trans e4) dX12_minds_58 ?_
      refine AX.iaddN (pc := 59) (c := 502 * (qt q) + (qr q)) dX12_minds_59 rfl ?_
      refine AX.ialdN (pc := 60) (i := 502 * (qt q) + (qr q)) (v := (nI (mdA o a b q))) (lt_k (s1.le c.hn) (by omega)) e94 (by decide) (by omega) ((tab.2 (qr q) r1 r5).2) dX12_minds_60 ?_
      refine AX.callV (pc := 61) (M2 := M_X12_drawn) (As := [.int (nI (mdA o a b q))]) (rest := []) (c_mDrawn w h1 c1 l hm1 hm2) xc_X12_minds__X12_drawn gX12_minds_X12_drawn (ci := 11) rfl (lt_k (s1.le c.hn) (by omega)) O1 rfl (Nat.le_of_ble_eq_true rfl) dX12_minds_61 ?_
      rintro _ h2 ⟨rfl, s2, c2⟩
      have c2 : MS h2 (wq s (dwN q)) := c2
      obtain ⟨v2, O2, -⟩ := id c2.ob
      show AX w M_X12_minds 0 0 64 [.ref 87, .int (nI N), .int (q 6 + q 7 - z0), .int (nI i), .int (nI (qt q)), .null] [.int (nI (faN a b q (mdA o a b q)))] _ _
      refine AX.istore (pc := 64) (L' := [.ref 87, .int (nI N), .int (q 6 + q 7 - z0), .int (nI i), .int (nI (qt q)), .int (nI (faN a b q (mdA o a b q)))]) dX12_minds_64 (by decide) rfl ?_
      refine AX.iload_n (pc := 66) dX12_minds_66 rfl ?_
      refine AX.aload_n (pc := 67) dX12_minds_67 rfl ?_
      refine AX.iload (pc := 68) dX12_minds_68 rfl ?_
      refine AX.callV (pc := 70) (M2 := M_X12_fallsUpon) (As := [.int (nI (faN a b q (mdA o a b q)))]) (rest := [.int (q 6 + q 7 - z0)]) (c_mUponS w h2 c2 l.draw (x := faN a b q (mdA o a b q)) hfa) xc_X12_minds__X12_fallsUpon gX12_minds_X12_fallsUpon (ci := 11) rfl (lt_k (s2.le c1.hn) (by omega)) O2 rfl (Nat.le_of_ble_eq_true rfl) dX12_minds_70 ?_
      rintro _ h3 ⟨rfl, s3, c3⟩
      have c3 : MS h3 (wq s (mdN o a b q)) := c3
      show AX w M_X12_minds 0 0 73 [.ref 87, .int (nI N), .int (q 6 + q 7 - z0), .int (nI i), .int (nI (qt q)), .int (nI (faN a b q (mdA o a b q)))] [.int (oI (nxN o (qr (dwN q)) (faN a b q (mdA o a b q)))), .int (q 6 + q 7 - z0)] _ _
      refine AX.if_ne (pc := 73) (tgt := 80) dX12_minds_73 (by decide) (fun q => absurd (by rw [hz]; rfl) q) (fun hc73 => ?_)
      refine AX.iconst (pc := 76) (v := nI 1) dX12_minds_76 (by decide) ?_
      refine AX.goto (pc := 77) (tgt := 81) dX12_minds_77 (by decide) ?_
      refine AX.iadd (pc := 81) dX12_minds_81 ?_
      refine AX.istore_n (pc := 82) (L' := [.ref 87, .int (nI N), .int ((q 6 + q 7 - z0) + (nI 1)), .int (nI i), .int (nI (qt q)), .int (nI (faN a b q (mdA o a b q)))]) dX12_minds_82 (by decide) rfl ?_
      refine AX.iincN (c := i + 1) (pc := 83) (L' := [.ref 87, .int (nI N), .int ((q 6 + q 7 - z0) + (nI 1)), .int (nI (i + 1)), .int (nI (qt q)), .int (nI (faN a b q (mdA o a b q)))]) dX12_minds_83 rfl (inc1 _) (by decide) rfl ?_
      refine AX.goto (pc := 86) (tgt := 19) dX12_minds_86 (by decide) ?_
      have ew : (q 6 + q 7 - z0) + (nI 1) = mdN o a b q 6 + mdN o a b q 7 - z0 := th_hit l.draw z0 hz
      refine AX.atL (L' := [.ref 87, .int (nI N), .int (mdN o a b q 6 + mdN o a b q 7 - z0), .int (nI (i + 1)), .int (nI (qt q)), .int (nI (faN a b q (mdA o a b q)))]) (by rw [ew]) ?_
      refine AX.sub (L' := [.ref 87, .int (nI N), .int (mdN o a b q 6 + mdN o a b q 7 - z0), .int (nI (i + 1)), .null, .null]) ⟨Or.inr rfl, Or.inr rfl, Or.inr rfl, Or.inr rfl, Or.inl rfl, Or.inl rfl, trivial⟩ ?_
      exact l_mMinds w P h0 hN hP g (i + 1) (n + 1) h3 _ (by omega) c3 l.at1 (hS.trans ((mdS_lt s1 (by decide)).trans ((mdS_lt s2 (by decide)).trans (mdS_lt s3 (by decide))))) hq
    refine AX.iload_n (pc := 19) dX12_minds_19 rfl ?_
    refine AX.iload_n (pc := 20) dX12_minds_20 rfl ?_
    refine AX.icmp_geN (pc := 21) (tgt := 89) dX12_minds_21 (by decide) (by omega) (by omega) (fun q => absurd q (by omega)) (fun hc21 => ?_)
    refine AX.aload_n (pc := 24) dX12_minds_24 rfl ?_
    refine AX.getf (pc := 25) fX12_minds_13 (lt_k c.hn (by omega)) hO rfl dX12_minds_25 ?_
    refine AX.bipush (pc := 28) (v := nI 15) dX12_minds_28 (by decide) ?_
    refine AX.ialdN (pc := 30) (i := 15) (v := (nI (qt q))) (lt_k c.hn (by omega)) e89 (by decide) (by decide) ((q89 _ (by omega)).trans e15) dX12_minds_30 ?_
    refine AX.istore (pc := 31) (L' := [.ref 87, .int (nI N), .int (q 6 + q 7 - z0), .int (nI i), .int (nI (qt q)), .null]) dX12_minds_31 (by decide) rfl ?_
    refine AX.aload_n (pc := 33) dX12_minds_33 rfl ?_
    refine AX.iload (pc := 34) dX12_minds_34 rfl ?_
    refine AX.callV (pc := 36) (M2 := M_X12_layDarts) (As := [.int (nI (qt q))]) (rest := []) (c_layDarts w h c.hn hO c.nw c.rg c.fx c.dt t1 hs1 hr1 l.q12 l.ho hs2 hr2) xc_X12_minds__X12_layDarts gX12_minds_X12_layDarts (ci := 11) rfl (lt_k c.hn (by omega)) hO rfl (Nat.le_of_ble_eq_true rfl) dX12_minds_36 ?_
    rintro _ h1 ⟨rfl, s1, ⟨xx, O1⟩, X1, T1, fd, fa, e93, e94, tab⟩
    have c1 : MS h1 (wq s q) := c.darts s1 (MS.obv hv 1 (by decide) O1) X1 T1
    show AX w M_X12_minds 0 0 39 [.ref 87, .int (nI N), .int (q 6 + q 7 - z0), .int (nI i), .int (nI (qt q)), .null] [] _ _
    refine AX.aload_n (pc := 39) dX12_minds_39 rfl ?_
    refine AX.aload_n (pc := 40) dX12_minds_40 rfl ?_
    refine AX.getf (pc := 41) fX12_minds_29 (lt_k (s1.le c.hn) (by omega)) O1 rfl dX12_minds_41 ?_
    refine AX.sipush (pc := 44) (v := nI 502) dX12_minds_44 (by decide) ?_
    refine AX.iload (pc := 47) dX12_minds_47 rfl ?_
    refine AX.imulN (pc := 49) (c := 502 * (qt q)) dX12_minds_49 rfl ?_
    refine AX.aload_n (pc := 50) dX12_minds_50 rfl ?_
    refine AX.getf (pc := 51) fX12_minds_13 (lt_k (s1.le c.hn) (by omega)) O1 rfl dX12_minds_51 ?_
    refine AX.iconst (pc := 54) (v := nI 4) dX12_minds_54 (by decide) ?_
    refine AX.iload (pc := 55) dX12_minds_55 rfl ?_
    refine AX.iaddN (pc := 57) (c := 4 + (qt q)) dX12_minds_57 rfl ?_
    refine AX.ialdN (pc := 58) (i := 4 + (qt q)) (v := (nI (qr q))) (lt_k (s1.le c.hn) (by omega)) (s1.at (by simp) e89) (by decide) (by omega) ((q89 _ (by omega)).trans e4) dX12_minds_58 ?_
    refine AX.iaddN (pc := 59) (c := 502 * (qt q) + (qr q)) dX12_minds_59 rfl ?_
    refine AX.ialdN (pc := 60) (i := 502 * (qt q) + (qr q)) (v := (nI (mdA o a b q))) (lt_k (s1.le c.hn) (by omega)) e94 (by decide) (by omega) ((tab.2 (qr q) r1 r5).2) dX12_minds_60 ?_
    refine AX.callV (pc := 61) (M2 := M_X12_drawn) (As := [.int (nI (mdA o a b q))]) (rest := []) (c_mDrawn w h1 c1 l hm1 hm2) xc_X12_minds__X12_drawn gX12_minds_X12_drawn (ci := 11) rfl (lt_k (s1.le c.hn) (by omega)) O1 rfl (Nat.le_of_ble_eq_true rfl) dX12_minds_61 ?_
    rintro _ h2 ⟨rfl, s2, c2⟩
    have c2 : MS h2 (wq s (dwN q)) := c2
    obtain ⟨v2, O2, -⟩ := id c2.ob
    show AX w M_X12_minds 0 0 64 [.ref 87, .int (nI N), .int (q 6 + q 7 - z0), .int (nI i), .int (nI (qt q)), .null] [.int (nI (faN a b q (mdA o a b q)))] _ _
    refine AX.istore (pc := 64) (L' := [.ref 87, .int (nI N), .int (q 6 + q 7 - z0), .int (nI i), .int (nI (qt q)), .int (nI (faN a b q (mdA o a b q)))]) dX12_minds_64 (by decide) rfl ?_
    refine AX.iload_n (pc := 66) dX12_minds_66 rfl ?_
    refine AX.aload_n (pc := 67) dX12_minds_67 rfl ?_
    refine AX.iload (pc := 68) dX12_minds_68 rfl ?_
    refine AX.callV (pc := 70) (M2 := M_X12_fallsUpon) (As := [.int (nI (faN a b q (mdA o a b q)))]) (rest := [.int (q 6 + q 7 - z0)]) (c_mUponS w h2 c2 l.draw (x := faN a b q (mdA o a b q)) hfa) xc_X12_minds__X12_fallsUpon gX12_minds_X12_fallsUpon (ci := 11) rfl (lt_k (s2.le c1.hn) (by omega)) O2 rfl (Nat.le_of_ble_eq_true rfl) dX12_minds_70 ?_
    rintro _ h3 ⟨rfl, s3, c3⟩
    have c3 : MS h3 (wq s (mdN o a b q)) := c3
    show AX w M_X12_minds 0 0 73 [.ref 87, .int (nI N), .int (q 6 + q 7 - z0), .int (nI i), .int (nI (qt q)), .int (nI (faN a b q (mdA o a b q)))] [.int (oI (nxN o (qr (dwN q)) (faN a b q (mdA o a b q)))), .int (q 6 + q 7 - z0)] _ _
    refine AX.if_ne (pc := 73) (tgt := 80) dX12_minds_73 (by decide) (fun hc73 => ?_) (fun q => absurd q (oI_n0 hz hnb))
    refine AX.iconst (pc := 80) (v := nI 0) dX12_minds_80 (by decide) ?_
    refine AX.iadd (pc := 81) dX12_minds_81 ?_
    refine AX.istore_n (pc := 82) (L' := [.ref 87, .int (nI N), .int ((q 6 + q 7 - z0) + (nI 0)), .int (nI i), .int (nI (qt q)), .int (nI (faN a b q (mdA o a b q)))]) dX12_minds_82 (by decide) rfl ?_
    refine AX.iincN (c := i + 1) (pc := 83) (L' := [.ref 87, .int (nI N), .int ((q 6 + q 7 - z0) + (nI 0)), .int (nI (i + 1)), .int (nI (qt q)), .int (nI (faN a b q (mdA o a b q)))]) dX12_minds_83 rfl (inc1 _) (by decide) rfl ?_
    refine AX.goto (pc := 86) (tgt := 19) dX12_minds_86 (by decide) ?_
    have ew : (q 6 + q 7 - z0) + (nI 0) = mdN o a b q 6 + mdN o a b q 7 - z0 := th_no l.draw z0 hz
    refine AX.atL (L' := [.ref 87, .int (nI N), .int (mdN o a b q 6 + mdN o a b q 7 - z0), .int (nI (i + 1)), .int (nI (qt q)), .int (nI (faN a b q (mdA o a b q)))]) (by rw [ew]) ?_
    refine AX.sub (L' := [.ref 87, .int (nI N), .int (mdN o a b q 6 + mdN o a b q 7 - z0), .int (nI (i + 1)), .null, .null]) ⟨Or.inr rfl, Or.inr rfl, Or.inr rfl, Or.inr rfl, Or.inl rfl, Or.inl rfl, trivial⟩ ?_
    exact l_mMinds w P h0 hN hP g (i + 1) (n + 1) h3 _ (by omega) c3 l.at1 (hS.trans ((mdS_lt s1 (by decide)).trans ((mdS_lt s2 (by decide)).trans (mdS_lt s3 (by decide))))) hq
theorem c_mMinds (w : XW) (h : XH) {s : SS} {n o : Nat} {a b : Nat × Nat} (c : MS h s) (l : LV (sq s) n o a b) (x : Int32) : CA w M_X12_minds [.ref 87, .int x] h (fun v' h'' => v' = some (.int (aMinds o a b (sq s) x)) ∧ Same mdS h h'' ∧ MS h'' (wq s (nMinds o a b (sq s) x))) := by
  obtain ⟨v, hO, hv⟩ := id c.ob
  obtain ⟨f89, e89, q89⟩ := id c.nw
  by_cases h_x : inR 1 12 x
  · obtain ⟨xn, rfl, l_x, u_x⟩ := inR_nat (by decide) h_x
    have en : nMinds o a b (sq s) (nI xn) = mdI o a b xn (sq s) := by unfold nMinds; rw [if_pos h_x, nI_nat (by omega)]
    rw [en, show aMinds o a b (sq s) (nI xn) = mdI o a b xn (sq s) 6 + mdI o a b xn (sq s) 7 - (sq s 6 + sq s 7) from by unfold aMinds; rw [if_pos h_x, nI_nat (by omega)]]
    refine CA.of (by decide) rfl (fun _ => Nat.le_of_ble_eq_true rfl) ?_
    show AX w M_X12_minds 0 0 0 [.ref 87, .int (nI xn), .null, .null, .null, .null] [] h _
    refine AX.iload_n (pc := 0) dX12_minds_0 rfl ?_
    refine AX.i2l (pc := 1) dX12_minds_1 ?_
    refine AX.lconst (pc := 2) (v := 1) dX12_minds_2 (by decide) ?_
    refine AX.ldc2 (pc := 3) (v := 12) dX12_minds_3 cX12_minds_298 ?_
    refine AX.callS (pc := 6) (M2 := M_X12_in) (As := [.long ((nI xn).toInt64), .long 1, .long 12]) (rest := []) (c_in w h ((nI xn).toInt64) (1) (12)) xc_X12_minds__X12_in gX12_minds_X12_in rfl (Nat.le_of_ble_eq_true rfl) dX12_minds_6 ?_
    rintro _ h9 ⟨rfl, e9⟩
    have e9 := e9.symm
    subst e9
    rw [decide_eq_true ((in_iff (by decide) (by decide)).mpr h_x)]
    show AX w M_X12_minds 0 0 9 [.ref 87, .int (nI xn), .null, .null, .null, .null] [.int (bI true)] _ _
    refine AX.if_neB (pc := 9) (tgt := 15) dX12_minds_9 (by decide) (fun hc9 => ?_) (fun q => absurd q (by decide))
    refine AX.iconst (pc := 15) (v := nI 0) dX12_minds_15 (by decide) ?_
    refine AX.istore_n (pc := 16) (L' := [.ref 87, .int (nI xn), .int (nI 0), .null, .null, .null]) dX12_minds_16 (by decide) rfl ?_
    refine AX.iconst (pc := 17) (v := nI 0) dX12_minds_17 (by decide) ?_
    refine AX.istore_n (pc := 18) (L' := [.ref 87, .int (nI xn), .int (nI 0), .int (nI 0), .null, .null]) dX12_minds_18 (by decide) rfl ?_
    refine AX.atL (L' := [.ref 87, .int (nI xn), .int (sq s 6 + sq s 7 - (sq s 6 + sq s 7)), .int (nI 0), .null, .null]) (by rw [← i32_self]) ?_
    exact l_mMinds w _ h u_x (fun h' a1 a2 => ⟨rfl, a1, a2⟩) xn 0 n h (sq s) (by omega) c l Same.rf rfl
  · refine CA.of (by decide) rfl (fun _ => Nat.le_of_ble_eq_true rfl) ?_
    show AX w M_X12_minds 0 0 0 [.ref 87, .int x, .null, .null, .null, .null] [] h _
    refine AX.iload_n (pc := 0) dX12_minds_0 rfl ?_
    refine AX.i2l (pc := 1) dX12_minds_1 ?_
    refine AX.lconst (pc := 2) (v := 1) dX12_minds_2 (by decide) ?_
    refine AX.ldc2 (pc := 3) (v := 12) dX12_minds_3 cX12_minds_298 ?_
    refine AX.callS (pc := 6) (M2 := M_X12_in) (As := [.long x.toInt64, .long 1, .long 12]) (rest := []) (c_in w h (x.toInt64) (1) (12)) xc_X12_minds__X12_in gX12_minds_X12_in rfl (Nat.le_of_ble_eq_true rfl) dX12_minds_6 ?_
    rintro _ h9 ⟨rfl, e9⟩
    have e9 := e9.symm
    subst e9
    rw [decide_eq_false (fun q => h_x ((in_iff (by decide) (by decide)).mp q))]
    show AX w M_X12_minds 0 0 9 [.ref 87, .int x, .null, .null, .null, .null] [.int (bI false)] _ _
    refine AX.if_neB (pc := 9) (tgt := 15) dX12_minds_9 (by decide) (fun q => absurd q (by decide)) (fun hc9 => ?_)
    refine AX.bipush (pc := 12) (v := (-2)) dX12_minds_12 (by decide) ?_
    refine AX.iret (pc := 14) dX12_minds_14 rfl rfl (by decide) (by decide) ?_
    have en : nMinds o a b (sq s) x = sq s := by unfold nMinds; rw [if_neg h_x]
    rw [en]
    exact ⟨by unfold aMinds; rw [if_neg h_x]; try rfl, Same.rf, c⟩
theorem c_mSeed (w : XW) (h : XH) {s : SS} {n o : Nat} {a b : Nat × Nat} (c : MS h s) (l : LV (sq s) n o a b) (x : Int32) : CA w M_X12_seed [.ref 87, .int x] h (fun v' h'' => v' = some (.int (sq s 18)) ∧ Same mdS h h'' ∧ MS h'' (wq s (nSeed (sq s) x))) := by
  obtain ⟨v, hO, hv⟩ := id c.ob
  obtain ⟨f89, e89, q89⟩ := id c.nw
  refine CA.of (by decide) rfl (fun _ => Nat.le_of_ble_eq_true rfl) ?_
  show AX w M_X12_seed 0 0 0 [.ref 87, .int x, .null] [] h _
  refine AX.aload_n (pc := 0) dX12_seed_0 rfl ?_
  refine AX.getf (pc := 1) fX12_seed_13 (lt_k c.hn (by omega)) hO rfl dX12_seed_1 ?_
  refine AX.bipush (pc := 4) (v := nI 18) dX12_seed_4 (by decide) ?_
  refine AX.ialdN (pc := 6) (i := 18) (v := (sq s 18)) (lt_k c.hn (by omega)) e89 (by decide) (by decide) (q89 _ (by omega)) dX12_seed_6 ?_
  refine AX.istore_n (pc := 7) (L' := [.ref 87, .int x, .int (sq s 18)]) dX12_seed_7 (by decide) rfl ?_
  refine AX.aload_n (pc := 8) dX12_seed_8 rfl ?_
  refine AX.getf (pc := 9) fX12_seed_13 (lt_k c.hn (by omega)) hO rfl dX12_seed_9 ?_
  refine AX.bipush (pc := 12) (v := nI 18) dX12_seed_12 (by decide) ?_
  refine AX.iload_n (pc := 14) dX12_seed_14 rfl ?_
  refine AX.iastN (pc := 15) (i := 18) (g := upd f89 18 x) (lt_k c.hn (by omega)) e89 (by decide) (by decide) rfl dX12_seed_15 ?_
  refine AX.iload_n (pc := 16) dX12_seed_16 rfl ?_
  refine AX.iret (pc := 17) dX12_seed_17 rfl rfl (by decide) (by decide) ?_
  have sx : Same [89] h (xset h 89 (.inl (0, 19, .inl (upd f89 18 x)))) := Same.set (Same.rf) (by simp)
  exact ⟨rfl, mdS_lt sx (by decide), c.now sx ⟨_, (xset_same _ _ _), upd_agree q89⟩⟩
theorem c_mAvg (w : XW) (h : XH) {s : SS} {n o : Nat} {a b : Nat × Nat} (c : MS h s) (l : LV (sq s) n o a b) (hn_ : n ≤ 100000) (x : Int32) : CA w M_X12_average [.ref 87, .int x] h (fun v' h'' => v' = some (.int (aAvg (sq s) x)) ∧ h'' = h) := by
  obtain ⟨v, hO, hv⟩ := id c.ob
  obtain ⟨f89, e89, q89⟩ := id c.nw
  by_cases h_x : inR 0 1 x
  · obtain ⟨xn, rfl, l_x, u_x⟩ := inR_nat (by decide) h_x
    obtain ⟨k, hk, kn⟩ := l.th (8 + xn) (by omega)
    by_cases hz : k = 0
    · subst hz
      refine CA.of (by decide) rfl (fun _ => Nat.le_of_ble_eq_true rfl) ?_
      show AX w M_X12_average 0 0 0 [.ref 87, .int (nI xn)] [] h _
      refine AX.iload_n (pc := 0) dX12_average_0 rfl ?_
      refine AX.callS (pc := 1) (M2 := M_X12_isPlayer) (As := [.int (nI xn)]) (rest := []) (c_mPlayer w h (nI xn)) xc_X12_average__X12_isPlayer gX12_average_X12_isPlayer rfl (Nat.le_of_ble_eq_true rfl) dX12_average_1 ?_
      rintro _ h9 ⟨rfl, e9⟩
      have e9 := e9.symm
      subst e9
      rw [decide_eq_true h_x]
      show AX w M_X12_average 0 0 4 [.ref 87, .int (nI xn)] [.int (bI true)] _ _
      refine AX.if_neB (pc := 4) (tgt := 9) dX12_average_4 (by decide) (fun hc4 => ?_) (fun q => absurd q (by decide))
      refine AX.aload_n (pc := 9) dX12_average_9 rfl ?_
      refine AX.getf (pc := 10) fX12_average_13 (lt_k c.hn (by omega)) hO rfl dX12_average_10 ?_
      refine AX.bipush (pc := 13) (v := nI 8) dX12_average_13 (by decide) ?_
      refine AX.iload_n (pc := 15) dX12_average_15 rfl ?_
      refine AX.iaddN (pc := 16) (c := 8 + xn) dX12_average_16 rfl ?_
      refine AX.ialdN (pc := 17) (i := 8 + xn) (v := (nI 0)) (lt_k c.hn (by omega)) e89 (by decide) (by omega) ((q89 _ (by omega)).trans hk) dX12_average_17 ?_
      refine AX.if_neN (pc := 18) (tgt := 25) dX12_average_18 (by decide) (by decide) (fun q => absurd q (by decide)) (fun hc18 => ?_)
      refine AX.iconst (pc := 21) (v := nI 0) dX12_average_21 (by decide) ?_
      refine AX.goto (pc := 22) (tgt := 53) dX12_average_22 (by decide) ?_
      refine AX.iret (pc := 53) dX12_average_53 rfl rfl (by decide) (by decide) ?_
      exact ⟨by unfold aAvg; rw [if_pos h_x]; show _ = some (Value.int (if sq s (8 + (nI xn).toNatClampNeg) = nI 0 then _ else (avF (sq s (10 + (nI xn).toNatClampNeg)) (sq s (8 + (nI xn).toNatClampNeg))).toInt32)); rw [nI_nat (show xn < 2147483648 by omega)]; rw [if_pos hk], rfl⟩
    have av := avF_ok (p := sq s (10 + xn)) (k := k) (by omega) (by omega)
    have hk0 : ¬ sq s (8 + xn) = nI 0 := by rw [hk]; exact fun q => hz (nI_inj (by omega) (by omega) q)
    refine CA.of (by decide) rfl (fun _ => Nat.le_of_ble_eq_true rfl) ?_
    show AX w M_X12_average 0 0 0 [.ref 87, .int (nI xn)] [] h _
    refine AX.iload_n (pc := 0) dX12_average_0 rfl ?_
    refine AX.callS (pc := 1) (M2 := M_X12_isPlayer) (As := [.int (nI xn)]) (rest := []) (c_mPlayer w h (nI xn)) xc_X12_average__X12_isPlayer gX12_average_X12_isPlayer rfl (Nat.le_of_ble_eq_true rfl) dX12_average_1 ?_
    rintro _ h9 ⟨rfl, e9⟩
    have e9 := e9.symm
    subst e9
    rw [decide_eq_true h_x]
    show AX w M_X12_average 0 0 4 [.ref 87, .int (nI xn)] [.int (bI true)] _ _
    refine AX.if_neB (pc := 4) (tgt := 9) dX12_average_4 (by decide) (fun hc4 => ?_) (fun q => absurd q (by decide))
    refine AX.aload_n (pc := 9) dX12_average_9 rfl ?_
    refine AX.getf (pc := 10) fX12_average_13 (lt_k c.hn (by omega)) hO rfl dX12_average_10 ?_
    refine AX.bipush (pc := 13) (v := nI 8) dX12_average_13 (by decide) ?_
    refine AX.iload_n (pc := 15) dX12_average_15 rfl ?_
    refine AX.iaddN (pc := 16) (c := 8 + xn) dX12_average_16 rfl ?_
    refine AX.ialdN (pc := 17) (i := 8 + xn) (v := (nI k)) (lt_k c.hn (by omega)) e89 (by decide) (by omega) ((q89 _ (by omega)).trans hk) dX12_average_17 ?_
    refine AX.if_neN (pc := 18) (tgt := 25) dX12_average_18 (by decide) (by omega) (fun hc18 => ?_) (fun q => absurd q (by omega))
    refine AX.ldcwf (pc := 25) (v := 1077936128) dX12_average_25 cX12_average_300 ?_
    refine AX.aload_n (pc := 28) dX12_average_28 rfl ?_
    refine AX.getf (pc := 29) fX12_average_13 (lt_k c.hn (by omega)) hO rfl dX12_average_29 ?_
    refine AX.bipush (pc := 32) (v := nI 10) dX12_average_32 (by decide) ?_
    refine AX.iload_n (pc := 34) dX12_average_34 rfl ?_
    refine AX.iaddN (pc := 35) (c := 10 + xn) dX12_average_35 rfl ?_
    refine AX.ialdN (pc := 36) (i := 10 + xn) (v := (sq s (10 + xn))) (lt_k c.hn (by omega)) e89 (by decide) (by omega) (q89 _ (by omega)) dX12_average_36 ?_
    refine AX.i2f (pc := 37) dX12_average_37 ?_
    refine AX.fmul (pc := 38) dX12_average_38 (n32_of (by have := fmul_lt (sq s (10 + xn)); show (FP.fmul 1077936128 (FP.i2f (sq s (10 + xn)))).toNat % 2147483648 < _; omega)) ?_
    refine AX.aload_n (pc := 39) dX12_average_39 rfl ?_
    refine AX.getf (pc := 40) fX12_average_13 (lt_k c.hn (by omega)) hO rfl dX12_average_40 ?_
    refine AX.bipush (pc := 43) (v := nI 8) dX12_average_43 (by decide) ?_
    refine AX.iload_n (pc := 45) dX12_average_45 rfl ?_
    refine AX.iaddN (pc := 46) (c := 8 + xn) dX12_average_46 rfl ?_
    refine AX.ialdN (pc := 47) (i := 8 + xn) (v := (nI k)) (lt_k c.hn (by omega)) e89 (by decide) (by omega) ((q89 _ (by omega)).trans hk) dX12_average_47 ?_
    refine AX.i2f (pc := 48) dX12_average_48 ?_
    refine AX.fdiv (pc := 49) dX12_average_49 (n32_of av.1) ?_
    refine AX.callS (pc := 50) (M2 := M_Jxf58ca_floatToIntBits_5c35a) (As := [.float (FP.fdiv (FP.fmul 1077936128 (FP.i2f (sq s (10 + xn)))) (FP.i2f (nI k)))]) (rest := []) (c_f2bits w h (x := avF (sq s (10 + xn)) (nI k)) (ft_nn av.1)) xc_X12_average__Jxf58ca_floatToIntBits_5c35a gX12_average_Jxf58ca_floatToIntBits_5c35a rfl (Nat.le_of_ble_eq_true rfl) dX12_average_50 ?_
    rintro _ h9 ⟨rfl, e9⟩
    have e9 := e9.symm
    subst e9
    show AX w M_X12_average 0 0 53 [.ref 87, .int (nI xn)] [.int ((avF (sq s (10 + xn)) (nI k)).toInt32)] _ _
    refine AX.iret (pc := 53) dX12_average_53 rfl rfl (by decide) (by decide) ?_
    exact ⟨by unfold aAvg; rw [if_pos h_x]; show _ = some (Value.int (if sq s (8 + (nI xn).toNatClampNeg) = nI 0 then _ else (avF (sq s (10 + (nI xn).toNatClampNeg)) (sq s (8 + (nI xn).toNatClampNeg))).toInt32)); rw [nI_nat (show xn < 2147483648 by omega)]; rw [if_neg hk0, hk], rfl⟩
  · refine CA.of (by decide) rfl (fun _ => Nat.le_of_ble_eq_true rfl) ?_
    show AX w M_X12_average 0 0 0 [.ref 87, .int x] [] h _
    refine AX.iload_n (pc := 0) dX12_average_0 rfl ?_
    refine AX.callS (pc := 1) (M2 := M_X12_isPlayer) (As := [.int x]) (rest := []) (c_mPlayer w h x) xc_X12_average__X12_isPlayer gX12_average_X12_isPlayer rfl (Nat.le_of_ble_eq_true rfl) dX12_average_1 ?_
    rintro _ h9 ⟨rfl, e9⟩
    have e9 := e9.symm
    subst e9
    rw [decide_eq_false h_x]
    show AX w M_X12_average 0 0 4 [.ref 87, .int x] [.int (bI false)] _ _
    refine AX.if_neB (pc := 4) (tgt := 9) dX12_average_4 (by decide) (fun q => absurd q (by decide)) (fun hc4 => ?_)
    refine AX.iconst (pc := 7) (v := (-1)) dX12_average_7 (by decide) ?_
    refine AX.iret (pc := 8) dX12_average_8 rfl rfl (by decide) (by decide) ?_
    exact ⟨by unfold aAvg; rw [if_neg h_x]; try rfl, rfl⟩
theorem c_toldIn (w : XW) (h : XH) {s : SS} (c : MS h s) {p j x : Nat} (hp : p ≤ 1) (hj : j ≤ 5) (h10 : 10 ≤ x) (hx : x < 2147483648) : CA w M_X12_toldOf [.ref 87, .int (nI p), .int (nI j), .int (nI x)] h (fun v' h'' => v' = some (.int (if j < 4 then sq s (4 + 2 * j + p) else sq s (2 * (j - 4) + p))) ∧ h'' = h) := by
  refine CA.of (by decide) rfl (fun _ => Nat.le_of_ble_eq_true rfl) ?_
  obtain ⟨v, hO, hv⟩ := id c.ob
  obtain ⟨f89, e89, q89⟩ := id c.nw
  show AX w M_X12_toldOf 0 0 0 [.ref 87, .int (nI p), .int (nI j), .int (nI x)] [] h _
  refine AX.iload_n (pc := 0) dX12_toldOf_0 rfl ?_
  refine AX.bipush (pc := 1) (v := nI 10) dX12_toldOf_1 (by decide) ?_
  refine AX.icmp_ltN (pc := 3) (tgt := 18) dX12_toldOf_3 (by decide) (by omega) (by decide) (fun q => absurd q (by omega)) (fun hc3 => ?_)
  refine AX.iload_n (pc := 6) dX12_toldOf_6 rfl ?_
  refine AX.callS (pc := 7) (M2 := M_X12_isPlayer) (As := [.int (nI p)]) (rest := []) (c_mPlayer w h (nI p)) xc_X12_toldOf__X12_isPlayer gX12_toldOf_X12_isPlayer rfl (Nat.le_of_ble_eq_true rfl) dX12_toldOf_7 ?_
  rintro _ h9 ⟨rfl, e9⟩
  have e9 := e9.symm
  subst e9
  rw [decide_eq_true (show inR 0 1 (nI p) from ⟨by rw [iN p (by omega)]; omega, by rw [iN p (by omega)]; omega⟩)]
  show AX w M_X12_toldOf 0 0 10 [.ref 87, .int (nI p), .int (nI j), .int (nI x)] [.int (bI true)] _ _
  refine AX.if_eqB (pc := 10) (tgt := 18) dX12_toldOf_10 (by decide) (fun q => absurd q (by decide)) (fun hc10 => ?_)
  refine AX.iload_n (pc := 13) dX12_toldOf_13 rfl ?_
  refine AX.iconst (pc := 14) (v := nI 5) dX12_toldOf_14 (by decide) ?_
  refine AX.icmp_leN (pc := 15) (tgt := 20) dX12_toldOf_15 (by decide) (by omega) (by decide) (fun hc15 => ?_) (fun q => absurd q (by omega))
  refine AX.iload_n (pc := 20) dX12_toldOf_20 rfl ?_
  refine AX.iconst (pc := 21) (v := nI 4) dX12_toldOf_21 (by decide) ?_
  refine AX.icmp_geN (pc := 22) (tgt := 40) dX12_toldOf_22 (by decide) (by omega) (by decide) (fun hc22 => ?_) (fun hc22 => ?_)
  · refine AX.aload_n (pc := 40) dX12_toldOf_40 rfl ?_
    refine AX.getf (pc := 41) fX12_toldOf_13 (lt_k c.hn (by omega)) hO rfl dX12_toldOf_41 ?_
    refine AX.iconst (pc := 44) (v := nI 2) dX12_toldOf_44 (by decide) ?_
    refine AX.iload_n (pc := 45) dX12_toldOf_45 rfl ?_
    refine AX.iconst (pc := 46) (v := nI 4) dX12_toldOf_46 (by decide) ?_
    refine AX.isubN (pc := 47) (c := j - 4) dX12_toldOf_47 (by omega) ?_
    refine AX.imulN (pc := 48) (c := 2 * (j - 4)) dX12_toldOf_48 rfl ?_
    refine AX.iload_n (pc := 49) dX12_toldOf_49 rfl ?_
    refine AX.iaddN (pc := 50) (c := 2 * (j - 4) + p) dX12_toldOf_50 rfl ?_
    refine AX.ialdN (pc := 51) (i := 2 * (j - 4) + p) (v := (sq s (2 * (j - 4) + p))) (lt_k c.hn (by omega)) e89 (by decide) (by omega) (q89 _ (by omega)) dX12_toldOf_51 ?_
    refine AX.iret (pc := 52) dX12_toldOf_52 rfl rfl (by decide) (by decide) ?_
    exact ⟨by rw [if_neg (by omega)], rfl⟩
  · refine AX.aload_n (pc := 25) dX12_toldOf_25 rfl ?_
    refine AX.getf (pc := 26) fX12_toldOf_13 (lt_k c.hn (by omega)) hO rfl dX12_toldOf_26 ?_
    refine AX.iconst (pc := 29) (v := nI 4) dX12_toldOf_29 (by decide) ?_
    refine AX.iconst (pc := 30) (v := nI 2) dX12_toldOf_30 (by decide) ?_
    refine AX.iload_n (pc := 31) dX12_toldOf_31 rfl ?_
    refine AX.imulN (pc := 32) (c := 2 * j) dX12_toldOf_32 rfl ?_
    refine AX.iaddN (pc := 33) (c := 4 + (2 * j)) dX12_toldOf_33 rfl ?_
    refine AX.iload_n (pc := 34) dX12_toldOf_34 rfl ?_
    refine AX.iaddN (pc := 35) (c := 4 + (2 * j) + p) dX12_toldOf_35 rfl ?_
    refine AX.ialdN (pc := 36) (i := 4 + (2 * j) + p) (v := (sq s (4 + (2 * j) + p))) (lt_k c.hn (by omega)) e89 (by decide) (by omega) (q89 _ (by omega)) dX12_toldOf_36 ?_
    refine AX.goto (pc := 37) (tgt := 52) dX12_toldOf_37 (by decide) ?_
    refine AX.iret (pc := 52) dX12_toldOf_52 rfl rfl (by decide) (by decide) ?_
    exact ⟨by rw [if_pos hc22], rfl⟩
theorem c_toldNo1 (w : XW) (h : XH) {s : SS} (c : MS h s) (y z x : Int32) (hx : x.toInt < 10) : CA w M_X12_toldOf [.ref 87, .int y, .int z, .int x] h (fun v' h'' => v' = some (.int (-1)) ∧ h'' = h) := by
  refine CA.of (by decide) rfl (fun _ => Nat.le_of_ble_eq_true rfl) ?_
  obtain ⟨v, hO, hv⟩ := id c.ob
  show AX w M_X12_toldOf 0 0 0 [.ref 87, .int y, .int z, .int x] [] h _
  refine AX.iload_n (pc := 0) dX12_toldOf_0 rfl ?_
  refine AX.bipush (pc := 1) (v := nI 10) dX12_toldOf_1 (by decide) ?_
  refine AX.icmp_lt (pc := 3) (tgt := 18) dX12_toldOf_3 (by decide) (fun hc3 => ?_) (fun q => absurd (ltT rfl (iN 10 (by decide)) (by omega)) q)
  refine AX.iconst (pc := 18) (v := (-1)) dX12_toldOf_18 (by decide) ?_
  refine AX.iret (pc := 19) dX12_toldOf_19 rfl rfl (by decide) (by decide) ?_
  exact ⟨rfl, rfl⟩
theorem c_toldNo2 (w : XW) (h : XH) {s : SS} (c : MS h s) {p x : Nat} (z : Int32) (hp : 2 ≤ p) (hp2 : p < 2147483648) (h10 : 10 ≤ x) (hx : x < 2147483648) : CA w M_X12_toldOf [.ref 87, .int (nI p), .int z, .int (nI x)] h (fun v' h'' => v' = some (.int (-1)) ∧ h'' = h) := by
  refine CA.of (by decide) rfl (fun _ => Nat.le_of_ble_eq_true rfl) ?_
  obtain ⟨v, hO, hv⟩ := id c.ob
  show AX w M_X12_toldOf 0 0 0 [.ref 87, .int (nI p), .int z, .int (nI x)] [] h _
  refine AX.iload_n (pc := 0) dX12_toldOf_0 rfl ?_
  refine AX.bipush (pc := 1) (v := nI 10) dX12_toldOf_1 (by decide) ?_
  refine AX.icmp_ltN (pc := 3) (tgt := 18) dX12_toldOf_3 (by decide) (by omega) (by decide) (fun q => absurd q (by omega)) (fun hc3 => ?_)
  refine AX.iload_n (pc := 6) dX12_toldOf_6 rfl ?_
  refine AX.callS (pc := 7) (M2 := M_X12_isPlayer) (As := [.int (nI p)]) (rest := []) (c_mPlayer w h (nI p)) xc_X12_toldOf__X12_isPlayer gX12_toldOf_X12_isPlayer rfl (Nat.le_of_ble_eq_true rfl) dX12_toldOf_7 ?_
  rintro _ h9 ⟨rfl, e9⟩
  have e9 := e9.symm
  subst e9
  rw [decide_eq_false (show ¬ inR 0 1 (nI p) from fun q => by have q2 := q.2; rw [iN p (by omega)] at q2; omega)]
  show AX w M_X12_toldOf 0 0 10 [.ref 87, .int (nI p), .int z, .int (nI x)] [.int (bI false)] _ _
  refine AX.if_eqB (pc := 10) (tgt := 18) dX12_toldOf_10 (by decide) (fun hc10 => ?_) (fun q => absurd q (by decide))
  refine AX.iconst (pc := 18) (v := (-1)) dX12_toldOf_18 (by decide) ?_
  refine AX.iret (pc := 19) dX12_toldOf_19 rfl rfl (by decide) (by decide) ?_
  exact ⟨rfl, rfl⟩
theorem c_toldNo3 (w : XW) (h : XH) {s : SS} (c : MS h s) {p j x : Nat} (hp : p ≤ 1) (hj : 5 < j) (hj2 : j < 10) (h10 : 10 ≤ x) (hx : x < 2147483648) : CA w M_X12_toldOf [.ref 87, .int (nI p), .int (nI j), .int (nI x)] h (fun v' h'' => v' = some (.int (-1)) ∧ h'' = h) := by
  refine CA.of (by decide) rfl (fun _ => Nat.le_of_ble_eq_true rfl) ?_
  obtain ⟨v, hO, hv⟩ := id c.ob
  show AX w M_X12_toldOf 0 0 0 [.ref 87, .int (nI p), .int (nI j), .int (nI x)] [] h _
  refine AX.iload_n (pc := 0) dX12_toldOf_0 rfl ?_
  refine AX.bipush (pc := 1) (v := nI 10) dX12_toldOf_1 (by decide) ?_
  refine AX.icmp_ltN (pc := 3) (tgt := 18) dX12_toldOf_3 (by decide) (by omega) (by decide) (fun q => absurd q (by omega)) (fun hc3 => ?_)
  refine AX.iload_n (pc := 6) dX12_toldOf_6 rfl ?_
  refine AX.callS (pc := 7) (M2 := M_X12_isPlayer) (As := [.int (nI p)]) (rest := []) (c_mPlayer w h (nI p)) xc_X12_toldOf__X12_isPlayer gX12_toldOf_X12_isPlayer rfl (Nat.le_of_ble_eq_true rfl) dX12_toldOf_7 ?_
  rintro _ h9 ⟨rfl, e9⟩
  have e9 := e9.symm
  subst e9
  rw [decide_eq_true (show inR 0 1 (nI p) from ⟨by rw [iN p (by omega)]; omega, by rw [iN p (by omega)]; omega⟩)]
  show AX w M_X12_toldOf 0 0 10 [.ref 87, .int (nI p), .int (nI j), .int (nI x)] [.int (bI true)] _ _
  refine AX.if_eqB (pc := 10) (tgt := 18) dX12_toldOf_10 (by decide) (fun q => absurd q (by decide)) (fun hc10 => ?_)
  refine AX.iload_n (pc := 13) dX12_toldOf_13 rfl ?_
  refine AX.iconst (pc := 14) (v := nI 5) dX12_toldOf_14 (by decide) ?_
  refine AX.icmp_leN (pc := 15) (tgt := 20) dX12_toldOf_15 (by decide) (by omega) (by decide) (fun q => absurd q (by omega)) (fun hc15 => ?_)
  refine AX.iconst (pc := 18) (v := (-1)) dX12_toldOf_18 (by decide) ?_
  refine AX.iret (pc := 19) dX12_toldOf_19 rfl rfl (by decide) (by decide) ?_
  exact ⟨rfl, rfl⟩
theorem c_mTold (w : XW) (h : XH) {s : SS} {n o : Nat} {a b : Nat × Nat} (c : MS h s) (l : LV (sq s) n o a b) (x : Int32) : CA w M_X12_told [.ref 87, .int x] h (fun v' h'' => v' = some (.int (aTold s x)) ∧ h'' = h) := by
  obtain ⟨v, hO, hv⟩ := id c.ob
  obtain ⟨f89, e89, q89⟩ := id c.nw
  have hO2 : h.2 87 = .inr (11, [.ref 88, .ref 89, .ref 90, .int (v 0), .int (v 1), .ref 91, .ref 92, .ref 93, .ref 94, .ref 95, .ref 96, .ref 97, .ref 98, .ref 99, .ref 100, .ref 101, .int (v 2), .ref 102, .ref 103, .ref 104, .ref 105, .ref 106, .ref 107, .ref 108, .int (v 3), .ref 109, .int (v 4), .ref 110, .ref 111, .int (nI ((sX s).length)), .ref 112, .int (nI ((sT s).length)), .int (v 7), .int (v 8), .ref 113, .int (v 9), .ref 114, .ref 115, .ref 116, .ref 117]) := by rw [← hv.2.1, ← hv.2.2]; exact hO
  by_cases h1 : inR 0 8 x
  · obtain ⟨xn, rfl, l_x, u_x⟩ := inR_nat (by decide) h1
    rcases (show xn = 0 ∨ xn = 1 ∨ xn = 2 ∨ xn = 3 ∨ xn = 4 ∨ xn = 5 ∨ xn = 6 ∨ xn = 7 ∨ xn = 8 by omega) with rfl | rfl | rfl | rfl | rfl | rfl | rfl | rfl | rfl
    · refine CA.of (by decide) rfl (fun _ => Nat.le_of_ble_eq_true rfl) ?_
      show AX w M_X12_told 0 0 0 [.ref 87, .int (nI 0)] [] h _
      refine AX.iload_n (pc := 0) dX12_told_0 rfl ?_
      refine AX.tableIn (pc := 1) (off := 51) (tgt := 52) dX12_told_1 (by decide) (by decide) (by decide) (by decide) ?_
      refine AX.aload_n (pc := 52) dX12_told_52 rfl ?_
      refine AX.getf (pc := 53) fX12_told_13 (lt_k c.hn (by omega)) hO2 rfl dX12_told_53 ?_
      refine AX.bipush (pc := 56) (v := nI 15) dX12_told_56 (by decide) ?_
      refine AX.ialdN (pc := 58) (i := 15) (v := (sq s 15)) (lt_k c.hn (by omega)) e89 (by decide) (by decide) (q89 _ (by omega)) dX12_told_58 ?_
      refine AX.iret (pc := 59) dX12_told_59 rfl rfl (by decide) (by decide) ?_
      exact ⟨by unfold aTold; rw [if_pos h1]; rfl, rfl⟩
    · refine CA.of (by decide) rfl (fun _ => Nat.le_of_ble_eq_true rfl) ?_
      show AX w M_X12_told 0 0 0 [.ref 87, .int (nI 1)] [] h _
      refine AX.iload_n (pc := 0) dX12_told_0 rfl ?_
      refine AX.tableIn (pc := 1) (off := 59) (tgt := 60) dX12_told_1 (by decide) (by decide) (by decide) (by decide) ?_
      refine AX.aload_n (pc := 60) dX12_told_60 rfl ?_
      refine AX.getf (pc := 61) fX12_told_13 (lt_k c.hn (by omega)) hO2 rfl dX12_told_61 ?_
      refine AX.bipush (pc := 64) (v := nI 16) dX12_told_64 (by decide) ?_
      refine AX.ialdN (pc := 66) (i := 16) (v := (sq s 16)) (lt_k c.hn (by omega)) e89 (by decide) (by decide) (q89 _ (by omega)) dX12_told_66 ?_
      refine AX.iret (pc := 67) dX12_told_67 rfl rfl (by decide) (by decide) ?_
      exact ⟨by unfold aTold; rw [if_pos h1]; rfl, rfl⟩
    · refine CA.of (by decide) rfl (fun _ => Nat.le_of_ble_eq_true rfl) ?_
      show AX w M_X12_told 0 0 0 [.ref 87, .int (nI 2)] [] h _
      refine AX.iload_n (pc := 0) dX12_told_0 rfl ?_
      refine AX.tableIn (pc := 1) (off := 67) (tgt := 68) dX12_told_1 (by decide) (by decide) (by decide) (by decide) ?_
      refine AX.aload_n (pc := 68) dX12_told_68 rfl ?_
      refine AX.getf (pc := 69) fX12_told_13 (lt_k c.hn (by omega)) hO2 rfl dX12_told_69 ?_
      refine AX.bipush (pc := 72) (v := nI 14) dX12_told_72 (by decide) ?_
      refine AX.ialdN (pc := 74) (i := 14) (v := (sq s 14)) (lt_k c.hn (by omega)) e89 (by decide) (by decide) (q89 _ (by omega)) dX12_told_74 ?_
      refine AX.iret (pc := 75) dX12_told_75 rfl rfl (by decide) (by decide) ?_
      exact ⟨by unfold aTold; rw [if_pos h1]; rfl, rfl⟩
    · refine CA.of (by decide) rfl (fun _ => Nat.le_of_ble_eq_true rfl) ?_
      show AX w M_X12_told 0 0 0 [.ref 87, .int (nI 3)] [] h _
      refine AX.iload_n (pc := 0) dX12_told_0 rfl ?_
      refine AX.tableIn (pc := 1) (off := 75) (tgt := 76) dX12_told_1 (by decide) (by decide) (by decide) (by decide) ?_
      refine AX.aload_n (pc := 76) dX12_told_76 rfl ?_
      refine AX.getf (pc := 77) fX12_told_13 (lt_k c.hn (by omega)) hO2 rfl dX12_told_77 ?_
      refine AX.bipush (pc := 80) (v := nI 13) dX12_told_80 (by decide) ?_
      refine AX.ialdN (pc := 82) (i := 13) (v := (sq s 13)) (lt_k c.hn (by omega)) e89 (by decide) (by decide) (q89 _ (by omega)) dX12_told_82 ?_
      refine AX.iret (pc := 83) dX12_told_83 rfl rfl (by decide) (by decide) ?_
      exact ⟨by unfold aTold; rw [if_pos h1]; rfl, rfl⟩
    · refine CA.of (by decide) rfl (fun _ => Nat.le_of_ble_eq_true rfl) ?_
      show AX w M_X12_told 0 0 0 [.ref 87, .int (nI 4)] [] h _
      refine AX.iload_n (pc := 0) dX12_told_0 rfl ?_
      refine AX.tableIn (pc := 1) (off := 83) (tgt := 84) dX12_told_1 (by decide) (by decide) (by decide) (by decide) ?_
      refine AX.aload_n (pc := 84) dX12_told_84 rfl ?_
      refine AX.getf (pc := 85) fX12_told_13 (lt_k c.hn (by omega)) hO2 rfl dX12_told_85 ?_
      refine AX.bipush (pc := 88) (v := nI 12) dX12_told_88 (by decide) ?_
      refine AX.ialdN (pc := 90) (i := 12) (v := (sq s 12)) (lt_k c.hn (by omega)) e89 (by decide) (by decide) (q89 _ (by omega)) dX12_told_90 ?_
      refine AX.iret (pc := 91) dX12_told_91 rfl rfl (by decide) (by decide) ?_
      exact ⟨by unfold aTold; rw [if_pos h1]; rfl, rfl⟩
    · refine CA.of (by decide) rfl (fun _ => Nat.le_of_ble_eq_true rfl) ?_
      show AX w M_X12_told 0 0 0 [.ref 87, .int (nI 5)] [] h _
      refine AX.iload_n (pc := 0) dX12_told_0 rfl ?_
      refine AX.tableIn (pc := 1) (off := 91) (tgt := 92) dX12_told_1 (by decide) (by decide) (by decide) (by decide) ?_
      refine AX.aload_n (pc := 92) dX12_told_92 rfl ?_
      refine AX.getf (pc := 93) fX12_told_13 (lt_k c.hn (by omega)) hO2 rfl dX12_told_93 ?_
      refine AX.bipush (pc := 96) (v := nI 17) dX12_told_96 (by decide) ?_
      refine AX.ialdN (pc := 98) (i := 17) (v := (sq s 17)) (lt_k c.hn (by omega)) e89 (by decide) (by decide) (q89 _ (by omega)) dX12_told_98 ?_
      refine AX.iret (pc := 99) dX12_told_99 rfl rfl (by decide) (by decide) ?_
      exact ⟨by unfold aTold; rw [if_pos h1]; rfl, rfl⟩
    · refine CA.of (by decide) rfl (fun _ => Nat.le_of_ble_eq_true rfl) ?_
      show AX w M_X12_told 0 0 0 [.ref 87, .int (nI 6)] [] h _
      refine AX.iload_n (pc := 0) dX12_told_0 rfl ?_
      refine AX.tableIn (pc := 1) (off := 99) (tgt := 100) dX12_told_1 (by decide) (by decide) (by decide) (by decide) ?_
      refine AX.aload_n (pc := 100) dX12_told_100 rfl ?_
      refine AX.getf (pc := 101) fX12_told_13 (lt_k c.hn (by omega)) hO2 rfl dX12_told_101 ?_
      refine AX.bipush (pc := 104) (v := nI 18) dX12_told_104 (by decide) ?_
      refine AX.ialdN (pc := 106) (i := 18) (v := (sq s 18)) (lt_k c.hn (by omega)) e89 (by decide) (by decide) (q89 _ (by omega)) dX12_told_106 ?_
      refine AX.iret (pc := 107) dX12_told_107 rfl rfl (by decide) (by decide) ?_
      exact ⟨by unfold aTold; rw [if_pos h1]; rfl, rfl⟩
    · refine CA.of (by decide) rfl (fun _ => Nat.le_of_ble_eq_true rfl) ?_
      show AX w M_X12_told 0 0 0 [.ref 87, .int (nI 7)] [] h _
      refine AX.iload_n (pc := 0) dX12_told_0 rfl ?_
      refine AX.tableIn (pc := 1) (off := 107) (tgt := 108) dX12_told_1 (by decide) (by decide) (by decide) (by decide) ?_
      refine AX.aload_n (pc := 108) dX12_told_108 rfl ?_
      refine AX.getf (pc := 109) fX12_told_301 (lt_k c.hn (by omega)) hO2 rfl dX12_told_109 ?_
      refine AX.iret (pc := 112) dX12_told_112 rfl rfl (by decide) (by decide) ?_
      exact ⟨by unfold aTold; rw [if_pos h1]; rfl, rfl⟩
    · refine CA.of (by decide) rfl (fun _ => Nat.le_of_ble_eq_true rfl) ?_
      show AX w M_X12_told 0 0 0 [.ref 87, .int (nI 8)] [] h _
      refine AX.iload_n (pc := 0) dX12_told_0 rfl ?_
      refine AX.tableIn (pc := 1) (off := 112) (tgt := 113) dX12_told_1 (by decide) (by decide) (by decide) (by decide) ?_
      refine AX.aload_n (pc := 113) dX12_told_113 rfl ?_
      refine AX.getf (pc := 114) fX12_told_276 (lt_k c.hn (by omega)) hO2 rfl dX12_told_114 ?_
      refine AX.iret (pc := 117) dX12_told_117 rfl rfl (by decide) (by decide) ?_
      exact ⟨by unfold aTold; rw [if_pos h1]; rfl, rfl⟩
  have k1 := nR h1
  by_cases hs : x.toInt < 10
  · have ea : aTold s x = -1 := by unfold aTold; rw [if_neg h1, if_neg (fun q => by have := q.1; omega), if_neg (fun q => by have := q.1; omega)]
    rw [ea]
    rcases (show x.toInt < 0 ∨ x.toInt = 9 by omega) with k | k
    · refine CA.of (by decide) rfl (fun _ => Nat.le_of_ble_eq_true rfl) ?_
      show AX w M_X12_told 0 0 0 [.ref 87, .int x] [] h _
      refine AX.iload_n (pc := 0) dX12_told_0 rfl ?_
      refine AX.tableOut (pc := 1) (tgt := 118) dX12_told_1 (Or.inl (by omega)) (by decide) ?_
      refine AX.aload_n (pc := 118) dX12_told_118 rfl ?_
      refine AX.iload_n (pc := 119) dX12_told_119 rfl ?_
      refine AX.bipush (pc := 120) (v := nI 10) dX12_told_120 (by decide) ?_
      refine AX.idiv (pc := 122) dX12_told_122 (by decide) ?_
      refine AX.iconst (pc := 123) (v := nI 1) dX12_told_123 (by decide) ?_
      refine AX.isub (pc := 124) dX12_told_124 ?_
      refine AX.iload_n (pc := 125) dX12_told_125 rfl ?_
      refine AX.bipush (pc := 126) (v := nI 10) dX12_told_126 (by decide) ?_
      refine AX.irem (pc := 128) dX12_told_128 (by decide) ?_
      refine AX.iload_n (pc := 129) dX12_told_129 rfl ?_
      refine AX.callV (pc := 130) (M2 := M_X12_toldOf) (As := [.int ((x / (nI 10)) - (nI 1)), .int (x - x / (nI 10) * (nI 10)), .int x]) (rest := []) (c_toldNo1 w h c ((x / (nI 10)) - (nI 1)) (x - x / (nI 10) * (nI 10)) x hs) xc_X12_told__X12_toldOf gX12_told_X12_toldOf (ci := 11) rfl (lt_k c.hn (by omega)) hO2 rfl (Nat.le_of_ble_eq_true rfl) dX12_told_130 ?_
      rintro _ h9 ⟨rfl, e9⟩
      have e9 := e9.symm
      subst e9
      show AX w M_X12_told 0 0 133 [.ref 87, .int x] [.int (-1)] _ _
      refine AX.iret (pc := 133) dX12_told_133 rfl rfl (by decide) (by decide) ?_
      exact ⟨rfl, rfl⟩
    · refine CA.of (by decide) rfl (fun _ => Nat.le_of_ble_eq_true rfl) ?_
      show AX w M_X12_told 0 0 0 [.ref 87, .int x] [] h _
      refine AX.iload_n (pc := 0) dX12_told_0 rfl ?_
      refine AX.tableOut (pc := 1) (tgt := 118) dX12_told_1 (Or.inr (by omega)) (by decide) ?_
      refine AX.aload_n (pc := 118) dX12_told_118 rfl ?_
      refine AX.iload_n (pc := 119) dX12_told_119 rfl ?_
      refine AX.bipush (pc := 120) (v := nI 10) dX12_told_120 (by decide) ?_
      refine AX.idiv (pc := 122) dX12_told_122 (by decide) ?_
      refine AX.iconst (pc := 123) (v := nI 1) dX12_told_123 (by decide) ?_
      refine AX.isub (pc := 124) dX12_told_124 ?_
      refine AX.iload_n (pc := 125) dX12_told_125 rfl ?_
      refine AX.bipush (pc := 126) (v := nI 10) dX12_told_126 (by decide) ?_
      refine AX.irem (pc := 128) dX12_told_128 (by decide) ?_
      refine AX.iload_n (pc := 129) dX12_told_129 rfl ?_
      refine AX.callV (pc := 130) (M2 := M_X12_toldOf) (As := [.int ((x / (nI 10)) - (nI 1)), .int (x - x / (nI 10) * (nI 10)), .int x]) (rest := []) (c_toldNo1 w h c ((x / (nI 10)) - (nI 1)) (x - x / (nI 10) * (nI 10)) x hs) xc_X12_told__X12_toldOf gX12_told_X12_toldOf (ci := 11) rfl (lt_k c.hn (by omega)) hO2 rfl (Nat.le_of_ble_eq_true rfl) dX12_told_130 ?_
      rintro _ h9 ⟨rfl, e9⟩
      have e9 := e9.symm
      subst e9
      show AX w M_X12_told 0 0 133 [.ref 87, .int x] [.int (-1)] _ _
      refine AX.iret (pc := 133) dX12_told_133 rfl rfl (by decide) (by decide) ?_
      exact ⟨rfl, rfl⟩
  obtain ⟨xn, rfl, l_x, u_x⟩ := inR_nat (lo := 10) (hi := 2147483647) (x := x) (by decide) ⟨by omega, by have := x.toInt_lt; omega⟩
  have hi_ := iN xn (show xn < 2147483648 by omega)
  by_cases hq : xn ≤ 15
  · have ea : aTold s (nI xn) = (if xn - 10 < 4 then sq s (4 + 2 * (xn - 10) + 0) else sq s (2 * (xn - 10 - 4) + 0)) := by
      unfold aTold
      rw [if_neg h1, if_pos (show inR 10 15 (nI xn) from ⟨by omega, by omega⟩), nI_nat (by omega)]
      by_cases z : xn < 14
      · rw [if_pos z, if_pos (by omega)]; try rfl
      · rw [if_neg z, if_neg (by omega), show xn - 14 = xn - 10 - 4 by omega]; try rfl
    refine CA.of (by decide) rfl (fun _ => Nat.le_of_ble_eq_true rfl) ?_
    show AX w M_X12_told 0 0 0 [.ref 87, .int (nI xn)] [] h _
    refine AX.iload_n (pc := 0) dX12_told_0 rfl ?_
    refine AX.tableOut (pc := 1) (tgt := 118) dX12_told_1 (Or.inr (by rw [show ((nI xn)).toInt = _ from (iN xn (by omega))]; omega)) (by decide) ?_
    refine AX.aload_n (pc := 118) dX12_told_118 rfl ?_
    refine AX.iload_n (pc := 119) dX12_told_119 rfl ?_
    refine AX.bipush (pc := 120) (v := nI 10) dX12_told_120 (by decide) ?_
    refine AX.idivN (pc := 122) (c := xn / 10) dX12_told_122 (by omega) (by decide) (by decide) rfl ?_
    refine AX.iconst (pc := 123) (v := nI 1) dX12_told_123 (by decide) ?_
    refine AX.isubN (pc := 124) (c := 0) dX12_told_124 (by omega) ?_
    refine AX.iload_n (pc := 125) dX12_told_125 rfl ?_
    refine AX.bipush (pc := 126) (v := nI 10) dX12_told_126 (by decide) ?_
    refine AX.irem (pc := 128) dX12_told_128 (by decide) ?_
    refine AX.topi (y := (nI (xn - 10))) ((pk_rem (by omega) (by decide) (by decide)).trans (by rw [show xn % 10 = (xn - 10) by omega])) ?_
    refine AX.iload_n (pc := 129) dX12_told_129 rfl ?_
    refine AX.callV (pc := 130) (M2 := M_X12_toldOf) (As := [.int (nI 0), .int (nI (xn - 10)), .int (nI xn)]) (rest := []) (c_toldIn w h c (p := 0) (j := xn - 10) (x := xn) (by decide) (by omega) (by omega) (by omega)) xc_X12_told__X12_toldOf gX12_told_X12_toldOf (ci := 11) rfl (lt_k c.hn (by omega)) hO2 rfl (Nat.le_of_ble_eq_true rfl) dX12_told_130 ?_
    rintro _ h9 ⟨rfl, e9⟩
    have e9 := e9.symm
    subst e9
    show AX w M_X12_told 0 0 133 [.ref 87, .int (nI xn)] [.int (if xn - 10 < 4 then sq s (4 + 2 * (xn - 10) + 0) else sq s (2 * (xn - 10 - 4) + 0))] _ _
    refine AX.iret (pc := 133) dX12_told_133 rfl rfl (by decide) (by decide) ?_
    exact ⟨by rw [ea], rfl⟩
  by_cases hq : xn ≤ 19
  · have ea : aTold s (nI xn) = -1 := by unfold aTold; rw [if_neg h1, if_neg (fun q => by have := q.1; have := q.2; omega), if_neg (fun q => by have := q.1; have := q.2; omega)]
    refine CA.of (by decide) rfl (fun _ => Nat.le_of_ble_eq_true rfl) ?_
    show AX w M_X12_told 0 0 0 [.ref 87, .int (nI xn)] [] h _
    refine AX.iload_n (pc := 0) dX12_told_0 rfl ?_
    refine AX.tableOut (pc := 1) (tgt := 118) dX12_told_1 (Or.inr (by rw [show ((nI xn)).toInt = _ from (iN xn (by omega))]; omega)) (by decide) ?_
    refine AX.aload_n (pc := 118) dX12_told_118 rfl ?_
    refine AX.iload_n (pc := 119) dX12_told_119 rfl ?_
    refine AX.bipush (pc := 120) (v := nI 10) dX12_told_120 (by decide) ?_
    refine AX.idivN (pc := 122) (c := xn / 10) dX12_told_122 (by omega) (by decide) (by decide) rfl ?_
    refine AX.iconst (pc := 123) (v := nI 1) dX12_told_123 (by decide) ?_
    refine AX.isubN (pc := 124) (c := 0) dX12_told_124 (by omega) ?_
    refine AX.iload_n (pc := 125) dX12_told_125 rfl ?_
    refine AX.bipush (pc := 126) (v := nI 10) dX12_told_126 (by decide) ?_
    refine AX.irem (pc := 128) dX12_told_128 (by decide) ?_
    refine AX.topi (y := (nI (xn - 10))) ((pk_rem (by omega) (by decide) (by decide)).trans (by rw [show xn % 10 = (xn - 10) by omega])) ?_
    refine AX.iload_n (pc := 129) dX12_told_129 rfl ?_
    refine AX.callV (pc := 130) (M2 := M_X12_toldOf) (As := [.int (nI 0), .int (nI (xn - 10)), .int (nI xn)]) (rest := []) (c_toldNo3 w h c (p := 0) (j := xn - 10) (x := xn) (by decide) (by omega) (by omega) (by omega) (by omega)) xc_X12_told__X12_toldOf gX12_told_X12_toldOf (ci := 11) rfl (lt_k c.hn (by omega)) hO2 rfl (Nat.le_of_ble_eq_true rfl) dX12_told_130 ?_
    rintro _ h9 ⟨rfl, e9⟩
    have e9 := e9.symm
    subst e9
    show AX w M_X12_told 0 0 133 [.ref 87, .int (nI xn)] [.int (-1)] _ _
    refine AX.iret (pc := 133) dX12_told_133 rfl rfl (by decide) (by decide) ?_
    exact ⟨by rw [ea], rfl⟩
  by_cases hq : xn ≤ 25
  · have ea : aTold s (nI xn) = (if xn - 20 < 4 then sq s (4 + 2 * (xn - 20) + 1) else sq s (2 * (xn - 20 - 4) + 1)) := by
      unfold aTold
      rw [if_neg h1, if_neg (fun q => by have := q.1; have := q.2; omega), if_pos (show inR 20 25 (nI xn) from ⟨by omega, by omega⟩), nI_nat (by omega)]
      by_cases z : xn < 24
      · rw [if_pos z, if_pos (by omega)]; try rfl
      · rw [if_neg z, if_neg (by omega), show xn - 24 = xn - 20 - 4 by omega]; try rfl
    refine CA.of (by decide) rfl (fun _ => Nat.le_of_ble_eq_true rfl) ?_
    show AX w M_X12_told 0 0 0 [.ref 87, .int (nI xn)] [] h _
    refine AX.iload_n (pc := 0) dX12_told_0 rfl ?_
    refine AX.tableOut (pc := 1) (tgt := 118) dX12_told_1 (Or.inr (by rw [show ((nI xn)).toInt = _ from (iN xn (by omega))]; omega)) (by decide) ?_
    refine AX.aload_n (pc := 118) dX12_told_118 rfl ?_
    refine AX.iload_n (pc := 119) dX12_told_119 rfl ?_
    refine AX.bipush (pc := 120) (v := nI 10) dX12_told_120 (by decide) ?_
    refine AX.idivN (pc := 122) (c := xn / 10) dX12_told_122 (by omega) (by decide) (by decide) rfl ?_
    refine AX.iconst (pc := 123) (v := nI 1) dX12_told_123 (by decide) ?_
    refine AX.isubN (pc := 124) (c := 1) dX12_told_124 (by omega) ?_
    refine AX.iload_n (pc := 125) dX12_told_125 rfl ?_
    refine AX.bipush (pc := 126) (v := nI 10) dX12_told_126 (by decide) ?_
    refine AX.irem (pc := 128) dX12_told_128 (by decide) ?_
    refine AX.topi (y := (nI (xn - 20))) ((pk_rem (by omega) (by decide) (by decide)).trans (by rw [show xn % 10 = (xn - 20) by omega])) ?_
    refine AX.iload_n (pc := 129) dX12_told_129 rfl ?_
    refine AX.callV (pc := 130) (M2 := M_X12_toldOf) (As := [.int (nI 1), .int (nI (xn - 20)), .int (nI xn)]) (rest := []) (c_toldIn w h c (p := 1) (j := xn - 20) (x := xn) (by decide) (by omega) (by omega) (by omega)) xc_X12_told__X12_toldOf gX12_told_X12_toldOf (ci := 11) rfl (lt_k c.hn (by omega)) hO2 rfl (Nat.le_of_ble_eq_true rfl) dX12_told_130 ?_
    rintro _ h9 ⟨rfl, e9⟩
    have e9 := e9.symm
    subst e9
    show AX w M_X12_told 0 0 133 [.ref 87, .int (nI xn)] [.int (if xn - 20 < 4 then sq s (4 + 2 * (xn - 20) + 1) else sq s (2 * (xn - 20 - 4) + 1))] _ _
    refine AX.iret (pc := 133) dX12_told_133 rfl rfl (by decide) (by decide) ?_
    exact ⟨by rw [ea], rfl⟩
  by_cases hq : xn ≤ 29
  · have ea : aTold s (nI xn) = -1 := by unfold aTold; rw [if_neg h1, if_neg (fun q => by have := q.1; have := q.2; omega), if_neg (fun q => by have := q.1; have := q.2; omega)]
    refine CA.of (by decide) rfl (fun _ => Nat.le_of_ble_eq_true rfl) ?_
    show AX w M_X12_told 0 0 0 [.ref 87, .int (nI xn)] [] h _
    refine AX.iload_n (pc := 0) dX12_told_0 rfl ?_
    refine AX.tableOut (pc := 1) (tgt := 118) dX12_told_1 (Or.inr (by rw [show ((nI xn)).toInt = _ from (iN xn (by omega))]; omega)) (by decide) ?_
    refine AX.aload_n (pc := 118) dX12_told_118 rfl ?_
    refine AX.iload_n (pc := 119) dX12_told_119 rfl ?_
    refine AX.bipush (pc := 120) (v := nI 10) dX12_told_120 (by decide) ?_
    refine AX.idivN (pc := 122) (c := xn / 10) dX12_told_122 (by omega) (by decide) (by decide) rfl ?_
    refine AX.iconst (pc := 123) (v := nI 1) dX12_told_123 (by decide) ?_
    refine AX.isubN (pc := 124) (c := 1) dX12_told_124 (by omega) ?_
    refine AX.iload_n (pc := 125) dX12_told_125 rfl ?_
    refine AX.bipush (pc := 126) (v := nI 10) dX12_told_126 (by decide) ?_
    refine AX.irem (pc := 128) dX12_told_128 (by decide) ?_
    refine AX.topi (y := (nI (xn - 20))) ((pk_rem (by omega) (by decide) (by decide)).trans (by rw [show xn % 10 = (xn - 20) by omega])) ?_
    refine AX.iload_n (pc := 129) dX12_told_129 rfl ?_
    refine AX.callV (pc := 130) (M2 := M_X12_toldOf) (As := [.int (nI 1), .int (nI (xn - 20)), .int (nI xn)]) (rest := []) (c_toldNo3 w h c (p := 1) (j := xn - 20) (x := xn) (by decide) (by omega) (by omega) (by omega) (by omega)) xc_X12_told__X12_toldOf gX12_told_X12_toldOf (ci := 11) rfl (lt_k c.hn (by omega)) hO2 rfl (Nat.le_of_ble_eq_true rfl) dX12_told_130 ?_
    rintro _ h9 ⟨rfl, e9⟩
    have e9 := e9.symm
    subst e9
    show AX w M_X12_told 0 0 133 [.ref 87, .int (nI xn)] [.int (-1)] _ _
    refine AX.iret (pc := 133) dX12_told_133 rfl rfl (by decide) (by decide) ?_
    exact ⟨by rw [ea], rfl⟩
  have ea : aTold s (nI xn) = -1 := by unfold aTold; rw [if_neg h1, if_neg (fun q => by have := q.1; have := q.2; omega), if_neg (fun q => by have := q.1; have := q.2; omega)]
  refine CA.of (by decide) rfl (fun _ => Nat.le_of_ble_eq_true rfl) ?_
  show AX w M_X12_told 0 0 0 [.ref 87, .int (nI xn)] [] h _
  refine AX.iload_n (pc := 0) dX12_told_0 rfl ?_
  refine AX.tableOut (pc := 1) (tgt := 118) dX12_told_1 (Or.inr (by rw [show ((nI xn)).toInt = _ from (iN xn (by omega))]; omega)) (by decide) ?_
  refine AX.aload_n (pc := 118) dX12_told_118 rfl ?_
  refine AX.iload_n (pc := 119) dX12_told_119 rfl ?_
  refine AX.bipush (pc := 120) (v := nI 10) dX12_told_120 (by decide) ?_
  refine AX.idivN (pc := 122) (c := xn / 10) dX12_told_122 (by omega) (by decide) (by decide) rfl ?_
  refine AX.iconst (pc := 123) (v := nI 1) dX12_told_123 (by decide) ?_
  refine AX.isubN (pc := 124) (c := xn / 10 - 1) dX12_told_124 (by omega) ?_
  refine AX.iload_n (pc := 125) dX12_told_125 rfl ?_
  refine AX.bipush (pc := 126) (v := nI 10) dX12_told_126 (by decide) ?_
  refine AX.iremN (pc := 128) (c := xn % 10) dX12_told_128 (by omega) (by decide) (by decide) rfl ?_
  refine AX.iload_n (pc := 129) dX12_told_129 rfl ?_
  refine AX.callV (pc := 130) (M2 := M_X12_toldOf) (As := [.int (nI (xn / 10 - 1)), .int (nI (xn % 10)), .int (nI xn)]) (rest := []) (c_toldNo2 w h c (p := xn / 10 - 1) (x := xn) (nI (xn % 10)) (by omega) (by omega) (by omega) (by omega)) xc_X12_told__X12_toldOf gX12_told_X12_toldOf (ci := 11) rfl (lt_k c.hn (by omega)) hO2 rfl (Nat.le_of_ble_eq_true rfl) dX12_told_130 ?_
  rintro _ h9 ⟨rfl, e9⟩
  have e9 := e9.symm
  subst e9
  show AX w M_X12_told 0 0 133 [.ref 87, .int (nI xn)] [.int (-1)] _ _
  refine AX.iret (pc := 133) dX12_told_133 rfl rfl (by decide) (by decide) ?_
  exact ⟨by rw [ea], rfl⟩
