/-! ===== THE REFERENCE: THE LEG ===== -/
theorem i32_re (a b c : Int32) : a + (b - c) = a - (c - b) := by
  refine Int32.toBitVec_inj.mp ?_
  rw [Int32.toBitVec_add, Int32.toBitVec_sub, Int32.toBitVec_sub, Int32.toBitVec_sub]
  generalize a.toBitVec = x
  generalize b.toBitVec = y
  generalize c.toBitVec = z
  refine BitVec.eq_of_toNat_eq ?_
  rw [BitVec.toNat_add, BitVec.toNat_sub, BitVec.toNat_sub, BitVec.toNat_sub]
  have hx := x.isLt
  have hy := y.isLt
  have hz := z.isLt
  omega
theorem bv_16 (Q : Nat → Int32) (x : Int32) {p : Nat} (hp : p ≤ 1) (j : Nat) : bvN (upd Q 16 x) p j = bvN Q p j := by
  unfold bvN
  rw [show upd Q 16 x (4 + p) = Q (4 + p) from upd_off (by omega)]
  by_cases h17 : j = 17
  · subst h17
    exact (upd_at _ _ _).trans (upd_at _ _ _).symm
  · refine (upd_off h17).trans (Eq.trans ?_ (upd_off h17).symm)
    by_cases h16 : j = 16
    · subst h16
      exact (upd_at _ _ _).trans (upd_at _ _ _).symm
    · refine (upd_off h16).trans (Eq.trans ?_ (upd_off h16).symm)
      by_cases h15 : j = 15
      · subst h15
        exact (upd_at _ _ _).trans (upd_at _ _ _).symm
      · exact (upd_off h15).trans ((upd_off h16).trans (upd_off h15).symm)
theorem ld_none {q : Nat → Int32} {t g r : Nat} (e4 : q (4 + t) = nI r) (j : Nat) : ldN q t g none j = bvN (upd (upd (upd q (8 + t) (q (8 + t) + nI 1)) (10 + t) (q (10 + t) - (q 17 - nI r))) (4 + t) (q 17)) (1 - t) j := by
  show bvN (upd (upd (upd (upd q (8 + t) (q (8 + t) + nI 1)) (10 + t) (q (10 + t) + (q (4 + t) - q 17))) (4 + t) (q 17)) 16 (q 16 - nI 1)) (1 - t) j = _
  rw [i32_re, e4]
  exact bv_16 _ _ (by omega) j
theorem iA.of {h : XH} {a N : Nat} {f g : Nat → Int32} (H : iA h a N f) (e : ∀ j, f j = g j) : iA h a N g := H.imp (fun _ z => ⟨z.1, fun j hj => (z.2 j hj).trans (e j)⟩)
theorem c_mVisit (w : XW) (h : XH) {v q : Nat → Int32} {p : Nat} (hn : 118 ≤ h.1) (hO : MO h v) (hN : iA h 89 19 q) (hp : p ≤ 1) : CA w M_X12_beginsVisit [.ref 87, .int (nI p)] h (fun v' h' => v' = none ∧ Same [89] h h' ∧ iA h' 89 19 (bvN q p)) := by
  refine CA.of (by decide) rfl (fun _ => Nat.le_of_ble_eq_true rfl) ?_
  obtain ⟨f89, e89, q89⟩ := id hN
  show AX w M_X12_beginsVisit 0 0 0 [.ref 87, .int (nI p)] [] h _
  refine AX.aload_n (pc := 0) dX12_beginsVisit_0 rfl ?_
  refine AX.getf (pc := 1) fX12_beginsVisit_13 (lt_k hn (by omega)) hO rfl dX12_beginsVisit_1 ?_
  refine AX.bipush (pc := 4) (v := nI 15) dX12_beginsVisit_4 (by decide) ?_
  refine AX.iload_n (pc := 6) dX12_beginsVisit_6 rfl ?_
  refine AX.iastN (pc := 7) (i := 15) (g := upd f89 15 (nI p)) (lt_k hn (by omega)) e89 (by decide) (by decide) rfl dX12_beginsVisit_7 ?_
  refine AX.aload_n (pc := 8) dX12_beginsVisit_8 rfl ?_
  refine AX.getf (pc := 9) fX12_beginsVisit_13 (lt_k hn (by omega)) ((xset_ne (by decide)).trans hO) rfl dX12_beginsVisit_9 ?_
  refine AX.bipush (pc := 12) (v := nI 16) dX12_beginsVisit_12 (by decide) ?_
  refine AX.iconst (pc := 14) (v := nI 3) dX12_beginsVisit_14 (by decide) ?_
  refine AX.iastN (pc := 15) (i := 16) (g := upd (upd f89 15 (nI p)) 16 (nI 3)) (lt_k hn (by omega)) (xset_same _ _ _) (by decide) (by decide) rfl dX12_beginsVisit_15 ?_
  refine AX.aload_n (pc := 16) dX12_beginsVisit_16 rfl ?_
  refine AX.getf (pc := 17) fX12_beginsVisit_13 (lt_k hn (by omega)) ((xset_ne (by decide)).trans ((xset_ne (by decide)).trans hO)) rfl dX12_beginsVisit_17 ?_
  refine AX.bipush (pc := 20) (v := nI 17) dX12_beginsVisit_20 (by decide) ?_
  refine AX.aload_n (pc := 22) dX12_beginsVisit_22 rfl ?_
  refine AX.getf (pc := 23) fX12_beginsVisit_13 (lt_k hn (by omega)) ((xset_ne (by decide)).trans ((xset_ne (by decide)).trans hO)) rfl dX12_beginsVisit_23 ?_
  refine AX.iconst (pc := 26) (v := nI 4) dX12_beginsVisit_26 (by decide) ?_
  refine AX.iload_n (pc := 27) dX12_beginsVisit_27 rfl ?_
  refine AX.iaddN (pc := 28) (c := 4 + p) dX12_beginsVisit_28 rfl ?_
  refine AX.ialdN (pc := 29) (i := 4 + p) (v := (q (4 + p))) (lt_k hn (by omega)) (xset_same _ _ _) (by decide) (by omega) ((upd_off (by omega)).trans ((upd_off (by omega)).trans (q89 _ (by omega)))) dX12_beginsVisit_29 ?_
  refine AX.iastN (pc := 30) (i := 17) (g := upd (upd (upd f89 15 (nI p)) 16 (nI 3)) 17 (q (4 + p))) (lt_k hn (by omega)) (xset_same _ _ _) (by decide) (by decide) rfl dX12_beginsVisit_30 ?_
  refine AX.vret (pc := 31) dX12_beginsVisit_31 rfl (by decide) (by decide) ?_
  have sx : Same [89] h (xset (xset (xset h 89 (.inl (0, 19, .inl (upd f89 15 (nI p))))) 89 (.inl (0, 19, .inl (upd (upd f89 15 (nI p)) 16 (nI 3))))) 89 (.inl (0, 19, .inl (upd (upd (upd f89 15 (nI p)) 16 (nI 3)) 17 (q (4 + p)))))) := Same.set (Same.set (Same.set Same.rf (by simp)) (by simp)) (by simp)
  exact ⟨rfl, sx, ⟨_, (xset_same _ _ _), upd_agree (upd_agree (upd_agree (q89)))⟩⟩
theorem c_mBegins (w : XW) (h : XH) {v q : Nat → Int32} {p : Nat} (hn : 118 ≤ h.1) (hO : MO h v) (hN : iA h 89 19 q) (hp : p ≤ 1) : CA w M_X12_beginsLeg [.ref 87, .int (nI p)] h (fun v' h' => v' = none ∧ Same [89] h h' ∧ iA h' 89 19 (bgN q p)) := by
  refine CA.of (by decide) rfl (fun _ => Nat.le_of_ble_eq_true rfl) ?_
  obtain ⟨f89, e89, q89⟩ := id hN
  show AX w M_X12_beginsLeg 0 0 0 [.ref 87, .int (nI p)] [] h _
  refine AX.aload_n (pc := 0) dX12_beginsLeg_0 rfl ?_
  refine AX.getf (pc := 1) fX12_beginsLeg_13 (lt_k hn (by omega)) hO rfl dX12_beginsLeg_1 ?_
  refine AX.iconst (pc := 4) (v := nI 4) dX12_beginsLeg_4 (by decide) ?_
  refine AX.aload_n (pc := 5) dX12_beginsLeg_5 rfl ?_
  refine AX.getf (pc := 6) fX12_beginsLeg_13 (lt_k hn (by omega)) hO rfl dX12_beginsLeg_6 ?_
  refine AX.bipush (pc := 9) (v := nI 13) dX12_beginsLeg_9 (by decide) ?_
  refine AX.ialdN (pc := 11) (i := 13) (v := (q 13)) (lt_k hn (by omega)) e89 (by decide) (by decide) (q89 _ (by omega)) dX12_beginsLeg_11 ?_
  refine AX.iastN (pc := 12) (i := 4) (g := upd f89 4 (q 13)) (lt_k hn (by omega)) e89 (by decide) (by decide) rfl dX12_beginsLeg_12 ?_
  refine AX.aload_n (pc := 13) dX12_beginsLeg_13 rfl ?_
  refine AX.getf (pc := 14) fX12_beginsLeg_13 (lt_k hn (by omega)) ((xset_ne (by decide)).trans hO) rfl dX12_beginsLeg_14 ?_
  refine AX.iconst (pc := 17) (v := nI 5) dX12_beginsLeg_17 (by decide) ?_
  refine AX.aload_n (pc := 18) dX12_beginsLeg_18 rfl ?_
  refine AX.getf (pc := 19) fX12_beginsLeg_13 (lt_k hn (by omega)) ((xset_ne (by decide)).trans hO) rfl dX12_beginsLeg_19 ?_
  refine AX.bipush (pc := 22) (v := nI 13) dX12_beginsLeg_22 (by decide) ?_
  refine AX.ialdN (pc := 24) (i := 13) (v := (q 13)) (lt_k hn (by omega)) (xset_same _ _ _) (by decide) (by decide) ((upd_off (by omega)).trans (q89 _ (by omega))) dX12_beginsLeg_24 ?_
  refine AX.iastN (pc := 25) (i := 5) (g := upd (upd f89 4 (q 13)) 5 (q 13)) (lt_k hn (by omega)) (xset_same _ _ _) (by decide) (by decide) rfl dX12_beginsLeg_25 ?_
  refine AX.aload_n (pc := 26) dX12_beginsLeg_26 rfl ?_
  refine AX.getf (pc := 27) fX12_beginsLeg_13 (lt_k hn (by omega)) ((xset_ne (by decide)).trans ((xset_ne (by decide)).trans hO)) rfl dX12_beginsLeg_27 ?_
  refine AX.bipush (pc := 30) (v := nI 14) dX12_beginsLeg_30 (by decide) ?_
  refine AX.iload_n (pc := 32) dX12_beginsLeg_32 rfl ?_
  refine AX.iastN (pc := 33) (i := 14) (g := upd (upd (upd f89 4 (q 13)) 5 (q 13)) 14 (nI p)) (lt_k hn (by omega)) (xset_same _ _ _) (by decide) (by decide) rfl dX12_beginsLeg_33 ?_
  have sx : Same [89] h (xset (xset (xset h 89 (.inl (0, 19, .inl (upd f89 4 (q 13))))) 89 (.inl (0, 19, .inl (upd (upd f89 4 (q 13)) 5 (q 13))))) 89 (.inl (0, 19, .inl (upd (upd (upd f89 4 (q 13)) 5 (q 13)) 14 (nI p))))) := Same.set (Same.set (Same.set Same.rf (by simp)) (by simp)) (by simp)
  refine AX.aload_n (pc := 34) dX12_beginsLeg_34 rfl ?_
  refine AX.iload_n (pc := 35) dX12_beginsLeg_35 rfl ?_
  refine AX.callV (pc := 36) (M2 := M_X12_beginsVisit) (As := [.int (nI p)]) (rest := []) (c_mVisit w (xset (xset (xset h 89 (.inl (0, 19, .inl (upd f89 4 (q 13))))) 89 (.inl (0, 19, .inl (upd (upd f89 4 (q 13)) 5 (q 13))))) 89 (.inl (0, 19, .inl (upd (upd (upd f89 4 (q 13)) 5 (q 13)) 14 (nI p))))) (sx.le hn) (hO.same sx (by simp)) (q := upd (upd (upd q 4 (q 13)) 5 (q 13)) 14 (nI p)) ⟨_, (xset_same _ _ _), upd_agree (upd_agree (upd_agree (q89)))⟩ hp) xc_X12_beginsLeg__X12_beginsVisit gX12_beginsLeg_X12_beginsVisit (ci := 11) rfl (lt_k hn (by omega)) ((xset_ne (by decide)).trans ((xset_ne (by decide)).trans ((xset_ne (by decide)).trans hO))) rfl (Nat.le_of_ble_eq_true rfl) dX12_beginsLeg_36 ?_
  rintro _ h1 ⟨rfl, s1, n1⟩
  show AX w M_X12_beginsLeg 0 0 39 [.ref 87, .int (nI p)] [] _ _
  refine AX.vret (pc := 39) dX12_beginsLeg_39 rfl (by decide) (by decide) ?_
  exact ⟨rfl, sx.trans s1, n1⟩
theorem c_mUpon (w : XW) (h : XH) {v q : Nat → Int32} {o t g r x : Nat} (hn : 118 ≤ h.1) (hO : MO h v) (hN : iA h 89 19 q) (ho12 : q 12 = nI o) (ho : o ≤ 2) (ht : t ≤ 1) (hg : g ≤ 1) (e15 : q 15 = nI t) (e14 : q 14 = nI g) (e4 : q (4 + t) = nI r) (hr : r ≤ 501) (hx : x < 63) : CA w M_X12_fallsUpon [.ref 87, .int (nI x)] h (fun v' h' => v' = some (.int (oI (nxN o r x))) ∧ Same [89] h h' ∧ iA h' 89 19 (ldN q t g (nxN o r x))) := by
  refine CA.of (by decide) rfl (fun _ => Nat.le_of_ble_eq_true rfl) ?_
  obtain ⟨f89, e89, q89⟩ := id hN
  show AX w M_X12_fallsUpon 0 0 0 [.ref 87, .int (nI x), .null, .null, .null] [] h _
  cases hX : nxN o r x with
  | none =>
    refine AX.aload_n (pc := 0) dX12_fallsUpon_0 rfl ?_
    refine AX.getf (pc := 1) fX12_fallsUpon_13 (lt_k hn (by omega)) hO rfl dX12_fallsUpon_1 ?_
    refine AX.bipush (pc := 4) (v := nI 15) dX12_fallsUpon_4 (by decide) ?_
    refine AX.ialdN (pc := 6) (i := 15) (v := (nI t)) (lt_k hn (by omega)) e89 (by decide) (by decide) ((q89 _ (by omega)).trans e15) dX12_fallsUpon_6 ?_
    refine AX.istore_n (pc := 7) (L' := [.ref 87, .int (nI x), .int (nI t), .null, .null]) dX12_fallsUpon_7 (by decide) rfl ?_
    refine AX.aload_n (pc := 8) dX12_fallsUpon_8 rfl ?_
    refine AX.getf (pc := 9) fX12_fallsUpon_13 (lt_k hn (by omega)) hO rfl dX12_fallsUpon_9 ?_
    refine AX.iconst (pc := 12) (v := nI 4) dX12_fallsUpon_12 (by decide) ?_
    refine AX.iload_n (pc := 13) dX12_fallsUpon_13 rfl ?_
    refine AX.iaddN (pc := 14) (c := 4 + t) dX12_fallsUpon_14 rfl ?_
    refine AX.ialdN (pc := 15) (i := 4 + t) (v := (nI r)) (lt_k hn (by omega)) e89 (by decide) (by omega) ((q89 _ (by omega)).trans e4) dX12_fallsUpon_15 ?_
    refine AX.istore_n (pc := 16) (L' := [.ref 87, .int (nI x), .int (nI t), .int (nI r), .null]) dX12_fallsUpon_16 (by decide) rfl ?_
    refine AX.aload_n (pc := 17) dX12_fallsUpon_17 rfl ?_
    refine AX.iload_n (pc := 18) dX12_fallsUpon_18 rfl ?_
    refine AX.iload_n (pc := 19) dX12_fallsUpon_19 rfl ?_
    refine AX.callV (pc := 20) (M2 := M_X12_nextRest) (As := [.int (nI r), .int (nI x)]) (rest := []) (c_nextRest w h hn hO hN ho12 ho r x (by omega) hx) xc_X12_fallsUpon__X12_nextRest gX12_fallsUpon_X12_nextRest (ci := 11) rfl (lt_k hn (by omega)) hO rfl (Nat.le_of_ble_eq_true rfl) dX12_fallsUpon_20 ?_
    rintro _ h9 ⟨rfl, e9⟩
    have e9 := e9.symm
    subst e9
    rw [hX]
    show AX w M_X12_fallsUpon 0 0 23 [.ref 87, .int (nI x), .int (nI t), .int (nI r), .null] [.int (-5)] _ _
    refine AX.istore (pc := 23) (L' := [.ref 87, .int (nI x), .int (nI t), .int (nI r), .int (-5)]) dX12_fallsUpon_23 (by decide) rfl ?_
    refine AX.aload_n (pc := 25) dX12_fallsUpon_25 rfl ?_
    refine AX.getf (pc := 26) fX12_fallsUpon_13 (lt_k hn (by omega)) hO rfl dX12_fallsUpon_26 ?_
    refine AX.bipush (pc := 29) (v := nI 8) dX12_fallsUpon_29 (by decide) ?_
    refine AX.iload_n (pc := 31) dX12_fallsUpon_31 rfl ?_
    refine AX.iaddN (pc := 32) (c := 8 + t) dX12_fallsUpon_32 rfl ?_
    refine AX.dup2 (pc := 33) dX12_fallsUpon_33 rfl rfl ?_
    refine AX.ialdN (pc := 34) (i := 8 + t) (v := (q (8 + t))) (lt_k hn (by omega)) e89 (by decide) (by omega) (q89 _ (by omega)) dX12_fallsUpon_34 ?_
    refine AX.iconst (pc := 35) (v := nI 1) dX12_fallsUpon_35 (by decide) ?_
    refine AX.iadd (pc := 36) dX12_fallsUpon_36 ?_
    refine AX.iastN (pc := 37) (i := 8 + t) (g := upd f89 (8 + t) ((q (8 + t)) + (nI 1))) (lt_k hn (by omega)) e89 (by decide) (by omega) rfl dX12_fallsUpon_37 ?_
    refine AX.iload (pc := 38) dX12_fallsUpon_38 rfl ?_
    refine AX.if_ge (pc := 40) (tgt := 89) dX12_fallsUpon_40 (by decide) (fun q => absurd q (by decide)) (fun hc40 => ?_)
    refine AX.aload_n (pc := 43) dX12_fallsUpon_43 rfl ?_
    refine AX.getf (pc := 44) fX12_fallsUpon_13 (lt_k hn (by omega)) ((xset_ne (by decide)).trans hO) rfl dX12_fallsUpon_44 ?_
    refine AX.bipush (pc := 47) (v := nI 10) dX12_fallsUpon_47 (by decide) ?_
    refine AX.iload_n (pc := 49) dX12_fallsUpon_49 rfl ?_
    refine AX.iaddN (pc := 50) (c := 10 + t) dX12_fallsUpon_50 rfl ?_
    refine AX.dup2 (pc := 51) dX12_fallsUpon_51 rfl rfl ?_
    refine AX.ialdN (pc := 52) (i := 10 + t) (v := (q (10 + t))) (lt_k hn (by omega)) (xset_same _ _ _) (by decide) (by omega) ((upd_off (by omega)).trans (q89 _ (by omega))) dX12_fallsUpon_52 ?_
    refine AX.aload_n (pc := 53) dX12_fallsUpon_53 rfl ?_
    refine AX.getf (pc := 54) fX12_fallsUpon_13 (lt_k hn (by omega)) ((xset_ne (by decide)).trans hO) rfl dX12_fallsUpon_54 ?_
    refine AX.bipush (pc := 57) (v := nI 17) dX12_fallsUpon_57 (by decide) ?_
    refine AX.ialdN (pc := 59) (i := 17) (v := (q 17)) (lt_k hn (by omega)) (xset_same _ _ _) (by decide) (by decide) ((upd_off (by omega)).trans (q89 _ (by omega))) dX12_fallsUpon_59 ?_
    refine AX.iload_n (pc := 60) dX12_fallsUpon_60 rfl ?_
    refine AX.isub (pc := 61) dX12_fallsUpon_61 ?_
    refine AX.isub (pc := 62) dX12_fallsUpon_62 ?_
    refine AX.iastN (pc := 63) (i := 10 + t) (g := upd (upd f89 (8 + t) ((q (8 + t)) + (nI 1))) (10 + t) ((q (10 + t)) - ((q 17) - (nI r)))) (lt_k hn (by omega)) (xset_same _ _ _) (by decide) (by omega) rfl dX12_fallsUpon_63 ?_
    refine AX.aload_n (pc := 64) dX12_fallsUpon_64 rfl ?_
    refine AX.getf (pc := 65) fX12_fallsUpon_13 (lt_k hn (by omega)) ((xset_ne (by decide)).trans ((xset_ne (by decide)).trans hO)) rfl dX12_fallsUpon_65 ?_
    refine AX.iconst (pc := 68) (v := nI 4) dX12_fallsUpon_68 (by decide) ?_
    refine AX.iload_n (pc := 69) dX12_fallsUpon_69 rfl ?_
    refine AX.iaddN (pc := 70) (c := 4 + t) dX12_fallsUpon_70 rfl ?_
    refine AX.aload_n (pc := 71) dX12_fallsUpon_71 rfl ?_
    refine AX.getf (pc := 72) fX12_fallsUpon_13 (lt_k hn (by omega)) ((xset_ne (by decide)).trans ((xset_ne (by decide)).trans hO)) rfl dX12_fallsUpon_72 ?_
    refine AX.bipush (pc := 75) (v := nI 17) dX12_fallsUpon_75 (by decide) ?_
    refine AX.ialdN (pc := 77) (i := 17) (v := (q 17)) (lt_k hn (by omega)) (xset_same _ _ _) (by decide) (by decide) ((upd_off (by omega)).trans ((upd_off (by omega)).trans (q89 _ (by omega)))) dX12_fallsUpon_77 ?_
    refine AX.iastN (pc := 78) (i := 4 + t) (g := upd (upd (upd f89 (8 + t) ((q (8 + t)) + (nI 1))) (10 + t) ((q (10 + t)) - ((q 17) - (nI r)))) (4 + t) (q 17)) (lt_k hn (by omega)) (xset_same _ _ _) (by decide) (by omega) rfl dX12_fallsUpon_78 ?_
    have sx : Same [89] h (xset (xset (xset h 89 (.inl (0, 19, .inl (upd f89 (8 + t) ((q (8 + t)) + (nI 1)))))) 89 (.inl (0, 19, .inl (upd (upd f89 (8 + t) ((q (8 + t)) + (nI 1))) (10 + t) ((q (10 + t)) - ((q 17) - (nI r))))))) 89 (.inl (0, 19, .inl (upd (upd (upd f89 (8 + t) ((q (8 + t)) + (nI 1))) (10 + t) ((q (10 + t)) - ((q 17) - (nI r)))) (4 + t) (q 17))))) := Same.set (Same.set (Same.set (Same.rf) (by simp)) (by simp)) (by simp)
    refine AX.aload_n (pc := 79) dX12_fallsUpon_79 rfl ?_
    refine AX.iconst (pc := 80) (v := nI 1) dX12_fallsUpon_80 (by decide) ?_
    refine AX.iload_n (pc := 81) dX12_fallsUpon_81 rfl ?_
    refine AX.isubN (pc := 82) (c := 1 - t) dX12_fallsUpon_82 (by omega) ?_
    refine AX.callV (pc := 83) (M2 := M_X12_beginsVisit) (As := [.int (nI (1 - t))]) (rest := []) (c_mVisit w (xset (xset (xset h 89 (.inl (0, 19, .inl (upd f89 (8 + t) ((q (8 + t)) + (nI 1)))))) 89 (.inl (0, 19, .inl (upd (upd f89 (8 + t) ((q (8 + t)) + (nI 1))) (10 + t) ((q (10 + t)) - ((q 17) - (nI r))))))) 89 (.inl (0, 19, .inl (upd (upd (upd f89 (8 + t) ((q (8 + t)) + (nI 1))) (10 + t) ((q (10 + t)) - ((q 17) - (nI r)))) (4 + t) (q 17))))) (sx.le hn) (hO.same sx (by simp)) (q := upd (upd (upd q (8 + t) ((q (8 + t)) + (nI 1))) (10 + t) ((q (10 + t)) - ((q 17) - (nI r)))) (4 + t) (q 17)) ⟨_, (xset_same _ _ _), upd_agree (upd_agree (upd_agree (q89)))⟩ (p := 1 - t) (by omega)) xc_X12_fallsUpon__X12_beginsVisit gX12_fallsUpon_X12_beginsVisit (ci := 11) rfl (lt_k hn (by omega)) ((xset_ne (by decide)).trans ((xset_ne (by decide)).trans ((xset_ne (by decide)).trans hO))) rfl (Nat.le_of_ble_eq_true rfl) dX12_fallsUpon_83 ?_
    rintro _ h1 ⟨rfl, s1, n1⟩
    show AX w M_X12_fallsUpon 0 0 86 [.ref 87, .int (nI x), .int (nI t), .int (nI r), .int (-5)] [] _ _
    refine AX.bipush (pc := 86) (v := (-5)) dX12_fallsUpon_86 (by decide) ?_
    refine AX.iret (pc := 88) dX12_fallsUpon_88 rfl rfl (by decide) (by decide) ?_
    exact ⟨rfl, sx.trans s1, n1.of (fun j => (ld_none e4 j).symm)⟩
  | some d =>
    have hd := nxN_le hX
    by_cases hd0 : d = 0
    · subst hd0
      refine AX.aload_n (pc := 0) dX12_fallsUpon_0 rfl ?_
      refine AX.getf (pc := 1) fX12_fallsUpon_13 (lt_k hn (by omega)) hO rfl dX12_fallsUpon_1 ?_
      refine AX.bipush (pc := 4) (v := nI 15) dX12_fallsUpon_4 (by decide) ?_
      refine AX.ialdN (pc := 6) (i := 15) (v := (nI t)) (lt_k hn (by omega)) e89 (by decide) (by decide) ((q89 _ (by omega)).trans e15) dX12_fallsUpon_6 ?_
      refine AX.istore_n (pc := 7) (L' := [.ref 87, .int (nI x), .int (nI t), .null, .null]) dX12_fallsUpon_7 (by decide) rfl ?_
      refine AX.aload_n (pc := 8) dX12_fallsUpon_8 rfl ?_
      refine AX.getf (pc := 9) fX12_fallsUpon_13 (lt_k hn (by omega)) hO rfl dX12_fallsUpon_9 ?_
      refine AX.iconst (pc := 12) (v := nI 4) dX12_fallsUpon_12 (by decide) ?_
      refine AX.iload_n (pc := 13) dX12_fallsUpon_13 rfl ?_
      refine AX.iaddN (pc := 14) (c := 4 + t) dX12_fallsUpon_14 rfl ?_
      refine AX.ialdN (pc := 15) (i := 4 + t) (v := (nI r)) (lt_k hn (by omega)) e89 (by decide) (by omega) ((q89 _ (by omega)).trans e4) dX12_fallsUpon_15 ?_
      refine AX.istore_n (pc := 16) (L' := [.ref 87, .int (nI x), .int (nI t), .int (nI r), .null]) dX12_fallsUpon_16 (by decide) rfl ?_
      refine AX.aload_n (pc := 17) dX12_fallsUpon_17 rfl ?_
      refine AX.iload_n (pc := 18) dX12_fallsUpon_18 rfl ?_
      refine AX.iload_n (pc := 19) dX12_fallsUpon_19 rfl ?_
      refine AX.callV (pc := 20) (M2 := M_X12_nextRest) (As := [.int (nI r), .int (nI x)]) (rest := []) (c_nextRest w h hn hO hN ho12 ho r x (by omega) hx) xc_X12_fallsUpon__X12_nextRest gX12_fallsUpon_X12_nextRest (ci := 11) rfl (lt_k hn (by omega)) hO rfl (Nat.le_of_ble_eq_true rfl) dX12_fallsUpon_20 ?_
      rintro _ h9 ⟨rfl, e9⟩
      have e9 := e9.symm
      subst e9
      rw [hX]
      show AX w M_X12_fallsUpon 0 0 23 [.ref 87, .int (nI x), .int (nI t), .int (nI r), .null] [.int (nI 0)] _ _
      refine AX.istore (pc := 23) (L' := [.ref 87, .int (nI x), .int (nI t), .int (nI r), .int (nI 0)]) dX12_fallsUpon_23 (by decide) rfl ?_
      refine AX.aload_n (pc := 25) dX12_fallsUpon_25 rfl ?_
      refine AX.getf (pc := 26) fX12_fallsUpon_13 (lt_k hn (by omega)) hO rfl dX12_fallsUpon_26 ?_
      refine AX.bipush (pc := 29) (v := nI 8) dX12_fallsUpon_29 (by decide) ?_
      refine AX.iload_n (pc := 31) dX12_fallsUpon_31 rfl ?_
      refine AX.iaddN (pc := 32) (c := 8 + t) dX12_fallsUpon_32 rfl ?_
      refine AX.dup2 (pc := 33) dX12_fallsUpon_33 rfl rfl ?_
      refine AX.ialdN (pc := 34) (i := 8 + t) (v := (q (8 + t))) (lt_k hn (by omega)) e89 (by decide) (by omega) (q89 _ (by omega)) dX12_fallsUpon_34 ?_
      refine AX.iconst (pc := 35) (v := nI 1) dX12_fallsUpon_35 (by decide) ?_
      refine AX.iadd (pc := 36) dX12_fallsUpon_36 ?_
      refine AX.iastN (pc := 37) (i := 8 + t) (g := upd f89 (8 + t) ((q (8 + t)) + (nI 1))) (lt_k hn (by omega)) e89 (by decide) (by omega) rfl dX12_fallsUpon_37 ?_
      refine AX.iload (pc := 38) dX12_fallsUpon_38 rfl ?_
      refine AX.if_geN (pc := 40) (tgt := 89) dX12_fallsUpon_40 (by decide) (by decide) (fun hc40 => ?_) (fun q => absurd q (by decide))
      refine AX.aload_n (pc := 89) dX12_fallsUpon_89 rfl ?_
      refine AX.getf (pc := 90) fX12_fallsUpon_13 (lt_k hn (by omega)) ((xset_ne (by decide)).trans hO) rfl dX12_fallsUpon_90 ?_
      refine AX.bipush (pc := 93) (v := nI 10) dX12_fallsUpon_93 (by decide) ?_
      refine AX.iload_n (pc := 95) dX12_fallsUpon_95 rfl ?_
      refine AX.iaddN (pc := 96) (c := 10 + t) dX12_fallsUpon_96 rfl ?_
      refine AX.dup2 (pc := 97) dX12_fallsUpon_97 rfl rfl ?_
      refine AX.ialdN (pc := 98) (i := 10 + t) (v := (q (10 + t))) (lt_k hn (by omega)) (xset_same _ _ _) (by decide) (by omega) ((upd_off (by omega)).trans (q89 _ (by omega))) dX12_fallsUpon_98 ?_
      refine AX.iload_n (pc := 99) dX12_fallsUpon_99 rfl ?_
      refine AX.iload (pc := 100) dX12_fallsUpon_100 rfl ?_
      refine AX.isub (pc := 102) dX12_fallsUpon_102 ?_
      refine AX.iadd (pc := 103) dX12_fallsUpon_103 ?_
      refine AX.iastN (pc := 104) (i := 10 + t) (g := upd (upd f89 (8 + t) ((q (8 + t)) + (nI 1))) (10 + t) ((q (10 + t)) + (nI r - nI 0))) (lt_k hn (by omega)) (xset_same _ _ _) (by decide) (by omega) rfl dX12_fallsUpon_104 ?_
      refine AX.aload_n (pc := 105) dX12_fallsUpon_105 rfl ?_
      refine AX.getf (pc := 106) fX12_fallsUpon_13 (lt_k hn (by omega)) ((xset_ne (by decide)).trans ((xset_ne (by decide)).trans hO)) rfl dX12_fallsUpon_106 ?_
      refine AX.iconst (pc := 109) (v := nI 4) dX12_fallsUpon_109 (by decide) ?_
      refine AX.iload_n (pc := 110) dX12_fallsUpon_110 rfl ?_
      refine AX.iaddN (pc := 111) (c := 4 + t) dX12_fallsUpon_111 rfl ?_
      refine AX.iload (pc := 112) dX12_fallsUpon_112 rfl ?_
      refine AX.iastN (pc := 114) (i := 4 + t) (g := upd (upd (upd f89 (8 + t) ((q (8 + t)) + (nI 1))) (10 + t) ((q (10 + t)) + (nI r - nI 0))) (4 + t) (nI 0)) (lt_k hn (by omega)) (xset_same _ _ _) (by decide) (by omega) rfl dX12_fallsUpon_114 ?_
      refine AX.aload_n (pc := 115) dX12_fallsUpon_115 rfl ?_
      refine AX.getf (pc := 116) fX12_fallsUpon_13 (lt_k hn (by omega)) ((xset_ne (by decide)).trans ((xset_ne (by decide)).trans ((xset_ne (by decide)).trans hO))) rfl dX12_fallsUpon_116 ?_
      refine AX.bipush (pc := 119) (v := nI 16) dX12_fallsUpon_119 (by decide) ?_
      refine AX.dup2 (pc := 121) dX12_fallsUpon_121 rfl rfl ?_
      refine AX.ialdN (pc := 122) (i := 16) (v := (q 16)) (lt_k hn (by omega)) (xset_same _ _ _) (by decide) (by decide) ((upd_off (by omega)).trans ((upd_off (by omega)).trans ((upd_off (by omega)).trans (q89 _ (by omega))))) dX12_fallsUpon_122 ?_
      refine AX.iconst (pc := 123) (v := nI 1) dX12_fallsUpon_123 (by decide) ?_
      refine AX.isub (pc := 124) dX12_fallsUpon_124 ?_
      refine AX.iastN (pc := 125) (i := 16) (g := upd (upd (upd (upd f89 (8 + t) ((q (8 + t)) + (nI 1))) (10 + t) ((q (10 + t)) + (nI r - nI 0))) (4 + t) (nI 0)) 16 ((q 16) - (nI 1))) (lt_k hn (by omega)) (xset_same _ _ _) (by decide) (by decide) rfl dX12_fallsUpon_125 ?_
      refine AX.iload (pc := 126) dX12_fallsUpon_126 rfl ?_
      refine AX.if_neN (pc := 128) (tgt := 160) dX12_fallsUpon_128 (by decide) (by decide) (fun q => absurd q (by decide)) (fun hc128 => ?_)
      refine AX.aload_n (pc := 131) dX12_fallsUpon_131 rfl ?_
      refine AX.getf (pc := 132) fX12_fallsUpon_13 (lt_k hn (by omega)) ((xset_ne (by decide)).trans ((xset_ne (by decide)).trans ((xset_ne (by decide)).trans ((xset_ne (by decide)).trans hO)))) rfl dX12_fallsUpon_132 ?_
      refine AX.bipush (pc := 135) (v := nI 6) dX12_fallsUpon_135 (by decide) ?_
      refine AX.iload_n (pc := 137) dX12_fallsUpon_137 rfl ?_
      refine AX.iaddN (pc := 138) (c := 6 + t) dX12_fallsUpon_138 rfl ?_
      refine AX.dup2 (pc := 139) dX12_fallsUpon_139 rfl rfl ?_
      refine AX.ialdN (pc := 140) (i := 6 + t) (v := (q (6 + t))) (lt_k hn (by omega)) (xset_same _ _ _) (by decide) (by omega) ((upd_off (by omega)).trans ((upd_off (by omega)).trans ((upd_off (by omega)).trans ((upd_off (by omega)).trans (q89 _ (by omega)))))) dX12_fallsUpon_140 ?_
      refine AX.iconst (pc := 141) (v := nI 1) dX12_fallsUpon_141 (by decide) ?_
      refine AX.iadd (pc := 142) dX12_fallsUpon_142 ?_
      refine AX.iastN (pc := 143) (i := 6 + t) (g := upd (upd (upd (upd (upd f89 (8 + t) ((q (8 + t)) + (nI 1))) (10 + t) ((q (10 + t)) + (nI r - nI 0))) (4 + t) (nI 0)) 16 ((q 16) - (nI 1))) (6 + t) ((q (6 + t)) + (nI 1))) (lt_k hn (by omega)) (xset_same _ _ _) (by decide) (by omega) rfl dX12_fallsUpon_143 ?_
      have sx : Same [89] h (xset (xset (xset (xset (xset h 89 (.inl (0, 19, .inl (upd f89 (8 + t) ((q (8 + t)) + (nI 1)))))) 89 (.inl (0, 19, .inl (upd (upd f89 (8 + t) ((q (8 + t)) + (nI 1))) (10 + t) ((q (10 + t)) + (nI r - nI 0)))))) 89 (.inl (0, 19, .inl (upd (upd (upd f89 (8 + t) ((q (8 + t)) + (nI 1))) (10 + t) ((q (10 + t)) + (nI r - nI 0))) (4 + t) (nI 0))))) 89 (.inl (0, 19, .inl (upd (upd (upd (upd f89 (8 + t) ((q (8 + t)) + (nI 1))) (10 + t) ((q (10 + t)) + (nI r - nI 0))) (4 + t) (nI 0)) 16 ((q 16) - (nI 1)))))) 89 (.inl (0, 19, .inl (upd (upd (upd (upd (upd f89 (8 + t) ((q (8 + t)) + (nI 1))) (10 + t) ((q (10 + t)) + (nI r - nI 0))) (4 + t) (nI 0)) 16 ((q 16) - (nI 1))) (6 + t) ((q (6 + t)) + (nI 1)))))) := Same.set (Same.set (Same.set (Same.set (Same.set (Same.rf) (by simp)) (by simp)) (by simp)) (by simp)) (by simp)
      refine AX.aload_n (pc := 144) dX12_fallsUpon_144 rfl ?_
      refine AX.iconst (pc := 145) (v := nI 1) dX12_fallsUpon_145 (by decide) ?_
      refine AX.aload_n (pc := 146) dX12_fallsUpon_146 rfl ?_
      refine AX.getf (pc := 147) fX12_fallsUpon_13 (lt_k hn (by omega)) ((xset_ne (by decide)).trans ((xset_ne (by decide)).trans ((xset_ne (by decide)).trans ((xset_ne (by decide)).trans ((xset_ne (by decide)).trans hO))))) rfl dX12_fallsUpon_147 ?_
      refine AX.bipush (pc := 150) (v := nI 14) dX12_fallsUpon_150 (by decide) ?_
      refine AX.ialdN (pc := 152) (i := 14) (v := (nI g)) (lt_k hn (by omega)) (xset_same _ _ _) (by decide) (by decide) ((upd_off (by omega)).trans ((upd_off (by omega)).trans ((upd_off (by omega)).trans ((upd_off (by omega)).trans ((upd_off (by omega)).trans ((q89 _ (by omega)).trans e14)))))) dX12_fallsUpon_152 ?_
      refine AX.isubN (pc := 153) (c := 1 - g) dX12_fallsUpon_153 (by omega) ?_
      refine AX.callV (pc := 154) (M2 := M_X12_beginsLeg) (As := [.int (nI (1 - g))]) (rest := []) (c_mBegins w (xset (xset (xset (xset (xset h 89 (.inl (0, 19, .inl (upd f89 (8 + t) ((q (8 + t)) + (nI 1)))))) 89 (.inl (0, 19, .inl (upd (upd f89 (8 + t) ((q (8 + t)) + (nI 1))) (10 + t) ((q (10 + t)) + (nI r - nI 0)))))) 89 (.inl (0, 19, .inl (upd (upd (upd f89 (8 + t) ((q (8 + t)) + (nI 1))) (10 + t) ((q (10 + t)) + (nI r - nI 0))) (4 + t) (nI 0))))) 89 (.inl (0, 19, .inl (upd (upd (upd (upd f89 (8 + t) ((q (8 + t)) + (nI 1))) (10 + t) ((q (10 + t)) + (nI r - nI 0))) (4 + t) (nI 0)) 16 ((q 16) - (nI 1)))))) 89 (.inl (0, 19, .inl (upd (upd (upd (upd (upd f89 (8 + t) ((q (8 + t)) + (nI 1))) (10 + t) ((q (10 + t)) + (nI r - nI 0))) (4 + t) (nI 0)) 16 ((q 16) - (nI 1))) (6 + t) ((q (6 + t)) + (nI 1)))))) (sx.le hn) (hO.same sx (by simp)) (q := upd (upd (upd (upd (upd q (8 + t) ((q (8 + t)) + (nI 1))) (10 + t) ((q (10 + t)) + (nI r - nI 0))) (4 + t) (nI 0)) 16 ((q 16) - (nI 1))) (6 + t) ((q (6 + t)) + (nI 1))) ⟨_, (xset_same _ _ _), upd_agree (upd_agree (upd_agree (upd_agree (upd_agree (q89)))))⟩ (p := 1 - g) (by omega)) xc_X12_fallsUpon__X12_beginsLeg gX12_fallsUpon_X12_beginsLeg (ci := 11) rfl (lt_k hn (by omega)) ((xset_ne (by decide)).trans ((xset_ne (by decide)).trans ((xset_ne (by decide)).trans ((xset_ne (by decide)).trans ((xset_ne (by decide)).trans hO))))) rfl (Nat.le_of_ble_eq_true rfl) dX12_fallsUpon_154 ?_
      rintro _ h1 ⟨rfl, s1, n1⟩
      show AX w M_X12_fallsUpon 0 0 157 [.ref 87, .int (nI x), .int (nI t), .int (nI r), .int (nI 0)] [] _ _
      refine AX.goto (pc := 157) (tgt := 177) dX12_fallsUpon_157 (by decide) ?_
      refine AX.iload (pc := 177) dX12_fallsUpon_177 rfl ?_
      refine AX.iret (pc := 179) dX12_fallsUpon_179 rfl rfl (by decide) (by decide) ?_
      have hz : ldN q t g (some 0) = bgN (upd (upd (upd (upd (upd q (8 + t) ((q (8 + t)) + (nI 1))) (10 + t) ((q (10 + t)) + (nI r - nI 0))) (4 + t) (nI 0)) 16 ((q 16) - (nI 1))) (6 + t) ((q (6 + t)) + (nI 1))) (1 - g) := by
        show bgN (upd (upd (upd (upd (upd q (8 + t) (q (8 + t) + nI 1)) (10 + t) (q (10 + t) + (q (4 + t) - nI 0))) (4 + t) (nI 0)) 16 (q 16 - nI 1)) (6 + t) (q (6 + t) + nI 1)) (1 - g) = _
        rw [e4]
      rw [hz]
      exact ⟨rfl, sx.trans s1, n1⟩
    · obtain ⟨e, rfl⟩ : ∃ e, d = e + 1 := ⟨d - 1, by omega⟩
      have hz : ldN q t g (some (e + 1)) = if q 16 - nI 1 = 0 then bvN (upd (upd (upd (upd q (8 + t) (q (8 + t) + nI 1)) (10 + t) (q (10 + t) + (nI r - nI (e + 1)))) (4 + t) (nI (e + 1))) 16 (q 16 - nI 1)) (1 - t) else upd (upd (upd (upd q (8 + t) (q (8 + t) + nI 1)) (10 + t) (q (10 + t) + (nI r - nI (e + 1)))) (4 + t) (nI (e + 1))) 16 (q 16 - nI 1) := by
        show (if q 16 - nI 1 = 0 then bvN (upd (upd (upd (upd q (8 + t) (q (8 + t) + nI 1)) (10 + t) (q (10 + t) + (q (4 + t) - nI (e + 1)))) (4 + t) (nI (e + 1))) 16 (q 16 - nI 1)) (1 - t) else upd (upd (upd (upd q (8 + t) (q (8 + t) + nI 1)) (10 + t) (q (10 + t) + (q (4 + t) - nI (e + 1)))) (4 + t) (nI (e + 1))) 16 (q 16 - nI 1)) = _
        rw [e4]
      refine AX.aload_n (pc := 0) dX12_fallsUpon_0 rfl ?_
      refine AX.getf (pc := 1) fX12_fallsUpon_13 (lt_k hn (by omega)) hO rfl dX12_fallsUpon_1 ?_
      refine AX.bipush (pc := 4) (v := nI 15) dX12_fallsUpon_4 (by decide) ?_
      refine AX.ialdN (pc := 6) (i := 15) (v := (nI t)) (lt_k hn (by omega)) e89 (by decide) (by decide) ((q89 _ (by omega)).trans e15) dX12_fallsUpon_6 ?_
      refine AX.istore_n (pc := 7) (L' := [.ref 87, .int (nI x), .int (nI t), .null, .null]) dX12_fallsUpon_7 (by decide) rfl ?_
      refine AX.aload_n (pc := 8) dX12_fallsUpon_8 rfl ?_
      refine AX.getf (pc := 9) fX12_fallsUpon_13 (lt_k hn (by omega)) hO rfl dX12_fallsUpon_9 ?_
      refine AX.iconst (pc := 12) (v := nI 4) dX12_fallsUpon_12 (by decide) ?_
      refine AX.iload_n (pc := 13) dX12_fallsUpon_13 rfl ?_
      refine AX.iaddN (pc := 14) (c := 4 + t) dX12_fallsUpon_14 rfl ?_
      refine AX.ialdN (pc := 15) (i := 4 + t) (v := (nI r)) (lt_k hn (by omega)) e89 (by decide) (by omega) ((q89 _ (by omega)).trans e4) dX12_fallsUpon_15 ?_
      refine AX.istore_n (pc := 16) (L' := [.ref 87, .int (nI x), .int (nI t), .int (nI r), .null]) dX12_fallsUpon_16 (by decide) rfl ?_
      refine AX.aload_n (pc := 17) dX12_fallsUpon_17 rfl ?_
      refine AX.iload_n (pc := 18) dX12_fallsUpon_18 rfl ?_
      refine AX.iload_n (pc := 19) dX12_fallsUpon_19 rfl ?_
      refine AX.callV (pc := 20) (M2 := M_X12_nextRest) (As := [.int (nI r), .int (nI x)]) (rest := []) (c_nextRest w h hn hO hN ho12 ho r x (by omega) hx) xc_X12_fallsUpon__X12_nextRest gX12_fallsUpon_X12_nextRest (ci := 11) rfl (lt_k hn (by omega)) hO rfl (Nat.le_of_ble_eq_true rfl) dX12_fallsUpon_20 ?_
      rintro _ h9 ⟨rfl, e9⟩
      have e9 := e9.symm
      subst e9
      rw [hX]
      show AX w M_X12_fallsUpon 0 0 23 [.ref 87, .int (nI x), .int (nI t), .int (nI r), .null] [.int (nI (e + 1))] _ _
      refine AX.istore (pc := 23) (L' := [.ref 87, .int (nI x), .int (nI t), .int (nI r), .int (nI (e + 1))]) dX12_fallsUpon_23 (by decide) rfl ?_
      refine AX.aload_n (pc := 25) dX12_fallsUpon_25 rfl ?_
      refine AX.getf (pc := 26) fX12_fallsUpon_13 (lt_k hn (by omega)) hO rfl dX12_fallsUpon_26 ?_
      refine AX.bipush (pc := 29) (v := nI 8) dX12_fallsUpon_29 (by decide) ?_
      refine AX.iload_n (pc := 31) dX12_fallsUpon_31 rfl ?_
      refine AX.iaddN (pc := 32) (c := 8 + t) dX12_fallsUpon_32 rfl ?_
      refine AX.dup2 (pc := 33) dX12_fallsUpon_33 rfl rfl ?_
      refine AX.ialdN (pc := 34) (i := 8 + t) (v := (q (8 + t))) (lt_k hn (by omega)) e89 (by decide) (by omega) (q89 _ (by omega)) dX12_fallsUpon_34 ?_
      refine AX.iconst (pc := 35) (v := nI 1) dX12_fallsUpon_35 (by decide) ?_
      refine AX.iadd (pc := 36) dX12_fallsUpon_36 ?_
      refine AX.iastN (pc := 37) (i := 8 + t) (g := upd f89 (8 + t) ((q (8 + t)) + (nI 1))) (lt_k hn (by omega)) e89 (by decide) (by omega) rfl dX12_fallsUpon_37 ?_
      refine AX.iload (pc := 38) dX12_fallsUpon_38 rfl ?_
      refine AX.if_geN (pc := 40) (tgt := 89) dX12_fallsUpon_40 (by decide) (by omega) (fun hc40 => ?_) (fun q => absurd q (by omega))
      refine AX.aload_n (pc := 89) dX12_fallsUpon_89 rfl ?_
      refine AX.getf (pc := 90) fX12_fallsUpon_13 (lt_k hn (by omega)) ((xset_ne (by decide)).trans hO) rfl dX12_fallsUpon_90 ?_
      refine AX.bipush (pc := 93) (v := nI 10) dX12_fallsUpon_93 (by decide) ?_
      refine AX.iload_n (pc := 95) dX12_fallsUpon_95 rfl ?_
      refine AX.iaddN (pc := 96) (c := 10 + t) dX12_fallsUpon_96 rfl ?_
      refine AX.dup2 (pc := 97) dX12_fallsUpon_97 rfl rfl ?_
      refine AX.ialdN (pc := 98) (i := 10 + t) (v := (q (10 + t))) (lt_k hn (by omega)) (xset_same _ _ _) (by decide) (by omega) ((upd_off (by omega)).trans (q89 _ (by omega))) dX12_fallsUpon_98 ?_
      refine AX.iload_n (pc := 99) dX12_fallsUpon_99 rfl ?_
      refine AX.iload (pc := 100) dX12_fallsUpon_100 rfl ?_
      refine AX.isub (pc := 102) dX12_fallsUpon_102 ?_
      refine AX.iadd (pc := 103) dX12_fallsUpon_103 ?_
      refine AX.iastN (pc := 104) (i := 10 + t) (g := upd (upd f89 (8 + t) ((q (8 + t)) + (nI 1))) (10 + t) ((q (10 + t)) + (nI r - nI (e + 1)))) (lt_k hn (by omega)) (xset_same _ _ _) (by decide) (by omega) rfl dX12_fallsUpon_104 ?_
      refine AX.aload_n (pc := 105) dX12_fallsUpon_105 rfl ?_
      refine AX.getf (pc := 106) fX12_fallsUpon_13 (lt_k hn (by omega)) ((xset_ne (by decide)).trans ((xset_ne (by decide)).trans hO)) rfl dX12_fallsUpon_106 ?_
      refine AX.iconst (pc := 109) (v := nI 4) dX12_fallsUpon_109 (by decide) ?_
      refine AX.iload_n (pc := 110) dX12_fallsUpon_110 rfl ?_
      refine AX.iaddN (pc := 111) (c := 4 + t) dX12_fallsUpon_111 rfl ?_
      refine AX.iload (pc := 112) dX12_fallsUpon_112 rfl ?_
      refine AX.iastN (pc := 114) (i := 4 + t) (g := upd (upd (upd f89 (8 + t) ((q (8 + t)) + (nI 1))) (10 + t) ((q (10 + t)) + (nI r - nI (e + 1)))) (4 + t) (nI (e + 1))) (lt_k hn (by omega)) (xset_same _ _ _) (by decide) (by omega) rfl dX12_fallsUpon_114 ?_
      refine AX.aload_n (pc := 115) dX12_fallsUpon_115 rfl ?_
      refine AX.getf (pc := 116) fX12_fallsUpon_13 (lt_k hn (by omega)) ((xset_ne (by decide)).trans ((xset_ne (by decide)).trans ((xset_ne (by decide)).trans hO))) rfl dX12_fallsUpon_116 ?_
      refine AX.bipush (pc := 119) (v := nI 16) dX12_fallsUpon_119 (by decide) ?_
      refine AX.dup2 (pc := 121) dX12_fallsUpon_121 rfl rfl ?_
      refine AX.ialdN (pc := 122) (i := 16) (v := (q 16)) (lt_k hn (by omega)) (xset_same _ _ _) (by decide) (by decide) ((upd_off (by omega)).trans ((upd_off (by omega)).trans ((upd_off (by omega)).trans (q89 _ (by omega))))) dX12_fallsUpon_122 ?_
      refine AX.iconst (pc := 123) (v := nI 1) dX12_fallsUpon_123 (by decide) ?_
      refine AX.isub (pc := 124) dX12_fallsUpon_124 ?_
      refine AX.iastN (pc := 125) (i := 16) (g := upd (upd (upd (upd f89 (8 + t) ((q (8 + t)) + (nI 1))) (10 + t) ((q (10 + t)) + (nI r - nI (e + 1)))) (4 + t) (nI (e + 1))) 16 ((q 16) - (nI 1))) (lt_k hn (by omega)) (xset_same _ _ _) (by decide) (by decide) rfl dX12_fallsUpon_125 ?_
      refine AX.iload (pc := 126) dX12_fallsUpon_126 rfl ?_
      refine AX.if_neN (pc := 128) (tgt := 160) dX12_fallsUpon_128 (by decide) (by omega) (fun hc128 => ?_) (fun q => absurd q (by omega))
      refine AX.aload_n (pc := 160) dX12_fallsUpon_160 rfl ?_
      refine AX.getf (pc := 161) fX12_fallsUpon_13 (lt_k hn (by omega)) ((xset_ne (by decide)).trans ((xset_ne (by decide)).trans ((xset_ne (by decide)).trans ((xset_ne (by decide)).trans hO)))) rfl dX12_fallsUpon_161 ?_
      refine AX.bipush (pc := 164) (v := nI 16) dX12_fallsUpon_164 (by decide) ?_
      refine AX.ialdN (pc := 166) (i := 16) (v := ((q 16) - (nI 1))) (lt_k hn (by omega)) (xset_same _ _ _) (by decide) (by decide) (upd_at _ _ _) dX12_fallsUpon_166 ?_
      refine AX.if_ne (pc := 167) (tgt := 177) dX12_fallsUpon_167 (by decide) (fun hc167 => ?_) (fun hc167 => ?_)
      · refine AX.iload (pc := 177) dX12_fallsUpon_177 rfl ?_
        refine AX.iret (pc := 179) dX12_fallsUpon_179 rfl rfl (by decide) (by decide) ?_
        have sx : Same [89] h (xset (xset (xset (xset h 89 (.inl (0, 19, .inl (upd f89 (8 + t) ((q (8 + t)) + (nI 1)))))) 89 (.inl (0, 19, .inl (upd (upd f89 (8 + t) ((q (8 + t)) + (nI 1))) (10 + t) ((q (10 + t)) + (nI r - nI (e + 1))))))) 89 (.inl (0, 19, .inl (upd (upd (upd f89 (8 + t) ((q (8 + t)) + (nI 1))) (10 + t) ((q (10 + t)) + (nI r - nI (e + 1)))) (4 + t) (nI (e + 1)))))) 89 (.inl (0, 19, .inl (upd (upd (upd (upd f89 (8 + t) ((q (8 + t)) + (nI 1))) (10 + t) ((q (10 + t)) + (nI r - nI (e + 1)))) (4 + t) (nI (e + 1))) 16 ((q 16) - (nI 1)))))) := Same.set (Same.set (Same.set (Same.set (Same.rf) (by simp)) (by simp)) (by simp)) (by simp)
        rw [hz, if_neg hc167]
        exact ⟨rfl, sx, ⟨_, (xset_same _ _ _), upd_agree (upd_agree (upd_agree (upd_agree (q89))))⟩⟩
      · have sx : Same [89] h (xset (xset (xset (xset h 89 (.inl (0, 19, .inl (upd f89 (8 + t) ((q (8 + t)) + (nI 1)))))) 89 (.inl (0, 19, .inl (upd (upd f89 (8 + t) ((q (8 + t)) + (nI 1))) (10 + t) ((q (10 + t)) + (nI r - nI (e + 1))))))) 89 (.inl (0, 19, .inl (upd (upd (upd f89 (8 + t) ((q (8 + t)) + (nI 1))) (10 + t) ((q (10 + t)) + (nI r - nI (e + 1)))) (4 + t) (nI (e + 1)))))) 89 (.inl (0, 19, .inl (upd (upd (upd (upd f89 (8 + t) ((q (8 + t)) + (nI 1))) (10 + t) ((q (10 + t)) + (nI r - nI (e + 1)))) (4 + t) (nI (e + 1))) 16 ((q 16) - (nI 1)))))) := Same.set (Same.set (Same.set (Same.set (Same.rf) (by simp)) (by simp)) (by simp)) (by simp)
        refine AX.aload_n (pc := 170) dX12_fallsUpon_170 rfl ?_
        refine AX.iconst (pc := 171) (v := nI 1) dX12_fallsUpon_171 (by decide) ?_
        refine AX.iload_n (pc := 172) dX12_fallsUpon_172 rfl ?_
        refine AX.isubN (pc := 173) (c := 1 - t) dX12_fallsUpon_173 (by omega) ?_
        refine AX.callV (pc := 174) (M2 := M_X12_beginsVisit) (As := [.int (nI (1 - t))]) (rest := []) (c_mVisit w (xset (xset (xset (xset h 89 (.inl (0, 19, .inl (upd f89 (8 + t) ((q (8 + t)) + (nI 1)))))) 89 (.inl (0, 19, .inl (upd (upd f89 (8 + t) ((q (8 + t)) + (nI 1))) (10 + t) ((q (10 + t)) + (nI r - nI (e + 1))))))) 89 (.inl (0, 19, .inl (upd (upd (upd f89 (8 + t) ((q (8 + t)) + (nI 1))) (10 + t) ((q (10 + t)) + (nI r - nI (e + 1)))) (4 + t) (nI (e + 1)))))) 89 (.inl (0, 19, .inl (upd (upd (upd (upd f89 (8 + t) ((q (8 + t)) + (nI 1))) (10 + t) ((q (10 + t)) + (nI r - nI (e + 1)))) (4 + t) (nI (e + 1))) 16 ((q 16) - (nI 1)))))) (sx.le hn) (hO.same sx (by simp)) (q := upd (upd (upd (upd q (8 + t) ((q (8 + t)) + (nI 1))) (10 + t) ((q (10 + t)) + (nI r - nI (e + 1)))) (4 + t) (nI (e + 1))) 16 ((q 16) - (nI 1))) ⟨_, (xset_same _ _ _), upd_agree (upd_agree (upd_agree (upd_agree (q89))))⟩ (p := 1 - t) (by omega)) xc_X12_fallsUpon__X12_beginsVisit gX12_fallsUpon_X12_beginsVisit (ci := 11) rfl (lt_k hn (by omega)) ((xset_ne (by decide)).trans ((xset_ne (by decide)).trans ((xset_ne (by decide)).trans ((xset_ne (by decide)).trans hO)))) rfl (Nat.le_of_ble_eq_true rfl) dX12_fallsUpon_174 ?_
        rintro _ h1 ⟨rfl, s1, n1⟩
        show AX w M_X12_fallsUpon 0 0 177 [.ref 87, .int (nI x), .int (nI t), .int (nI r), .int (nI (e + 1))] [] _ _
        refine AX.iload (pc := 177) dX12_fallsUpon_177 rfl ?_
        refine AX.iret (pc := 179) dX12_fallsUpon_179 rfl rfl (by decide) (by decide) ?_
        rw [hz, if_pos hc167]
        exact ⟨rfl, sx.trans s1, n1⟩
theorem c_mUponS (w : XW) (h : XH) {s : SS} {n o x : Nat} {a b : Nat × Nat} (c : MS h s) (l : LV (sq s) n o a b) (hx : x < 63) : CA w M_X12_fallsUpon [.ref 87, .int (nI x)] h (fun v' h' => v' = some (.int (oI (nxN o (qr (sq s)) x))) ∧ Same [89] h h' ∧ MS h' (wq s (thN o (sq s) x))) := by
  obtain ⟨v, hO, -⟩ := id c.ob
  obtain ⟨t1, g1, e15, e14, e4, r1, r5⟩ := l.now
  exact CA.mono (fun v' h' H => ⟨H.1, H.2.1, c.now H.2.1 H.2.2⟩) (c_mUpon w h c.hn hO c.nw l.q12 l.ho t1 g1 e15 e14 e4 r5 hx)
theorem c_mStart (w : XW) (h : XH) {s : SS} {n o : Nat} {a b : Nat × Nat} (c : MS h s) (l : LV (sq s) n o a b) (x : Int32) : CA w M_X12_start [.ref 87, .int x] h (fun v' h'' => v' = some (.int (aStart (sq s) x)) ∧ Same mdS h h'' ∧ MS h'' (wq s (nStart (sq s) x))) := by
  obtain ⟨v, hO, hv⟩ := id c.ob
  obtain ⟨f89, e89, q89⟩ := id c.nw
  by_cases h_x : inR 2 501 x
  · obtain ⟨xn, rfl, l_x, u_x⟩ := inR_nat (by decide) h_x
    have en : nStart (sq s) (nI xn) = bgN (upd (sq s) 13 (nI xn)) (qg (sq s)) := by unfold nStart; rw [if_pos h_x]
    rw [en]
    obtain ⟨t1, g1, e15, e14, e4, r1, r5⟩ := l.now
    refine CA.of (by decide) rfl (fun _ => Nat.le_of_ble_eq_true rfl) ?_
    show AX w M_X12_start 0 0 0 [.ref 87, .int (nI xn), .null] [] h _
    refine AX.iload_n (pc := 0) dX12_start_0 rfl ?_
    refine AX.i2l (pc := 1) dX12_start_1 ?_
    refine AX.ldc2 (pc := 2) (v := 2) dX12_start_2 cX12_start_149 ?_
    refine AX.ldc2 (pc := 5) (v := 501) dX12_start_5 cX12_start_151 ?_
    refine AX.callS (pc := 8) (M2 := M_X12_in) (As := [.long ((nI xn).toInt64), .long 2, .long 501]) (rest := []) (c_in w h ((nI xn).toInt64) (2) (501)) xc_X12_start__X12_in gX12_start_X12_in rfl (Nat.le_of_ble_eq_true rfl) dX12_start_8 ?_
    rintro _ h9 ⟨rfl, e9⟩
    have e9 := e9.symm
    subst e9
    rw [decide_eq_true ((in_iff (by decide) (by decide)).mpr h_x)]
    show AX w M_X12_start 0 0 11 [.ref 87, .int (nI xn), .null] [.int (bI true)] _ _
    refine AX.if_neB (pc := 11) (tgt := 17) dX12_start_11 (by decide) (fun hc11 => ?_) (fun q => absurd q (by decide))
    refine AX.aload_n (pc := 17) dX12_start_17 rfl ?_
    refine AX.getf (pc := 18) fX12_start_13 (lt_k c.hn (by omega)) hO rfl dX12_start_18 ?_
    refine AX.bipush (pc := 21) (v := nI 13) dX12_start_21 (by decide) ?_
    refine AX.ialdN (pc := 23) (i := 13) (v := (sq s 13)) (lt_k c.hn (by omega)) e89 (by decide) (by decide) (q89 _ (by omega)) dX12_start_23 ?_
    refine AX.istore_n (pc := 24) (L' := [.ref 87, .int (nI xn), .int (sq s 13)]) dX12_start_24 (by decide) rfl ?_
    refine AX.aload_n (pc := 25) dX12_start_25 rfl ?_
    refine AX.getf (pc := 26) fX12_start_13 (lt_k c.hn (by omega)) hO rfl dX12_start_26 ?_
    refine AX.bipush (pc := 29) (v := nI 13) dX12_start_29 (by decide) ?_
    refine AX.iload_n (pc := 31) dX12_start_31 rfl ?_
    refine AX.iastN (pc := 32) (i := 13) (g := upd f89 13 (nI xn)) (lt_k c.hn (by omega)) e89 (by decide) (by decide) rfl dX12_start_32 ?_
    have sx : Same [89] h (xset h 89 (.inl (0, 19, .inl (upd f89 13 (nI xn))))) := Same.set (Same.rf) (by simp)
    refine AX.aload_n (pc := 33) dX12_start_33 rfl ?_
    refine AX.aload_n (pc := 34) dX12_start_34 rfl ?_
    refine AX.getf (pc := 35) fX12_start_13 (lt_k c.hn (by omega)) ((xset_ne (by decide)).trans hO) rfl dX12_start_35 ?_
    refine AX.bipush (pc := 38) (v := nI 14) dX12_start_38 (by decide) ?_
    refine AX.ialdN (pc := 40) (i := 14) (v := (nI (qg (sq s)))) (lt_k c.hn (by omega)) (xset_same _ _ _) (by decide) (by decide) ((upd_off (by omega)).trans ((q89 _ (by omega)).trans e14)) dX12_start_40 ?_
    refine AX.callV (pc := 41) (M2 := M_X12_beginsLeg) (As := [.int (nI (qg (sq s)))]) (rest := []) (c_mBegins w (xset h 89 (.inl (0, 19, .inl (upd f89 13 (nI xn))))) (sx.le c.hn) (hO.same sx (by simp)) (q := upd (sq s) 13 (nI xn)) ⟨_, (xset_same _ _ _), upd_agree q89⟩ (p := qg (sq s)) g1) xc_X12_start__X12_beginsLeg gX12_start_X12_beginsLeg (ci := 11) rfl (lt_k c.hn (by omega)) ((xset_ne (by decide)).trans hO) rfl (Nat.le_of_ble_eq_true rfl) dX12_start_41 ?_
    rintro _ h1 ⟨rfl, s1, n1⟩
    show AX w M_X12_start 0 0 44 [.ref 87, .int (nI xn), .int (sq s 13)] [] _ _
    refine AX.iload_n (pc := 44) dX12_start_44 rfl ?_
    refine AX.iret (pc := 45) dX12_start_45 rfl rfl (by decide) (by decide) ?_
    exact ⟨by unfold aStart; rw [if_pos h_x]; try rfl, mdS_lt (sx.trans s1) (by decide), c.now (sx.trans s1) n1⟩
  · refine CA.of (by decide) rfl (fun _ => Nat.le_of_ble_eq_true rfl) ?_
    show AX w M_X12_start 0 0 0 [.ref 87, .int x, .null] [] h _
    refine AX.iload_n (pc := 0) dX12_start_0 rfl ?_
    refine AX.i2l (pc := 1) dX12_start_1 ?_
    refine AX.ldc2 (pc := 2) (v := 2) dX12_start_2 cX12_start_149 ?_
    refine AX.ldc2 (pc := 5) (v := 501) dX12_start_5 cX12_start_151 ?_
    refine AX.callS (pc := 8) (M2 := M_X12_in) (As := [.long x.toInt64, .long 2, .long 501]) (rest := []) (c_in w h (x.toInt64) (2) (501)) xc_X12_start__X12_in gX12_start_X12_in rfl (Nat.le_of_ble_eq_true rfl) dX12_start_8 ?_
    rintro _ h9 ⟨rfl, e9⟩
    have e9 := e9.symm
    subst e9
    rw [decide_eq_false (fun q => h_x ((in_iff (by decide) (by decide)).mp q))]
    show AX w M_X12_start 0 0 11 [.ref 87, .int x, .null] [.int (bI false)] _ _
    refine AX.if_neB (pc := 11) (tgt := 17) dX12_start_11 (by decide) (fun q => absurd q (by decide)) (fun hc11 => ?_)
    refine AX.bipush (pc := 14) (v := (-2)) dX12_start_14 (by decide) ?_
    refine AX.iret (pc := 16) dX12_start_16 rfl rfl (by decide) (by decide) ?_
    have en : nStart (sq s) x = sq s := by unfold nStart; rw [if_neg h_x]
    rw [en]
    exact ⟨by unfold aStart; rw [if_neg h_x]; try rfl, Same.rf, c⟩
theorem c_mThrown (w : XW) (h : XH) {s : SS} {n o : Nat} {a b : Nat × Nat} (c : MS h s) (l : LV (sq s) n o a b) (x : Int32) : CA w M_X12_thrown [.ref 87, .int x] h (fun v' h'' => v' = some (.int (aThrown o (sq s) x)) ∧ Same mdS h h'' ∧ MS h'' (wq s (nThrown o (sq s) x))) := by
  obtain ⟨v, hO, hv⟩ := id c.ob
  obtain ⟨f89, e89, q89⟩ := id c.nw
  by_cases h_x : inR 0 62 x
  · obtain ⟨xn, rfl, l_x, u_x⟩ := inR_nat (by decide) h_x
    have en : nThrown o (sq s) (nI xn) = thN o (sq s) xn := by unfold nThrown; rw [if_pos h_x, nI_nat (by omega)]
    rw [en]
    refine CA.of (by decide) rfl (fun _ => Nat.le_of_ble_eq_true rfl) ?_
    show AX w M_X12_thrown 0 0 0 [.ref 87, .int (nI xn)] [] h _
    refine AX.iload_n (pc := 0) dX12_thrown_0 rfl ?_
    refine AX.i2l (pc := 1) dX12_thrown_1 ?_
    refine AX.lconst (pc := 2) (v := 0) dX12_thrown_2 (by decide) ?_
    refine AX.ldc2 (pc := 3) (v := 62) dX12_thrown_3 cX12_thrown_112 ?_
    refine AX.callS (pc := 6) (M2 := M_X12_in) (As := [.long ((nI xn).toInt64), .long 0, .long 62]) (rest := []) (c_in w h ((nI xn).toInt64) (0) (62)) xc_X12_thrown__X12_in gX12_thrown_X12_in rfl (Nat.le_of_ble_eq_true rfl) dX12_thrown_6 ?_
    rintro _ h9 ⟨rfl, e9⟩
    have e9 := e9.symm
    subst e9
    rw [decide_eq_true ((in_iff (by decide) (by decide)).mpr h_x)]
    show AX w M_X12_thrown 0 0 9 [.ref 87, .int (nI xn)] [.int (bI true)] _ _
    refine AX.if_eqB (pc := 9) (tgt := 20) dX12_thrown_9 (by decide) (fun q => absurd q (by decide)) (fun hc9 => ?_)
    refine AX.aload_n (pc := 12) dX12_thrown_12 rfl ?_
    refine AX.iload_n (pc := 13) dX12_thrown_13 rfl ?_
    refine AX.callV (pc := 14) (M2 := M_X12_fallsUpon) (As := [.int (nI xn)]) (rest := []) (c_mUponS w h c l (x := xn) (by omega)) xc_X12_thrown__X12_fallsUpon gX12_thrown_X12_fallsUpon (ci := 11) rfl (lt_k c.hn (by omega)) hO rfl (Nat.le_of_ble_eq_true rfl) dX12_thrown_14 ?_
    rintro _ h1 ⟨rfl, s1, c1⟩
    show AX w M_X12_thrown 0 0 17 [.ref 87, .int (nI xn)] [.int (oI (nxN o (qr (sq s)) xn))] _ _
    refine AX.goto (pc := 17) (tgt := 21) dX12_thrown_17 (by decide) ?_
    refine AX.iret (pc := 21) dX12_thrown_21 rfl rfl (by decide) (by decide) ?_
    exact ⟨by unfold aThrown; rw [if_pos h_x, nI_nat (show xn < 2147483648 by omega)]; try rfl, mdS_lt s1 (by decide), c1⟩
  · refine CA.of (by decide) rfl (fun _ => Nat.le_of_ble_eq_true rfl) ?_
    show AX w M_X12_thrown 0 0 0 [.ref 87, .int x] [] h _
    refine AX.iload_n (pc := 0) dX12_thrown_0 rfl ?_
    refine AX.i2l (pc := 1) dX12_thrown_1 ?_
    refine AX.lconst (pc := 2) (v := 0) dX12_thrown_2 (by decide) ?_
    refine AX.ldc2 (pc := 3) (v := 62) dX12_thrown_3 cX12_thrown_112 ?_
    refine AX.callS (pc := 6) (M2 := M_X12_in) (As := [.long x.toInt64, .long 0, .long 62]) (rest := []) (c_in w h (x.toInt64) (0) (62)) xc_X12_thrown__X12_in gX12_thrown_X12_in rfl (Nat.le_of_ble_eq_true rfl) dX12_thrown_6 ?_
    rintro _ h9 ⟨rfl, e9⟩
    have e9 := e9.symm
    subst e9
    rw [decide_eq_false (fun q => h_x ((in_iff (by decide) (by decide)).mp q))]
    show AX w M_X12_thrown 0 0 9 [.ref 87, .int x] [.int (bI false)] _ _
    refine AX.if_eqB (pc := 9) (tgt := 20) dX12_thrown_9 (by decide) (fun hc9 => ?_) (fun q => absurd q (by decide))
    refine AX.iconst (pc := 20) (v := (-1)) dX12_thrown_20 (by decide) ?_
    refine AX.iret (pc := 21) dX12_thrown_21 rfl rfl (by decide) (by decide) ?_
    have en : nThrown o (sq s) x = sq s := by unfold nThrown; rw [if_neg h_x]
    rw [en]
    exact ⟨by unfold aThrown; rw [if_neg h_x]; try rfl, Same.rf, c⟩
theorem l_drawn (w : XW) (h : XH) {v : Nat → Int32} {m d sd rg : Nat} (hn : 118 ≤ h.1) (hO : MO h v) (hF : FL h m sd rg) (h1 : 1 ≤ m) (h2 : m ≤ 62) (hs : sd ≤ 200) (hr : rg ≤ 200) (hd : d < 1000) (P : Option Value → XH → Prop) : ∀ (g i : Nat), i + (g + 1) = fC m → P (some (.int (nI (fuN sd rg m d (g + 1) i)))) h → AX w M_X12_drawn 0 0 59 [.ref 87, .int (nI m), .int (nI d), .int (nI i), .int (nI (wTo sd rg m (i + 1)))] [] h P
  | 0, i, hg, hP => by
    obtain ⟨⟨f91, e91, q91⟩, ⟨f92, e92, q92⟩⟩ := id hF
    have hc5 := fC_le m
    have hall := wTo_all hs hr h1 (show m < 63 by omega)
    have hmo := wTo_mono sd rg m (k := i + 1) (j := fC m) (by omega)
    have hi : fC m = i + 1 := by omega
    rw [hi] at hall
    have hf : fuN sd rg m d 1 i = fS (5 * m + i) := by unfold fuN; rw [if_pos (by omega)]
    rw [show fuN sd rg m d (0 + 1) i = fS (5 * m + i) from hf] at hP
    refine AX.iload (pc := 59) dX12_drawn_59 rfl ?_
    refine AX.iload_n (pc := 61) dX12_drawn_61 rfl ?_
    refine AX.icmp_gtN (pc := 62) (tgt := 82) dX12_drawn_62 (by decide) (by omega) (by omega) (fun hc62 => ?_) (fun q => absurd q (by omega))
    refine AX.aload_n (pc := 82) dX12_drawn_82 rfl ?_
    refine AX.getf (pc := 83) fX12_drawn_19 (lt_k hn (by omega)) hO rfl dX12_drawn_83 ?_
    refine AX.iload_n (pc := 86) dX12_drawn_86 rfl ?_
    refine AX.ialdN (pc := 87) (i := i) (v := (nI (fS (5 * m + i)))) (lt_k hn (by omega)) e91 (by decide) (by omega) (q91 i (by omega)) dX12_drawn_87 ?_
    refine AX.iret (pc := 88) dX12_drawn_88 rfl rfl (by decide) (by decide) ?_
    exact hP
  | g + 1, i, hg, hP => by
    obtain ⟨⟨f91, e91, q91⟩, ⟨f92, e92, q92⟩⟩ := id hF
    have hc5 := fC_le m
    have hall := wTo_all hs hr h1 (show m < 63 by omega)
    have hmo := wTo_mono sd rg m (k := i + 1) (j := fC m) (by omega)
    by_cases hd1 : d < wTo sd rg m (i + 1)
    · have hf : fuN sd rg m d (g + 1 + 1) i = fS (5 * m + i) := by rw [fuN]; exact if_pos hd1
      rw [hf] at hP
      refine AX.iload (pc := 59) dX12_drawn_59 rfl ?_
      refine AX.iload_n (pc := 61) dX12_drawn_61 rfl ?_
      refine AX.icmp_gtN (pc := 62) (tgt := 82) dX12_drawn_62 (by decide) (by omega) (by omega) (fun hc62 => ?_) (fun q => absurd q (by omega))
      refine AX.aload_n (pc := 82) dX12_drawn_82 rfl ?_
      refine AX.getf (pc := 83) fX12_drawn_19 (lt_k hn (by omega)) hO rfl dX12_drawn_83 ?_
      refine AX.iload_n (pc := 86) dX12_drawn_86 rfl ?_
      refine AX.ialdN (pc := 87) (i := i) (v := (nI (fS (5 * m + i)))) (lt_k hn (by omega)) e91 (by decide) (by omega) (q91 i (by omega)) dX12_drawn_87 ?_
      refine AX.iret (pc := 88) dX12_drawn_88 rfl rfl (by decide) (by decide) ?_
      exact hP
    have hf : fuN sd rg m d (g + 1 + 1) i = fuN sd rg m d (g + 1) (i + 1) := by rw [fuN]; exact if_neg hd1
    rw [hf] at hP
    refine AX.iload (pc := 59) dX12_drawn_59 rfl ?_
    refine AX.iload_n (pc := 61) dX12_drawn_61 rfl ?_
    refine AX.icmp_gtN (pc := 62) (tgt := 82) dX12_drawn_62 (by decide) (by omega) (by omega) (fun q => absurd q (by omega)) (fun hc62 => ?_)
    refine AX.iincN (c := i + 1) (pc := 65) (L' := [.ref 87, .int (nI m), .int (nI d), .int (nI (i + 1)), .int (nI (wTo sd rg m (i + 1)))]) dX12_drawn_65 rfl (inc1 _) (by decide) rfl ?_
    refine AX.iload (pc := 68) dX12_drawn_68 rfl ?_
    refine AX.aload_n (pc := 70) dX12_drawn_70 rfl ?_
    refine AX.getf (pc := 71) fX12_drawn_22 (lt_k hn (by omega)) hO rfl dX12_drawn_71 ?_
    refine AX.iload_n (pc := 74) dX12_drawn_74 rfl ?_
    refine AX.ialdN (pc := 75) (i := i + 1) (v := (nI (wtN sd rg (5 * m + (i + 1))))) (lt_k hn (by omega)) e92 (by decide) (by omega) (q92 (i + 1) (by omega)) dX12_drawn_75 ?_
    refine AX.iaddN (pc := 76) (c := wTo sd rg m (i + 1) + (wtN sd rg (5 * m + (i + 1)))) dX12_drawn_76 rfl ?_
    refine AX.istore (pc := 77) (L' := [.ref 87, .int (nI m), .int (nI d), .int (nI (i + 1)), .int (nI (wTo sd rg m (i + 1) + (wtN sd rg (5 * m + (i + 1)))))]) dX12_drawn_77 (by decide) rfl ?_
    refine AX.goto (pc := 79) (tgt := 59) dX12_drawn_79 (by decide) ?_
    exact l_drawn w h hn hO hF h1 h2 hs hr hd P g (i + 1) (by omega) hP
theorem c_mDrawn (w : XW) (h : XH) {s : SS} {n o m : Nat} {a b : Nat × Nat} (c : MS h s) (l : LV (sq s) n o a b) (h1 : 1 ≤ m) (h2 : m ≤ 62) : CA w M_X12_drawn [.ref 87, .int (nI m)] h (fun v' h' => v' = some (.int (nI (faN a b (sq s) m))) ∧ Same [87, 89, 91, 92] h h' ∧ MS h' (wq s (dwN (sq s)))) := by
  refine CA.of (by decide) rfl (fun _ => Nat.le_of_ble_eq_true rfl) ?_
  obtain ⟨v, hO, hv⟩ := id c.ob
  obtain ⟨f89, e89, q89⟩ := id c.nw
  obtain ⟨t1, g1, e15, e14, e4, r1, r5⟩ := l.now
  obtain ⟨hs1, hr1, hs2, hr2⟩ := l.draw.hq t1
  have hfc : 2 ≤ fC m ∧ fC m ≤ 5 := fC_in (by omega) (by omega)
  show AX w M_X12_drawn 0 0 0 [.ref 87, .int (nI m), .null, .null, .null] [] h _
  have h1_ := h1
  refine AX.aload_n (pc := 0) dX12_drawn_0 rfl ?_
  refine AX.getf (pc := 1) fX12_drawn_13 (lt_k c.hn (by omega)) hO rfl dX12_drawn_1 ?_
  refine AX.bipush (pc := 4) (v := nI 18) dX12_drawn_4 (by decide) ?_
  refine AX.aload_n (pc := 6) dX12_drawn_6 rfl ?_
  refine AX.getf (pc := 7) fX12_drawn_13 (lt_k c.hn (by omega)) hO rfl dX12_drawn_7 ?_
  refine AX.bipush (pc := 10) (v := nI 18) dX12_drawn_10 (by decide) ?_
  refine AX.ialdN (pc := 12) (i := 18) (v := (sq s 18)) (lt_k c.hn (by omega)) e89 (by decide) (by decide) (q89 _ (by omega)) dX12_drawn_12 ?_
  refine AX.ldcw (pc := 13) (v := 1103515245) dX12_drawn_13 cX12_drawn_294 ?_
  refine AX.imul (pc := 16) dX12_drawn_16 ?_
  refine AX.sipush (pc := 17) (v := nI 12345) dX12_drawn_17 (by decide) ?_
  refine AX.iadd (pc := 20) dX12_drawn_20 ?_
  refine AX.iastN (pc := 21) (i := 18) (g := upd f89 18 (((sq s 18) * 1103515245) + (nI 12345))) (lt_k c.hn (by omega)) e89 (by decide) (by decide) rfl dX12_drawn_21 ?_
  have sx : Same [89] h (xset h 89 (.inl (0, 19, .inl (upd f89 18 (((sq s 18) * 1103515245) + (nI 12345)))))) := Same.set (Same.rf) (by simp)
  have cX : MS (xset h 89 (.inl (0, 19, .inl (upd f89 18 (((sq s 18) * 1103515245) + (nI 12345)))))) (wq s (dwN (sq s))) := c.now sx ⟨_, (xset_same _ _ _), upd_agree q89⟩
  have OX := hO.same sx (by simp)
  obtain ⟨⟨g91, e91⟩, ⟨g92, e92⟩, -⟩ := id cX.fx
  refine AX.aload_n (pc := 22) dX12_drawn_22 rfl ?_
  refine AX.getf (pc := 23) fX12_drawn_13 (lt_k c.hn (by omega)) ((xset_ne (by decide)).trans hO) rfl dX12_drawn_23 ?_
  refine AX.bipush (pc := 26) (v := nI 18) dX12_drawn_26 (by decide) ?_
  refine AX.ialdN (pc := 28) (i := 18) (v := (dwN (sq s) 18)) (lt_k c.hn (by omega)) (xset_same _ _ _) (by decide) (by decide) (upd_at _ _ _) dX12_drawn_28 ?_
  refine AX.bipush (pc := 29) (v := nI 16) dX12_drawn_29 (by decide) ?_
  refine AX.iushr (pc := 31) dX12_drawn_31 ?_
  refine AX.sipush (pc := 32) (v := nI 1000) dX12_drawn_32 (by decide) ?_
  refine AX.irem (pc := 35) dX12_drawn_35 (by decide) ?_
  refine AX.topi (y := (nI (drN (dwN (sq s) 18)))) (drN_is _) ?_
  refine AX.istore_n (pc := 36) (L' := [.ref 87, .int (nI m), .int (nI (drN (dwN (sq s) 18))), .null, .null]) dX12_drawn_36 (by decide) rfl ?_
  refine AX.aload_n (pc := 37) dX12_drawn_37 rfl ?_
  refine AX.aload_n (pc := 38) dX12_drawn_38 rfl ?_
  refine AX.getf (pc := 39) fX12_drawn_13 (lt_k c.hn (by omega)) ((xset_ne (by decide)).trans hO) rfl dX12_drawn_39 ?_
  refine AX.bipush (pc := 42) (v := nI 15) dX12_drawn_42 (by decide) ?_
  refine AX.ialdN (pc := 44) (i := 15) (v := (nI (qt (sq s)))) (lt_k c.hn (by omega)) (xset_same _ _ _) (by decide) (by decide) ((upd_off (by omega)).trans ((q89 _ (by omega)).trans e15)) dX12_drawn_44 ?_
  refine AX.iload_n (pc := 45) dX12_drawn_45 rfl ?_
  refine AX.callV (pc := 46) (M2 := M_X12_layFalls) (As := [.int (nI (qt (sq s))), .int (nI m)]) (rest := []) (c_layFalls w _ cX.hn OX cX.nw cX.rg e91 e92 t1 hs1 hr1 hs2 hr2 h1 h2) xc_X12_drawn__X12_layFalls gX12_drawn_X12_layFalls (ci := 11) rfl (lt_k c.hn (by omega)) ((xset_ne (by decide)).trans hO) rfl (Nat.le_of_ble_eq_true rfl) dX12_drawn_46 ?_
  rintro _ h1 ⟨rfl, s1, F1, O1⟩
  have c1 : MS h1 (wq s (dwN (sq s))) := cX.fall s1 (MS.obv hv 1 (by decide) O1) ⟨⟨_, F1.arr.choose_spec.choose_spec.1⟩, ⟨_, F1.arr.choose_spec.choose_spec.2⟩, cX.fx.2.2.1.imp (fun _ z => s1.at (by simp) z), cX.fx.2.2.2.1.imp (fun _ z => s1.at (by simp) z), cX.fx.2.2.2.2.imp (fun _ z => s1.at (by simp) z)⟩
  obtain ⟨⟨f1, y91, q91⟩, ⟨f2, y92, q92⟩⟩ := id F1
  show AX w M_X12_drawn 0 0 49 [.ref 87, .int (nI m), .int (nI (drN (dwN (sq s) 18))), .null, .null] [] _ _
  refine AX.iconst (pc := 49) (v := nI 0) dX12_drawn_49 (by decide) ?_
  refine AX.istore_n (pc := 50) (L' := [.ref 87, .int (nI m), .int (nI (drN (dwN (sq s) 18))), .int (nI 0), .null]) dX12_drawn_50 (by decide) rfl ?_
  refine AX.aload_n (pc := 51) dX12_drawn_51 rfl ?_
  refine AX.getf (pc := 52) fX12_drawn_22 (lt_k (s1.le cX.hn) (by omega)) O1 rfl dX12_drawn_52 ?_
  refine AX.iconst (pc := 55) (v := nI 0) dX12_drawn_55 (by decide) ?_
  refine AX.ialdN (pc := 56) (i := 0) (v := (nI (wTo (hh a b (qt (sq s))).1 (hh a b (qt (sq s))).2 m (0 + 1)))) (lt_k (s1.le cX.hn) (by omega)) y92 (by decide) (by decide) ((q92 0 (by omega)).trans (by unfold wTo; unfold wTo; rw [Nat.zero_add])) dX12_drawn_56 ?_
  refine AX.istore (pc := 57) (L' := [.ref 87, .int (nI m), .int (nI (drN (dwN (sq s) 18))), .int (nI 0), .int (nI (wTo (hh a b (qt (sq s))).1 (hh a b (qt (sq s))).2 m (0 + 1)))]) dX12_drawn_57 (by decide) rfl ?_
  refine AX.atL (L' := [.ref 87, .int (nI m), .int (nI (drN (dwN (sq s) 18))), .int (nI 0), .int (nI (wTo (hh a b (qt (sq s))).1 (hh a b (qt (sq s))).2 m (0 + 1)))]) rfl ?_
  refine l_drawn w h1 (s1.le cX.hn) O1 F1 h1_ h2 hs2 hr2 (drN_lt _) _ (fC m - 1) 0 (by omega) ?_
  refine ⟨?_, (sx.wide (by decide)).trans (s1.wide (by decide)), c1⟩
  rw [show fC m - 1 + 1 = fC m by omega]
  rfl
theorem c_mAt (w : XW) (h : XH) {s : SS} {n o : Nat} {a b : Nat × Nat} (c : MS h s) (l : LV (sq s) n o a b) (x : Int32) : CA w M_X12_throwsAt [.ref 87, .int x] h (fun v' h'' => v' = some (.int (aAt a b (sq s) x)) ∧ Same mdS h h'' ∧ MS h'' (wq s (nAt o a b (sq s) x))) := by
  obtain ⟨v, hO, hv⟩ := id c.ob
  obtain ⟨f89, e89, q89⟩ := id c.nw
  by_cases h_x : inR 1 62 x
  · obtain ⟨xn, rfl, l_x, u_x⟩ := inR_nat (by decide) h_x
    have en : nAt o a b (sq s) (nI xn) = atN o a b (sq s) xn := by unfold nAt; rw [if_pos h_x, nI_nat (by omega)]
    rw [en]
    have hfa : faN a b (sq s) xn < 63 := fuN_lt (by omega) _ 0 (Nat.zero_add _)
    refine CA.of (by decide) rfl (fun _ => Nat.le_of_ble_eq_true rfl) ?_
    show AX w M_X12_throwsAt 0 0 0 [.ref 87, .int (nI xn), .null] [] h _
    refine AX.iload_n (pc := 0) dX12_throwsAt_0 rfl ?_
    refine AX.i2l (pc := 1) dX12_throwsAt_1 ?_
    refine AX.lconst (pc := 2) (v := 1) dX12_throwsAt_2 (by decide) ?_
    refine AX.ldc2 (pc := 3) (v := 62) dX12_throwsAt_3 cX12_throwsAt_112 ?_
    refine AX.callS (pc := 6) (M2 := M_X12_in) (As := [.long ((nI xn).toInt64), .long 1, .long 62]) (rest := []) (c_in w h ((nI xn).toInt64) (1) (62)) xc_X12_throwsAt__X12_in gX12_throwsAt_X12_in rfl (Nat.le_of_ble_eq_true rfl) dX12_throwsAt_6 ?_
    rintro _ h9 ⟨rfl, e9⟩
    have e9 := e9.symm
    subst e9
    rw [decide_eq_true ((in_iff (by decide) (by decide)).mpr h_x)]
    show AX w M_X12_throwsAt 0 0 9 [.ref 87, .int (nI xn), .null] [.int (bI true)] _ _
    refine AX.if_neB (pc := 9) (tgt := 14) dX12_throwsAt_9 (by decide) (fun hc9 => ?_) (fun q => absurd q (by decide))
    refine AX.aload_n (pc := 14) dX12_throwsAt_14 rfl ?_
    refine AX.iload_n (pc := 15) dX12_throwsAt_15 rfl ?_
    refine AX.callV (pc := 16) (M2 := M_X12_drawn) (As := [.int (nI xn)]) (rest := []) (c_mDrawn w h c l (m := xn) l_x u_x) xc_X12_throwsAt__X12_drawn gX12_throwsAt_X12_drawn (ci := 11) rfl (lt_k c.hn (by omega)) hO rfl (Nat.le_of_ble_eq_true rfl) dX12_throwsAt_16 ?_
    rintro _ h1 ⟨rfl, s1, c1⟩
    obtain ⟨v1, O1, -⟩ := id c1.ob
    show AX w M_X12_throwsAt 0 0 19 [.ref 87, .int (nI xn), .null] [.int (nI (faN a b (sq s) xn))] _ _
    refine AX.istore_n (pc := 19) (L' := [.ref 87, .int (nI xn), .int (nI (faN a b (sq s) xn))]) dX12_throwsAt_19 (by decide) rfl ?_
    refine AX.aload_n (pc := 20) dX12_throwsAt_20 rfl ?_
    refine AX.iload_n (pc := 21) dX12_throwsAt_21 rfl ?_
    refine AX.callV (pc := 22) (M2 := M_X12_fallsUpon) (As := [.int (nI (faN a b (sq s) xn))]) (rest := []) (c_mUponS w h1 c1 l.draw (x := faN a b (sq s) xn) hfa) xc_X12_throwsAt__X12_fallsUpon gX12_throwsAt_X12_fallsUpon (ci := 11) rfl (lt_k (s1.le c.hn) (by omega)) O1 rfl (Nat.le_of_ble_eq_true rfl) dX12_throwsAt_22 ?_
    rintro _ h2 ⟨rfl, s2, c2⟩
    show AX w M_X12_throwsAt 0 0 25 [.ref 87, .int (nI xn), .int (nI (faN a b (sq s) xn))] [.int (oI (nxN o (qr (dwN (sq s))) (faN a b (sq s) xn)))] _ _
    refine AX.pop (pc := 25) dX12_throwsAt_25 rfl ?_
    refine AX.iload_n (pc := 26) dX12_throwsAt_26 rfl ?_
    refine AX.iret (pc := 27) dX12_throwsAt_27 rfl rfl (by decide) (by decide) ?_
    exact ⟨by unfold aAt; rw [if_pos h_x, nI_nat (show xn < 2147483648 by omega)]; try rfl, mdS_lt (s1.trans (s2.wide (by decide))) (by decide), c2⟩
  · refine CA.of (by decide) rfl (fun _ => Nat.le_of_ble_eq_true rfl) ?_
    show AX w M_X12_throwsAt 0 0 0 [.ref 87, .int x, .null] [] h _
    refine AX.iload_n (pc := 0) dX12_throwsAt_0 rfl ?_
    refine AX.i2l (pc := 1) dX12_throwsAt_1 ?_
    refine AX.lconst (pc := 2) (v := 1) dX12_throwsAt_2 (by decide) ?_
    refine AX.ldc2 (pc := 3) (v := 62) dX12_throwsAt_3 cX12_throwsAt_112 ?_
    refine AX.callS (pc := 6) (M2 := M_X12_in) (As := [.long x.toInt64, .long 1, .long 62]) (rest := []) (c_in w h (x.toInt64) (1) (62)) xc_X12_throwsAt__X12_in gX12_throwsAt_X12_in rfl (Nat.le_of_ble_eq_true rfl) dX12_throwsAt_6 ?_
    rintro _ h9 ⟨rfl, e9⟩
    have e9 := e9.symm
    subst e9
    rw [decide_eq_false (fun q => h_x ((in_iff (by decide) (by decide)).mp q))]
    show AX w M_X12_throwsAt 0 0 9 [.ref 87, .int x, .null] [.int (bI false)] _ _
    refine AX.if_neB (pc := 9) (tgt := 14) dX12_throwsAt_9 (by decide) (fun q => absurd q (by decide)) (fun hc9 => ?_)
    refine AX.iconst (pc := 12) (v := (-1)) dX12_throwsAt_12 (by decide) ?_
    refine AX.iret (pc := 13) dX12_throwsAt_13 rfl rfl (by decide) (by decide) ?_
    have en : nAt o a b (sq s) x = sq s := by unfold nAt; rw [if_neg h_x]
    rw [en]
    exact ⟨by unfold aAt; rw [if_neg h_x]; try rfl, Same.rf, c⟩
