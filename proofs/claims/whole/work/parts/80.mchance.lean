/-! ===== THE REFERENCE: CHANCES ===== -/
theorem l_mChance (w : XW) (h : XH) {v q : Nat → Int32} {fc : Nat → UInt64} {o sd rg r a j : Nat} (hn : 118 ≤ h.1) (hO : MO h (upd v 1 (nI (fC a)))) (hN : iA h 89 19 q) (ho12 : q 12 = nI o) (ho : o ≤ 2) (hF : FL h a sd rg) (ec : h.2 101 = .inl (2, 724, .inr (.inr (.inr (.inl fc))))) (hs : sd ≤ 200) (hrg : rg ≤ 200) (hC : cOK o sd rg j r (fun d => if d = 0 then FP.dconst1 else fc (181 * j + d))) (hj : j ≤ 2) (hr : r ≤ 180) (h1 : 1 ≤ a) (h2 : a < 63) (P : Option Value → XH → Prop) (hP : P (some (.double (chS o sd rg (fun d => if d = 0 then FP.dconst1 else fc (181 * j + d)) r a (fC a)))) h) : ∀ (g k : Nat), k + g = fC a → AX w M_X12_chanceValue 0 0 5 [.ref 87, .int (nI r), .int (nI (j + 1)), .double (chS o sd rg (fun d => if d = 0 then FP.dconst1 else fc (181 * j + d)) r a k), .null, .int (nI k), .null, .null, .null] [] h P
  | 0, k, hg => by
    have e : k = fC a := by omega
    subst e
    obtain ⟨⟨f91, e91, q91⟩, ⟨f92, e92, q92⟩⟩ := id hF
    have hc5 := fC_le a
    have hV := hC.val hs hrg (by omega)
    have eO : h.2 87 = .inr (11, [.ref 88, .ref 89, .ref 90, .int (v 0), .int (nI (fC a)), .ref 91, .ref 92, .ref 93, .ref 94, .ref 95, .ref 96, .ref 97, .ref 98, .ref 99, .ref 100, .ref 101, .int (v 2), .ref 102, .ref 103, .ref 104, .ref 105, .ref 106, .ref 107, .ref 108, .int (v 3), .ref 109, .int (v 4), .ref 110, .ref 111, .int (v 5), .ref 112, .int (v 6), .int (v 7), .int (v 8), .ref 113, .int (v 9), .ref 114, .ref 115, .ref 116, .ref 117]) := hO
    refine AX.iload (pc := 5) dX12_chanceValue_5 rfl ?_
    refine AX.aload_n (pc := 7) dX12_chanceValue_7 rfl ?_
    refine AX.getf (pc := 8) fX12_chanceValue_132 (lt_k hn (by omega)) eO rfl dX12_chanceValue_8 ?_
    refine AX.icmp_geN (pc := 11) (tgt := 83) dX12_chanceValue_11 (by decide) (by omega) (by omega) (fun hc11 => ?_) (fun q => absurd q (Nat.lt_irrefl _))
    refine AX.dload_n (pc := 83) dX12_chanceValue_83 rfl ?_
    refine AX.dret (pc := 84) dX12_chanceValue_84 rfl (by decide) (by decide) ?_
    exact hP
  | g + 1, k, hg => by
    obtain ⟨⟨f91, e91, q91⟩, ⟨f92, e92, q92⟩⟩ := id hF
    have hc5 := fC_le a
    have hV := hC.val hs hrg (by omega)
    have eO : h.2 87 = .inr (11, [.ref 88, .ref 89, .ref 90, .int (v 0), .int (nI (fC a)), .ref 91, .ref 92, .ref 93, .ref 94, .ref 95, .ref 96, .ref 97, .ref 98, .ref 99, .ref 100, .ref 101, .int (v 2), .ref 102, .ref 103, .ref 104, .ref 105, .ref 106, .ref 107, .ref 108, .int (v 3), .ref 109, .int (v 4), .ref 110, .ref 111, .int (v 5), .ref 112, .int (v 6), .int (v 7), .int (v 8), .ref 113, .int (v 9), .ref 114, .ref 115, .ref 116, .ref 117]) := hO
    have h63 := fS_lt (5 * a + k) (by omega)
    have hwt := wt_le (sd := sd) (rg := rg) (q := 5 * a + k) hs hrg (by omega)
    have hS1 := chS_ok (o := o) (r := r) (a := a) (C := (fun d => if d = 0 then FP.dconst1 else fc (181 * j + d))) hs hrg h1 h2 (B := j + 1) (by omega) hV (k + 1) (by omega)
    have hz : chS o sd rg (fun d => if d = 0 then FP.dconst1 else fc (181 * j + d)) r a (k + 1) = match nxN o r (fS (5 * a + k)) with
      | none => chS o sd rg (fun d => if d = 0 then FP.dconst1 else fc (181 * j + d)) r a k
      | some d => FP.dadd (chS o sd rg (fun d => if d = 0 then FP.dconst1 else fc (181 * j + d)) r a k) (FP.dmul (odW (wtN sd rg (5 * a + k))) ((fun d => if d = 0 then FP.dconst1 else fc (181 * j + d)) d)) := rfl
    have ih := l_mChance w h hn hO hN ho12 ho hF ec hs hrg hC hj hr h1 h2 P hP g (k + 1) (by omega)
    cases hx : nxN o r (fS (5 * a + k)) with
    | none =>
      rw [hx] at hz
      rw [hz] at ih
      refine AX.iload (pc := 5) dX12_chanceValue_5 rfl ?_
      refine AX.aload_n (pc := 7) dX12_chanceValue_7 rfl ?_
      refine AX.getf (pc := 8) fX12_chanceValue_132 (lt_k hn (by omega)) eO rfl dX12_chanceValue_8 ?_
      refine AX.icmp_geN (pc := 11) (tgt := 83) dX12_chanceValue_11 (by decide) (by omega) (by omega) (fun q => absurd q (by omega)) (fun hc11 => ?_)
      refine AX.aload_n (pc := 14) dX12_chanceValue_14 rfl ?_
      refine AX.iload_n (pc := 15) dX12_chanceValue_15 rfl ?_
      refine AX.aload_n (pc := 16) dX12_chanceValue_16 rfl ?_
      refine AX.getf (pc := 17) fX12_chanceValue_19 (lt_k hn (by omega)) eO rfl dX12_chanceValue_17 ?_
      refine AX.iload (pc := 20) dX12_chanceValue_20 rfl ?_
      refine AX.ialdN (pc := 22) (i := k) (v := (nI (fS (5 * a + k)))) (lt_k hn (by omega)) e91 (by decide) (by omega) (q91 k (by omega)) dX12_chanceValue_22 ?_
      refine AX.callV (pc := 23) (M2 := M_X12_nextRest) (As := [.int (nI r), .int (nI (fS (5 * a + k)))]) (rest := []) (c_nextRest w h hn hO hN ho12 ho r (fS (5 * a + k)) (by omega) h63) xc_X12_chanceValue__X12_nextRest gX12_chanceValue_X12_nextRest (ci := 11) rfl (lt_k hn (by omega)) eO rfl (Nat.le_of_ble_eq_true rfl) dX12_chanceValue_23 ?_
      rintro _ h9 ⟨rfl, e9⟩
      have e9 := e9.symm
      subst e9
      rw [hx]
      show AX w M_X12_chanceValue 0 0 26 [.ref 87, .int (nI r), .int (nI (j + 1)), .double (chS o sd rg (fun d => if d = 0 then FP.dconst1 else fc (181 * j + d)) r a k), .null, .int (nI k), .null, .null, .null] [.int (-5)] _ _
      refine AX.istore (pc := 26) (L' := [.ref 87, .int (nI r), .int (nI (j + 1)), .double (chS o sd rg (fun d => if d = 0 then FP.dconst1 else fc (181 * j + d)) r a k), .null, .int (nI k), .int (-5), .null, .null]) dX12_chanceValue_26 (by decide) rfl ?_
      refine AX.iload (pc := 28) dX12_chanceValue_28 rfl ?_
      refine AX.if_lt (pc := 30) (tgt := 77) dX12_chanceValue_30 (by decide) (fun hc30 => ?_) (fun q => absurd (by decide) q)
      refine AX.iincN (c := k + 1) (pc := 77) (L' := [.ref 87, .int (nI r), .int (nI (j + 1)), .double (chS o sd rg (fun d => if d = 0 then FP.dconst1 else fc (181 * j + d)) r a k), .null, .int (nI (k + 1)), .int (-5), .null, .null]) dX12_chanceValue_77 rfl (inc1 _) (by decide) rfl ?_
      refine AX.goto (pc := 80) (tgt := 5) dX12_chanceValue_80 (by decide) ?_
      refine AX.sub (L' := [.ref 87, .int (nI r), .int (nI (j + 1)), .double (chS o sd rg (fun d => if d = 0 then FP.dconst1 else fc (181 * j + d)) r a k), .null, .int (nI (k + 1)), .null, .null, .null]) ⟨Or.inr rfl, Or.inr rfl, Or.inr rfl, Or.inr rfl, Or.inl rfl, Or.inr rfl, Or.inl rfl, Or.inl rfl, Or.inl rfl, trivial⟩ ?_
      exact ih
    | some d =>
      have hd := nxN_eq hx
      rw [hx] at hz
      have hz : chS o sd rg (fun d => if d = 0 then FP.dconst1 else fc (181 * j + d)) r a (k + 1) = FP.dadd (chS o sd rg (fun d => if d = 0 then FP.dconst1 else fc (181 * j + d)) r a k) (FP.dmul (odW (wtN sd rg (5 * a + k))) (if d = 0 then FP.dconst1 else fc (181 * j + d))) := hz
      rw [hz] at ih hS1
      obtain ⟨v1, v2, v3⟩ := hV d (by omega) (by unfold leN; split <;> omega)
      have v1 : DF (if d = 0 then FP.dconst1 else fc (181 * j + d)) := v1
      have v2 : 0 ≤ zv (if d = 0 then FP.dconst1 else fc (181 * j + d)) := v2
      have v3 : zv (if d = 0 then FP.dconst1 else fc (181 * j + d)) ≤ ((j + 1 : Nat) : Int) * (FP.Core.one64 : Int) := v3
      by_cases hd0 : d = 0
      · rw [if_pos hd0] at ih hS1 v1 v2 v3
        refine AX.iload (pc := 5) dX12_chanceValue_5 rfl ?_
        refine AX.aload_n (pc := 7) dX12_chanceValue_7 rfl ?_
        refine AX.getf (pc := 8) fX12_chanceValue_132 (lt_k hn (by omega)) eO rfl dX12_chanceValue_8 ?_
        refine AX.icmp_geN (pc := 11) (tgt := 83) dX12_chanceValue_11 (by decide) (by omega) (by omega) (fun q => absurd q (by omega)) (fun hc11 => ?_)
        refine AX.aload_n (pc := 14) dX12_chanceValue_14 rfl ?_
        refine AX.iload_n (pc := 15) dX12_chanceValue_15 rfl ?_
        refine AX.aload_n (pc := 16) dX12_chanceValue_16 rfl ?_
        refine AX.getf (pc := 17) fX12_chanceValue_19 (lt_k hn (by omega)) eO rfl dX12_chanceValue_17 ?_
        refine AX.iload (pc := 20) dX12_chanceValue_20 rfl ?_
        refine AX.ialdN (pc := 22) (i := k) (v := (nI (fS (5 * a + k)))) (lt_k hn (by omega)) e91 (by decide) (by omega) (q91 k (by omega)) dX12_chanceValue_22 ?_
        refine AX.callV (pc := 23) (M2 := M_X12_nextRest) (As := [.int (nI r), .int (nI (fS (5 * a + k)))]) (rest := []) (c_nextRest w h hn hO hN ho12 ho r (fS (5 * a + k)) (by omega) h63) xc_X12_chanceValue__X12_nextRest gX12_chanceValue_X12_nextRest (ci := 11) rfl (lt_k hn (by omega)) eO rfl (Nat.le_of_ble_eq_true rfl) dX12_chanceValue_23 ?_
        rintro _ h9 ⟨rfl, e9⟩
        have e9 := e9.symm
        subst e9
        rw [hx]
        show AX w M_X12_chanceValue 0 0 26 [.ref 87, .int (nI r), .int (nI (j + 1)), .double (chS o sd rg (fun d => if d = 0 then FP.dconst1 else fc (181 * j + d)) r a k), .null, .int (nI k), .null, .null, .null] [.int (nI d)] _ _
        refine AX.istore (pc := 26) (L' := [.ref 87, .int (nI r), .int (nI (j + 1)), .double (chS o sd rg (fun d => if d = 0 then FP.dconst1 else fc (181 * j + d)) r a k), .null, .int (nI k), .int (nI d), .null, .null]) dX12_chanceValue_26 (by decide) rfl ?_
        refine AX.iload (pc := 28) dX12_chanceValue_28 rfl ?_
        refine AX.if_ltN (pc := 30) (tgt := 77) dX12_chanceValue_30 (by decide) (by omega) (fun q => absurd q (by omega)) (fun hc30 => ?_)
        refine AX.aload_n (pc := 33) dX12_chanceValue_33 rfl ?_
        refine AX.getf (pc := 34) fX12_chanceValue_22 (lt_k hn (by omega)) eO rfl dX12_chanceValue_34 ?_
        refine AX.iload (pc := 37) dX12_chanceValue_37 rfl ?_
        refine AX.ialdN (pc := 39) (i := k) (v := (nI (wtN sd rg (5 * a + k)))) (lt_k hn (by omega)) e92 (by decide) (by omega) (q92 k (by omega)) dX12_chanceValue_39 ?_
        refine AX.i2d (pc := 40) dX12_chanceValue_40 ?_
        refine AX.ldc2d (pc := 41) (v := 4652007308841189376) dX12_chanceValue_41 cX12_chanceValue_156 ?_
        refine AX.ddiv (pc := 44) dX12_chanceValue_44 (vfn (odW_zv hwt).1) ?_
        refine AX.topd (y := odW (wtN sd rg (5 * a + k))) rfl ?_
        refine AX.dstore (pc := 45) (L' := [.ref 87, .int (nI r), .int (nI (j + 1)), .double (chS o sd rg (fun d => if d = 0 then FP.dconst1 else fc (181 * j + d)) r a k), .null, .int (nI k), .int (nI d), .double (odW (wtN sd rg (5 * a + k))), .null]) dX12_chanceValue_45 (by decide) rfl ?_
        refine AX.dload_n (pc := 47) dX12_chanceValue_47 rfl ?_
        refine AX.dload (pc := 48) dX12_chanceValue_48 rfl ?_
        refine AX.iload (pc := 50) dX12_chanceValue_50 rfl ?_
        refine AX.if_neN (pc := 52) (tgt := 59) dX12_chanceValue_52 (by decide) (by omega) (fun q => absurd q (by omega)) (fun hc52 => ?_)
        refine AX.dconst1 (pc := 55) dX12_chanceValue_55 ?_
        refine AX.goto (pc := 56) (tgt := 74) dX12_chanceValue_56 (by decide) ?_
        refine AX.dmul (pc := 74) dX12_chanceValue_74 (vfn (odd_mul hwt v1 (B := j + 1) (by omega) v2 v3).1) ?_
        refine AX.dadd (pc := 75) dX12_chanceValue_75 (vfn hS1.1) ?_
        refine AX.dstore_n (pc := 76) (L' := [.ref 87, .int (nI r), .int (nI (j + 1)), .double (FP.dadd (chS o sd rg (fun d => if d = 0 then FP.dconst1 else fc (181 * j + d)) r a k) (FP.dmul (odW (wtN sd rg (5 * a + k))) FP.dconst1)), .null, .int (nI k), .int (nI d), .double (odW (wtN sd rg (5 * a + k))), .null]) dX12_chanceValue_76 (by decide) rfl ?_
        refine AX.iincN (c := k + 1) (pc := 77) (L' := [.ref 87, .int (nI r), .int (nI (j + 1)), .double (FP.dadd (chS o sd rg (fun d => if d = 0 then FP.dconst1 else fc (181 * j + d)) r a k) (FP.dmul (odW (wtN sd rg (5 * a + k))) FP.dconst1)), .null, .int (nI (k + 1)), .int (nI d), .double (odW (wtN sd rg (5 * a + k))), .null]) dX12_chanceValue_77 rfl (inc1 _) (by decide) rfl ?_
        refine AX.goto (pc := 80) (tgt := 5) dX12_chanceValue_80 (by decide) ?_
        refine AX.sub (L' := [.ref 87, .int (nI r), .int (nI (j + 1)), .double (FP.dadd (chS o sd rg (fun d => if d = 0 then FP.dconst1 else fc (181 * j + d)) r a k) (FP.dmul (odW (wtN sd rg (5 * a + k))) FP.dconst1)), .null, .int (nI (k + 1)), .null, .null, .null]) ⟨Or.inr rfl, Or.inr rfl, Or.inr rfl, Or.inr rfl, Or.inl rfl, Or.inr rfl, Or.inl rfl, Or.inl rfl, Or.inl rfl, trivial⟩ ?_
        exact ih
      · rw [if_neg hd0] at ih hS1 v1 v2 v3
        refine AX.iload (pc := 5) dX12_chanceValue_5 rfl ?_
        refine AX.aload_n (pc := 7) dX12_chanceValue_7 rfl ?_
        refine AX.getf (pc := 8) fX12_chanceValue_132 (lt_k hn (by omega)) eO rfl dX12_chanceValue_8 ?_
        refine AX.icmp_geN (pc := 11) (tgt := 83) dX12_chanceValue_11 (by decide) (by omega) (by omega) (fun q => absurd q (by omega)) (fun hc11 => ?_)
        refine AX.aload_n (pc := 14) dX12_chanceValue_14 rfl ?_
        refine AX.iload_n (pc := 15) dX12_chanceValue_15 rfl ?_
        refine AX.aload_n (pc := 16) dX12_chanceValue_16 rfl ?_
        refine AX.getf (pc := 17) fX12_chanceValue_19 (lt_k hn (by omega)) eO rfl dX12_chanceValue_17 ?_
        refine AX.iload (pc := 20) dX12_chanceValue_20 rfl ?_
        refine AX.ialdN (pc := 22) (i := k) (v := (nI (fS (5 * a + k)))) (lt_k hn (by omega)) e91 (by decide) (by omega) (q91 k (by omega)) dX12_chanceValue_22 ?_
        refine AX.callV (pc := 23) (M2 := M_X12_nextRest) (As := [.int (nI r), .int (nI (fS (5 * a + k)))]) (rest := []) (c_nextRest w h hn hO hN ho12 ho r (fS (5 * a + k)) (by omega) h63) xc_X12_chanceValue__X12_nextRest gX12_chanceValue_X12_nextRest (ci := 11) rfl (lt_k hn (by omega)) eO rfl (Nat.le_of_ble_eq_true rfl) dX12_chanceValue_23 ?_
        rintro _ h9 ⟨rfl, e9⟩
        have e9 := e9.symm
        subst e9
        rw [hx]
        show AX w M_X12_chanceValue 0 0 26 [.ref 87, .int (nI r), .int (nI (j + 1)), .double (chS o sd rg (fun d => if d = 0 then FP.dconst1 else fc (181 * j + d)) r a k), .null, .int (nI k), .null, .null, .null] [.int (nI d)] _ _
        refine AX.istore (pc := 26) (L' := [.ref 87, .int (nI r), .int (nI (j + 1)), .double (chS o sd rg (fun d => if d = 0 then FP.dconst1 else fc (181 * j + d)) r a k), .null, .int (nI k), .int (nI d), .null, .null]) dX12_chanceValue_26 (by decide) rfl ?_
        refine AX.iload (pc := 28) dX12_chanceValue_28 rfl ?_
        refine AX.if_ltN (pc := 30) (tgt := 77) dX12_chanceValue_30 (by decide) (by omega) (fun q => absurd q (by omega)) (fun hc30 => ?_)
        refine AX.aload_n (pc := 33) dX12_chanceValue_33 rfl ?_
        refine AX.getf (pc := 34) fX12_chanceValue_22 (lt_k hn (by omega)) eO rfl dX12_chanceValue_34 ?_
        refine AX.iload (pc := 37) dX12_chanceValue_37 rfl ?_
        refine AX.ialdN (pc := 39) (i := k) (v := (nI (wtN sd rg (5 * a + k)))) (lt_k hn (by omega)) e92 (by decide) (by omega) (q92 k (by omega)) dX12_chanceValue_39 ?_
        refine AX.i2d (pc := 40) dX12_chanceValue_40 ?_
        refine AX.ldc2d (pc := 41) (v := 4652007308841189376) dX12_chanceValue_41 cX12_chanceValue_156 ?_
        refine AX.ddiv (pc := 44) dX12_chanceValue_44 (vfn (odW_zv hwt).1) ?_
        refine AX.topd (y := odW (wtN sd rg (5 * a + k))) rfl ?_
        refine AX.dstore (pc := 45) (L' := [.ref 87, .int (nI r), .int (nI (j + 1)), .double (chS o sd rg (fun d => if d = 0 then FP.dconst1 else fc (181 * j + d)) r a k), .null, .int (nI k), .int (nI d), .double (odW (wtN sd rg (5 * a + k))), .null]) dX12_chanceValue_45 (by decide) rfl ?_
        refine AX.dload_n (pc := 47) dX12_chanceValue_47 rfl ?_
        refine AX.dload (pc := 48) dX12_chanceValue_48 rfl ?_
        refine AX.iload (pc := 50) dX12_chanceValue_50 rfl ?_
        refine AX.if_neN (pc := 52) (tgt := 59) dX12_chanceValue_52 (by decide) (by omega) (fun hc52 => ?_) (fun q => absurd q (by omega))
        refine AX.aload_n (pc := 59) dX12_chanceValue_59 rfl ?_
        refine AX.getf (pc := 60) fX12_chanceValue_50 (lt_k hn (by omega)) eO rfl dX12_chanceValue_60 ?_
        refine AX.sipush (pc := 63) (v := nI 181) dX12_chanceValue_63 (by decide) ?_
        refine AX.iload_n (pc := 66) dX12_chanceValue_66 rfl ?_
        refine AX.iconst (pc := 67) (v := nI 1) dX12_chanceValue_67 (by decide) ?_
        refine AX.isubN (pc := 68) (c := j) dX12_chanceValue_68 rfl ?_
        refine AX.imulN (pc := 69) (c := 181 * j) dX12_chanceValue_69 rfl ?_
        refine AX.iload (pc := 70) dX12_chanceValue_70 rfl ?_
        refine AX.iaddN (pc := 72) (c := 181 * j + d) dX12_chanceValue_72 rfl ?_
        refine AX.daldN (pc := 73) (i := 181 * j + d) (v := (fc (181 * j + d))) (lt_k hn (by omega)) ec (by decide) (by omega) rfl dX12_chanceValue_73 ?_
        refine AX.dmul (pc := 74) dX12_chanceValue_74 (vfn (odd_mul hwt v1 (B := j + 1) (by omega) v2 v3).1) ?_
        refine AX.dadd (pc := 75) dX12_chanceValue_75 (vfn hS1.1) ?_
        refine AX.dstore_n (pc := 76) (L' := [.ref 87, .int (nI r), .int (nI (j + 1)), .double (FP.dadd (chS o sd rg (fun d => if d = 0 then FP.dconst1 else fc (181 * j + d)) r a k) (FP.dmul (odW (wtN sd rg (5 * a + k))) (fc (181 * j + d)))), .null, .int (nI k), .int (nI d), .double (odW (wtN sd rg (5 * a + k))), .null]) dX12_chanceValue_76 (by decide) rfl ?_
        refine AX.iincN (c := k + 1) (pc := 77) (L' := [.ref 87, .int (nI r), .int (nI (j + 1)), .double (FP.dadd (chS o sd rg (fun d => if d = 0 then FP.dconst1 else fc (181 * j + d)) r a k) (FP.dmul (odW (wtN sd rg (5 * a + k))) (fc (181 * j + d)))), .null, .int (nI (k + 1)), .int (nI d), .double (odW (wtN sd rg (5 * a + k))), .null]) dX12_chanceValue_77 rfl (inc1 _) (by decide) rfl ?_
        refine AX.goto (pc := 80) (tgt := 5) dX12_chanceValue_80 (by decide) ?_
        refine AX.sub (L' := [.ref 87, .int (nI r), .int (nI (j + 1)), .double (FP.dadd (chS o sd rg (fun d => if d = 0 then FP.dconst1 else fc (181 * j + d)) r a k) (FP.dmul (odW (wtN sd rg (5 * a + k))) (fc (181 * j + d)))), .null, .int (nI (k + 1)), .null, .null, .null]) ⟨Or.inr rfl, Or.inr rfl, Or.inr rfl, Or.inr rfl, Or.inl rfl, Or.inr rfl, Or.inl rfl, Or.inl rfl, Or.inl rfl, trivial⟩ ?_
        exact ih
theorem c_mChanceV (w : XW) (h : XH) {v q : Nat → Int32} {fc : Nat → UInt64} {o sd rg r a j : Nat} (hn : 118 ≤ h.1) (hO : MO h (upd v 1 (nI (fC a)))) (hN : iA h 89 19 q) (ho12 : q 12 = nI o) (ho : o ≤ 2) (hF : FL h a sd rg) (ec : h.2 101 = .inl (2, 724, .inr (.inr (.inr (.inl fc))))) (hs : sd ≤ 200) (hrg : rg ≤ 200) (hC : cOK o sd rg j r (fun d => if d = 0 then FP.dconst1 else fc (181 * j + d))) (hj : j ≤ 2) (hr : r ≤ 180) (h1 : 1 ≤ a) (h2 : a < 63) : CA w M_X12_chanceValue [.ref 87, .int (nI r), .int (nI (j + 1))] h (fun v' h'' => v' = some (.double (chS o sd rg (fun d => if d = 0 then FP.dconst1 else fc (181 * j + d)) r a (fC a))) ∧ h'' = h) := by
  refine CA.of (by decide) rfl (fun _ => Nat.le_of_ble_eq_true rfl) ?_
  obtain ⟨⟨f91, e91, q91⟩, ⟨f92, e92, q92⟩⟩ := id hF
  have eO : h.2 87 = .inr (11, [.ref 88, .ref 89, .ref 90, .int (v 0), .int (nI (fC a)), .ref 91, .ref 92, .ref 93, .ref 94, .ref 95, .ref 96, .ref 97, .ref 98, .ref 99, .ref 100, .ref 101, .int (v 2), .ref 102, .ref 103, .ref 104, .ref 105, .ref 106, .ref 107, .ref 108, .int (v 3), .ref 109, .int (v 4), .ref 110, .ref 111, .int (v 5), .ref 112, .int (v 6), .int (v 7), .int (v 8), .ref 113, .int (v 9), .ref 114, .ref 115, .ref 116, .ref 117]) := hO
  show AX w M_X12_chanceValue 0 0 0 [.ref 87, .int (nI r), .int (nI (j + 1)), .null, .null, .null, .null, .null, .null] [] h _
  refine AX.dconst0 (pc := 0) dX12_chanceValue_0 ?_
  refine AX.dstore_n (pc := 1) (L' := [.ref 87, .int (nI r), .int (nI (j + 1)), .double FP.dconst0, .null, .null, .null, .null, .null]) dX12_chanceValue_1 (by decide) rfl ?_
  refine AX.iconst (pc := 2) (v := nI 0) dX12_chanceValue_2 (by decide) ?_
  refine AX.istore (pc := 3) (L' := [.ref 87, .int (nI r), .int (nI (j + 1)), .double FP.dconst0, .null, .int (nI 0), .null, .null, .null]) dX12_chanceValue_3 (by decide) rfl ?_
  exact l_mChance w h hn hO hN ho12 ho hF ec hs hrg hC hj hr h1 h2 _ ⟨rfl, rfl⟩ (fC a) 0 (by omega)
theorem km1_gt {x : UInt64} (h : DF x) (h0 : 0 ≤ zv x) : FP.dcmp x KM1 = some .gt := by
  have k : DF KM1 ∧ zv KM1 = -(FP.Core.one64 : Int) := by
    have e : FP.Core.val64 KM1 = .fin true 4503599627370496 (-52) := by decide +kernel
    refine ⟨⟨_, _, _, e⟩, ?_⟩
    unfold zv
    rw [e]
    decide +kernel
  have h1 := (dgt_zv h k.1).mpr (by rw [k.2]; have := one_posI; omega)
  unfold dgt at h1
  exact of_decide_eq_true h1
theorem l_layCh (w : XW) (P : Option Value → XH → Prop) (h0 : XH) {v q : Nat → Int32} {fc : Nat → UInt64} {o sd rg r j : Nat} (hn0 : 118 ≤ h0.1) (hN0 : iA h0 89 19 q) (ho12 : q 12 = nI o) (ho : o ≤ 2) (hA0 : AL h0 63 sd rg) (ec0 : h0.2 101 = .inl (2, 724, .inr (.inr (.inr (.inl fc))))) (hs : sd ≤ 200) (hrg : rg ≤ 200) (hC : cOK o sd rg j r (fun d => if d = 0 then FP.dconst1 else fc (181 * j + d))) (hj : j ≤ 2) (hr : r ≤ 180) (hP : ∀ (h' : XH) (x : Int32) (f fw : Nat → Int32), Same [87, 91, 92, 101] h0 h' → MO h' (upd (upd v 2 (nI (csel (fun a => chS o sd rg (fun d => if d = 0 then FP.dconst1 else fc (181 * j + d)) r a (fC a)) 61).1)) 1 x) → h'.2 91 = .inl (0, 5, .inl f) → h'.2 92 = .inl (0, 5, .inl fw) → h'.2 101 = .inl (2, 724, .inr (.inr (.inr (.inl (vf_upd fc (181 * (j + 1) + r) (csel (fun a => chS o sd rg (fun d => if d = 0 then FP.dconst1 else fc (181 * j + d)) r a (fC a)) 61).2))))) → P none h') : ∀ (g k : Nat) (h : XH) (x : Int32) (f fw : Nat → Int32), k + g = 61 → MO h (upd (upd v 2 (nI (csel (fun a => chS o sd rg (fun d => if d = 0 then FP.dconst1 else fc (181 * j + d)) r a (fC a)) k).1)) 1 x) → h.2 91 = .inl (0, 5, .inl f) → h.2 92 = .inl (0, 5, .inl fw) → Same [87, 91, 92] h0 h → AX w M_X12_layChance 0 0 7 [.ref 87, .int (nI r), .int (nI (j + 1)), .double ((csel (fun a => chS o sd rg (fun d => if d = 0 then FP.dconst1 else fc (181 * j + d)) r a (fC a)) k).2), .null, .int (nI (k + 2)), .null, .null] [] h P
  | 0, k, h, x, f, fw, hg, hO, e91, e92, hS => by
    have e : k = 61 := by omega
    subst e
    have hn := hS.le hn0
    have ec := hS.at (k := 101) (by simp) ec0
    refine AX.iload (pc := 7) dX12_layChance_7 rfl ?_
    refine AX.bipush (pc := 9) (v := nI 62) dX12_layChance_9 (by decide) ?_
    refine AX.icmp_gtN (pc := 11) (tgt := 68) dX12_layChance_11 (by decide) (by decide) (by decide) (fun hc11 => ?_) (fun q => absurd q (by decide))
    refine AX.aload_n (pc := 68) dX12_layChance_68 rfl ?_
    refine AX.getf (pc := 69) fX12_layChance_50 (lt_k hn (by omega)) hO rfl dX12_layChance_69 ?_
    refine AX.sipush (pc := 72) (v := nI 181) dX12_layChance_72 (by decide) ?_
    refine AX.iload_n (pc := 75) dX12_layChance_75 rfl ?_
    refine AX.imulN (pc := 76) (c := 181 * (j + 1)) dX12_layChance_76 rfl ?_
    refine AX.iload_n (pc := 77) dX12_layChance_77 rfl ?_
    refine AX.iaddN (pc := 78) (c := 181 * (j + 1) + r) dX12_layChance_78 rfl ?_
    refine AX.dload_n (pc := 79) dX12_layChance_79 rfl ?_
    refine AX.dastN (pc := 80) (i := 181 * (j + 1) + r) (g := vf_upd fc (181 * (j + 1) + r) ((csel (fun a => chS o sd rg (fun d => if d = 0 then FP.dconst1 else fc (181 * j + d)) r a (fC a)) 61).2)) (lt_k hn (by omega)) ec (by decide) (by omega) rfl dX12_layChance_80 ?_
    refine AX.vret (pc := 81) dX12_layChance_81 rfl (by decide) (by decide) ?_
    have sx : Same [101] h (xset h 101 (.inl (2, 724, .inr (.inr (.inr (.inl (vf_upd fc (181 * (j + 1) + r) ((csel (fun a => chS o sd rg (fun d => if d = 0 then FP.dconst1 else fc (181 * j + d)) r a (fC a)) 61).2)))))))) := Same.rest
    exact hP _ x f fw ((hS.wide (by decide)).trans (sx.wide (by decide))) (hO.same sx (by simp)) (sx.at (by simp) e91) (sx.at (by simp) e92) (xset_same _ _ _)
  | g + 1, k, h, x, f, fw, hg, hO, e91, e92, hS => by
    have hn := hS.le hn0
    have hbest := (csel_in (fun a => chS o sd rg (fun d => if d = 0 then FP.dconst1 else fc (181 * j + d)) r a (fC a)) k).2.1
    have hz : csel (fun a => chS o sd rg (fun d => if d = 0 then FP.dconst1 else fc (181 * j + d)) r a (fC a)) (k + 1) = if dgt (chS o sd rg (fun d => if d = 0 then FP.dconst1 else fc (181 * j + d)) r (k + 2) (fC (k + 2))) (csel (fun a => chS o sd rg (fun d => if d = 0 then FP.dconst1 else fc (181 * j + d)) r a (fC a)) k).2 = true then (k + 2, chS o sd rg (fun d => if d = 0 then FP.dconst1 else fc (181 * j + d)) r (k + 2) (fC (k + 2))) else csel (fun a => chS o sd rg (fun d => if d = 0 then FP.dconst1 else fc (181 * j + d)) r a (fC a)) k := rfl
    refine AX.iload (pc := 7) dX12_layChance_7 rfl ?_
    refine AX.bipush (pc := 9) (v := nI 62) dX12_layChance_9 (by decide) ?_
    refine AX.icmp_gtN (pc := 11) (tgt := 68) dX12_layChance_11 (by decide) (by omega) (by decide) (fun q => absurd q (by omega)) (fun hc11 => ?_)
    refine AX.aload_n (pc := 14) dX12_layChance_14 rfl ?_
    refine AX.iload (pc := 15) dX12_layChance_15 rfl ?_
    refine AX.callV (pc := 17) (M2 := M_X12_takeFalls) (As := [.int (nI (k + 2))]) (rest := []) (c_takeFalls w h hn hO e91 e92 (hA0.same hS (by simp) (by simp) (by simp)) (show 1 ≤ k + 2 by omega) (show k + 2 ≤ 62 by omega)) xc_X12_layChance__X12_takeFalls gX12_layChance_X12_takeFalls (ci := 11) rfl (lt_k hn (by omega)) hO rfl (Nat.le_of_ble_eq_true rfl) dX12_layChance_17 ?_
    rintro _ h1 ⟨rfl, s1, F1, O1⟩
    rw [upd_upd] at O1
    obtain ⟨f1, fw1, e91b, e92b⟩ := F1.arr
    have eO1 : h1.2 87 = .inr (11, [.ref 88, .ref 89, .ref 90, .int (v 0), .int (nI (fC (k + 2))), .ref 91, .ref 92, .ref 93, .ref 94, .ref 95, .ref 96, .ref 97, .ref 98, .ref 99, .ref 100, .ref 101, .int (nI ((csel (fun a => chS o sd rg (fun d => if d = 0 then FP.dconst1 else fc (181 * j + d)) r a (fC a)) k).1)), .ref 102, .ref 103, .ref 104, .ref 105, .ref 106, .ref 107, .ref 108, .int (v 3), .ref 109, .int (v 4), .ref 110, .ref 111, .int (v 5), .ref 112, .int (v 6), .int (v 7), .int (v 8), .ref 113, .int (v 9), .ref 114, .ref 115, .ref 116, .ref 117]) := O1
    show AX w M_X12_layChance 0 0 20 [.ref 87, .int (nI r), .int (nI (j + 1)), .double ((csel (fun a => chS o sd rg (fun d => if d = 0 then FP.dconst1 else fc (181 * j + d)) r a (fC a)) k).2), .null, .int (nI (k + 2)), .null, .null] [] _ _
    refine AX.aload_n (pc := 20) dX12_layChance_20 rfl ?_
    refine AX.iload_n (pc := 21) dX12_layChance_21 rfl ?_
    refine AX.iload_n (pc := 22) dX12_layChance_22 rfl ?_
    refine AX.callV (pc := 23) (M2 := M_X12_chanceValue) (As := [.int (nI r), .int (nI (j + 1))]) (rest := []) (c_mChanceV w h1 (s1.le hn) O1 (hN0.same (hS.trans s1) (by simp)) ho12 ho F1 ((hS.trans s1).at (by simp) ec0) hs hrg hC hj hr (show 1 ≤ k + 2 by omega) (show k + 2 < 63 by omega)) xc_X12_layChance__X12_chanceValue gX12_layChance_X12_chanceValue (ci := 11) rfl (lt_k (s1.le hn) (by omega)) eO1 rfl (Nat.le_of_ble_eq_true rfl) dX12_layChance_23 ?_
    rintro _ h9 ⟨rfl, e9⟩
    have e9 := e9.symm
    subst e9
    show AX w M_X12_layChance 0 0 26 [.ref 87, .int (nI r), .int (nI (j + 1)), .double ((csel (fun a => chS o sd rg (fun d => if d = 0 then FP.dconst1 else fc (181 * j + d)) r a (fC a)) k).2), .null, .int (nI (k + 2)), .null, .null] [.double (chS o sd rg (fun d => if d = 0 then FP.dconst1 else fc (181 * j + d)) r (k + 2) (fC (k + 2)))] _ _
    refine AX.dstore (pc := 26) (L' := [.ref 87, .int (nI r), .int (nI (j + 1)), .double ((csel (fun a => chS o sd rg (fun d => if d = 0 then FP.dconst1 else fc (181 * j + d)) r a (fC a)) k).2), .null, .int (nI (k + 2)), .double (chS o sd rg (fun d => if d = 0 then FP.dconst1 else fc (181 * j + d)) r (k + 2) (fC (k + 2))), .null]) dX12_layChance_26 (by decide) rfl ?_
    refine AX.aload_n (pc := 28) dX12_layChance_28 rfl ?_
    refine AX.dload (pc := 29) dX12_layChance_29 rfl ?_
    refine AX.dload_n (pc := 31) dX12_layChance_31 rfl ?_
    refine AX.dcmp (pc := 32) dX12_layChance_32 ?_
    refine AX.if_le (pc := 33) (tgt := 41) dX12_layChance_33 (by decide) (fun hc33 => ?_) (fun hc33 => ?_)
    · refine AX.aload_n (pc := 41) dX12_layChance_41 rfl ?_
      refine AX.getf (pc := 42) fX12_layChance_207 (lt_k (s1.le hn) (by omega)) eO1 rfl dX12_layChance_42 ?_
      refine AX.putf (pc := 45) (fs' := [.ref 88, .ref 89, .ref 90, .int (v 0), .int (nI (fC (k + 2))), .ref 91, .ref 92, .ref 93, .ref 94, .ref 95, .ref 96, .ref 97, .ref 98, .ref 99, .ref 100, .ref 101, .int (nI ((csel (fun a => chS o sd rg (fun d => if d = 0 then FP.dconst1 else fc (181 * j + d)) r a (fC a)) k).1)), .ref 102, .ref 103, .ref 104, .ref 105, .ref 106, .ref 107, .ref 108, .int (v 3), .ref 109, .int (v 4), .ref 110, .ref 111, .int (v 5), .ref 112, .int (v 6), .int (v 7), .int (v 8), .ref 113, .int (v 9), .ref 114, .ref 115, .ref 116, .ref 117]) fX12_layChance_207 rfl (lt_k (s1.le hn) (by omega)) eO1 (Nat.le_of_ble_eq_true rfl) rfl rfl rfl dX12_layChance_45 ?_
      refine AX.dload (pc := 48) dX12_layChance_48 rfl ?_
      refine AX.dload_n (pc := 50) dX12_layChance_50 rfl ?_
      refine AX.dcmp (pc := 51) dX12_layChance_51 ?_
      refine AX.if_le (pc := 52) (tgt := 60) dX12_layChance_52 (by decide) (fun hc52 => ?_) (fun q => absurd hc33 q)
      refine AX.dload_n (pc := 60) dX12_layChance_60 rfl ?_
      refine AX.dstore_n (pc := 61) (L' := [.ref 87, .int (nI r), .int (nI (j + 1)), .double ((csel (fun a => chS o sd rg (fun d => if d = 0 then FP.dconst1 else fc (181 * j + d)) r a (fC a)) k).2), .null, .int (nI (k + 2)), .double (chS o sd rg (fun d => if d = 0 then FP.dconst1 else fc (181 * j + d)) r (k + 2) (fC (k + 2))), .null]) dX12_layChance_61 (by decide) rfl ?_
      refine AX.iincN (c := k + 3) (pc := 62) (L' := [.ref 87, .int (nI r), .int (nI (j + 1)), .double ((csel (fun a => chS o sd rg (fun d => if d = 0 then FP.dconst1 else fc (181 * j + d)) r a (fC a)) k).2), .null, .int (nI (k + 3)), .double (chS o sd rg (fun d => if d = 0 then FP.dconst1 else fc (181 * j + d)) r (k + 2) (fC (k + 2))), .null]) dX12_layChance_62 rfl (inc1 _) (by decide) rfl ?_
      refine AX.goto (pc := 65) (tgt := 7) dX12_layChance_65 (by decide) ?_
      have sx : Same [87] h1 (xset h1 87 (.inr (11, [.ref 88, .ref 89, .ref 90, .int (v 0), .int (nI (fC (k + 2))), .ref 91, .ref 92, .ref 93, .ref 94, .ref 95, .ref 96, .ref 97, .ref 98, .ref 99, .ref 100, .ref 101, .int (nI ((csel (fun a => chS o sd rg (fun d => if d = 0 then FP.dconst1 else fc (181 * j + d)) r a (fC a)) k).1)), .ref 102, .ref 103, .ref 104, .ref 105, .ref 106, .ref 107, .ref 108, .int (v 3), .ref 109, .int (v 4), .ref 110, .ref 111, .int (v 5), .ref 112, .int (v 6), .int (v 7), .int (v 8), .ref 113, .int (v 9), .ref 114, .ref 115, .ref 116, .ref 117]))) := Same.rest
      have hz : csel (fun a => chS o sd rg (fun d => if d = 0 then FP.dconst1 else fc (181 * j + d)) r a (fC a)) (k + 1) = csel (fun a => chS o sd rg (fun d => if d = 0 then FP.dconst1 else fc (181 * j + d)) r a (fC a)) k := by rw [hz]; exact if_neg (fun q => cmpl_yes hc33 (of_decide_eq_true q))
      have ih := l_layCh w P h0 hn0 hN0 ho12 ho hA0 ec0 hs hrg hC hj hr hP g (k + 1) (xset h1 87 (.inr (11, [.ref 88, .ref 89, .ref 90, .int (v 0), .int (nI (fC (k + 2))), .ref 91, .ref 92, .ref 93, .ref 94, .ref 95, .ref 96, .ref 97, .ref 98, .ref 99, .ref 100, .ref 101, .int (nI ((csel (fun a => chS o sd rg (fun d => if d = 0 then FP.dconst1 else fc (181 * j + d)) r a (fC a)) k).1)), .ref 102, .ref 103, .ref 104, .ref 105, .ref 106, .ref 107, .ref 108, .int (v 3), .ref 109, .int (v 4), .ref 110, .ref 111, .int (v 5), .ref 112, .int (v 6), .int (v 7), .int (v 8), .ref 113, .int (v 9), .ref 114, .ref 115, .ref 116, .ref 117]))) (nI (fC (k + 2))) f1 fw1 (by omega) (by rw [hz]; exact xset_same _ _ _) (sx.at (by simp) e91b) (sx.at (by simp) e92b) ((hS.trans s1).trans (sx.wide (by decide)))
      rw [hz] at ih
      refine AX.sub (L' := [.ref 87, .int (nI r), .int (nI (j + 1)), .double ((csel (fun a => chS o sd rg (fun d => if d = 0 then FP.dconst1 else fc (181 * j + d)) r a (fC a)) k).2), .null, .int (nI (k + 1 + 2)), .null, .null]) ⟨Or.inr rfl, Or.inr rfl, Or.inr rfl, Or.inr rfl, Or.inl rfl, Or.inr rfl, Or.inl rfl, Or.inl rfl, trivial⟩ ?_
      exact ih
    · refine AX.iload (pc := 36) dX12_layChance_36 rfl ?_
      refine AX.goto (pc := 38) (tgt := 45) dX12_layChance_38 (by decide) ?_
      refine AX.putf (pc := 45) (fs' := [.ref 88, .ref 89, .ref 90, .int (v 0), .int (nI (fC (k + 2))), .ref 91, .ref 92, .ref 93, .ref 94, .ref 95, .ref 96, .ref 97, .ref 98, .ref 99, .ref 100, .ref 101, .int (nI (k + 2)), .ref 102, .ref 103, .ref 104, .ref 105, .ref 106, .ref 107, .ref 108, .int (v 3), .ref 109, .int (v 4), .ref 110, .ref 111, .int (v 5), .ref 112, .int (v 6), .int (v 7), .int (v 8), .ref 113, .int (v 9), .ref 114, .ref 115, .ref 116, .ref 117]) fX12_layChance_207 rfl (lt_k (s1.le hn) (by omega)) eO1 (Nat.le_of_ble_eq_true rfl) rfl rfl rfl dX12_layChance_45 ?_
      refine AX.dload (pc := 48) dX12_layChance_48 rfl ?_
      refine AX.dload_n (pc := 50) dX12_layChance_50 rfl ?_
      refine AX.dcmp (pc := 51) dX12_layChance_51 ?_
      refine AX.if_le (pc := 52) (tgt := 60) dX12_layChance_52 (by decide) (fun q => absurd q hc33) (fun hc52 => ?_)
      refine AX.dload (pc := 55) dX12_layChance_55 rfl ?_
      refine AX.goto (pc := 57) (tgt := 61) dX12_layChance_57 (by decide) ?_
      refine AX.dstore_n (pc := 61) (L' := [.ref 87, .int (nI r), .int (nI (j + 1)), .double (chS o sd rg (fun d => if d = 0 then FP.dconst1 else fc (181 * j + d)) r (k + 2) (fC (k + 2))), .null, .int (nI (k + 2)), .double (chS o sd rg (fun d => if d = 0 then FP.dconst1 else fc (181 * j + d)) r (k + 2) (fC (k + 2))), .null]) dX12_layChance_61 (by decide) rfl ?_
      refine AX.iincN (c := k + 3) (pc := 62) (L' := [.ref 87, .int (nI r), .int (nI (j + 1)), .double (chS o sd rg (fun d => if d = 0 then FP.dconst1 else fc (181 * j + d)) r (k + 2) (fC (k + 2))), .null, .int (nI (k + 3)), .double (chS o sd rg (fun d => if d = 0 then FP.dconst1 else fc (181 * j + d)) r (k + 2) (fC (k + 2))), .null]) dX12_layChance_62 rfl (inc1 _) (by decide) rfl ?_
      refine AX.goto (pc := 65) (tgt := 7) dX12_layChance_65 (by decide) ?_
      have sx : Same [87] h1 (xset h1 87 (.inr (11, [.ref 88, .ref 89, .ref 90, .int (v 0), .int (nI (fC (k + 2))), .ref 91, .ref 92, .ref 93, .ref 94, .ref 95, .ref 96, .ref 97, .ref 98, .ref 99, .ref 100, .ref 101, .int (nI (k + 2)), .ref 102, .ref 103, .ref 104, .ref 105, .ref 106, .ref 107, .ref 108, .int (v 3), .ref 109, .int (v 4), .ref 110, .ref 111, .int (v 5), .ref 112, .int (v 6), .int (v 7), .int (v 8), .ref 113, .int (v 9), .ref 114, .ref 115, .ref 116, .ref 117]))) := Same.rest
      have hz : csel (fun a => chS o sd rg (fun d => if d = 0 then FP.dconst1 else fc (181 * j + d)) r a (fC a)) (k + 1) = (k + 2, chS o sd rg (fun d => if d = 0 then FP.dconst1 else fc (181 * j + d)) r (k + 2) (fC (k + 2))) := by rw [hz]; exact if_pos (decide_eq_true (cmpl_not hc33))
      have ih := l_layCh w P h0 hn0 hN0 ho12 ho hA0 ec0 hs hrg hC hj hr hP g (k + 1) (xset h1 87 (.inr (11, [.ref 88, .ref 89, .ref 90, .int (v 0), .int (nI (fC (k + 2))), .ref 91, .ref 92, .ref 93, .ref 94, .ref 95, .ref 96, .ref 97, .ref 98, .ref 99, .ref 100, .ref 101, .int (nI (k + 2)), .ref 102, .ref 103, .ref 104, .ref 105, .ref 106, .ref 107, .ref 108, .int (v 3), .ref 109, .int (v 4), .ref 110, .ref 111, .int (v 5), .ref 112, .int (v 6), .int (v 7), .int (v 8), .ref 113, .int (v 9), .ref 114, .ref 115, .ref 116, .ref 117]))) (nI (fC (k + 2))) f1 fw1 (by omega) (by rw [hz]; exact xset_same _ _ _) (sx.at (by simp) e91b) (sx.at (by simp) e92b) ((hS.trans s1).trans (sx.wide (by decide)))
      rw [hz] at ih
      refine AX.sub (L' := [.ref 87, .int (nI r), .int (nI (j + 1)), .double (chS o sd rg (fun d => if d = 0 then FP.dconst1 else fc (181 * j + d)) r (k + 2) (fC (k + 2))), .null, .int (nI (k + 1 + 2)), .null, .null]) ⟨Or.inr rfl, Or.inr rfl, Or.inr rfl, Or.inr rfl, Or.inl rfl, Or.inr rfl, Or.inl rfl, Or.inl rfl, trivial⟩ ?_
      exact ih
theorem c_layChance (w : XW) (h : XH) {v q : Nat → Int32} {fc : Nat → UInt64} {o sd rg r j : Nat} (hn : 118 ≤ h.1) (hO : MO h v) (hN : iA h 89 19 q) (ho12 : q 12 = nI o) (ho : o ≤ 2) (hA : AL h 63 sd rg) {f91_ f92_ : Nat → Int32} (e91 : h.2 91 = .inl (0, 5, .inl f91_)) (e92 : h.2 92 = .inl (0, 5, .inl f92_)) (ec : h.2 101 = .inl (2, 724, .inr (.inr (.inr (.inl fc))))) (hs : sd ≤ 200) (hrg : rg ≤ 200) (hC : cOK o sd rg j r (fun d => if d = 0 then FP.dconst1 else fc (181 * j + d))) (hj : j ≤ 2) (hr : r ≤ 180) (hr0 : r ≠ 0) : CA w M_X12_layChance [.ref 87, .int (nI r), .int (nI (j + 1))] h (fun v' h' => v' = none ∧ Same [87, 91, 92, 101] h h' ∧ (∃ x, MO h' (upd (upd v 2 (nI (cA_ o sd rg (j + 1) r))) 1 x)) ∧ (∃ f fw : Nat → Int32, h'.2 91 = .inl (0, 5, .inl f) ∧ h'.2 92 = .inl (0, 5, .inl fw)) ∧ h'.2 101 = .inl (2, 724, .inr (.inr (.inr (.inl (vf_upd fc (181 * (j + 1) + r) (cN o sd rg (j + 1) r))))))) := by
  refine CA.of (by decide) rfl (fun _ => Nat.le_of_ble_eq_true rfl) ?_
  have hS : Same [87, 91, 92] h h := Same.rf
  have hn0 := hn
  have hN0 := hN
  have hA0 := hA
  have ec0 := ec
  have ecs : csel (fun a => chS o sd rg (fun d => if d = 0 then FP.dconst1 else fc (181 * j + d)) r a (fC a)) 61 = cT o sd rg (j + 1) r := by
    simp only [cT, if_neg hr0]
    exact csel_congr _ (fun a _ _ => chS_congr hC _)
  have hall := chS_all (o := o) (a := 1) (C := (fun d => if d = 0 then FP.dconst1 else fc (181 * j + d))) hs hrg (by omega) (by omega) (B := j + 1) (by omega) (hC.val hs hrg (by omega))
  have hgt := km1_gt hall.1 hall.2.1
  show AX w M_X12_layChance 0 0 0 [.ref 87, .int (nI r), .int (nI (j + 1)), .null, .null, .null, .null, .null] [] h _
  refine AX.ldc2d (pc := 0) (v := 13830554455654793216) dX12_layChance_0 cX12_layChance_158 ?_
  refine AX.dstore_n (pc := 3) (L' := [.ref 87, .int (nI r), .int (nI (j + 1)), .double 13830554455654793216, .null, .null, .null, .null]) dX12_layChance_3 (by decide) rfl ?_
  refine AX.iconst (pc := 4) (v := nI 1) dX12_layChance_4 (by decide) ?_
  refine AX.istore (pc := 5) (L' := [.ref 87, .int (nI r), .int (nI (j + 1)), .double 13830554455654793216, .null, .int (nI 1), .null, .null]) dX12_layChance_5 (by decide) rfl ?_
  refine AX.iload (pc := 7) dX12_layChance_7 rfl ?_
  refine AX.bipush (pc := 9) (v := nI 62) dX12_layChance_9 (by decide) ?_
  refine AX.icmp_gtN (pc := 11) (tgt := 68) dX12_layChance_11 (by decide) (by decide) (by decide) (fun q => absurd q (by decide)) (fun hc11 => ?_)
  refine AX.aload_n (pc := 14) dX12_layChance_14 rfl ?_
  refine AX.iload (pc := 15) dX12_layChance_15 rfl ?_
  refine AX.callV (pc := 17) (M2 := M_X12_takeFalls) (As := [.int (nI 1)]) (rest := []) (c_takeFalls w h hn (v := v) hO e91 e92 hA (show 1 ≤ 1 by omega) (show 1 ≤ 62 by omega)) xc_X12_layChance__X12_takeFalls gX12_layChance_X12_takeFalls (ci := 11) rfl (lt_k hn (by omega)) hO rfl (Nat.le_of_ble_eq_true rfl) dX12_layChance_17 ?_
  rintro _ h1 ⟨rfl, s1, F1, O1⟩
  obtain ⟨f1, fw1, e91b, e92b⟩ := F1.arr
  have eO1 : h1.2 87 = .inr (11, [.ref 88, .ref 89, .ref 90, .int (v 0), .int (nI (fC 1)), .ref 91, .ref 92, .ref 93, .ref 94, .ref 95, .ref 96, .ref 97, .ref 98, .ref 99, .ref 100, .ref 101, .int (v 2), .ref 102, .ref 103, .ref 104, .ref 105, .ref 106, .ref 107, .ref 108, .int (v 3), .ref 109, .int (v 4), .ref 110, .ref 111, .int (v 5), .ref 112, .int (v 6), .int (v 7), .int (v 8), .ref 113, .int (v 9), .ref 114, .ref 115, .ref 116, .ref 117]) := O1
  show AX w M_X12_layChance 0 0 20 [.ref 87, .int (nI r), .int (nI (j + 1)), .double 13830554455654793216, .null, .int (nI 1), .null, .null] [] _ _
  refine AX.aload_n (pc := 20) dX12_layChance_20 rfl ?_
  refine AX.iload_n (pc := 21) dX12_layChance_21 rfl ?_
  refine AX.iload_n (pc := 22) dX12_layChance_22 rfl ?_
  refine AX.callV (pc := 23) (M2 := M_X12_chanceValue) (As := [.int (nI r), .int (nI (j + 1))]) (rest := []) (c_mChanceV w h1 (s1.le hn) O1 (hN0.same (hS.trans s1) (by simp)) ho12 ho F1 ((hS.trans s1).at (by simp) ec0) hs hrg hC hj hr (show 1 ≤ 1 by omega) (show 1 < 63 by omega)) xc_X12_layChance__X12_chanceValue gX12_layChance_X12_chanceValue (ci := 11) rfl (lt_k (s1.le hn) (by omega)) eO1 rfl (Nat.le_of_ble_eq_true rfl) dX12_layChance_23 ?_
  rintro _ h9 ⟨rfl, e9⟩
  have e9 := e9.symm
  subst e9
  show AX w M_X12_layChance 0 0 26 [.ref 87, .int (nI r), .int (nI (j + 1)), .double 13830554455654793216, .null, .int (nI 1), .null, .null] [.double (chS o sd rg (fun d => if d = 0 then FP.dconst1 else fc (181 * j + d)) r 1 (fC 1))] _ _
  refine AX.dstore (pc := 26) (L' := [.ref 87, .int (nI r), .int (nI (j + 1)), .double 13830554455654793216, .null, .int (nI 1), .double (chS o sd rg (fun d => if d = 0 then FP.dconst1 else fc (181 * j + d)) r 1 (fC 1)), .null]) dX12_layChance_26 (by decide) rfl ?_
  refine AX.aload_n (pc := 28) dX12_layChance_28 rfl ?_
  refine AX.dload (pc := 29) dX12_layChance_29 rfl ?_
  refine AX.dload_n (pc := 31) dX12_layChance_31 rfl ?_
  refine AX.dcmp (pc := 32) dX12_layChance_32 ?_
  refine AX.if_le (pc := 33) (tgt := 41) dX12_layChance_33 (by decide) (fun q => absurd q (cmpl_gt hgt)) (fun hc33 => ?_)
  refine AX.iload (pc := 36) dX12_layChance_36 rfl ?_
  refine AX.goto (pc := 38) (tgt := 45) dX12_layChance_38 (by decide) ?_
  refine AX.putf (pc := 45) (fs' := [.ref 88, .ref 89, .ref 90, .int (v 0), .int (nI (fC 1)), .ref 91, .ref 92, .ref 93, .ref 94, .ref 95, .ref 96, .ref 97, .ref 98, .ref 99, .ref 100, .ref 101, .int (nI 1), .ref 102, .ref 103, .ref 104, .ref 105, .ref 106, .ref 107, .ref 108, .int (v 3), .ref 109, .int (v 4), .ref 110, .ref 111, .int (v 5), .ref 112, .int (v 6), .int (v 7), .int (v 8), .ref 113, .int (v 9), .ref 114, .ref 115, .ref 116, .ref 117]) fX12_layChance_207 rfl (lt_k (s1.le hn) (by omega)) eO1 (Nat.le_of_ble_eq_true rfl) rfl rfl rfl dX12_layChance_45 ?_
  refine AX.dload (pc := 48) dX12_layChance_48 rfl ?_
  refine AX.dload_n (pc := 50) dX12_layChance_50 rfl ?_
  refine AX.dcmp (pc := 51) dX12_layChance_51 ?_
  refine AX.if_le (pc := 52) (tgt := 60) dX12_layChance_52 (by decide) (fun q => absurd q (cmpl_gt hgt)) (fun hc52 => ?_)
  refine AX.dload (pc := 55) dX12_layChance_55 rfl ?_
  refine AX.goto (pc := 57) (tgt := 61) dX12_layChance_57 (by decide) ?_
  refine AX.dstore_n (pc := 61) (L' := [.ref 87, .int (nI r), .int (nI (j + 1)), .double (chS o sd rg (fun d => if d = 0 then FP.dconst1 else fc (181 * j + d)) r 1 (fC 1)), .null, .int (nI 1), .double (chS o sd rg (fun d => if d = 0 then FP.dconst1 else fc (181 * j + d)) r 1 (fC 1)), .null]) dX12_layChance_61 (by decide) rfl ?_
  refine AX.iincN (c := 2) (pc := 62) (L' := [.ref 87, .int (nI r), .int (nI (j + 1)), .double (chS o sd rg (fun d => if d = 0 then FP.dconst1 else fc (181 * j + d)) r 1 (fC 1)), .null, .int (nI 2), .double (chS o sd rg (fun d => if d = 0 then FP.dconst1 else fc (181 * j + d)) r 1 (fC 1)), .null]) dX12_layChance_62 rfl (inc1 _) (by decide) rfl ?_
  refine AX.goto (pc := 65) (tgt := 7) dX12_layChance_65 (by decide) ?_
  have sx : Same [87] h1 (xset h1 87 (.inr (11, [.ref 88, .ref 89, .ref 90, .int (v 0), .int (nI (fC 1)), .ref 91, .ref 92, .ref 93, .ref 94, .ref 95, .ref 96, .ref 97, .ref 98, .ref 99, .ref 100, .ref 101, .int (nI 1), .ref 102, .ref 103, .ref 104, .ref 105, .ref 106, .ref 107, .ref 108, .int (v 3), .ref 109, .int (v 4), .ref 110, .ref 111, .int (v 5), .ref 112, .int (v 6), .int (v 7), .int (v 8), .ref 113, .int (v 9), .ref 114, .ref 115, .ref 116, .ref 117]))) := Same.rest
  have ih := l_layCh w (fun v' h' => v' = none ∧ Same [87, 91, 92, 101] h h' ∧ (∃ x, MO h' (upd (upd v 2 (nI (cA_ o sd rg (j + 1) r))) 1 x)) ∧ (∃ f fw : Nat → Int32, h'.2 91 = .inl (0, 5, .inl f) ∧ h'.2 92 = .inl (0, 5, .inl fw)) ∧ h'.2 101 = .inl (2, 724, .inr (.inr (.inr (.inl (vf_upd fc (181 * (j + 1) + r) (cN o sd rg (j + 1) r))))))) h (v := v) hn0 hN0 ho12 ho hA0 ec0 hs hrg hC hj hr (fun h2 x2 f2 fw2 t2 O2 y91 y92 y101 => by rw [ecs] at O2 y101; exact ⟨rfl, t2, ⟨x2, O2⟩, ⟨f2, fw2, y91, y92⟩, y101⟩) 61 0 (xset h1 87 (.inr (11, [.ref 88, .ref 89, .ref 90, .int (v 0), .int (nI (fC 1)), .ref 91, .ref 92, .ref 93, .ref 94, .ref 95, .ref 96, .ref 97, .ref 98, .ref 99, .ref 100, .ref 101, .int (nI 1), .ref 102, .ref 103, .ref 104, .ref 105, .ref 106, .ref 107, .ref 108, .int (v 3), .ref 109, .int (v 4), .ref 110, .ref 111, .int (v 5), .ref 112, .int (v 6), .int (v 7), .int (v 8), .ref 113, .int (v 9), .ref 114, .ref 115, .ref 116, .ref 117]))) (nI (fC 1)) f1 fw1 rfl (by exact xset_same _ _ _) (sx.at (by simp) e91b) (sx.at (by simp) e92b) ((hS.trans s1).trans (sx.wide (by decide)))
  refine AX.sub (L' := [.ref 87, .int (nI r), .int (nI (j + 1)), .double (chS o sd rg (fun d => if d = 0 then FP.dconst1 else fc (181 * j + d)) r 1 (fC 1)), .null, .int (nI 2), .null, .null]) ⟨Or.inr rfl, Or.inr rfl, Or.inr rfl, Or.inr rfl, Or.inl rfl, Or.inr rfl, Or.inl rfl, Or.inl rfl, trivial⟩ ?_
  exact ih
