/-! ===== THE REFERENCE: DARTS ===== -/
abbrev KM1 : UInt64 := 13830554455654793216
theorem km1_lt : FP.dcmp KM1 FP.dconst0 = some .lt := by decide +kernel
def bst (V : Nat → Option UInt64) (k : Nat) : UInt64 := if (dsel V k).1 = 0 then KM1 else (dsel V k).2
theorem bst_0 {V : Nat → Option UInt64} {k : Nat} (h : (dsel V k).1 ≠ 0) : bst V k = (dsel V k).2 := if_neg h
theorem cmpl_nlt {o : Option Ordering} (h : o = some .gt) : ¬ Op.cmpValue o .l < 0 := by subst h; decide
theorem cmpl_lt {o : Option Ordering} (h : o = some .lt) : Op.cmpValue o .l < 0 := by subst h; decide
/-- a table of DARTS and AIMS of player u -/
def dtab (fd : Nat → UInt64) (fa : Nat → Int32) (u o sd rg : Nat) : Prop := fd (502 * u) = FP.dconst0 ∧ ∀ r, leN o ≤ r → r ≤ 501 → fd (502 * u + r) = dD o sd rg r ∧ fa (502 * u + r) = nI (dA_ o sd rg r)
def DT (h : XH) : Prop := ∃ (fd : Nat → UInt64) (fa ls lr lo : Nat → Int32), h.2 93 = .inl (2, 1004, .inr (.inr (.inr (.inl fd)))) ∧ h.2 94 = .inl (0, 1004, .inl fa) ∧ h.2 95 = .inl (0, 2, .inl ls) ∧ h.2 96 = .inl (0, 2, .inl lr) ∧ h.2 97 = .inl (0, 2, .inl lo) ∧
  ∀ u o sd rg, u ≤ 1 → o ≤ 2 → sd ≤ 200 → rg ≤ 200 → ls u = nI sd → lr u = nI rg → lo u = nI o → dtab fd fa u o sd rg
theorem DT.same {S : List Nat} {h h' : XH} (H : DT h) (hs : Same S h h') (h1 : 93 ∉ S) (h2 : 94 ∉ S) (h3 : 95 ∉ S) (h4 : 96 ∉ S) (h5 : 97 ∉ S) : DT h' := by
  obtain ⟨fd, fa, ls, lr, lo, e1, e2, e3, e4, e5, q⟩ := H
  exact ⟨fd, fa, ls, lr, lo, hs.at h1 e1, hs.at h2 e2, hs.at h3 e3, hs.at h4 e4, hs.at h5 e5, q⟩
def DU (h : XH) (u o sd rg : Nat) : Prop := ∃ (fd : Nat → UInt64) (fa : Nat → Int32), h.2 93 = .inl (2, 1004, .inr (.inr (.inr (.inl fd)))) ∧ h.2 94 = .inl (0, 1004, .inl fa) ∧ dtab fd fa u o sd rg
theorem c_isLaid (w : XW) (h : XH) {v q ls lr lo : Nat → Int32} {u o sd rg : Nat} (hn : 118 ≤ h.1) (hO : MO h v) (hN : iA h 89 19 q) (hu : u ≤ 1) (hs : q u = nI sd) (hr : q (2 + u) = nI rg) (ho : q 12 = nI o) (e95 : h.2 95 = .inl (0, 2, .inl ls)) (e96 : h.2 96 = .inl (0, 2, .inl lr)) (e97 : h.2 97 = .inl (0, 2, .inl lo)) : CA w M_X12_isLaid [.ref 87, .int (nI u)] h (fun v' h' => v' = some (.int (bI (decide (ls u = nI sd ∧ lr u = nI rg ∧ lo u = nI o)))) ∧ Same [95, 96, 97] h h' ∧ h'.2 95 = .inl (0, 2, .inl (upd ls u (nI sd))) ∧ h'.2 96 = .inl (0, 2, .inl (upd lr u (nI rg))) ∧ h'.2 97 = .inl (0, 2, .inl (upd lo u (nI o)))) := by
  refine CA.of (by decide) rfl (fun _ => Nat.le_of_ble_eq_true rfl) ?_
  obtain ⟨f89, e89, q89⟩ := id hN
  have z1 := (q89 u (by omega)).trans hs
  have z2 := (q89 (2 + u) (by omega)).trans hr
  have z3 := (q89 12 (by omega)).trans ho
  show AX w M_X12_isLaid 0 0 0 [.ref 87, .int (nI u), .null] [] h _
  refine AX.aload_n (pc := 0) dX12_isLaid_0 rfl ?_
  refine AX.getf (pc := 1) fX12_isLaid_32 (lt_k hn (by omega)) hO rfl dX12_isLaid_1 ?_
  refine AX.iload_n (pc := 4) dX12_isLaid_4 rfl ?_
  refine AX.ialdN (pc := 5) (i := u) (v := (ls u)) (lt_k hn (by omega)) e95 (by decide) (by omega) rfl dX12_isLaid_5 ?_
  refine AX.aload_n (pc := 6) dX12_isLaid_6 rfl ?_
  refine AX.getf (pc := 7) fX12_isLaid_13 (lt_k hn (by omega)) hO rfl dX12_isLaid_7 ?_
  refine AX.iload_n (pc := 10) dX12_isLaid_10 rfl ?_
  refine AX.ialdN (pc := 11) (i := u) (v := (nI sd)) (lt_k hn (by omega)) e89 (by decide) (by omega) z1 dX12_isLaid_11 ?_
  refine AX.icmp_ne (pc := 12) (tgt := 52) dX12_isLaid_12 (by decide) (fun hc12 => ?_) (fun hc12 => ?_)
  · refine AX.iconst (pc := 52) (v := nI 0) dX12_isLaid_52 (by decide) ?_
    refine AX.istore_n (pc := 53) (L' := [.ref 87, .int (nI u), .int (nI 0)]) dX12_isLaid_53 (by decide) rfl ?_
    refine AX.aload_n (pc := 54) dX12_isLaid_54 rfl ?_
    refine AX.getf (pc := 55) fX12_isLaid_32 (lt_k hn (by omega)) hO rfl dX12_isLaid_55 ?_
    refine AX.iload_n (pc := 58) dX12_isLaid_58 rfl ?_
    refine AX.aload_n (pc := 59) dX12_isLaid_59 rfl ?_
    refine AX.getf (pc := 60) fX12_isLaid_13 (lt_k hn (by omega)) hO rfl dX12_isLaid_60 ?_
    refine AX.iload_n (pc := 63) dX12_isLaid_63 rfl ?_
    refine AX.ialdN (pc := 64) (i := u) (v := (nI sd)) (lt_k hn (by omega)) e89 (by decide) (by omega) z1 dX12_isLaid_64 ?_
    refine AX.iastN (pc := 65) (i := u) (g := upd ls u (nI sd)) (lt_k hn (by omega)) e95 (by decide) (by omega) rfl dX12_isLaid_65 ?_
    refine AX.aload_n (pc := 66) dX12_isLaid_66 rfl ?_
    refine AX.getf (pc := 67) fX12_isLaid_35 (lt_k hn (by omega)) ((xset_ne (by decide)).trans hO) rfl dX12_isLaid_67 ?_
    refine AX.iload_n (pc := 70) dX12_isLaid_70 rfl ?_
    refine AX.aload_n (pc := 71) dX12_isLaid_71 rfl ?_
    refine AX.getf (pc := 72) fX12_isLaid_13 (lt_k hn (by omega)) ((xset_ne (by decide)).trans hO) rfl dX12_isLaid_72 ?_
    refine AX.iconst (pc := 75) (v := nI 2) dX12_isLaid_75 (by decide) ?_
    refine AX.iload_n (pc := 76) dX12_isLaid_76 rfl ?_
    refine AX.iaddN (pc := 77) (c := 2 + u) dX12_isLaid_77 rfl ?_
    refine AX.ialdN (pc := 78) (i := 2 + u) (v := (nI rg)) (lt_k hn (by omega)) ((xset_ne (by decide)).trans e89) (by decide) (by omega) z2 dX12_isLaid_78 ?_
    refine AX.iastN (pc := 79) (i := u) (g := upd lr u (nI rg)) (lt_k hn (by omega)) ((xset_ne (by decide)).trans e96) (by decide) (by omega) rfl dX12_isLaid_79 ?_
    refine AX.aload_n (pc := 80) dX12_isLaid_80 rfl ?_
    refine AX.getf (pc := 81) fX12_isLaid_38 (lt_k hn (by omega)) ((xset_ne (by decide)).trans ((xset_ne (by decide)).trans hO)) rfl dX12_isLaid_81 ?_
    refine AX.iload_n (pc := 84) dX12_isLaid_84 rfl ?_
    refine AX.aload_n (pc := 85) dX12_isLaid_85 rfl ?_
    refine AX.getf (pc := 86) fX12_isLaid_13 (lt_k hn (by omega)) ((xset_ne (by decide)).trans ((xset_ne (by decide)).trans hO)) rfl dX12_isLaid_86 ?_
    refine AX.bipush (pc := 89) (v := nI 12) dX12_isLaid_89 (by decide) ?_
    refine AX.ialdN (pc := 91) (i := 12) (v := (nI o)) (lt_k hn (by omega)) ((xset_ne (by decide)).trans ((xset_ne (by decide)).trans e89)) (by decide) (by decide) z3 dX12_isLaid_91 ?_
    refine AX.iastN (pc := 92) (i := u) (g := upd lo u (nI o)) (lt_k hn (by omega)) ((xset_ne (by decide)).trans ((xset_ne (by decide)).trans e97)) (by decide) (by omega) rfl dX12_isLaid_92 ?_
    refine AX.iload_n (pc := 93) dX12_isLaid_93 rfl ?_
    refine AX.iret (pc := 94) dX12_isLaid_94 rfl rfl (by decide) (by decide) ?_
    exact ⟨s0 (decide_eq_false (fun q => by first | exact hc12 q.1 | exact hc29 q.2.1 | exact hc45 q.2.2)), Same.set (Same.set (Same.set Same.rf (by simp)) (by simp)) (by simp), ((xset_ne (by decide)).trans ((xset_ne (by decide)).trans (xset_same _ _ _))), ((xset_ne (by decide)).trans (xset_same _ _ _)), (xset_same _ _ _)⟩
  · refine AX.aload_n (pc := 15) dX12_isLaid_15 rfl ?_
    refine AX.getf (pc := 16) fX12_isLaid_35 (lt_k hn (by omega)) hO rfl dX12_isLaid_16 ?_
    refine AX.iload_n (pc := 19) dX12_isLaid_19 rfl ?_
    refine AX.ialdN (pc := 20) (i := u) (v := (lr u)) (lt_k hn (by omega)) e96 (by decide) (by omega) rfl dX12_isLaid_20 ?_
    refine AX.aload_n (pc := 21) dX12_isLaid_21 rfl ?_
    refine AX.getf (pc := 22) fX12_isLaid_13 (lt_k hn (by omega)) hO rfl dX12_isLaid_22 ?_
    refine AX.iconst (pc := 25) (v := nI 2) dX12_isLaid_25 (by decide) ?_
    refine AX.iload_n (pc := 26) dX12_isLaid_26 rfl ?_
    refine AX.iaddN (pc := 27) (c := 2 + u) dX12_isLaid_27 rfl ?_
    refine AX.ialdN (pc := 28) (i := 2 + u) (v := (nI rg)) (lt_k hn (by omega)) e89 (by decide) (by omega) z2 dX12_isLaid_28 ?_
    refine AX.icmp_ne (pc := 29) (tgt := 52) dX12_isLaid_29 (by decide) (fun hc29 => ?_) (fun hc29 => ?_)
    · refine AX.iconst (pc := 52) (v := nI 0) dX12_isLaid_52 (by decide) ?_
      refine AX.istore_n (pc := 53) (L' := [.ref 87, .int (nI u), .int (nI 0)]) dX12_isLaid_53 (by decide) rfl ?_
      refine AX.aload_n (pc := 54) dX12_isLaid_54 rfl ?_
      refine AX.getf (pc := 55) fX12_isLaid_32 (lt_k hn (by omega)) hO rfl dX12_isLaid_55 ?_
      refine AX.iload_n (pc := 58) dX12_isLaid_58 rfl ?_
      refine AX.aload_n (pc := 59) dX12_isLaid_59 rfl ?_
      refine AX.getf (pc := 60) fX12_isLaid_13 (lt_k hn (by omega)) hO rfl dX12_isLaid_60 ?_
      refine AX.iload_n (pc := 63) dX12_isLaid_63 rfl ?_
      refine AX.ialdN (pc := 64) (i := u) (v := (nI sd)) (lt_k hn (by omega)) e89 (by decide) (by omega) z1 dX12_isLaid_64 ?_
      refine AX.iastN (pc := 65) (i := u) (g := upd ls u (nI sd)) (lt_k hn (by omega)) e95 (by decide) (by omega) rfl dX12_isLaid_65 ?_
      refine AX.aload_n (pc := 66) dX12_isLaid_66 rfl ?_
      refine AX.getf (pc := 67) fX12_isLaid_35 (lt_k hn (by omega)) ((xset_ne (by decide)).trans hO) rfl dX12_isLaid_67 ?_
      refine AX.iload_n (pc := 70) dX12_isLaid_70 rfl ?_
      refine AX.aload_n (pc := 71) dX12_isLaid_71 rfl ?_
      refine AX.getf (pc := 72) fX12_isLaid_13 (lt_k hn (by omega)) ((xset_ne (by decide)).trans hO) rfl dX12_isLaid_72 ?_
      refine AX.iconst (pc := 75) (v := nI 2) dX12_isLaid_75 (by decide) ?_
      refine AX.iload_n (pc := 76) dX12_isLaid_76 rfl ?_
      refine AX.iaddN (pc := 77) (c := 2 + u) dX12_isLaid_77 rfl ?_
      refine AX.ialdN (pc := 78) (i := 2 + u) (v := (nI rg)) (lt_k hn (by omega)) ((xset_ne (by decide)).trans e89) (by decide) (by omega) z2 dX12_isLaid_78 ?_
      refine AX.iastN (pc := 79) (i := u) (g := upd lr u (nI rg)) (lt_k hn (by omega)) ((xset_ne (by decide)).trans e96) (by decide) (by omega) rfl dX12_isLaid_79 ?_
      refine AX.aload_n (pc := 80) dX12_isLaid_80 rfl ?_
      refine AX.getf (pc := 81) fX12_isLaid_38 (lt_k hn (by omega)) ((xset_ne (by decide)).trans ((xset_ne (by decide)).trans hO)) rfl dX12_isLaid_81 ?_
      refine AX.iload_n (pc := 84) dX12_isLaid_84 rfl ?_
      refine AX.aload_n (pc := 85) dX12_isLaid_85 rfl ?_
      refine AX.getf (pc := 86) fX12_isLaid_13 (lt_k hn (by omega)) ((xset_ne (by decide)).trans ((xset_ne (by decide)).trans hO)) rfl dX12_isLaid_86 ?_
      refine AX.bipush (pc := 89) (v := nI 12) dX12_isLaid_89 (by decide) ?_
      refine AX.ialdN (pc := 91) (i := 12) (v := (nI o)) (lt_k hn (by omega)) ((xset_ne (by decide)).trans ((xset_ne (by decide)).trans e89)) (by decide) (by decide) z3 dX12_isLaid_91 ?_
      refine AX.iastN (pc := 92) (i := u) (g := upd lo u (nI o)) (lt_k hn (by omega)) ((xset_ne (by decide)).trans ((xset_ne (by decide)).trans e97)) (by decide) (by omega) rfl dX12_isLaid_92 ?_
      refine AX.iload_n (pc := 93) dX12_isLaid_93 rfl ?_
      refine AX.iret (pc := 94) dX12_isLaid_94 rfl rfl (by decide) (by decide) ?_
      exact ⟨s0 (decide_eq_false (fun q => by first | exact hc12 q.1 | exact hc29 q.2.1 | exact hc45 q.2.2)), Same.set (Same.set (Same.set Same.rf (by simp)) (by simp)) (by simp), ((xset_ne (by decide)).trans ((xset_ne (by decide)).trans (xset_same _ _ _))), ((xset_ne (by decide)).trans (xset_same _ _ _)), (xset_same _ _ _)⟩
    · refine AX.aload_n (pc := 32) dX12_isLaid_32 rfl ?_
      refine AX.getf (pc := 33) fX12_isLaid_38 (lt_k hn (by omega)) hO rfl dX12_isLaid_33 ?_
      refine AX.iload_n (pc := 36) dX12_isLaid_36 rfl ?_
      refine AX.ialdN (pc := 37) (i := u) (v := (lo u)) (lt_k hn (by omega)) e97 (by decide) (by omega) rfl dX12_isLaid_37 ?_
      refine AX.aload_n (pc := 38) dX12_isLaid_38 rfl ?_
      refine AX.getf (pc := 39) fX12_isLaid_13 (lt_k hn (by omega)) hO rfl dX12_isLaid_39 ?_
      refine AX.bipush (pc := 42) (v := nI 12) dX12_isLaid_42 (by decide) ?_
      refine AX.ialdN (pc := 44) (i := 12) (v := (nI o)) (lt_k hn (by omega)) e89 (by decide) (by decide) z3 dX12_isLaid_44 ?_
      refine AX.icmp_ne (pc := 45) (tgt := 52) dX12_isLaid_45 (by decide) (fun hc45 => ?_) (fun hc45 => ?_)
      · refine AX.iconst (pc := 52) (v := nI 0) dX12_isLaid_52 (by decide) ?_
        refine AX.istore_n (pc := 53) (L' := [.ref 87, .int (nI u), .int (nI 0)]) dX12_isLaid_53 (by decide) rfl ?_
        refine AX.aload_n (pc := 54) dX12_isLaid_54 rfl ?_
        refine AX.getf (pc := 55) fX12_isLaid_32 (lt_k hn (by omega)) hO rfl dX12_isLaid_55 ?_
        refine AX.iload_n (pc := 58) dX12_isLaid_58 rfl ?_
        refine AX.aload_n (pc := 59) dX12_isLaid_59 rfl ?_
        refine AX.getf (pc := 60) fX12_isLaid_13 (lt_k hn (by omega)) hO rfl dX12_isLaid_60 ?_
        refine AX.iload_n (pc := 63) dX12_isLaid_63 rfl ?_
        refine AX.ialdN (pc := 64) (i := u) (v := (nI sd)) (lt_k hn (by omega)) e89 (by decide) (by omega) z1 dX12_isLaid_64 ?_
        refine AX.iastN (pc := 65) (i := u) (g := upd ls u (nI sd)) (lt_k hn (by omega)) e95 (by decide) (by omega) rfl dX12_isLaid_65 ?_
        refine AX.aload_n (pc := 66) dX12_isLaid_66 rfl ?_
        refine AX.getf (pc := 67) fX12_isLaid_35 (lt_k hn (by omega)) ((xset_ne (by decide)).trans hO) rfl dX12_isLaid_67 ?_
        refine AX.iload_n (pc := 70) dX12_isLaid_70 rfl ?_
        refine AX.aload_n (pc := 71) dX12_isLaid_71 rfl ?_
        refine AX.getf (pc := 72) fX12_isLaid_13 (lt_k hn (by omega)) ((xset_ne (by decide)).trans hO) rfl dX12_isLaid_72 ?_
        refine AX.iconst (pc := 75) (v := nI 2) dX12_isLaid_75 (by decide) ?_
        refine AX.iload_n (pc := 76) dX12_isLaid_76 rfl ?_
        refine AX.iaddN (pc := 77) (c := 2 + u) dX12_isLaid_77 rfl ?_
        refine AX.ialdN (pc := 78) (i := 2 + u) (v := (nI rg)) (lt_k hn (by omega)) ((xset_ne (by decide)).trans e89) (by decide) (by omega) z2 dX12_isLaid_78 ?_
        refine AX.iastN (pc := 79) (i := u) (g := upd lr u (nI rg)) (lt_k hn (by omega)) ((xset_ne (by decide)).trans e96) (by decide) (by omega) rfl dX12_isLaid_79 ?_
        refine AX.aload_n (pc := 80) dX12_isLaid_80 rfl ?_
        refine AX.getf (pc := 81) fX12_isLaid_38 (lt_k hn (by omega)) ((xset_ne (by decide)).trans ((xset_ne (by decide)).trans hO)) rfl dX12_isLaid_81 ?_
        refine AX.iload_n (pc := 84) dX12_isLaid_84 rfl ?_
        refine AX.aload_n (pc := 85) dX12_isLaid_85 rfl ?_
        refine AX.getf (pc := 86) fX12_isLaid_13 (lt_k hn (by omega)) ((xset_ne (by decide)).trans ((xset_ne (by decide)).trans hO)) rfl dX12_isLaid_86 ?_
        refine AX.bipush (pc := 89) (v := nI 12) dX12_isLaid_89 (by decide) ?_
        refine AX.ialdN (pc := 91) (i := 12) (v := (nI o)) (lt_k hn (by omega)) ((xset_ne (by decide)).trans ((xset_ne (by decide)).trans e89)) (by decide) (by decide) z3 dX12_isLaid_91 ?_
        refine AX.iastN (pc := 92) (i := u) (g := upd lo u (nI o)) (lt_k hn (by omega)) ((xset_ne (by decide)).trans ((xset_ne (by decide)).trans e97)) (by decide) (by omega) rfl dX12_isLaid_92 ?_
        refine AX.iload_n (pc := 93) dX12_isLaid_93 rfl ?_
        refine AX.iret (pc := 94) dX12_isLaid_94 rfl rfl (by decide) (by decide) ?_
        exact ⟨s0 (decide_eq_false (fun q => by first | exact hc12 q.1 | exact hc29 q.2.1 | exact hc45 q.2.2)), Same.set (Same.set (Same.set Same.rf (by simp)) (by simp)) (by simp), ((xset_ne (by decide)).trans ((xset_ne (by decide)).trans (xset_same _ _ _))), ((xset_ne (by decide)).trans (xset_same _ _ _)), (xset_same _ _ _)⟩
      · refine AX.iconst (pc := 48) (v := nI 1) dX12_isLaid_48 (by decide) ?_
        refine AX.goto (pc := 49) (tgt := 53) dX12_isLaid_49 (by decide) ?_
        refine AX.istore_n (pc := 53) (L' := [.ref 87, .int (nI u), .int (nI 1)]) dX12_isLaid_53 (by decide) rfl ?_
        refine AX.aload_n (pc := 54) dX12_isLaid_54 rfl ?_
        refine AX.getf (pc := 55) fX12_isLaid_32 (lt_k hn (by omega)) hO rfl dX12_isLaid_55 ?_
        refine AX.iload_n (pc := 58) dX12_isLaid_58 rfl ?_
        refine AX.aload_n (pc := 59) dX12_isLaid_59 rfl ?_
        refine AX.getf (pc := 60) fX12_isLaid_13 (lt_k hn (by omega)) hO rfl dX12_isLaid_60 ?_
        refine AX.iload_n (pc := 63) dX12_isLaid_63 rfl ?_
        refine AX.ialdN (pc := 64) (i := u) (v := (nI sd)) (lt_k hn (by omega)) e89 (by decide) (by omega) z1 dX12_isLaid_64 ?_
        refine AX.iastN (pc := 65) (i := u) (g := upd ls u (nI sd)) (lt_k hn (by omega)) e95 (by decide) (by omega) rfl dX12_isLaid_65 ?_
        refine AX.aload_n (pc := 66) dX12_isLaid_66 rfl ?_
        refine AX.getf (pc := 67) fX12_isLaid_35 (lt_k hn (by omega)) ((xset_ne (by decide)).trans hO) rfl dX12_isLaid_67 ?_
        refine AX.iload_n (pc := 70) dX12_isLaid_70 rfl ?_
        refine AX.aload_n (pc := 71) dX12_isLaid_71 rfl ?_
        refine AX.getf (pc := 72) fX12_isLaid_13 (lt_k hn (by omega)) ((xset_ne (by decide)).trans hO) rfl dX12_isLaid_72 ?_
        refine AX.iconst (pc := 75) (v := nI 2) dX12_isLaid_75 (by decide) ?_
        refine AX.iload_n (pc := 76) dX12_isLaid_76 rfl ?_
        refine AX.iaddN (pc := 77) (c := 2 + u) dX12_isLaid_77 rfl ?_
        refine AX.ialdN (pc := 78) (i := 2 + u) (v := (nI rg)) (lt_k hn (by omega)) ((xset_ne (by decide)).trans e89) (by decide) (by omega) z2 dX12_isLaid_78 ?_
        refine AX.iastN (pc := 79) (i := u) (g := upd lr u (nI rg)) (lt_k hn (by omega)) ((xset_ne (by decide)).trans e96) (by decide) (by omega) rfl dX12_isLaid_79 ?_
        refine AX.aload_n (pc := 80) dX12_isLaid_80 rfl ?_
        refine AX.getf (pc := 81) fX12_isLaid_38 (lt_k hn (by omega)) ((xset_ne (by decide)).trans ((xset_ne (by decide)).trans hO)) rfl dX12_isLaid_81 ?_
        refine AX.iload_n (pc := 84) dX12_isLaid_84 rfl ?_
        refine AX.aload_n (pc := 85) dX12_isLaid_85 rfl ?_
        refine AX.getf (pc := 86) fX12_isLaid_13 (lt_k hn (by omega)) ((xset_ne (by decide)).trans ((xset_ne (by decide)).trans hO)) rfl dX12_isLaid_86 ?_
        refine AX.bipush (pc := 89) (v := nI 12) dX12_isLaid_89 (by decide) ?_
        refine AX.ialdN (pc := 91) (i := 12) (v := (nI o)) (lt_k hn (by omega)) ((xset_ne (by decide)).trans ((xset_ne (by decide)).trans e89)) (by decide) (by decide) z3 dX12_isLaid_91 ?_
        refine AX.iastN (pc := 92) (i := u) (g := upd lo u (nI o)) (lt_k hn (by omega)) ((xset_ne (by decide)).trans ((xset_ne (by decide)).trans e97)) (by decide) (by omega) rfl dX12_isLaid_92 ?_
        refine AX.iload_n (pc := 93) dX12_isLaid_93 rfl ?_
        refine AX.iret (pc := 94) dX12_isLaid_94 rfl rfl (by decide) (by decide) ?_
        exact ⟨s1 (decide_eq_true ⟨hc12, hc29, hc45⟩), Same.set (Same.set (Same.set Same.rf (by simp)) (by simp)) (by simp), ((xset_ne (by decide)).trans ((xset_ne (by decide)).trans (xset_same _ _ _))), ((xset_ne (by decide)).trans (xset_same _ _ _)), (xset_same _ _ _)⟩
theorem l_mDarts (w : XW) (h : XH) {v q : Nat → Int32} {fd : Nat → UInt64} {u o sd rg r a : Nat} (hn : 118 ≤ h.1) (hO : MO h (upd v 1 (nI (fC a)))) (hN : iA h 89 19 q) (ho12 : q 12 = nI o) (ho : o ≤ 2) (hF : FL h a sd rg) (ed : h.2 93 = .inl (2, 1004, .inr (.inr (.inr (.inl fd))))) (hu : u ≤ 1) (hs : sd ≤ 200) (hrg : rg ≤ 200) (hD : dOK o sd rg r (fun d => fd (502 * u + d))) (h0 : 0 < r) (hr : r ≤ 501) (h1 : 1 ≤ a) (h2 : a < 63) (P : Option Value → XH → Prop) (hP : P (some (.double ((dvV o sd rg (fun d => fd (502 * u + d)) r a).getD KM1))) h) : ∀ (g k : Nat), k + g = fC a → AX w M_X12_dartsValue 0 0 8 [.ref 87, .int (nI u), .int (nI r), .double ((dvS o sd rg (fun d => fd (502 * u + d)) r a k).1), .null, .int (nI ((dvS o sd rg (fun d => fd (502 * u + d)) r a k).2)), .int (nI k), .null, .null, .null] [] h P
  | 0, k, hg => by
    have e : k = fC a := by omega
    subst e
    obtain ⟨⟨f91, e91, q91⟩, ⟨f92, e92, q92⟩⟩ := id hF
    have hc5 := fC_le a
    have hV := hD.val ho hs hrg (by omega)
    have eO : h.2 87 = .inr (11, [.ref 88, .ref 89, .ref 90, .int (v 0), .int (nI (fC a)), .ref 91, .ref 92, .ref 93, .ref 94, .ref 95, .ref 96, .ref 97, .ref 98, .ref 99, .ref 100, .ref 101, .int (v 2), .ref 102, .ref 103, .ref 104, .ref 105, .ref 106, .ref 107, .ref 108, .int (v 3), .ref 109, .int (v 4), .ref 110, .ref 111, .int (v 5), .ref 112, .int (v 6), .int (v 7), .int (v 8), .ref 113, .int (v 9), .ref 114, .ref 115, .ref 116, .ref 117]) := hO
    have hS := dvS_ok (o := o) (D := (fun d => fd (502 * u + d))) hs hrg h1 h2 h0 (B := 3006) (by decide) hV (fC a) (Nat.le_refl _)
    rw [wTo_all hs hrg h1 h2] at hS
    refine AX.iload (pc := 8) dX12_dartsValue_8 rfl ?_
    refine AX.aload_n (pc := 10) dX12_dartsValue_10 rfl ?_
    refine AX.getf (pc := 11) fX12_dartsValue_132 (lt_k hn (by omega)) eO rfl dX12_dartsValue_11 ?_
    refine AX.icmp_geN (pc := 14) (tgt := 100) dX12_dartsValue_14 (by decide) (by omega) (by omega) (fun hc14 => ?_) (fun q => absurd q (Nat.lt_irrefl _))
    refine AX.iload (pc := 100) dX12_dartsValue_100 rfl ?_
    refine AX.sipush (pc := 102) (v := nI 1000) dX12_dartsValue_102 (by decide) ?_
    refine AX.icmp_neN (pc := 105) (tgt := 114) dX12_dartsValue_105 (by decide) (by omega) (by decide) (fun hc105 => ?_) (fun hc105 => ?_)
    · refine AX.dload_n (pc := 114) dX12_dartsValue_114 rfl ?_
      refine AX.sipush (pc := 115) (v := nI 1000) dX12_dartsValue_115 (by decide) ?_
      refine AX.iload (pc := 118) dX12_dartsValue_118 rfl ?_
      refine AX.isubN (pc := 120) (c := 1000 - (dvS o sd rg (fun d => fd (502 * u + d)) r a (fC a)).2) dX12_dartsValue_120 (by omega) ?_
      refine AX.i2d (pc := 121) dX12_dartsValue_121 ?_
      refine AX.ldc2d (pc := 122) (v := 4652007308841189376) dX12_dartsValue_122 cX12_dartsValue_156 ?_
      refine AX.ddiv (pc := 125) dX12_dartsValue_125 (vfn (odW_zv (x := 1000 - (dvS o sd rg (fun d => fd (502 * u + d)) r a (fC a)).2) (by omega)).1) ?_
      refine AX.topd (y := odW (1000 - (dvS o sd rg (fun d => fd (502 * u + d)) r a (fC a)).2)) rfl ?_
      refine AX.ddiv (pc := 126) dX12_dartsValue_126 (vfn (dvV_ok (v := FP.ddiv (dvS o sd rg (fun d => fd (502 * u + d)) r a (fC a)).1 (odW (1000 - (dvS o sd rg (fun d => fd (502 * u + d)) r a (fC a)).2))) hs hrg h1 h2 h0 (B := 3006) (by decide) hV (by unfold dvV; rw [if_neg (by omega)])).1) ?_
      refine AX.dret (pc := 127) dX12_dartsValue_127 rfl (by decide) (by decide) ?_
      have e : (dvV o sd rg (fun d => fd (502 * u + d)) r a).getD KM1 = FP.ddiv ((dvS o sd rg (fun d => fd (502 * u + d)) r a (fC a)).1) (odW (1000 - (dvS o sd rg (fun d => fd (502 * u + d)) r a (fC a)).2)) := by unfold dvV; rw [if_neg (by omega)]; rfl
      rw [e] at hP
      exact hP
    · refine AX.ldc2d (pc := 108) (v := 13830554455654793216) dX12_dartsValue_108 cX12_dartsValue_158 ?_
      refine AX.goto (pc := 111) (tgt := 127) dX12_dartsValue_111 (by decide) ?_
      refine AX.dret (pc := 127) dX12_dartsValue_127 rfl (by decide) (by decide) ?_
      have e : (dvV o sd rg (fun d => fd (502 * u + d)) r a).getD KM1 = KM1 := by unfold dvV; rw [if_pos (by omega)]; rfl
      rw [e] at hP
      exact hP
  | g + 1, k, hg => by
    obtain ⟨⟨f91, e91, q91⟩, ⟨f92, e92, q92⟩⟩ := id hF
    have hc5 := fC_le a
    have hV := hD.val ho hs hrg (by omega)
    have eO : h.2 87 = .inr (11, [.ref 88, .ref 89, .ref 90, .int (v 0), .int (nI (fC a)), .ref 91, .ref 92, .ref 93, .ref 94, .ref 95, .ref 96, .ref 97, .ref 98, .ref 99, .ref 100, .ref 101, .int (v 2), .ref 102, .ref 103, .ref 104, .ref 105, .ref 106, .ref 107, .ref 108, .int (v 3), .ref 109, .int (v 4), .ref 110, .ref 111, .int (v 5), .ref 112, .int (v 6), .int (v 7), .int (v 8), .ref 113, .int (v 9), .ref 114, .ref 115, .ref 116, .ref 117]) := hO
    have h63 := fS_lt (5 * a + k) (by omega)
    have hwt := wt_le (sd := sd) (rg := rg) (q := 5 * a + k) hs hrg (by omega)
    have hS := dvS_ok (o := o) (D := (fun d => fd (502 * u + d))) hs hrg h1 h2 h0 (B := 3006) (by decide) hV k (by omega)
    have hS1 := dvS_ok (o := o) (D := (fun d => fd (502 * u + d))) hs hrg h1 h2 h0 (B := 3006) (by decide) hV (k + 1) (by omega)
    have hmo := wTo_mono sd rg a (k := k) (j := fC a) (by omega)
    rw [wTo_all hs hrg h1 h2] at hmo
    have hz : dvS o sd rg (fun d => fd (502 * u + d)) r a (k + 1) = match nxN o r (fS (5 * a + k)) with
      | none => ((dvS o sd rg (fun d => fd (502 * u + d)) r a k).1, (dvS o sd rg (fun d => fd (502 * u + d)) r a k).2 + wtN sd rg (5 * a + k))
      | some d => if fS (5 * a + k) = 0 then ((dvS o sd rg (fun d => fd (502 * u + d)) r a k).1, (dvS o sd rg (fun d => fd (502 * u + d)) r a k).2 + wtN sd rg (5 * a + k)) else (FP.dadd (dvS o sd rg (fun d => fd (502 * u + d)) r a k).1 (FP.dmul (odW (wtN sd rg (5 * a + k))) (fd (502 * u + d))), (dvS o sd rg (fun d => fd (502 * u + d)) r a k).2) := rfl
    have ih := l_mDarts w h hn hO hN ho12 ho hF ed hu hs hrg hD h0 hr h1 h2 P hP g (k + 1) (by omega)
    cases hx : nxN o r (fS (5 * a + k)) with
    | none =>
      rw [hx] at hz
      rw [hz] at ih
      refine AX.iload (pc := 8) dX12_dartsValue_8 rfl ?_
      refine AX.aload_n (pc := 10) dX12_dartsValue_10 rfl ?_
      refine AX.getf (pc := 11) fX12_dartsValue_132 (lt_k hn (by omega)) eO rfl dX12_dartsValue_11 ?_
      refine AX.icmp_geN (pc := 14) (tgt := 100) dX12_dartsValue_14 (by decide) (by omega) (by omega) (fun q => absurd q (by omega)) (fun hc14 => ?_)
      refine AX.aload_n (pc := 17) dX12_dartsValue_17 rfl ?_
      refine AX.iload_n (pc := 18) dX12_dartsValue_18 rfl ?_
      refine AX.aload_n (pc := 19) dX12_dartsValue_19 rfl ?_
      refine AX.getf (pc := 20) fX12_dartsValue_19 (lt_k hn (by omega)) eO rfl dX12_dartsValue_20 ?_
      refine AX.iload (pc := 23) dX12_dartsValue_23 rfl ?_
      refine AX.ialdN (pc := 25) (i := k) (v := (nI (fS (5 * a + k)))) (lt_k hn (by omega)) e91 (by decide) (by omega) (q91 k (by omega)) dX12_dartsValue_25 ?_
      refine AX.callV (pc := 26) (M2 := M_X12_nextRest) (As := [.int (nI r), .int (nI (fS (5 * a + k)))]) (rest := []) (c_nextRest w h hn hO hN ho12 ho r (fS (5 * a + k)) (by omega) h63) xc_X12_dartsValue__X12_nextRest gX12_dartsValue_X12_nextRest (ci := 11) rfl (lt_k hn (by omega)) eO rfl (Nat.le_of_ble_eq_true rfl) dX12_dartsValue_26 ?_
      rintro _ h9 ⟨rfl, e9⟩
      have e9 := e9.symm
      subst e9
      rw [hx]
      show AX w M_X12_dartsValue 0 0 29 [.ref 87, .int (nI u), .int (nI r), .double ((dvS o sd rg (fun d => fd (502 * u + d)) r a k).1), .null, .int (nI ((dvS o sd rg (fun d => fd (502 * u + d)) r a k).2)), .int (nI k), .null, .null, .null] [.int (-5)] _ _
      refine AX.istore (pc := 29) (L' := [.ref 87, .int (nI u), .int (nI r), .double ((dvS o sd rg (fun d => fd (502 * u + d)) r a k).1), .null, .int (nI ((dvS o sd rg (fun d => fd (502 * u + d)) r a k).2)), .int (nI k), .int (-5), .null, .null]) dX12_dartsValue_29 (by decide) rfl ?_
      refine AX.iload (pc := 31) dX12_dartsValue_31 rfl ?_
      refine AX.if_lt (pc := 33) (tgt := 46) dX12_dartsValue_33 (by decide) (fun hc33 => ?_) (fun q => absurd (by decide) q)
      refine AX.iload (pc := 46) dX12_dartsValue_46 rfl ?_
      refine AX.aload_n (pc := 48) dX12_dartsValue_48 rfl ?_
      refine AX.getf (pc := 49) fX12_dartsValue_22 (lt_k hn (by omega)) eO rfl dX12_dartsValue_49 ?_
      refine AX.iload (pc := 52) dX12_dartsValue_52 rfl ?_
      refine AX.ialdN (pc := 54) (i := k) (v := (nI (wtN sd rg (5 * a + k)))) (lt_k hn (by omega)) e92 (by decide) (by omega) (q92 k (by omega)) dX12_dartsValue_54 ?_
      refine AX.iaddN (pc := 55) (c := (dvS o sd rg (fun d => fd (502 * u + d)) r a k).2 + (wtN sd rg (5 * a + k))) dX12_dartsValue_55 rfl ?_
      refine AX.istore (pc := 56) (L' := [.ref 87, .int (nI u), .int (nI r), .double ((dvS o sd rg (fun d => fd (502 * u + d)) r a k).1), .null, .int (nI ((dvS o sd rg (fun d => fd (502 * u + d)) r a k).2 + (wtN sd rg (5 * a + k)))), .int (nI k), .int (-5), .null, .null]) dX12_dartsValue_56 (by decide) rfl ?_
      refine AX.goto (pc := 58) (tgt := 94) dX12_dartsValue_58 (by decide) ?_
      refine AX.iincN (c := k + 1) (pc := 94) (L' := [.ref 87, .int (nI u), .int (nI r), .double ((dvS o sd rg (fun d => fd (502 * u + d)) r a k).1), .null, .int (nI ((dvS o sd rg (fun d => fd (502 * u + d)) r a k).2 + (wtN sd rg (5 * a + k)))), .int (nI (k + 1)), .int (-5), .null, .null]) dX12_dartsValue_94 rfl (inc1 _) (by decide) rfl ?_
      refine AX.goto (pc := 97) (tgt := 8) dX12_dartsValue_97 (by decide) ?_
      refine AX.sub (L' := [.ref 87, .int (nI u), .int (nI r), .double ((dvS o sd rg (fun d => fd (502 * u + d)) r a k).1), .null, .int (nI ((dvS o sd rg (fun d => fd (502 * u + d)) r a k).2 + (wtN sd rg (5 * a + k)))), .int (nI (k + 1)), .null, .null, .null]) ⟨Or.inr rfl, Or.inr rfl, Or.inr rfl, Or.inr rfl, Or.inl rfl, Or.inr rfl, Or.inr rfl, Or.inl rfl, Or.inl rfl, Or.inl rfl, trivial⟩ ?_
      exact ih
    | some d =>
      have hd := nxN_eq hx
      rw [hx] at hz
      by_cases hf0 : fS (5 * a + k) = 0
      · have hz : dvS o sd rg (fun d => fd (502 * u + d)) r a (k + 1) = ((dvS o sd rg (fun d => fd (502 * u + d)) r a k).1, (dvS o sd rg (fun d => fd (502 * u + d)) r a k).2 + wtN sd rg (5 * a + k)) := by rw [hz]; exact if_pos hf0
        rw [hz] at ih
        refine AX.iload (pc := 8) dX12_dartsValue_8 rfl ?_
        refine AX.aload_n (pc := 10) dX12_dartsValue_10 rfl ?_
        refine AX.getf (pc := 11) fX12_dartsValue_132 (lt_k hn (by omega)) eO rfl dX12_dartsValue_11 ?_
        refine AX.icmp_geN (pc := 14) (tgt := 100) dX12_dartsValue_14 (by decide) (by omega) (by omega) (fun q => absurd q (by omega)) (fun hc14 => ?_)
        refine AX.aload_n (pc := 17) dX12_dartsValue_17 rfl ?_
        refine AX.iload_n (pc := 18) dX12_dartsValue_18 rfl ?_
        refine AX.aload_n (pc := 19) dX12_dartsValue_19 rfl ?_
        refine AX.getf (pc := 20) fX12_dartsValue_19 (lt_k hn (by omega)) eO rfl dX12_dartsValue_20 ?_
        refine AX.iload (pc := 23) dX12_dartsValue_23 rfl ?_
        refine AX.ialdN (pc := 25) (i := k) (v := (nI (fS (5 * a + k)))) (lt_k hn (by omega)) e91 (by decide) (by omega) (q91 k (by omega)) dX12_dartsValue_25 ?_
        refine AX.callV (pc := 26) (M2 := M_X12_nextRest) (As := [.int (nI r), .int (nI (fS (5 * a + k)))]) (rest := []) (c_nextRest w h hn hO hN ho12 ho r (fS (5 * a + k)) (by omega) h63) xc_X12_dartsValue__X12_nextRest gX12_dartsValue_X12_nextRest (ci := 11) rfl (lt_k hn (by omega)) eO rfl (Nat.le_of_ble_eq_true rfl) dX12_dartsValue_26 ?_
        rintro _ h9 ⟨rfl, e9⟩
        have e9 := e9.symm
        subst e9
        rw [hx]
        show AX w M_X12_dartsValue 0 0 29 [.ref 87, .int (nI u), .int (nI r), .double ((dvS o sd rg (fun d => fd (502 * u + d)) r a k).1), .null, .int (nI ((dvS o sd rg (fun d => fd (502 * u + d)) r a k).2)), .int (nI k), .null, .null, .null] [.int (nI d)] _ _
        refine AX.istore (pc := 29) (L' := [.ref 87, .int (nI u), .int (nI r), .double ((dvS o sd rg (fun d => fd (502 * u + d)) r a k).1), .null, .int (nI ((dvS o sd rg (fun d => fd (502 * u + d)) r a k).2)), .int (nI k), .int (nI d), .null, .null]) dX12_dartsValue_29 (by decide) rfl ?_
        refine AX.iload (pc := 31) dX12_dartsValue_31 rfl ?_
        refine AX.if_ltN (pc := 33) (tgt := 46) dX12_dartsValue_33 (by decide) (by omega) (fun q => absurd q (by omega)) (fun hc33 => ?_)
        refine AX.aload_n (pc := 36) dX12_dartsValue_36 rfl ?_
        refine AX.getf (pc := 37) fX12_dartsValue_19 (lt_k hn (by omega)) eO rfl dX12_dartsValue_37 ?_
        refine AX.iload (pc := 40) dX12_dartsValue_40 rfl ?_
        refine AX.ialdN (pc := 42) (i := k) (v := (nI (fS (5 * a + k)))) (lt_k hn (by omega)) e91 (by decide) (by omega) (q91 k (by omega)) dX12_dartsValue_42 ?_
        refine AX.if_neN (pc := 43) (tgt := 61) dX12_dartsValue_43 (by decide) (by omega) (fun q => absurd q (by omega)) (fun hc43 => ?_)
        refine AX.iload (pc := 46) dX12_dartsValue_46 rfl ?_
        refine AX.aload_n (pc := 48) dX12_dartsValue_48 rfl ?_
        refine AX.getf (pc := 49) fX12_dartsValue_22 (lt_k hn (by omega)) eO rfl dX12_dartsValue_49 ?_
        refine AX.iload (pc := 52) dX12_dartsValue_52 rfl ?_
        refine AX.ialdN (pc := 54) (i := k) (v := (nI (wtN sd rg (5 * a + k)))) (lt_k hn (by omega)) e92 (by decide) (by omega) (q92 k (by omega)) dX12_dartsValue_54 ?_
        refine AX.iaddN (pc := 55) (c := (dvS o sd rg (fun d => fd (502 * u + d)) r a k).2 + (wtN sd rg (5 * a + k))) dX12_dartsValue_55 rfl ?_
        refine AX.istore (pc := 56) (L' := [.ref 87, .int (nI u), .int (nI r), .double ((dvS o sd rg (fun d => fd (502 * u + d)) r a k).1), .null, .int (nI ((dvS o sd rg (fun d => fd (502 * u + d)) r a k).2 + (wtN sd rg (5 * a + k)))), .int (nI k), .int (nI d), .null, .null]) dX12_dartsValue_56 (by decide) rfl ?_
        refine AX.goto (pc := 58) (tgt := 94) dX12_dartsValue_58 (by decide) ?_
        refine AX.iincN (c := k + 1) (pc := 94) (L' := [.ref 87, .int (nI u), .int (nI r), .double ((dvS o sd rg (fun d => fd (502 * u + d)) r a k).1), .null, .int (nI ((dvS o sd rg (fun d => fd (502 * u + d)) r a k).2 + (wtN sd rg (5 * a + k)))), .int (nI (k + 1)), .int (nI d), .null, .null]) dX12_dartsValue_94 rfl (inc1 _) (by decide) rfl ?_
        refine AX.goto (pc := 97) (tgt := 8) dX12_dartsValue_97 (by decide) ?_
        refine AX.sub (L' := [.ref 87, .int (nI u), .int (nI r), .double ((dvS o sd rg (fun d => fd (502 * u + d)) r a k).1), .null, .int (nI ((dvS o sd rg (fun d => fd (502 * u + d)) r a k).2 + (wtN sd rg (5 * a + k)))), .int (nI (k + 1)), .null, .null, .null]) ⟨Or.inr rfl, Or.inr rfl, Or.inr rfl, Or.inr rfl, Or.inl rfl, Or.inr rfl, Or.inr rfl, Or.inl rfl, Or.inl rfl, Or.inl rfl, trivial⟩ ?_
        exact ih
      · have hsc : 0 < scN (fS (5 * a + k)) := by
          have : ∀ s, s < 63 → s ≠ 0 → 0 < scN s := by decide
          exact this _ h63 hf0
        have hz : dvS o sd rg (fun d => fd (502 * u + d)) r a (k + 1) = (FP.dadd (dvS o sd rg (fun d => fd (502 * u + d)) r a k).1 (FP.dmul (odW (wtN sd rg (5 * a + k))) (fd (502 * u + d))), (dvS o sd rg (fun d => fd (502 * u + d)) r a k).2) := by rw [hz]; exact if_neg hf0
        rw [hz] at ih hS1
        obtain ⟨v1, v2, v3⟩ := hV d (by omega) (by unfold leN; split <;> omega)
        refine AX.iload (pc := 8) dX12_dartsValue_8 rfl ?_
        refine AX.aload_n (pc := 10) dX12_dartsValue_10 rfl ?_
        refine AX.getf (pc := 11) fX12_dartsValue_132 (lt_k hn (by omega)) eO rfl dX12_dartsValue_11 ?_
        refine AX.icmp_geN (pc := 14) (tgt := 100) dX12_dartsValue_14 (by decide) (by omega) (by omega) (fun q => absurd q (by omega)) (fun hc14 => ?_)
        refine AX.aload_n (pc := 17) dX12_dartsValue_17 rfl ?_
        refine AX.iload_n (pc := 18) dX12_dartsValue_18 rfl ?_
        refine AX.aload_n (pc := 19) dX12_dartsValue_19 rfl ?_
        refine AX.getf (pc := 20) fX12_dartsValue_19 (lt_k hn (by omega)) eO rfl dX12_dartsValue_20 ?_
        refine AX.iload (pc := 23) dX12_dartsValue_23 rfl ?_
        refine AX.ialdN (pc := 25) (i := k) (v := (nI (fS (5 * a + k)))) (lt_k hn (by omega)) e91 (by decide) (by omega) (q91 k (by omega)) dX12_dartsValue_25 ?_
        refine AX.callV (pc := 26) (M2 := M_X12_nextRest) (As := [.int (nI r), .int (nI (fS (5 * a + k)))]) (rest := []) (c_nextRest w h hn hO hN ho12 ho r (fS (5 * a + k)) (by omega) h63) xc_X12_dartsValue__X12_nextRest gX12_dartsValue_X12_nextRest (ci := 11) rfl (lt_k hn (by omega)) eO rfl (Nat.le_of_ble_eq_true rfl) dX12_dartsValue_26 ?_
        rintro _ h9 ⟨rfl, e9⟩
        have e9 := e9.symm
        subst e9
        rw [hx]
        show AX w M_X12_dartsValue 0 0 29 [.ref 87, .int (nI u), .int (nI r), .double ((dvS o sd rg (fun d => fd (502 * u + d)) r a k).1), .null, .int (nI ((dvS o sd rg (fun d => fd (502 * u + d)) r a k).2)), .int (nI k), .null, .null, .null] [.int (nI d)] _ _
        refine AX.istore (pc := 29) (L' := [.ref 87, .int (nI u), .int (nI r), .double ((dvS o sd rg (fun d => fd (502 * u + d)) r a k).1), .null, .int (nI ((dvS o sd rg (fun d => fd (502 * u + d)) r a k).2)), .int (nI k), .int (nI d), .null, .null]) dX12_dartsValue_29 (by decide) rfl ?_
        refine AX.iload (pc := 31) dX12_dartsValue_31 rfl ?_
        refine AX.if_ltN (pc := 33) (tgt := 46) dX12_dartsValue_33 (by decide) (by omega) (fun q => absurd q (by omega)) (fun hc33 => ?_)
        refine AX.aload_n (pc := 36) dX12_dartsValue_36 rfl ?_
        refine AX.getf (pc := 37) fX12_dartsValue_19 (lt_k hn (by omega)) eO rfl dX12_dartsValue_37 ?_
        refine AX.iload (pc := 40) dX12_dartsValue_40 rfl ?_
        refine AX.ialdN (pc := 42) (i := k) (v := (nI (fS (5 * a + k)))) (lt_k hn (by omega)) e91 (by decide) (by omega) (q91 k (by omega)) dX12_dartsValue_42 ?_
        refine AX.if_neN (pc := 43) (tgt := 61) dX12_dartsValue_43 (by decide) (by omega) (fun hc43 => ?_) (fun q => absurd q (by omega))
        refine AX.aload_n (pc := 61) dX12_dartsValue_61 rfl ?_
        refine AX.getf (pc := 62) fX12_dartsValue_22 (lt_k hn (by omega)) eO rfl dX12_dartsValue_62 ?_
        refine AX.iload (pc := 65) dX12_dartsValue_65 rfl ?_
        refine AX.ialdN (pc := 67) (i := k) (v := (nI (wtN sd rg (5 * a + k)))) (lt_k hn (by omega)) e92 (by decide) (by omega) (q92 k (by omega)) dX12_dartsValue_67 ?_
        refine AX.i2d (pc := 68) dX12_dartsValue_68 ?_
        refine AX.ldc2d (pc := 69) (v := 4652007308841189376) dX12_dartsValue_69 cX12_dartsValue_156 ?_
        refine AX.ddiv (pc := 72) dX12_dartsValue_72 (vfn (odW_zv hwt).1) ?_
        refine AX.topd (y := odW (wtN sd rg (5 * a + k))) rfl ?_
        refine AX.dstore (pc := 73) (L' := [.ref 87, .int (nI u), .int (nI r), .double ((dvS o sd rg (fun d => fd (502 * u + d)) r a k).1), .null, .int (nI ((dvS o sd rg (fun d => fd (502 * u + d)) r a k).2)), .int (nI k), .int (nI d), .double (odW (wtN sd rg (5 * a + k))), .null]) dX12_dartsValue_73 (by decide) rfl ?_
        refine AX.dload_n (pc := 75) dX12_dartsValue_75 rfl ?_
        refine AX.dload (pc := 76) dX12_dartsValue_76 rfl ?_
        refine AX.aload_n (pc := 78) dX12_dartsValue_78 rfl ?_
        refine AX.getf (pc := 79) fX12_dartsValue_25 (lt_k hn (by omega)) eO rfl dX12_dartsValue_79 ?_
        refine AX.sipush (pc := 82) (v := nI 502) dX12_dartsValue_82 (by decide) ?_
        refine AX.iload_n (pc := 85) dX12_dartsValue_85 rfl ?_
        refine AX.imulN (pc := 86) (c := 502 * u) dX12_dartsValue_86 rfl ?_
        refine AX.iload (pc := 87) dX12_dartsValue_87 rfl ?_
        refine AX.iaddN (pc := 89) (c := 502 * u + d) dX12_dartsValue_89 rfl ?_
        refine AX.daldN (pc := 90) (i := 502 * u + d) (v := (fd (502 * u + d))) (lt_k hn (by omega)) ed (by decide) (by omega) rfl dX12_dartsValue_90 ?_
        refine AX.dmul (pc := 91) dX12_dartsValue_91 (vfn (odd_mul hwt v1 (B := 3006) (by decide) v2 v3).1) ?_
        refine AX.dadd (pc := 92) dX12_dartsValue_92 (vfn hS1.1) ?_
        refine AX.dstore_n (pc := 93) (L' := [.ref 87, .int (nI u), .int (nI r), .double (FP.dadd ((dvS o sd rg (fun d => fd (502 * u + d)) r a k).1) (FP.dmul (odW (wtN sd rg (5 * a + k))) (fd (502 * u + d)))), .null, .int (nI ((dvS o sd rg (fun d => fd (502 * u + d)) r a k).2)), .int (nI k), .int (nI d), .double (odW (wtN sd rg (5 * a + k))), .null]) dX12_dartsValue_93 (by decide) rfl ?_
        refine AX.iincN (c := k + 1) (pc := 94) (L' := [.ref 87, .int (nI u), .int (nI r), .double (FP.dadd ((dvS o sd rg (fun d => fd (502 * u + d)) r a k).1) (FP.dmul (odW (wtN sd rg (5 * a + k))) (fd (502 * u + d)))), .null, .int (nI ((dvS o sd rg (fun d => fd (502 * u + d)) r a k).2)), .int (nI (k + 1)), .int (nI d), .double (odW (wtN sd rg (5 * a + k))), .null]) dX12_dartsValue_94 rfl (inc1 _) (by decide) rfl ?_
        refine AX.goto (pc := 97) (tgt := 8) dX12_dartsValue_97 (by decide) ?_
        refine AX.sub (L' := [.ref 87, .int (nI u), .int (nI r), .double (FP.dadd ((dvS o sd rg (fun d => fd (502 * u + d)) r a k).1) (FP.dmul (odW (wtN sd rg (5 * a + k))) (fd (502 * u + d)))), .null, .int (nI ((dvS o sd rg (fun d => fd (502 * u + d)) r a k).2)), .int (nI (k + 1)), .null, .null, .null]) ⟨Or.inr rfl, Or.inr rfl, Or.inr rfl, Or.inr rfl, Or.inl rfl, Or.inr rfl, Or.inr rfl, Or.inl rfl, Or.inl rfl, Or.inl rfl, trivial⟩ ?_
        exact ih
theorem c_dartsValue (w : XW) (h : XH) {v q : Nat → Int32} {fd : Nat → UInt64} {u o sd rg r a : Nat} (hn : 118 ≤ h.1) (hO : MO h (upd v 1 (nI (fC a)))) (hN : iA h 89 19 q) (ho12 : q 12 = nI o) (ho : o ≤ 2) (hF : FL h a sd rg) (ed : h.2 93 = .inl (2, 1004, .inr (.inr (.inr (.inl fd))))) (hu : u ≤ 1) (hs : sd ≤ 200) (hrg : rg ≤ 200) (hD : dOK o sd rg r (fun d => fd (502 * u + d))) (h0 : 0 < r) (hr : r ≤ 501) (h1 : 1 ≤ a) (h2 : a < 63) : CA w M_X12_dartsValue [.ref 87, .int (nI u), .int (nI r)] h (fun v' h'' => v' = some (.double ((dvV o sd rg (fun d => fd (502 * u + d)) r a).getD KM1)) ∧ h'' = h) := by
  refine CA.of (by decide) rfl (fun _ => Nat.le_of_ble_eq_true rfl) ?_
  obtain ⟨⟨f91, e91, q91⟩, ⟨f92, e92, q92⟩⟩ := id hF
  have eO : h.2 87 = .inr (11, [.ref 88, .ref 89, .ref 90, .int (v 0), .int (nI (fC a)), .ref 91, .ref 92, .ref 93, .ref 94, .ref 95, .ref 96, .ref 97, .ref 98, .ref 99, .ref 100, .ref 101, .int (v 2), .ref 102, .ref 103, .ref 104, .ref 105, .ref 106, .ref 107, .ref 108, .int (v 3), .ref 109, .int (v 4), .ref 110, .ref 111, .int (v 5), .ref 112, .int (v 6), .int (v 7), .int (v 8), .ref 113, .int (v 9), .ref 114, .ref 115, .ref 116, .ref 117]) := hO
  show AX w M_X12_dartsValue 0 0 0 [.ref 87, .int (nI u), .int (nI r), .null, .null, .null, .null, .null, .null, .null] [] h _
  refine AX.dconst1 (pc := 0) dX12_dartsValue_0 ?_
  refine AX.dstore_n (pc := 1) (L' := [.ref 87, .int (nI u), .int (nI r), .double FP.dconst1, .null, .null, .null, .null, .null, .null]) dX12_dartsValue_1 (by decide) rfl ?_
  refine AX.iconst (pc := 2) (v := nI 0) dX12_dartsValue_2 (by decide) ?_
  refine AX.istore (pc := 3) (L' := [.ref 87, .int (nI u), .int (nI r), .double FP.dconst1, .null, .int (nI 0), .null, .null, .null, .null]) dX12_dartsValue_3 (by decide) rfl ?_
  refine AX.iconst (pc := 5) (v := nI 0) dX12_dartsValue_5 (by decide) ?_
  refine AX.istore (pc := 6) (L' := [.ref 87, .int (nI u), .int (nI r), .double FP.dconst1, .null, .int (nI 0), .int (nI 0), .null, .null, .null]) dX12_dartsValue_6 (by decide) rfl ?_
  exact l_mDarts w h hn hO hN ho12 ho hF ed hu hs hrg hD h0 hr h1 h2 _ ⟨rfl, rfl⟩ (fC a) 0 (by omega)
