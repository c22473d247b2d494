/-! ===== THE REFERENCE: DARTS laid ===== -/
/-- cells 91, 92, 98, 99, 100 are rows of int -/
def FX (h : XH) : Prop := (∃ f : Nat → Int32, h.2 91 = .inl (0, 5, .inl f)) ∧ (∃ f : Nat → Int32, h.2 92 = .inl (0, 5, .inl f)) ∧ (∃ f : Nat → Int32, h.2 98 = .inl (0, 63, .inl f)) ∧ (∃ f : Nat → Int32, h.2 99 = .inl (0, 315, .inl f)) ∧ (∃ f : Nat → Int32, h.2 100 = .inl (0, 315, .inl f))
theorem FX.same {S : List Nat} {h h' : XH} (H : FX h) (hs : Same S h h') (h1 : 91 ∉ S) (h2 : 92 ∉ S) (h3 : 98 ∉ S) (h4 : 99 ∉ S) (h5 : 100 ∉ S) : FX h' :=
  ⟨H.1.imp fun _ e => hs.at h1 e, H.2.1.imp fun _ e => hs.at h2 e, H.2.2.1.imp fun _ e => hs.at h3 e, H.2.2.2.1.imp fun _ e => hs.at h4 e, H.2.2.2.2.imp fun _ e => hs.at h5 e⟩
theorem AL.fx {h : XH} {K sd rg a s2 r2 : Nat} (H : AL h K sd rg) (hF : FL h a s2 r2) : FX h := by
  obtain ⟨m, s, x, e1, e2, e3, -⟩ := H
  obtain ⟨⟨f, e4, -⟩, ⟨g, e5, -⟩⟩ := hF
  exact ⟨⟨_, e4⟩, ⟨_, e5⟩, ⟨_, e1⟩, ⟨_, e2⟩, ⟨_, e3⟩⟩
theorem FL.arr {h : XH} {a sd rg : Nat} (hF : FL h a sd rg) : ∃ f g : Nat → Int32, h.2 91 = .inl (0, 5, .inl f) ∧ h.2 92 = .inl (0, 5, .inl g) := by
  obtain ⟨⟨f, e4, -⟩, ⟨g, e5, -⟩⟩ := hF
  exact ⟨f, g, e4, e5⟩
theorem l_layAim (w : XW) (P : Option Value → XH → Prop) (h0 : XH) {v q fa : Nat → Int32} {fd : Nat → UInt64} {u o sd rg r : Nat} (hn0 : 118 ≤ h0.1) (hN0 : iA h0 89 19 q) (ho12 : q 12 = nI o) (ho : o ≤ 2) (hA0 : AL h0 63 sd rg) (ed0 : h0.2 93 = .inl (2, 1004, .inr (.inr (.inr (.inl fd))))) (ea0 : h0.2 94 = .inl (0, 1004, .inl fa)) (hu : u ≤ 1) (hs : sd ≤ 200) (hrg : rg ≤ 200) (hD : dOK o sd rg r (fun d => fd (502 * u + d))) (hr0 : 0 < r) (hr : r ≤ 501) (hne : (dsel (dvV o sd rg (fun d => fd (502 * u + d)) r) 62).1 ≠ 0) (hP : ∀ (h' : XH) (x : Int32) (f fw : Nat → Int32), Same [87, 91, 92, 93, 94] h0 h' → MO h' (upd v 1 x) → h'.2 91 = .inl (0, 5, .inl f) → h'.2 92 = .inl (0, 5, .inl fw) → h'.2 93 = .inl (2, 1004, .inr (.inr (.inr (.inl (vf_upd fd (502 * u + r) (dsel (dvV o sd rg (fun d => fd (502 * u + d)) r) 62).2))))) → h'.2 94 = .inl (0, 1004, .inl (upd fa (502 * u + r) (nI (dsel (dvV o sd rg (fun d => fd (502 * u + d)) r) 62).1))) → AX w M_X12_layDarts 0 0 153 [.ref 87, .int (nI u), .int (nI r), .null, .null, .null, .null, .null, .null, .null] [] h' P) : ∀ (g k : Nat) (h : XH) (x : Int32) (f fw : Nat → Int32), k + g = 62 → MO h (upd v 1 x) → h.2 91 = .inl (0, 5, .inl f) → h.2 92 = .inl (0, 5, .inl fw) → Same [87, 91, 92] h0 h → AX w M_X12_layDarts 0 0 47 [.ref 87, .int (nI u), .int (nI r), .double (bst (dvV o sd rg (fun d => fd (502 * u + d)) r) k), .null, .int (nI ((dsel (dvV o sd rg (fun d => fd (502 * u + d)) r) k).1)), .int (nI (k + 1)), .null, .null, .null] [] h P
  | 0, k, h, x, f, fw, hg, hO, e91, e92, hS => by
    have e : k = 62 := by omega
    subst e
    have hn := hS.le hn0
    have ed := hS.at (k := 93) (by simp) ed0
    have ea := hS.at (k := 94) (by simp) ea0
    rw [bst_0 hne]
    refine AX.iload (pc := 47) dX12_layDarts_47 rfl ?_
    refine AX.bipush (pc := 49) (v := nI 62) dX12_layDarts_49 (by decide) ?_
    refine AX.icmp_gtN (pc := 51) (tgt := 126) dX12_layDarts_51 (by decide) (by decide) (by decide) (fun hc51 => ?_) (fun q => absurd q (by decide))
    refine AX.aload_n (pc := 126) dX12_layDarts_126 rfl ?_
    refine AX.getf (pc := 127) fX12_layDarts_25 (lt_k hn (by omega)) hO rfl dX12_layDarts_127 ?_
    refine AX.sipush (pc := 130) (v := nI 502) dX12_layDarts_130 (by decide) ?_
    refine AX.iload_n (pc := 133) dX12_layDarts_133 rfl ?_
    refine AX.imulN (pc := 134) (c := 502 * u) dX12_layDarts_134 rfl ?_
    refine AX.iload_n (pc := 135) dX12_layDarts_135 rfl ?_
    refine AX.iaddN (pc := 136) (c := 502 * u + r) dX12_layDarts_136 rfl ?_
    refine AX.dload_n (pc := 137) dX12_layDarts_137 rfl ?_
    refine AX.dastN (pc := 138) (i := 502 * u + r) (g := vf_upd fd (502 * u + r) ((dsel (dvV o sd rg (fun d => fd (502 * u + d)) r) 62).2)) (lt_k hn (by omega)) ed (by decide) (by omega) rfl dX12_layDarts_138 ?_
    refine AX.aload_n (pc := 139) dX12_layDarts_139 rfl ?_
    refine AX.getf (pc := 140) fX12_layDarts_29 (lt_k hn (by omega)) ((xset_ne (by decide)).trans hO) rfl dX12_layDarts_140 ?_
    refine AX.sipush (pc := 143) (v := nI 502) dX12_layDarts_143 (by decide) ?_
    refine AX.iload_n (pc := 146) dX12_layDarts_146 rfl ?_
    refine AX.imulN (pc := 147) (c := 502 * u) dX12_layDarts_147 rfl ?_
    refine AX.iload_n (pc := 148) dX12_layDarts_148 rfl ?_
    refine AX.iaddN (pc := 149) (c := 502 * u + r) dX12_layDarts_149 rfl ?_
    refine AX.iload (pc := 150) dX12_layDarts_150 rfl ?_
    refine AX.iastN (pc := 152) (i := 502 * u + r) (g := upd fa (502 * u + r) (nI ((dsel (dvV o sd rg (fun d => fd (502 * u + d)) r) 62).1))) (lt_k hn (by omega)) ((xset_ne (by decide)).trans ea) (by decide) (by omega) rfl dX12_layDarts_152 ?_
    refine AX.sub (L' := [.ref 87, .int (nI u), .int (nI r), .null, .null, .null, .null, .null, .null, .null]) ⟨Or.inr rfl, Or.inr rfl, Or.inr rfl, Or.inl rfl, Or.inl rfl, Or.inl rfl, Or.inl rfl, Or.inl rfl, Or.inl rfl, Or.inl rfl, trivial⟩ ?_
    have sx : Same [93, 94] h (xset (xset h 93 (.inl (2, 1004, .inr (.inr (.inr (.inl (vf_upd fd (502 * u + r) ((dsel (dvV o sd rg (fun d => fd (502 * u + d)) r) 62).2)))))))) 94 (.inl (0, 1004, .inl (upd fa (502 * u + r) (nI ((dsel (dvV o sd rg (fun d => fd (502 * u + d)) r) 62).1)))))) := Same.set (Same.set Same.rf (by simp)) (by simp)
    exact hP _ x f fw ((hS.wide (by decide)).trans (sx.wide (by decide))) (hO.same sx (by simp)) (sx.at (by simp) e91) (sx.at (by simp) e92) ((xset_ne (by decide)).trans (xset_same _ _ _)) (xset_same _ _ _)
  | g + 1, k, h, x, f, fw, hg, hO, e91, e92, hS => by
    have hn := hS.le hn0
    have hV := hD.val ho hs hrg (by omega)
    have hbest : (dsel (dvV o sd rg (fun d => fd (502 * u + d)) r) k).1 ≤ k := (dsel_ok (V := (dvV o sd rg (fun d => fd (502 * u + d)) r)) (fun a v a1 a2 a3 => (dvV_ok hs hrg a1 a2 hr0 (B := 3006) (by decide) hV a3).1) k (by omega)).1
    have hz : dsel (dvV o sd rg (fun d => fd (502 * u + d)) r) (k + 1) = match (dvV o sd rg (fun d => fd (502 * u + d)) r) (k + 1) with
      | none => dsel (dvV o sd rg (fun d => fd (502 * u + d)) r) k
      | some v => if (dsel (dvV o sd rg (fun d => fd (502 * u + d)) r) k).1 = 0 ∨ dlt v (dsel (dvV o sd rg (fun d => fd (502 * u + d)) r) k).2 = true then (k + 1, v) else dsel (dvV o sd rg (fun d => fd (502 * u + d)) r) k := rfl
    cases hv : (dvV o sd rg (fun d => fd (502 * u + d)) r) (k + 1) with
    | none =>
      refine AX.iload (pc := 47) dX12_layDarts_47 rfl ?_
      refine AX.bipush (pc := 49) (v := nI 62) dX12_layDarts_49 (by decide) ?_
      refine AX.icmp_gtN (pc := 51) (tgt := 126) dX12_layDarts_51 (by decide) (by omega) (by decide) (fun q => absurd q (by omega)) (fun hc51 => ?_)
      refine AX.aload_n (pc := 54) dX12_layDarts_54 rfl ?_
      refine AX.iload (pc := 55) dX12_layDarts_55 rfl ?_
      refine AX.callV (pc := 57) (M2 := M_X12_takeFalls) (As := [.int (nI (k + 1))]) (rest := []) (c_takeFalls w h hn hO e91 e92 (hA0.same hS (by simp) (by simp) (by simp)) (show 1 ≤ k + 1 by omega) (show k + 1 ≤ 62 by omega)) xc_X12_layDarts__X12_takeFalls gX12_layDarts_X12_takeFalls (ci := 11) rfl (lt_k hn (by omega)) hO rfl (Nat.le_of_ble_eq_true rfl) dX12_layDarts_57 ?_
      rintro _ h1 ⟨rfl, s1, F1, O1⟩
      rw [upd_upd] at O1
      obtain ⟨f1, fw1, e91b, e92b⟩ := F1.arr
      have ih := l_layAim w P h0 hn0 hN0 ho12 ho hA0 ed0 ea0 hu hs hrg hD hr0 hr hne hP g (k + 1) h1 _ f1 fw1 (by omega) O1 e91b e92b (hS.trans s1)
      show AX w M_X12_layDarts 0 0 60 [.ref 87, .int (nI u), .int (nI r), .double (bst (dvV o sd rg (fun d => fd (502 * u + d)) r) k), .null, .int (nI ((dsel (dvV o sd rg (fun d => fd (502 * u + d)) r) k).1)), .int (nI (k + 1)), .null, .null, .null] [] _ _
      refine AX.aload_n (pc := 60) dX12_layDarts_60 rfl ?_
      refine AX.iload_n (pc := 61) dX12_layDarts_61 rfl ?_
      refine AX.iload_n (pc := 62) dX12_layDarts_62 rfl ?_
      refine AX.callV (pc := 63) (M2 := M_X12_dartsValue) (As := [.int (nI u), .int (nI r)]) (rest := []) (c_dartsValue w h1 (s1.le hn) O1 (hN0.same (hS.trans s1) (by simp)) ho12 ho F1 ((hS.trans s1).at (by simp) ed0) hu hs hrg hD hr0 hr (show 1 ≤ k + 1 by omega) (show k + 1 < 63 by omega)) xc_X12_layDarts__X12_dartsValue gX12_layDarts_X12_dartsValue (ci := 11) rfl (lt_k (s1.le hn) (by omega)) O1 rfl (Nat.le_of_ble_eq_true rfl) dX12_layDarts_63 ?_
      rintro _ h9 ⟨rfl, e9⟩
      have e9 := e9.symm
      subst e9
      show AX w M_X12_layDarts 0 0 66 [.ref 87, .int (nI u), .int (nI r), .double (bst (dvV o sd rg (fun d => fd (502 * u + d)) r) k), .null, .int (nI ((dsel (dvV o sd rg (fun d => fd (502 * u + d)) r) k).1)), .int (nI (k + 1)), .null, .null, .null] [.double (((dvV o sd rg (fun d => fd (502 * u + d)) r) (k + 1)).getD KM1)] _ _
      refine AX.topd (y := KM1) (by rw [hv]; rfl) ?_
      refine AX.dstore (pc := 66) (L' := [.ref 87, .int (nI u), .int (nI r), .double (bst (dvV o sd rg (fun d => fd (502 * u + d)) r) k), .null, .int (nI ((dsel (dvV o sd rg (fun d => fd (502 * u + d)) r) k).1)), .int (nI (k + 1)), .double KM1, .null, .null]) dX12_layDarts_66 (by decide) rfl ?_
      refine AX.dload (pc := 68) dX12_layDarts_68 rfl ?_
      refine AX.dconst0 (pc := 70) dX12_layDarts_70 ?_
      refine AX.dcmp (pc := 71) dX12_layDarts_71 ?_
      refine AX.if_lt (pc := 72) (tgt := 91) dX12_layDarts_72 (by decide) (fun hc72 => ?_) (fun q => absurd (cmpl_lt km1_lt) q)
      refine AX.iconst (pc := 91) (v := nI 0) dX12_layDarts_91 (by decide) ?_
      refine AX.istore (pc := 92) (L' := [.ref 87, .int (nI u), .int (nI r), .double (bst (dvV o sd rg (fun d => fd (502 * u + d)) r) k), .null, .int (nI ((dsel (dvV o sd rg (fun d => fd (502 * u + d)) r) k).1)), .int (nI (k + 1)), .double KM1, .null, .int (nI 0)]) dX12_layDarts_92 (by decide) rfl ?_
      refine AX.iload (pc := 94) dX12_layDarts_94 rfl ?_
      refine AX.if_eqN (pc := 96) (tgt := 104) dX12_layDarts_96 (by decide) (by decide) (fun hc96 => ?_) (fun q => absurd q (by decide))
      refine AX.dload_n (pc := 104) dX12_layDarts_104 rfl ?_
      refine AX.dstore_n (pc := 105) (L' := [.ref 87, .int (nI u), .int (nI r), .double (bst (dvV o sd rg (fun d => fd (502 * u + d)) r) k), .null, .int (nI ((dsel (dvV o sd rg (fun d => fd (502 * u + d)) r) k).1)), .int (nI (k + 1)), .double KM1, .null, .int (nI 0)]) dX12_layDarts_105 (by decide) rfl ?_
      refine AX.iload (pc := 106) dX12_layDarts_106 rfl ?_
      refine AX.if_eqN (pc := 108) (tgt := 116) dX12_layDarts_108 (by decide) (by decide) (fun hc108 => ?_) (fun q => absurd q (by decide))
      refine AX.iload (pc := 116) dX12_layDarts_116 rfl ?_
      refine AX.istore (pc := 118) (L' := [.ref 87, .int (nI u), .int (nI r), .double (bst (dvV o sd rg (fun d => fd (502 * u + d)) r) k), .null, .int (nI ((dsel (dvV o sd rg (fun d => fd (502 * u + d)) r) k).1)), .int (nI (k + 1)), .double KM1, .null, .int (nI 0)]) dX12_layDarts_118 (by decide) rfl ?_
      refine AX.iincN (c := k + 2) (pc := 120) (L' := [.ref 87, .int (nI u), .int (nI r), .double (bst (dvV o sd rg (fun d => fd (502 * u + d)) r) k), .null, .int (nI ((dsel (dvV o sd rg (fun d => fd (502 * u + d)) r) k).1)), .int (nI (k + 2)), .double KM1, .null, .int (nI 0)]) dX12_layDarts_120 rfl (inc1 _) (by decide) rfl ?_
      refine AX.goto (pc := 123) (tgt := 47) dX12_layDarts_123 (by decide) ?_
      have hz : dsel (dvV o sd rg (fun d => fd (502 * u + d)) r) (k + 1) = dsel (dvV o sd rg (fun d => fd (502 * u + d)) r) k := by rw [hz, hv]
      have hb : bst (dvV o sd rg (fun d => fd (502 * u + d)) r) (k + 1) = bst (dvV o sd rg (fun d => fd (502 * u + d)) r) k := by unfold bst; rw [hz]
      rw [hb, hz] at ih
      refine AX.sub (L' := [.ref 87, .int (nI u), .int (nI r), .double (bst (dvV o sd rg (fun d => fd (502 * u + d)) r) k), .null, .int (nI ((dsel (dvV o sd rg (fun d => fd (502 * u + d)) r) k).1)), .int (nI (k + 1 + 1)), .null, .null, .null]) ⟨Or.inr rfl, Or.inr rfl, Or.inr rfl, Or.inr rfl, Or.inl rfl, Or.inr rfl, Or.inr rfl, Or.inl rfl, Or.inl rfl, Or.inl rfl, trivial⟩ ?_
      exact ih
    | some v2 =>
      have kv := dvV_ok hs hrg (by omega) (by omega) hr0 (B := 3006) (by decide) hV hv
      have hpos : FP.dcmp v2 FP.dconst0 = some .gt := by
        have h1 := (dgt_zv kv.1 dconst0_zv.1).mpr (by rw [dconst0_zv.2]; have := kv.2.1; have := one_posI; generalize (FP.Core.one64 : Int) = O at *; omega)
        unfold dgt at h1
        exact of_decide_eq_true h1
      refine AX.iload (pc := 47) dX12_layDarts_47 rfl ?_
      refine AX.bipush (pc := 49) (v := nI 62) dX12_layDarts_49 (by decide) ?_
      refine AX.icmp_gtN (pc := 51) (tgt := 126) dX12_layDarts_51 (by decide) (by omega) (by decide) (fun q => absurd q (by omega)) (fun hc51 => ?_)
      refine AX.aload_n (pc := 54) dX12_layDarts_54 rfl ?_
      refine AX.iload (pc := 55) dX12_layDarts_55 rfl ?_
      refine AX.callV (pc := 57) (M2 := M_X12_takeFalls) (As := [.int (nI (k + 1))]) (rest := []) (c_takeFalls w h hn hO e91 e92 (hA0.same hS (by simp) (by simp) (by simp)) (show 1 ≤ k + 1 by omega) (show k + 1 ≤ 62 by omega)) xc_X12_layDarts__X12_takeFalls gX12_layDarts_X12_takeFalls (ci := 11) rfl (lt_k hn (by omega)) hO rfl (Nat.le_of_ble_eq_true rfl) dX12_layDarts_57 ?_
      rintro _ h1 ⟨rfl, s1, F1, O1⟩
      rw [upd_upd] at O1
      obtain ⟨f1, fw1, e91b, e92b⟩ := F1.arr
      have ih := l_layAim w P h0 hn0 hN0 ho12 ho hA0 ed0 ea0 hu hs hrg hD hr0 hr hne hP g (k + 1) h1 _ f1 fw1 (by omega) O1 e91b e92b (hS.trans s1)
      show AX w M_X12_layDarts 0 0 60 [.ref 87, .int (nI u), .int (nI r), .double (bst (dvV o sd rg (fun d => fd (502 * u + d)) r) k), .null, .int (nI ((dsel (dvV o sd rg (fun d => fd (502 * u + d)) r) k).1)), .int (nI (k + 1)), .null, .null, .null] [] _ _
      refine AX.aload_n (pc := 60) dX12_layDarts_60 rfl ?_
      refine AX.iload_n (pc := 61) dX12_layDarts_61 rfl ?_
      refine AX.iload_n (pc := 62) dX12_layDarts_62 rfl ?_
      refine AX.callV (pc := 63) (M2 := M_X12_dartsValue) (As := [.int (nI u), .int (nI r)]) (rest := []) (c_dartsValue w h1 (s1.le hn) O1 (hN0.same (hS.trans s1) (by simp)) ho12 ho F1 ((hS.trans s1).at (by simp) ed0) hu hs hrg hD hr0 hr (show 1 ≤ k + 1 by omega) (show k + 1 < 63 by omega)) xc_X12_layDarts__X12_dartsValue gX12_layDarts_X12_dartsValue (ci := 11) rfl (lt_k (s1.le hn) (by omega)) O1 rfl (Nat.le_of_ble_eq_true rfl) dX12_layDarts_63 ?_
      rintro _ h9 ⟨rfl, e9⟩
      have e9 := e9.symm
      subst e9
      show AX w M_X12_layDarts 0 0 66 [.ref 87, .int (nI u), .int (nI r), .double (bst (dvV o sd rg (fun d => fd (502 * u + d)) r) k), .null, .int (nI ((dsel (dvV o sd rg (fun d => fd (502 * u + d)) r) k).1)), .int (nI (k + 1)), .null, .null, .null] [.double (((dvV o sd rg (fun d => fd (502 * u + d)) r) (k + 1)).getD KM1)] _ _
      refine AX.topd (y := v2) (by rw [hv]; rfl) ?_
      refine AX.dstore (pc := 66) (L' := [.ref 87, .int (nI u), .int (nI r), .double (bst (dvV o sd rg (fun d => fd (502 * u + d)) r) k), .null, .int (nI ((dsel (dvV o sd rg (fun d => fd (502 * u + d)) r) k).1)), .int (nI (k + 1)), .double v2, .null, .null]) dX12_layDarts_66 (by decide) rfl ?_
      refine AX.dload (pc := 68) dX12_layDarts_68 rfl ?_
      refine AX.dconst0 (pc := 70) dX12_layDarts_70 ?_
      refine AX.dcmp (pc := 71) dX12_layDarts_71 ?_
      refine AX.if_lt (pc := 72) (tgt := 91) dX12_layDarts_72 (by decide) (fun q => absurd q (cmpl_nlt hpos)) (fun hc72 => ?_)
      refine AX.iload (pc := 75) dX12_layDarts_75 rfl ?_
      refine AX.if_eqN (pc := 77) (tgt := 87) dX12_layDarts_77 (by decide) (by omega) (fun hc77 => ?_) (fun hc77 => ?_)
      · refine AX.iconst (pc := 87) (v := nI 1) dX12_layDarts_87 (by decide) ?_
        refine AX.goto (pc := 88) (tgt := 92) dX12_layDarts_88 (by decide) ?_
        refine AX.istore (pc := 92) (L' := [.ref 87, .int (nI u), .int (nI r), .double (bst (dvV o sd rg (fun d => fd (502 * u + d)) r) k), .null, .int (nI ((dsel (dvV o sd rg (fun d => fd (502 * u + d)) r) k).1)), .int (nI (k + 1)), .double v2, .null, .int (nI 1)]) dX12_layDarts_92 (by decide) rfl ?_
        refine AX.iload (pc := 94) dX12_layDarts_94 rfl ?_
        refine AX.if_eqN (pc := 96) (tgt := 104) dX12_layDarts_96 (by decide) (by decide) (fun q => absurd q (by decide)) (fun hc96 => ?_)
        refine AX.dload (pc := 99) dX12_layDarts_99 rfl ?_
        refine AX.goto (pc := 101) (tgt := 105) dX12_layDarts_101 (by decide) ?_
        refine AX.dstore_n (pc := 105) (L' := [.ref 87, .int (nI u), .int (nI r), .double v2, .null, .int (nI ((dsel (dvV o sd rg (fun d => fd (502 * u + d)) r) k).1)), .int (nI (k + 1)), .double v2, .null, .int (nI 1)]) dX12_layDarts_105 (by decide) rfl ?_
        refine AX.iload (pc := 106) dX12_layDarts_106 rfl ?_
        refine AX.if_eqN (pc := 108) (tgt := 116) dX12_layDarts_108 (by decide) (by decide) (fun q => absurd q (by decide)) (fun hc108 => ?_)
        refine AX.iload (pc := 111) dX12_layDarts_111 rfl ?_
        refine AX.goto (pc := 113) (tgt := 118) dX12_layDarts_113 (by decide) ?_
        refine AX.istore (pc := 118) (L' := [.ref 87, .int (nI u), .int (nI r), .double v2, .null, .int (nI (k + 1)), .int (nI (k + 1)), .double v2, .null, .int (nI 1)]) dX12_layDarts_118 (by decide) rfl ?_
        refine AX.iincN (c := k + 2) (pc := 120) (L' := [.ref 87, .int (nI u), .int (nI r), .double v2, .null, .int (nI (k + 1)), .int (nI (k + 2)), .double v2, .null, .int (nI 1)]) dX12_layDarts_120 rfl (inc1 _) (by decide) rfl ?_
        refine AX.goto (pc := 123) (tgt := 47) dX12_layDarts_123 (by decide) ?_
        have hz : dsel (dvV o sd rg (fun d => fd (502 * u + d)) r) (k + 1) = (k + 1, v2) := by rw [hz, hv]; exact if_pos (by first | exact Or.inl hc77 | (right; rw [bst_0 hc77] at hc84; exact decide_eq_true (cmpg_lt hc84)))
        have hb : bst (dvV o sd rg (fun d => fd (502 * u + d)) r) (k + 1) = v2 := by unfold bst; rw [hz]; exact if_neg (Nat.succ_ne_zero k)
        rw [hb, hz] at ih
        refine AX.sub (L' := [.ref 87, .int (nI u), .int (nI r), .double v2, .null, .int (nI (k + 1)), .int (nI (k + 1 + 1)), .null, .null, .null]) ⟨Or.inr rfl, Or.inr rfl, Or.inr rfl, Or.inr rfl, Or.inl rfl, Or.inr rfl, Or.inr rfl, Or.inl rfl, Or.inl rfl, Or.inl rfl, trivial⟩ ?_
        exact ih
      · refine AX.dload (pc := 80) dX12_layDarts_80 rfl ?_
        refine AX.dload_n (pc := 82) dX12_layDarts_82 rfl ?_
        refine AX.dcmp (pc := 83) dX12_layDarts_83 ?_
        refine AX.if_ge (pc := 84) (tgt := 91) dX12_layDarts_84 (by decide) (fun hc84 => ?_) (fun hc84 => ?_)
        · refine AX.iconst (pc := 91) (v := nI 0) dX12_layDarts_91 (by decide) ?_
          refine AX.istore (pc := 92) (L' := [.ref 87, .int (nI u), .int (nI r), .double (bst (dvV o sd rg (fun d => fd (502 * u + d)) r) k), .null, .int (nI ((dsel (dvV o sd rg (fun d => fd (502 * u + d)) r) k).1)), .int (nI (k + 1)), .double v2, .null, .int (nI 0)]) dX12_layDarts_92 (by decide) rfl ?_
          refine AX.iload (pc := 94) dX12_layDarts_94 rfl ?_
          refine AX.if_eqN (pc := 96) (tgt := 104) dX12_layDarts_96 (by decide) (by decide) (fun hc96 => ?_) (fun q => absurd q (by decide))
          refine AX.dload_n (pc := 104) dX12_layDarts_104 rfl ?_
          refine AX.dstore_n (pc := 105) (L' := [.ref 87, .int (nI u), .int (nI r), .double (bst (dvV o sd rg (fun d => fd (502 * u + d)) r) k), .null, .int (nI ((dsel (dvV o sd rg (fun d => fd (502 * u + d)) r) k).1)), .int (nI (k + 1)), .double v2, .null, .int (nI 0)]) dX12_layDarts_105 (by decide) rfl ?_
          refine AX.iload (pc := 106) dX12_layDarts_106 rfl ?_
          refine AX.if_eqN (pc := 108) (tgt := 116) dX12_layDarts_108 (by decide) (by decide) (fun hc108 => ?_) (fun q => absurd q (by decide))
          refine AX.iload (pc := 116) dX12_layDarts_116 rfl ?_
          refine AX.istore (pc := 118) (L' := [.ref 87, .int (nI u), .int (nI r), .double (bst (dvV o sd rg (fun d => fd (502 * u + d)) r) k), .null, .int (nI ((dsel (dvV o sd rg (fun d => fd (502 * u + d)) r) k).1)), .int (nI (k + 1)), .double v2, .null, .int (nI 0)]) dX12_layDarts_118 (by decide) rfl ?_
          refine AX.iincN (c := k + 2) (pc := 120) (L' := [.ref 87, .int (nI u), .int (nI r), .double (bst (dvV o sd rg (fun d => fd (502 * u + d)) r) k), .null, .int (nI ((dsel (dvV o sd rg (fun d => fd (502 * u + d)) r) k).1)), .int (nI (k + 2)), .double v2, .null, .int (nI 0)]) dX12_layDarts_120 rfl (inc1 _) (by decide) rfl ?_
          refine AX.goto (pc := 123) (tgt := 47) dX12_layDarts_123 (by decide) ?_
          rw [bst_0 hc77] at hc84
          have hz : dsel (dvV o sd rg (fun d => fd (502 * u + d)) r) (k + 1) = dsel (dvV o sd rg (fun d => fd (502 * u + d)) r) k := by rw [hz, hv]; exact if_neg (by rintro (q | q); exact hc77 q; exact cmpg_ge hc84 (of_decide_eq_true q))
          have hb : bst (dvV o sd rg (fun d => fd (502 * u + d)) r) (k + 1) = bst (dvV o sd rg (fun d => fd (502 * u + d)) r) k := by unfold bst; rw [hz]
          rw [hb, hz] at ih
          refine AX.sub (L' := [.ref 87, .int (nI u), .int (nI r), .double (bst (dvV o sd rg (fun d => fd (502 * u + d)) r) k), .null, .int (nI ((dsel (dvV o sd rg (fun d => fd (502 * u + d)) r) k).1)), .int (nI (k + 1 + 1)), .null, .null, .null]) ⟨Or.inr rfl, Or.inr rfl, Or.inr rfl, Or.inr rfl, Or.inl rfl, Or.inr rfl, Or.inr rfl, Or.inl rfl, Or.inl rfl, Or.inl rfl, trivial⟩ ?_
          exact ih
        · refine AX.iconst (pc := 87) (v := nI 1) dX12_layDarts_87 (by decide) ?_
          refine AX.goto (pc := 88) (tgt := 92) dX12_layDarts_88 (by decide) ?_
          refine AX.istore (pc := 92) (L' := [.ref 87, .int (nI u), .int (nI r), .double (bst (dvV o sd rg (fun d => fd (502 * u + d)) r) k), .null, .int (nI ((dsel (dvV o sd rg (fun d => fd (502 * u + d)) r) k).1)), .int (nI (k + 1)), .double v2, .null, .int (nI 1)]) dX12_layDarts_92 (by decide) rfl ?_
          refine AX.iload (pc := 94) dX12_layDarts_94 rfl ?_
          refine AX.if_eqN (pc := 96) (tgt := 104) dX12_layDarts_96 (by decide) (by decide) (fun q => absurd q (by decide)) (fun hc96 => ?_)
          refine AX.dload (pc := 99) dX12_layDarts_99 rfl ?_
          refine AX.goto (pc := 101) (tgt := 105) dX12_layDarts_101 (by decide) ?_
          refine AX.dstore_n (pc := 105) (L' := [.ref 87, .int (nI u), .int (nI r), .double v2, .null, .int (nI ((dsel (dvV o sd rg (fun d => fd (502 * u + d)) r) k).1)), .int (nI (k + 1)), .double v2, .null, .int (nI 1)]) dX12_layDarts_105 (by decide) rfl ?_
          refine AX.iload (pc := 106) dX12_layDarts_106 rfl ?_
          refine AX.if_eqN (pc := 108) (tgt := 116) dX12_layDarts_108 (by decide) (by decide) (fun q => absurd q (by decide)) (fun hc108 => ?_)
          refine AX.iload (pc := 111) dX12_layDarts_111 rfl ?_
          refine AX.goto (pc := 113) (tgt := 118) dX12_layDarts_113 (by decide) ?_
          refine AX.istore (pc := 118) (L' := [.ref 87, .int (nI u), .int (nI r), .double v2, .null, .int (nI (k + 1)), .int (nI (k + 1)), .double v2, .null, .int (nI 1)]) dX12_layDarts_118 (by decide) rfl ?_
          refine AX.iincN (c := k + 2) (pc := 120) (L' := [.ref 87, .int (nI u), .int (nI r), .double v2, .null, .int (nI (k + 1)), .int (nI (k + 2)), .double v2, .null, .int (nI 1)]) dX12_layDarts_120 rfl (inc1 _) (by decide) rfl ?_
          refine AX.goto (pc := 123) (tgt := 47) dX12_layDarts_123 (by decide) ?_
          have hz : dsel (dvV o sd rg (fun d => fd (502 * u + d)) r) (k + 1) = (k + 1, v2) := by rw [hz, hv]; exact if_pos (by first | exact Or.inl hc77 | (right; rw [bst_0 hc77] at hc84; exact decide_eq_true (cmpg_lt hc84)))
          have hb : bst (dvV o sd rg (fun d => fd (502 * u + d)) r) (k + 1) = v2 := by unfold bst; rw [hz]; exact if_neg (Nat.succ_ne_zero k)
          rw [hb, hz] at ih
          refine AX.sub (L' := [.ref 87, .int (nI u), .int (nI r), .double v2, .null, .int (nI (k + 1)), .int (nI (k + 1 + 1)), .null, .null, .null]) ⟨Or.inr rfl, Or.inr rfl, Or.inr rfl, Or.inr rfl, Or.inl rfl, Or.inr rfl, Or.inr rfl, Or.inl rfl, Or.inl rfl, Or.inl rfl, trivial⟩ ?_
          exact ih
theorem dsel_dT {o sd rg r : Nat} {D : Nat → UInt64} (hl : leN o ≤ r) (hD : dOK o sd rg r D) : dsel (dvV o sd rg D r) 62 = dT o sd rg r r := by
  have := leN_pos o
  rw [dT_at hl]
  exact dsel_congr _ (fun a h1 h2 => dvV_congr (fun d h3 h4 => hD d h3 h4) (by omega) (by omega))
/-- a table right below r -/
def dpar (fd : Nat → UInt64) (fa : Nat → Int32) (u o sd rg r : Nat) : Prop := fd (502 * u) = FP.dconst0 ∧ ∀ d, leN o ≤ d → d < r → fd (502 * u + d) = dD o sd rg d ∧ fa (502 * u + d) = nI (dA_ o sd rg d)
theorem dpar.ok {fd : Nat → UInt64} {fa : Nat → Int32} {u o sd rg r : Nat} (H : dpar fd fa u o sd rg r) : dOK o sd rg r (fun d => fd (502 * u + d)) := fun d h1 h2 => by
  by_cases e : d = 0
  · subst e; exact H.1
  · exact (H.2 d (by omega) h1).1
theorem dpar.next {fd : Nat → UInt64} {fa : Nat → Int32} {u o sd rg r : Nat} (H : dpar fd fa u o sd rg r) (hr : 0 < r) : dpar (vf_upd fd (502 * u + r) (dT o sd rg r r).2) (upd fa (502 * u + r) (nI (dT o sd rg r r).1)) u o sd rg (r + 1) := by
  refine ⟨by rw [vupd_off (by omega)]; exact H.1, fun d h1 h2 => ?_⟩
  by_cases e : d = r
  · subst e
    rw [vupd_at, upd_at]
    exact ⟨rfl, rfl⟩
  · rw [vupd_off (by omega), upd_off (by omega)]
    exact H.2 d h1 (by omega)
def doth (u : Nat) (fd0 fd : Nat → UInt64) (fa0 fa : Nat → Int32) : Prop := ∀ i, (i < 502 * u ∨ 502 * u + 502 ≤ i) → fd i = fd0 i ∧ fa i = fa0 i
theorem l_layRest (w : XW) (P : Option Value → XH → Prop) (h0 : XH) {v q fa0 : Nat → Int32} {fd0 : Nat → UInt64} {u o sd rg : Nat} (hn0 : 118 ≤ h0.1) (hN0 : iA h0 89 19 q) (ho12 : q 12 = nI o) (ho : o ≤ 2) (hA0 : AL h0 63 sd rg) (hu : u ≤ 1) (hs : sd ≤ 200) (hrg : rg ≤ 200) (hP : ∀ (h' : XH) (x : Int32) (f fw fa : Nat → Int32) (fd : Nat → UInt64), Same [87, 91, 92, 93, 94] h0 h' → MO h' (upd v 1 x) → h'.2 91 = .inl (0, 5, .inl f) → h'.2 92 = .inl (0, 5, .inl fw) → h'.2 93 = .inl (2, 1004, .inr (.inr (.inr (.inl fd)))) → h'.2 94 = .inl (0, 1004, .inl fa) → dpar fd fa u o sd rg 502 → doth u fd0 fd fa0 fa → P none h') : ∀ (g r : Nat) (h : XH) (x : Int32) (f fw fa : Nat → Int32) (fd : Nat → UInt64), r + g = 502 → leN o ≤ r → MO h (upd v 1 x) → h.2 91 = .inl (0, 5, .inl f) → h.2 92 = .inl (0, 5, .inl fw) → h.2 93 = .inl (2, 1004, .inr (.inr (.inr (.inl fd)))) → h.2 94 = .inl (0, 1004, .inl fa) → dpar fd fa u o sd rg r → doth u fd0 fd fa0 fa → Same [87, 91, 92, 93, 94] h0 h → AX w M_X12_layDarts 0 0 30 [.ref 87, .int (nI u), .int (nI r), .null, .null, .null, .null, .null, .null, .null] [] h P
  | 0, r, h, x, f, fw, fa, fd, hg, hl, hO, e91, e92, e93, e94, hT, hX, hS => by
    have e : r = 502 := by omega
    subst e
    refine AX.iload_n (pc := 30) dX12_layDarts_30 rfl ?_
    refine AX.sipush (pc := 31) (v := nI 501) dX12_layDarts_31 (by decide) ?_
    refine AX.icmp_gtN (pc := 34) (tgt := 159) dX12_layDarts_34 (by decide) (by decide) (by decide) (fun hc34 => ?_) (fun q => absurd q (by decide))
    refine AX.vret (pc := 159) dX12_layDarts_159 rfl (by decide) (by decide) ?_
    exact hP h x f fw fa fd hS hO e91 e92 e93 e94 hT hX
  | g + 1, r, h, x, f, fw, fa, fd, hg, hl, hO, e91, e92, e93, e94, hT, hX, hS => by
    have hn := hS.le hn0
    have hlp := leN_pos o
    have hds := dsel_dT hl hT.ok
    have hdo := dD_ok ho hs hrg r (by omega) hl
    refine AX.iload_n (pc := 30) dX12_layDarts_30 rfl ?_
    refine AX.sipush (pc := 31) (v := nI 501) dX12_layDarts_31 (by decide) ?_
    refine AX.icmp_gtN (pc := 34) (tgt := 159) dX12_layDarts_34 (by decide) (by omega) (by decide) (fun q => absurd q (by omega)) (fun hc34 => ?_)
    refine AX.ldc2d (pc := 37) (v := 13830554455654793216) dX12_layDarts_37 cX12_layDarts_158 ?_
    refine AX.dstore_n (pc := 40) (L' := [.ref 87, .int (nI u), .int (nI r), .double 13830554455654793216, .null, .null, .null, .null, .null, .null]) dX12_layDarts_40 (by decide) rfl ?_
    refine AX.iconst (pc := 41) (v := nI 0) dX12_layDarts_41 (by decide) ?_
    refine AX.istore (pc := 42) (L' := [.ref 87, .int (nI u), .int (nI r), .double 13830554455654793216, .null, .int (nI 0), .null, .null, .null, .null]) dX12_layDarts_42 (by decide) rfl ?_
    refine AX.iconst (pc := 44) (v := nI 1) dX12_layDarts_44 (by decide) ?_
    refine AX.istore (pc := 45) (L' := [.ref 87, .int (nI u), .int (nI r), .double 13830554455654793216, .null, .int (nI 0), .int (nI 1), .null, .null, .null]) dX12_layDarts_45 (by decide) rfl ?_
    refine AX.sub (L' := [.ref 87, .int (nI u), .int (nI r), .double 13830554455654793216, .null, .int (nI 0), .int (nI 1), .null, .null, .null]) ⟨Or.inr rfl, Or.inr rfl, Or.inr rfl, Or.inr rfl, Or.inl rfl, Or.inr rfl, Or.inr rfl, Or.inl rfl, Or.inl rfl, Or.inl rfl, trivial⟩ ?_
    refine l_layAim w P h (v := v) (sd := sd) (rg := rg) (o := o) hn (hN0.same hS (by simp)) ho12 ho (hA0.same hS (by simp) (by simp) (by simp)) e93 e94 hu hs hrg hT.ok (by omega) (by omega) (by rw [hds]; exact Nat.ne_of_gt hdo.2.2.2.1) (fun h2 x2 f2 fw2 t2 O2 z91 z92 z93 z94 => ?_) 62 0 h x f fw (Nat.zero_add _) hO e91 e92 Same.rf
    rw [hds] at z93 z94
    refine AX.iincN (c := r + 1) (pc := 153) (L' := [.ref 87, .int (nI u), .int (nI (r + 1)), .null, .null, .null, .null, .null, .null, .null]) dX12_layDarts_153 rfl (inc1 _) (by decide) rfl ?_
    refine AX.goto (pc := 156) (tgt := 30) dX12_layDarts_156 (by decide) ?_
    refine l_layRest w P h0 hn0 hN0 ho12 ho hA0 hu hs hrg hP g (r + 1) h2 x2 f2 fw2 _ _ (by omega) (by omega) O2 z91 z92 z93 z94 (hT.next (by omega)) (fun i hi => ?_) (hS.trans t2)
    rw [vupd_off (by omega), upd_off (by omega)]
    exact hX i hi
theorem c_layDarts (w : XW) (h : XH) {v q : Nat → Int32} {u o sd rg : Nat} (hn : 118 ≤ h.1) (hO : MO h v) (hN : iA h 89 19 q) (hR : iA h 88 20 (fun k => nI (rgN k))) (hX : FX h) (hT : DT h) (hu : u ≤ 1) (hs : q u = nI sd) (hr : q (2 + u) = nI rg) (ho12 : q 12 = nI o) (ho : o ≤ 2) (hs2 : sd ≤ 200) (hr2 : rg ≤ 200) : CA w M_X12_layDarts [.ref 87, .int (nI u)] h (fun v' h' => v' = none ∧ Same [87, 91, 92, 93, 94, 95, 96, 97, 98, 99, 100] h h' ∧ (∃ x, MO h' (upd v 1 x)) ∧ FX h' ∧ DT h' ∧ DU h' u o sd rg) := by
  refine CA.of (by decide) rfl (fun _ => Nat.le_of_ble_eq_true rfl) ?_
  obtain ⟨fd, fa, ls, lr, lo, e93, e94, e95, e96, e97, qT⟩ := id hT
  have own : ∀ u2 o2 s2 r2, u2 ≤ 1 → o2 ≤ 2 → s2 ≤ 200 → r2 ≤ 200 → upd ls u (nI sd) u2 = nI s2 → upd lr u (nI rg) u2 = nI r2 → upd lo u (nI o) u2 = nI o2 → (u2 = u ∧ o2 = o ∧ s2 = sd ∧ r2 = rg) ∨ (u2 ≠ u ∧ dtab fd fa u2 o2 s2 r2) := by
    intro u2 o2 s2 r2 b1 b2 b3 b4 c1 c2 c3
    by_cases e : u2 = u
    · subst e
      rw [upd_at] at c1 c2 c3
      exact Or.inl ⟨rfl, nI_inj (by omega) (by omega) c3.symm, nI_inj (by omega) (by omega) c1.symm, nI_inj (by omega) (by omega) c2.symm⟩
    · rw [upd_off e] at c1 c2 c3
      exact Or.inr ⟨e, qT u2 o2 s2 r2 b1 b2 b3 b4 c1 c2 c3⟩
  show AX w M_X12_layDarts 0 0 0 [.ref 87, .int (nI u), .null, .null, .null, .null, .null, .null, .null, .null] [] h _
  by_cases hl : ls u = nI sd ∧ lr u = nI rg ∧ lo u = nI o
  · refine AX.aload_n (pc := 0) dX12_layDarts_0 rfl ?_
    refine AX.iload_n (pc := 1) dX12_layDarts_1 rfl ?_
    refine AX.callV (pc := 2) (M2 := M_X12_isLaid) (As := [.int (nI u)]) (rest := []) (c_isLaid w h hn hO hN hu hs hr ho12 e95 e96 e97) xc_X12_layDarts__X12_isLaid gX12_layDarts_X12_isLaid (ci := 11) rfl (lt_k hn (by omega)) hO rfl (Nat.le_of_ble_eq_true rfl) dX12_layDarts_2 ?_
    rintro _ h1 ⟨rfl, s1, z95, z96, z97⟩
    rw [decide_eq_true hl]
    show AX w M_X12_layDarts 0 0 5 [.ref 87, .int (nI u), .null, .null, .null, .null, .null, .null, .null, .null] [.int (bI true)] _ _
    refine AX.if_eqB (pc := 5) (tgt := 9) dX12_layDarts_5 (by decide) (fun q => absurd q (by decide)) (fun hc5 => ?_)
    refine AX.vret (pc := 8) dX12_layDarts_8 rfl (by decide) (by decide) ?_
    have tab := qT u o sd rg hu ho hs2 hr2 hl.1 hl.2.1 hl.2.2
    have z93 := s1.at (by simp) e93
    have z94 := s1.at (by simp) e94
    exact ⟨rfl, s1.wide (by decide), ⟨v 1, by rw [upd_self]; exact s1.at (by simp) hO⟩, hX.same s1 (by simp) (by simp) (by simp) (by simp) (by simp), ⟨fd, fa, _, _, _, z93, z94, z95, z96, z97, fun u2 o2 s2 r2 b1 b2 b3 b4 c1 c2 c3 => by rcases own u2 o2 s2 r2 b1 b2 b3 b4 c1 c2 c3 with ⟨rfl, rfl, rfl, rfl⟩ | ⟨-, z⟩; exact tab; exact z⟩, ⟨fd, fa, z93, z94, tab⟩⟩
  · obtain ⟨⟨a1, x1⟩, ⟨a2, x2⟩, ⟨a3, x3⟩, ⟨a4, x4⟩, ⟨a5, x5⟩⟩ := id hX
    refine AX.aload_n (pc := 0) dX12_layDarts_0 rfl ?_
    refine AX.iload_n (pc := 1) dX12_layDarts_1 rfl ?_
    refine AX.callV (pc := 2) (M2 := M_X12_isLaid) (As := [.int (nI u)]) (rest := []) (c_isLaid w h hn hO hN hu hs hr ho12 e95 e96 e97) xc_X12_layDarts__X12_isLaid gX12_layDarts_X12_isLaid (ci := 11) rfl (lt_k hn (by omega)) hO rfl (Nat.le_of_ble_eq_true rfl) dX12_layDarts_2 ?_
    rintro _ h1 ⟨rfl, s1, z95, z96, z97⟩
    rw [decide_eq_false hl]
    show AX w M_X12_layDarts 0 0 5 [.ref 87, .int (nI u), .null, .null, .null, .null, .null, .null, .null, .null] [.int (bI false)] _ _
    refine AX.if_eqB (pc := 5) (tgt := 9) dX12_layDarts_5 (by decide) (fun hc5 => ?_) (fun q => absurd q (by decide))
    refine AX.aload_n (pc := 9) dX12_layDarts_9 rfl ?_
    refine AX.iload_n (pc := 10) dX12_layDarts_10 rfl ?_
    refine AX.callV (pc := 11) (M2 := M_X12_keepFalls) (As := [.int (nI u)]) (rest := []) (c_keepFalls w h1 (s1.le hn) (s1.at (by simp) hO) (hN.same s1 (by simp)) (hR.same s1 (by simp)) (s1.at (by simp) x1) (s1.at (by simp) x2) (s1.at (by simp) x3) (s1.at (by simp) x4) (s1.at (by simp) x5) hu hs hr hs2 hr2) xc_X12_layDarts__X12_keepFalls gX12_layDarts_X12_keepFalls (ci := 11) rfl (lt_k (s1.le hn) (by omega)) (s1.at (by simp) hO) rfl (Nat.le_of_ble_eq_true rfl) dX12_layDarts_11 ?_
    rintro _ h2 ⟨rfl, s2, ⟨xx, O2⟩, F2, A2⟩
    obtain ⟨f2, fw2, y91, y92⟩ := F2.arr
    show AX w M_X12_layDarts 0 0 14 [.ref 87, .int (nI u), .null, .null, .null, .null, .null, .null, .null, .null] [] _ _
    refine AX.aload_n (pc := 14) dX12_layDarts_14 rfl ?_
    refine AX.getf (pc := 15) fX12_layDarts_25 (lt_k (s2.le (s1.le hn)) (by omega)) O2 rfl dX12_layDarts_15 ?_
    refine AX.sipush (pc := 18) (v := nI 502) dX12_layDarts_18 (by decide) ?_
    refine AX.iload_n (pc := 21) dX12_layDarts_21 rfl ?_
    refine AX.imulN (pc := 22) (c := 502 * u) dX12_layDarts_22 rfl ?_
    refine AX.dconst0 (pc := 23) dX12_layDarts_23 ?_
    refine AX.dastN (pc := 24) (i := 502 * u) (g := vf_upd fd (502 * u) FP.dconst0) (lt_k (s2.le (s1.le hn)) (by omega)) (s2.at (by simp) (s1.at (by simp) e93)) (by decide) (by omega) rfl dX12_layDarts_24 ?_
    have sx : Same [93] h2 (xset h2 93 (.inl (2, 1004, .inr (.inr (.inr (.inl (vf_upd fd (502 * u) FP.dconst0))))))) := Same.rest
    have st : Same [87, 91, 92, 93, 95, 96, 97, 98, 99, 100] h (xset h2 93 (.inl (2, 1004, .inr (.inr (.inr (.inl (vf_upd fd (502 * u) FP.dconst0))))))) := (s1.wide (by decide)).trans ((s2.wide (by decide)).trans (sx.wide (by decide)))
    refine AX.aload_n (pc := 25) dX12_layDarts_25 rfl ?_
    refine AX.callV (pc := 26) (M2 := M_X12_leastRest) (As := []) (rest := []) (c_mLeast w (xset h2 93 (.inl (2, 1004, .inr (.inr (.inr (.inl (vf_upd fd (502 * u) FP.dconst0))))))) (st.le hn) (O2.same sx (by simp)) (hN.same st (by simp)) ho12 ho) xc_X12_layDarts__X12_leastRest gX12_layDarts_X12_leastRest (ci := 11) rfl (lt_k (s2.le (s1.le hn)) (by omega)) ((xset_ne (by decide)).trans O2) rfl (Nat.le_of_ble_eq_true rfl) dX12_layDarts_26 ?_
    rintro _ h9 ⟨rfl, e9⟩
    have e9 := e9.symm
    subst e9
    show AX w M_X12_layDarts 0 0 29 [.ref 87, .int (nI u), .null, .null, .null, .null, .null, .null, .null, .null] [.int (nI (leN o))] _ _
    refine AX.istore_n (pc := 29) (L' := [.ref 87, .int (nI u), .int (nI (leN o)), .null, .null, .null, .null, .null, .null, .null]) dX12_layDarts_29 (by decide) rfl ?_
    have hlp := leN_pos o
    have hl2 := leN_le o
    refine l_layRest w _ _ (v := v) (q := q) (o := o) (sd := sd) (rg := rg) (fd0 := fd) (fa0 := fa) (st.le hn) (hN.same st (by simp)) ho12 ho (A2.same sx (by simp) (by simp) (by simp)) hu hs2 hr2 (fun h3 x3 f3 fw3 fa3 fd3 t3 O3 w91 w92 w93 w94 hT3 hX3 => ?_) (502 - leN o) (leN o) _ xx f2 fw2 fa _ (by omega) (Nat.le_refl _) (O2.same sx (by simp)) (sx.at (by simp) y91) (sx.at (by simp) y92) (xset_same _ _ _) (sx.at (by simp) (s2.at (by simp) (s1.at (by simp) e94))) ⟨vupd_at _ _ _, fun d d1 d2 => absurd d2 (by omega)⟩ (fun i hi => ⟨vupd_off (by omega), rfl⟩) Same.rf
    have tt : Same [93, 94] h2 h3 → True := fun _ => trivial
    have A3 := (A2.same sx (by simp) (by simp) (by simp)).same t3 (by simp) (by simp) (by simp)
    obtain ⟨m3, s3, x33, y98, y99, y100, -⟩ := A3
    have z95 := t3.at (by simp) (sx.at (by simp) (s2.at (by simp) z95))
    have z96 := t3.at (by simp) (sx.at (by simp) (s2.at (by simp) z96))
    have z97 := t3.at (by simp) (sx.at (by simp) (s2.at (by simp) z97))
    have tab : dtab fd3 fa3 u o sd rg := ⟨hT3.1, fun r r1 r2 => hT3.2 r r1 (by omega)⟩
    refine ⟨rfl, (st.wide (by decide)).trans (t3.wide (by decide)), ⟨x3, O3⟩, ⟨⟨_, w91⟩, ⟨_, w92⟩, ⟨_, y98⟩, ⟨_, y99⟩, ⟨_, y100⟩⟩, ⟨fd3, fa3, _, _, _, w93, w94, z95, z96, z97, fun u2 o2 s2_ r2 b1 b2 b3 b4 c1 c2 c3 => ?_⟩, ⟨fd3, fa3, w93, w94, tab⟩⟩
    rcases own u2 o2 s2_ r2 b1 b2 b3 b4 c1 c2 c3 with ⟨rfl, rfl, rfl, rfl⟩ | ⟨ne, z⟩
    · exact tab
    · refine ⟨(hX3 _ (by omega)).1.trans z.1, fun r r1 r2 => ?_⟩
      have k := hX3 (502 * u2 + r) (by omega)
      have k2 := z.2 r r1 r2
      exact ⟨k.1.trans k2.1, k.2.trans k2.2⟩
