/-! ===== Mind: the best aim, rest by rest ===== -/
theorem l_chooseAim (w : XW) (h : XH) {o b sd rg dk ck r : Nat} {fd : Nat → UInt64} {fa : Nat → Int32} (hn : 42 ≤ h.1) (ho : o ≤ 2) (hF : FA h) (hM : MI h b sd rg dk ck) (hN : iA h (b + 3) 63 (fun s => oI (nxN o r s))) (ed : h.2 (b + 4) = .inl (2, 502, .inr (.inr (.inr (.inl fd))))) (ea : h.2 (b + 5) = .inl (0, 502, .inl fa)) (hD : dOK o sd rg r fd) (h0 : 0 < r) (hr : r ≤ 501) (P : Option Value → XH → Prop) (hP : ∀ h', Same [b + 4, b + 5] h h' → h'.2 (b + 4) = .inl (2, 502, .inr (.inr (.inr (.inl (vf_upd fd r (dsel (dvV o sd rg fd r) 62).2))))) → h'.2 (b + 5) = .inl (0, 502, .inl (upd fa r (nI (dsel (dvV o sd rg fd r) 62).1))) → P none h') : ∀ (g k : Nat), k + g = 62 → AX w M_X4_chooseAim 0 0 8 [.ref b, .int (nI r), .double ((dsel (dvV o sd rg fd r) k).2), .null, .int (nI ((dsel (dvV o sd rg fd r) k).1)), .int (nI (k + 1)), .null, .null] [] h P
  | 0, k, hg => by
    have e : k = 62 := by omega
    subst e
    obtain ⟨hb, hs, hrg, eb, qw0, qo0⟩ := id hM
    have hV := hD.val ho hs hrg (by omega)
    refine AX.iload (pc := 8) dX4_chooseAim_8 rfl ?_
    refine AX.bipush (pc := 10) (v := nI 63) dX4_chooseAim_10 (by decide) ?_
    refine AX.icmp_geN (pc := 12) (tgt := 55) dX4_chooseAim_12 (by decide) (by decide) (by decide) (fun hc12 => ?_) (fun q => absurd q (by decide))
    refine AX.aload_n (pc := 55) dX4_chooseAim_55 rfl ?_
    refine AX.getf (pc := 56) fX4_chooseAim_29 (lt_k hn (by omega)) eb rfl dX4_chooseAim_56 ?_
    refine AX.iload_n (pc := 59) dX4_chooseAim_59 rfl ?_
    refine AX.dload_n (pc := 60) dX4_chooseAim_60 rfl ?_
    refine AX.dastN (pc := 61) (i := r) (g := vf_upd fd r ((dsel (dvV o sd rg fd r) 62).2)) (lt_k hn (by omega)) ed (by decide) (by omega) rfl dX4_chooseAim_61 ?_
    refine AX.aload_n (pc := 62) dX4_chooseAim_62 rfl ?_
    refine AX.getf (pc := 63) fX4_chooseAim_32 (lt_k hn (by omega)) ((xset_ne (by omega)).trans eb) rfl dX4_chooseAim_63 ?_
    refine AX.iload_n (pc := 66) dX4_chooseAim_66 rfl ?_
    refine AX.iload (pc := 67) dX4_chooseAim_67 rfl ?_
    refine AX.iastN (pc := 69) (i := r) (g := upd fa r (nI ((dsel (dvV o sd rg fd r) 62).1))) (lt_k hn (by omega)) ((xset_ne (by omega)).trans ea) (by decide) (by omega) rfl dX4_chooseAim_69 ?_
    refine AX.vret (pc := 70) dX4_chooseAim_70 rfl (by decide) (by decide) ?_
    exact hP _ ((Same.set Same.rf (by simp)).trans (Same.set Same.rf (by simp))) ((xset_ne (by omega)).trans (xset_same _ _ _)) (xset_same _ _ _)
  | g + 1, k, hg => by
    obtain ⟨hb, hs, hrg, eb, qw0, qo0⟩ := id hM
    have hV := hD.val ho hs hrg (by omega)
    have hbest : (dsel (dvV o sd rg fd r) k).1 ≤ k := (dsel_ok (V := dvV o sd rg fd r) (fun a v a1 a2 a3 => (dvV_ok hs hrg a1 a2 h0 (B := 3006) (by decide) hV a3).1) k (by omega)).1
    have hz : dsel (dvV o sd rg fd r) (k + 1) = match dvV o sd rg fd r (k + 1) with
      | none => dsel (dvV o sd rg fd r) k
      | some v => if (dsel (dvV o sd rg fd r) k).1 = 0 ∨ dlt v (dsel (dvV o sd rg fd r) k).2 = true then (k + 1, v) else dsel (dvV o sd rg fd r) k := rfl
    have ih := l_chooseAim w h hn ho hF hM hN ed ea hD h0 hr P hP g (k + 1) (by omega)
    cases hv : dvV o sd rg fd r (k + 1) with
    | none =>
      rw [hv] at hz
      rw [hz] at ih
      refine AX.iload (pc := 8) dX4_chooseAim_8 rfl ?_
      refine AX.bipush (pc := 10) (v := nI 63) dX4_chooseAim_10 (by decide) ?_
      refine AX.icmp_geN (pc := 12) (tgt := 55) dX4_chooseAim_12 (by decide) (by omega) (by decide) (fun q => absurd q (by omega)) (fun hc12 => ?_)
      refine AX.aload_n (pc := 15) dX4_chooseAim_15 rfl ?_
      refine AX.iload (pc := 16) dX4_chooseAim_16 rfl ?_
      refine AX.callV (pc := 18) (M2 := M_X4_dartsBy) (As := [.int (nI (k + 1))]) (rest := []) (c_dartsBy w h hn ho hF hM hN ed hD h0 hr (a := k + 1) (by omega) (by omega)) xc_X4_chooseAim__X4_dartsBy gX4_chooseAim_X4_dartsBy (ci := 3) rfl (lt_k hn (by omega)) eb rfl (Nat.le_of_ble_eq_true rfl) dX4_chooseAim_18 ?_
      rintro _ h9 ⟨rfl, e9⟩
      have e9 := e9.symm
      subst e9
      show AX w M_X4_chooseAim 0 0 21 [.ref b, .int (nI r), .double ((dsel (dvV o sd rg fd r) k).2), .null, .int (nI ((dsel (dvV o sd rg fd r) k).1)), .int (nI (k + 1)), .null, .null] [.double ((dvV o sd rg fd r (k + 1)).getD FP.dconst0)] _ _
      refine AX.topd (y := FP.dconst0) (by rw [hv]; rfl) ?_
      refine AX.dstore (pc := 21) (L' := [.ref b, .int (nI r), .double ((dsel (dvV o sd rg fd r) k).2), .null, .int (nI ((dsel (dvV o sd rg fd r) k).1)), .int (nI (k + 1)), .double FP.dconst0, .null]) dX4_chooseAim_21 (by decide) rfl ?_
      refine AX.dload (pc := 23) dX4_chooseAim_23 rfl ?_
      refine AX.dconst0 (pc := 25) dX4_chooseAim_25 ?_
      refine AX.dcmp (pc := 26) dX4_chooseAim_26 ?_
      refine AX.if_le (pc := 27) (tgt := 49) dX4_chooseAim_27 (by decide) (fun hc27 => ?_) (fun q => absurd (cmpl_le (by decide +kernel)) q)
      refine AX.iincN (c := k + 2) (pc := 49) (L' := [.ref b, .int (nI r), .double ((dsel (dvV o sd rg fd r) k).2), .null, .int (nI ((dsel (dvV o sd rg fd r) k).1)), .int (nI (k + 2)), .double FP.dconst0, .null]) dX4_chooseAim_49 rfl (inc1 _) (by decide) rfl ?_
      refine AX.goto (pc := 52) (tgt := 8) dX4_chooseAim_52 (by decide) ?_
      refine AX.sub (L' := [.ref b, .int (nI r), .double ((dsel (dvV o sd rg fd r) k).2), .null, .int (nI ((dsel (dvV o sd rg fd r) k).1)), .int (nI (k + 1 + 1)), .null, .null]) ⟨Or.inr rfl, Or.inr rfl, Or.inr rfl, Or.inl rfl, Or.inr rfl, Or.inr rfl, Or.inl rfl, Or.inl rfl, trivial⟩ ?_
      exact ih
    | some v =>
      rw [hv] at hz
      have kv := dvV_ok hs hrg (by omega) (by omega) h0 (B := 3006) (by decide) hV hv
      have hpos : FP.dcmp v FP.dconst0 = some .gt := by
        have h1 := (dgt_zv kv.1 dconst0_zv.1).mpr (by rw [dconst0_zv.2]; have := kv.2.1; have := one_posI; generalize (FP.Core.one64 : Int) = O at *; omega)
        unfold dgt at h1
        exact of_decide_eq_true h1
      refine AX.iload (pc := 8) dX4_chooseAim_8 rfl ?_
      refine AX.bipush (pc := 10) (v := nI 63) dX4_chooseAim_10 (by decide) ?_
      refine AX.icmp_geN (pc := 12) (tgt := 55) dX4_chooseAim_12 (by decide) (by omega) (by decide) (fun q => absurd q (by omega)) (fun hc12 => ?_)
      refine AX.aload_n (pc := 15) dX4_chooseAim_15 rfl ?_
      refine AX.iload (pc := 16) dX4_chooseAim_16 rfl ?_
      refine AX.callV (pc := 18) (M2 := M_X4_dartsBy) (As := [.int (nI (k + 1))]) (rest := []) (c_dartsBy w h hn ho hF hM hN ed hD h0 hr (a := k + 1) (by omega) (by omega)) xc_X4_chooseAim__X4_dartsBy gX4_chooseAim_X4_dartsBy (ci := 3) rfl (lt_k hn (by omega)) eb rfl (Nat.le_of_ble_eq_true rfl) dX4_chooseAim_18 ?_
      rintro _ h9 ⟨rfl, e9⟩
      have e9 := e9.symm
      subst e9
      show AX w M_X4_chooseAim 0 0 21 [.ref b, .int (nI r), .double ((dsel (dvV o sd rg fd r) k).2), .null, .int (nI ((dsel (dvV o sd rg fd r) k).1)), .int (nI (k + 1)), .null, .null] [.double ((dvV o sd rg fd r (k + 1)).getD FP.dconst0)] _ _
      refine AX.topd (y := v) (by rw [hv]; rfl) ?_
      refine AX.dstore (pc := 21) (L' := [.ref b, .int (nI r), .double ((dsel (dvV o sd rg fd r) k).2), .null, .int (nI ((dsel (dvV o sd rg fd r) k).1)), .int (nI (k + 1)), .double v, .null]) dX4_chooseAim_21 (by decide) rfl ?_
      refine AX.dload (pc := 23) dX4_chooseAim_23 rfl ?_
      refine AX.dconst0 (pc := 25) dX4_chooseAim_25 ?_
      refine AX.dcmp (pc := 26) dX4_chooseAim_26 ?_
      refine AX.if_le (pc := 27) (tgt := 49) dX4_chooseAim_27 (by decide) (fun q => absurd q (cmpl_gt hpos)) (fun hc27 => ?_)
      refine AX.iload (pc := 30) dX4_chooseAim_30 rfl ?_
      refine AX.if_eqN (pc := 32) (tgt := 42) dX4_chooseAim_32 (by decide) (by omega) (fun hc32 => ?_) (fun hc32 => ?_)
      · refine AX.dload (pc := 42) dX4_chooseAim_42 rfl ?_
        refine AX.dstore_n (pc := 44) (L' := [.ref b, .int (nI r), .double v, .null, .int (nI ((dsel (dvV o sd rg fd r) k).1)), .int (nI (k + 1)), .double v, .null]) dX4_chooseAim_44 (by decide) rfl ?_
        refine AX.iload (pc := 45) dX4_chooseAim_45 rfl ?_
        refine AX.istore (pc := 47) (L' := [.ref b, .int (nI r), .double v, .null, .int (nI (k + 1)), .int (nI (k + 1)), .double v, .null]) dX4_chooseAim_47 (by decide) rfl ?_
        refine AX.iincN (c := k + 2) (pc := 49) (L' := [.ref b, .int (nI r), .double v, .null, .int (nI (k + 1)), .int (nI (k + 2)), .double v, .null]) dX4_chooseAim_49 rfl (inc1 _) (by decide) rfl ?_
        refine AX.goto (pc := 52) (tgt := 8) dX4_chooseAim_52 (by decide) ?_
        have hz : dsel (dvV o sd rg fd r) (k + 1) = (k + 1, v) := by rw [hz]; exact if_pos (by first | exact Or.inl hc32 | exact Or.inr (decide_eq_true (cmpg_lt hc39)))
        rw [hz] at ih
        refine AX.sub (L' := [.ref b, .int (nI r), .double v, .null, .int (nI (k + 1)), .int (nI (k + 1 + 1)), .null, .null]) ⟨Or.inr rfl, Or.inr rfl, Or.inr rfl, Or.inl rfl, Or.inr rfl, Or.inr rfl, Or.inl rfl, Or.inl rfl, trivial⟩ ?_
        exact ih
      · refine AX.dload (pc := 35) dX4_chooseAim_35 rfl ?_
        refine AX.dload_n (pc := 37) dX4_chooseAim_37 rfl ?_
        refine AX.dcmp (pc := 38) dX4_chooseAim_38 ?_
        refine AX.if_ge (pc := 39) (tgt := 49) dX4_chooseAim_39 (by decide) (fun hc39 => ?_) (fun hc39 => ?_)
        · refine AX.iincN (c := k + 2) (pc := 49) (L' := [.ref b, .int (nI r), .double ((dsel (dvV o sd rg fd r) k).2), .null, .int (nI ((dsel (dvV o sd rg fd r) k).1)), .int (nI (k + 2)), .double v, .null]) dX4_chooseAim_49 rfl (inc1 _) (by decide) rfl ?_
          refine AX.goto (pc := 52) (tgt := 8) dX4_chooseAim_52 (by decide) ?_
          have hz : dsel (dvV o sd rg fd r) (k + 1) = dsel (dvV o sd rg fd r) k := by rw [hz]; exact if_neg (by rintro (q | q); exact hc32 q; exact cmpg_ge hc39 (of_decide_eq_true q))
          rw [hz] at ih
          refine AX.sub (L' := [.ref b, .int (nI r), .double ((dsel (dvV o sd rg fd r) k).2), .null, .int (nI ((dsel (dvV o sd rg fd r) k).1)), .int (nI (k + 1 + 1)), .null, .null]) ⟨Or.inr rfl, Or.inr rfl, Or.inr rfl, Or.inl rfl, Or.inr rfl, Or.inr rfl, Or.inl rfl, Or.inl rfl, trivial⟩ ?_
          exact ih
        · refine AX.dload (pc := 42) dX4_chooseAim_42 rfl ?_
          refine AX.dstore_n (pc := 44) (L' := [.ref b, .int (nI r), .double v, .null, .int (nI ((dsel (dvV o sd rg fd r) k).1)), .int (nI (k + 1)), .double v, .null]) dX4_chooseAim_44 (by decide) rfl ?_
          refine AX.iload (pc := 45) dX4_chooseAim_45 rfl ?_
          refine AX.istore (pc := 47) (L' := [.ref b, .int (nI r), .double v, .null, .int (nI (k + 1)), .int (nI (k + 1)), .double v, .null]) dX4_chooseAim_47 (by decide) rfl ?_
          refine AX.iincN (c := k + 2) (pc := 49) (L' := [.ref b, .int (nI r), .double v, .null, .int (nI (k + 1)), .int (nI (k + 2)), .double v, .null]) dX4_chooseAim_49 rfl (inc1 _) (by decide) rfl ?_
          refine AX.goto (pc := 52) (tgt := 8) dX4_chooseAim_52 (by decide) ?_
          have hz : dsel (dvV o sd rg fd r) (k + 1) = (k + 1, v) := by rw [hz]; exact if_pos (by first | exact Or.inl hc32 | exact Or.inr (decide_eq_true (cmpg_lt hc39)))
          rw [hz] at ih
          refine AX.sub (L' := [.ref b, .int (nI r), .double v, .null, .int (nI (k + 1)), .int (nI (k + 1 + 1)), .null, .null]) ⟨Or.inr rfl, Or.inr rfl, Or.inr rfl, Or.inl rfl, Or.inr rfl, Or.inr rfl, Or.inl rfl, Or.inl rfl, trivial⟩ ?_
          exact ih
theorem c_chooseAim (w : XW) (h : XH) {o b sd rg dk ck r : Nat} {fd : Nat → UInt64} {fa : Nat → Int32} (hn : 42 ≤ h.1) (ho : o ≤ 2) (hF : FA h) (hM : MI h b sd rg dk ck) (hN : iA h (b + 3) 63 (fun s => oI (nxN o r s))) (ed : h.2 (b + 4) = .inl (2, 502, .inr (.inr (.inr (.inl fd))))) (ea : h.2 (b + 5) = .inl (0, 502, .inl fa)) (hD : dOK o sd rg r fd) (h0 : 0 < r) (hr : r ≤ 501) : CA w M_X4_chooseAim [.ref b, .int (nI r)] h (fun v h' => v = none ∧ Same [b + 4, b + 5] h h' ∧ h'.2 (b + 4) = .inl (2, 502, .inr (.inr (.inr (.inl (vf_upd fd r (dsel (dvV o sd rg fd r) 62).2))))) ∧ h'.2 (b + 5) = .inl (0, 502, .inl (upd fa r (nI (dsel (dvV o sd rg fd r) 62).1)))) := by
  refine CA.of (by decide) rfl (fun _ => Nat.le_of_ble_eq_true rfl) ?_
  show AX w M_X4_chooseAim 0 0 0 [.ref b, .int (nI r), .null, .null, .null, .null, .null, .null] [] h _
  refine AX.dconst0 (pc := 0) dX4_chooseAim_0 ?_
  refine AX.dstore_n (pc := 1) (L' := [.ref b, .int (nI r), .double FP.dconst0, .null, .null, .null, .null, .null]) dX4_chooseAim_1 (by decide) rfl ?_
  refine AX.iconst (pc := 2) (v := nI 0) dX4_chooseAim_2 (by decide) ?_
  refine AX.istore (pc := 3) (L' := [.ref b, .int (nI r), .double FP.dconst0, .null, .int (nI 0), .null, .null, .null]) dX4_chooseAim_3 (by decide) rfl ?_
  refine AX.iconst (pc := 5) (v := nI 1) dX4_chooseAim_5 (by decide) ?_
  refine AX.istore (pc := 6) (L' := [.ref b, .int (nI r), .double FP.dconst0, .null, .int (nI 0), .int (nI 1), .null, .null]) dX4_chooseAim_6 (by decide) rfl ?_
  exact l_chooseAim w h hn ho hF hM hN ed ea hD h0 hr _ (fun h' p q r => ⟨rfl, p, q, r⟩) 62 0 (by omega)
/-- one rest more -/
theorem MK.next {h' : XH} {b o sd rg n : Nat} {fd : Nat → UInt64} {fa : Nat → Int32} (hs : sd ≤ 200) (hrg : rg ≤ 200) (ho : o ≤ 2) (hl : leN o ≤ n + 1) (hn : n + 1 ≤ 501) (q3 : fd 0 = FP.dconst0) (q4 : ∀ r, leN o ≤ r → r ≤ n → fd r = dD o sd rg r ∧ fa r = nI (dA_ o sd rg r))
    (e4 : h'.2 (b + 4) = .inl (2, 502, .inr (.inr (.inr (.inl (vf_upd fd (n + 1) (dsel (dvV o sd rg fd (n + 1)) 62).2)))))) (e5 : h'.2 (b + 5) = .inl (0, 502, .inl (upd fa (n + 1) (nI (dsel (dvV o sd rg fd (n + 1)) 62).1)))) : MK h' b o sd rg (n + 1) := by
  have e : dsel (dvV o sd rg fd (n + 1)) 62 = dT o sd rg (n + 1) (n + 1) := by
    rw [dT_at hl]
    refine dsel_congr _ (fun a h1 h2 => dvV_congr (fun d h3 h4 => ?_) (by omega) (by omega))
    by_cases z : d = 0
    · subst z; rw [q3]; rfl
    · exact (q4 d (by omega) (by omega)).1
  rw [e] at e4 e5
  refine ⟨by omega, hn, _, _, e4, e5, ?_, fun r h1 h2 => ?_⟩
  · rw [vupd_off (by omega)]; exact q3
  · by_cases z : r = n + 1
    · subst z
      rw [vupd_at, upd_at]
      exact ⟨rfl, rfl⟩
    · rw [vupd_off z, upd_off z]
      exact q4 r h1 (by omega)
theorem l_learnDarts (w : XW) (P : Option Value → XH → Prop) (h0 : XH) (o b sd rg dk0 ck r : Nat) (hr : r ≤ 501) (hP : ∀ h', Same [b, b + 3, b + 4, b + 5] h0 h' → MI h' b sd rg (max dk0 r) ck → MK h' b o sd rg (max dk0 r) → (∃ fn, h'.2 (b + 3) = .inl (0, 63, .inl fn)) → P none h') : ∀ (g dk : Nat) (h : XH), r - dk = g → dk0 ≤ dk → (dk ≤ r ∨ dk = dk0) → 42 ≤ h.1 → o ≤ 2 → RU h o → FA h → MI h b sd rg dk ck → (∃ fn : Nat → Int32, h.2 (b + 3) = .inl (0, 63, .inl fn)) → MK h b o sd rg dk → Same [b, b + 3, b + 4, b + 5] h0 h → AX w M_X4_learnDarts 0 0 7 [.ref b, .int (nI r), .int (nI (dk + 1))] [] h P
  | 0, dk, h, hg, hk0, hk1, hn, ho, hR, hF, hM, hE, hK, hS => by
    obtain ⟨hb, hs, hrg, eb, qw0, qo0⟩ := id hM
    obtain ⟨fn, en⟩ := hE
    have hdk := hK.2.1
    have e : max dk0 r = dk := by omega
    refine AX.iload_n (pc := 7) dX4_learnDarts_7 rfl ?_
    refine AX.iload_n (pc := 8) dX4_learnDarts_8 rfl ?_
    refine AX.icmp_gtN (pc := 9) (tgt := 40) dX4_learnDarts_9 (by decide) (by omega) (by omega) (fun hc9 => ?_) (fun q => absurd q (by omega))
    refine AX.vret (pc := 40) dX4_learnDarts_40 rfl (by decide) (by decide) ?_
    exact hP h hS (by rw [e]; exact hM) (by rw [e]; exact hK) ⟨fn, en⟩
  | g + 1, dk, h, hg, hk0, hk1, hn, ho, hR, hF, hM, hE, hK, hS => by
    obtain ⟨hb, hs, hrg, eb, qw0, qo0⟩ := id hM
    obtain ⟨fn, en⟩ := hE
    obtain ⟨hl, hdk, fd, fa, e4, e5, q3, q4⟩ := id hK
    refine AX.iload_n (pc := 7) dX4_learnDarts_7 rfl ?_
    refine AX.iload_n (pc := 8) dX4_learnDarts_8 rfl ?_
    refine AX.icmp_gtN (pc := 9) (tgt := 40) dX4_learnDarts_9 (by decide) (by omega) (by omega) (fun q => absurd q (by omega)) (fun hc9 => ?_)
    refine AX.aload_n (pc := 12) dX4_learnDarts_12 rfl ?_
    refine AX.getf (pc := 13) fX4_learnDarts_45 (lt_k hn (by omega)) eb rfl dX4_learnDarts_13 ?_
    refine AX.iload_n (pc := 16) dX4_learnDarts_16 rfl ?_
    refine AX.aload_n (pc := 17) dX4_learnDarts_17 rfl ?_
    refine AX.getf (pc := 18) fX4_learnDarts_26 (lt_k hn (by omega)) eb rfl dX4_learnDarts_18 ?_
    refine AX.callV (pc := 21) (M2 := M_X9_restsBehind) (As := [.int (nI (dk + 1)), .ref (b + 3)]) (rest := []) (c_restsBehind w h hR (dk + 1) (b + 3) (by omega) (by omega) (by omega) en) xc_X4_learnDarts__X9_restsBehind gX4_learnDarts_X9_restsBehind (ci := 8) rfl (lt_k hn (by omega)) hR.2.1 rfl (Nat.le_of_ble_eq_true rfl) dX4_learnDarts_21 ?_
    rintro _ h1 ⟨rfl, s1, n1⟩
    have M1 := hM.same s1 (by simp) (by simp) (by simp)
    have F1 := hF.same s1 (by simp; omega) (by simp; omega) (by simp; omega) (by simp; omega) (by simp; omega)
    show AX w M_X4_learnDarts 0 0 24 [.ref b, .int (nI r), .int (nI (dk + 1))] [] _ _
    refine AX.aload_n (pc := 24) dX4_learnDarts_24 rfl ?_
    refine AX.iload_n (pc := 25) dX4_learnDarts_25 rfl ?_
    refine AX.callV (pc := 26) (M2 := M_X4_chooseAim) (As := [.int (nI (dk + 1))]) (rest := []) (c_chooseAim w h1 (s1.le hn) ho F1 M1 n1 (s1.at (by simp) e4) (s1.at (by simp) e5) (r := dk + 1) (fun d z1 z2 => by by_cases z : d = 0; (subst z; rw [q3]; rfl); exact (q4 d (by omega) (by omega)).1) (by omega) (by omega)) xc_X4_learnDarts__X4_chooseAim gX4_learnDarts_X4_chooseAim (ci := 3) rfl (lt_k (s1.le hn) (by omega)) M1.2.2.2.1 rfl (Nat.le_of_ble_eq_true rfl) dX4_learnDarts_26 ?_
    rintro _ h2 ⟨rfl, s2, x4, x5⟩
    have M2 := M1.same s2 (by simp) (by simp) (by simp)
    have K2 := MK.next hs hrg ho hl (by omega) q3 q4 x4 x5
    show AX w M_X4_learnDarts 0 0 29 [.ref b, .int (nI r), .int (nI (dk + 1))] [] _ _
    refine AX.aload_n (pc := 29) dX4_learnDarts_29 rfl ?_
    refine AX.iload_n (pc := 30) dX4_learnDarts_30 rfl ?_
    refine AX.putf (pc := 31) (fs' := [.ref 1, .ref 4, .int (nI sd), .int (nI rg), .ref (b + 1), .ref (b + 2), .ref (b + 3), .ref (b + 4), .ref (b + 5), .int (nI (dk + 1)), .ref (b + 6), .ref (b + 11), .int (nI ck)]) fX4_learnDarts_73 rfl (lt_k (s2.le (s1.le hn)) (by omega)) M2.2.2.2.1 (Nat.le_of_ble_eq_true rfl) rfl rfl rfl dX4_learnDarts_31 ?_
    refine AX.iincN (c := dk + 2) (pc := 34) (L' := [.ref b, .int (nI r), .int (nI (dk + 2))]) dX4_learnDarts_34 rfl (inc1 _) (by decide) rfl ?_
    refine AX.goto (pc := 37) (tgt := 7) dX4_learnDarts_37 (by decide) ?_
    have s12 : Same [b, b + 3, b + 4, b + 5] h h2 := (s1.wide (by simp)).trans (s2.wide (by simp))
    have s3 := s12.trans (Same.set (h0 := h2) (e := .inr (3, [.ref 1, .ref 4, .int (nI sd), .int (nI rg), .ref (b + 1), .ref (b + 2), .ref (b + 3), .ref (b + 4), .ref (b + 5), .int (nI (dk + 1)), .ref (b + 6), .ref (b + 11), .int (nI ck)])) (a := b) Same.rf (by simp))
    have sx := Same.rest (a := b) (h := h2) (e := .inr (3, [.ref 1, .ref 4, .int (nI sd), .int (nI rg), .ref (b + 1), .ref (b + 2), .ref (b + 3), .ref (b + 4), .ref (b + 5), .int (nI (dk + 1)), .ref (b + 6), .ref (b + 11), .int (nI ck)]))
    obtain ⟨f9, e9, -⟩ := n1
    exact l_learnDarts w P h0 o b sd rg dk0 ck r hr hP g (dk + 1) _ (by omega) (by omega) (by omega) (s3.le hn) ho (hR.same s3 (by simp; omega) (by simp; omega) (by simp; omega)) (hF.same s3 (by simp; omega) (by simp; omega) (by simp; omega) (by simp; omega) (by simp; omega)) ⟨hb, hs, hrg, xset_same _ _ _, M2.2.2.2.2.1.same sx (by simp), M2.2.2.2.2.2.same sx (by simp)⟩ ⟨f9, sx.at (by simp) (s2.at (by simp) e9)⟩ (K2.same sx (by simp) (by simp)) (hS.trans s3)
theorem c_learnDarts (w : XW) (h : XH) {o b sd rg dk ck : Nat} (r : Nat) (hr : r ≤ 501) (hn : 42 ≤ h.1) (ho : o ≤ 2) (hR : RU h o) (hF : FA h) (hM : MI h b sd rg dk ck) {fn : Nat → Int32} (en : h.2 (b + 3) = .inl (0, 63, .inl fn)) (hK : MK h b o sd rg dk) : CA w M_X4_learnDarts [.ref b, .int (nI r)] h (fun v h' => v = none ∧ Same [b, b + 3, b + 4, b + 5] h h' ∧ MI h' b sd rg (max dk r) ck ∧ MK h' b o sd rg (max dk r) ∧ (∃ fn, h'.2 (b + 3) = .inl (0, 63, .inl fn))) := by
  refine CA.of (by decide) rfl (fun _ => Nat.le_of_ble_eq_true rfl) ?_
  obtain ⟨hb, hs, hrg, eb, qw0, qo0⟩ := id hM
  have hdk := hK.2.1
  show AX w M_X4_learnDarts 0 0 0 [.ref b, .int (nI r), .null] [] h _
  refine AX.aload_n (pc := 0) dX4_learnDarts_0 rfl ?_
  refine AX.getf (pc := 1) fX4_learnDarts_73 (lt_k hn (by omega)) eb rfl dX4_learnDarts_1 ?_
  refine AX.iconst (pc := 4) (v := nI 1) dX4_learnDarts_4 (by decide) ?_
  refine AX.iaddN (pc := 5) (c := dk + 1) dX4_learnDarts_5 rfl ?_
  refine AX.istore_n (pc := 6) (L' := [.ref b, .int (nI r), .int (nI (dk + 1))]) dX4_learnDarts_6 (by decide) rfl ?_
  exact l_learnDarts w _ h o b sd rg dk ck r hr (fun h' p q r s => ⟨rfl, p, q, r, s⟩) (r - dk) dk h rfl (Nat.le_refl _) (Or.inr rfl) hn ho hR hF hM ⟨fn, en⟩ hK Same.rf
theorem c_dartsAt (w : XW) (h : XH) {o b sd rg dk ck : Nat} (hn : 42 ≤ h.1) (ho : o ≤ 2) (hR : RU h o) (hF : FA h) (hM : MI h b sd rg dk ck) {fn : Nat → Int32} (en : h.2 (b + 3) = .inl (0, 63, .inl fn)) (hK : MK h b o sd rg dk) (r : Nat) (hr : r ≤ 501) (hl : r = 0 ∨ leN o ≤ r) : CA w M_X4_dartsAt [.ref b, .int (nI r)] h (fun v h' => v = some (.double (dD o sd rg r)) ∧ Same [b, b + 3, b + 4, b + 5] h h' ∧ MI h' b sd rg (max dk r) ck ∧ MK h' b o sd rg (max dk r) ∧ (∃ fn, h'.2 (b + 3) = .inl (0, 63, .inl fn))) := by
  refine CA.of (by decide) rfl (fun _ => Nat.le_of_ble_eq_true rfl) ?_
  obtain ⟨hb, hs, hrg, eb, qw0, qo0⟩ := id hM
  show AX w M_X4_dartsAt 0 0 0 [.ref b, .int (nI r)] [] h _
  refine AX.aload_n (pc := 0) dX4_dartsAt_0 rfl ?_
  refine AX.iload_n (pc := 1) dX4_dartsAt_1 rfl ?_
  refine AX.callV (pc := 2) (M2 := M_X4_learnDarts) (As := [.int (nI r)]) (rest := []) (c_learnDarts w h r hr hn ho hR hF hM en hK) xc_X4_dartsAt__X4_learnDarts gX4_dartsAt_X4_learnDarts (ci := 3) rfl (lt_k hn (by omega)) eb rfl (Nat.le_of_ble_eq_true rfl) dX4_dartsAt_2 ?_
  rintro _ h1 ⟨rfl, s1, m1, k1, n1⟩
  obtain ⟨y1, y2, fd, fa, x4, x5, y3, y4⟩ := id k1
  show AX w M_X4_dartsAt 0 0 5 [.ref b, .int (nI r)] [] _ _
  refine AX.aload_n (pc := 5) dX4_dartsAt_5 rfl ?_
  refine AX.getf (pc := 6) fX4_dartsAt_29 (lt_k (s1.le hn) (by omega)) m1.2.2.2.1 rfl dX4_dartsAt_6 ?_
  refine AX.iload_n (pc := 9) dX4_dartsAt_9 rfl ?_
  refine AX.daldN (pc := 10) (i := r) (v := (dD o sd rg r)) (lt_k (s1.le hn) (by omega)) x4 (by decide) (by omega) (by rcases hl with q | q; (subst q; exact y3); exact (y4 r q (by omega)).1) dX4_dartsAt_10 ?_
  refine AX.dret (pc := 11) dX4_dartsAt_11 rfl (by decide) (by decide) ?_
  exact ⟨rfl, s1, m1, k1, n1⟩
theorem c_aimAt (w : XW) (h : XH) {o b sd rg dk ck : Nat} (hn : 42 ≤ h.1) (ho : o ≤ 2) (hR : RU h o) (hF : FA h) (hM : MI h b sd rg dk ck) {fn : Nat → Int32} (en : h.2 (b + 3) = .inl (0, 63, .inl fn)) (hK : MK h b o sd rg dk) (r : Nat) (hr : r ≤ 501) (hl : leN o ≤ r) : CA w M_X4_aimAt [.ref b, .int (nI r)] h (fun v h' => v = some (.int (nI (dA_ o sd rg r))) ∧ Same [b, b + 3, b + 4, b + 5] h h' ∧ MI h' b sd rg (max dk r) ck ∧ MK h' b o sd rg (max dk r) ∧ (∃ fn, h'.2 (b + 3) = .inl (0, 63, .inl fn))) := by
  refine CA.of (by decide) rfl (fun _ => Nat.le_of_ble_eq_true rfl) ?_
  obtain ⟨hb, hs, hrg, eb, qw0, qo0⟩ := id hM
  show AX w M_X4_aimAt 0 0 0 [.ref b, .int (nI r)] [] h _
  refine AX.aload_n (pc := 0) dX4_aimAt_0 rfl ?_
  refine AX.iload_n (pc := 1) dX4_aimAt_1 rfl ?_
  refine AX.callV (pc := 2) (M2 := M_X4_learnDarts) (As := [.int (nI r)]) (rest := []) (c_learnDarts w h r hr hn ho hR hF hM en hK) xc_X4_aimAt__X4_learnDarts gX4_aimAt_X4_learnDarts (ci := 3) rfl (lt_k hn (by omega)) eb rfl (Nat.le_of_ble_eq_true rfl) dX4_aimAt_2 ?_
  rintro _ h1 ⟨rfl, s1, m1, k1, n1⟩
  obtain ⟨y1, y2, fd, fa, x4, x5, y3, y4⟩ := id k1
  show AX w M_X4_aimAt 0 0 5 [.ref b, .int (nI r)] [] _ _
  refine AX.aload_n (pc := 5) dX4_aimAt_5 rfl ?_
  refine AX.getf (pc := 6) fX4_aimAt_32 (lt_k (s1.le hn) (by omega)) m1.2.2.2.1 rfl dX4_aimAt_6 ?_
  refine AX.iload_n (pc := 9) dX4_aimAt_9 rfl ?_
  refine AX.ialdN (pc := 10) (i := r) (v := (nI (dA_ o sd rg r))) (lt_k (s1.le hn) (by omega)) x5 (by decide) (by omega) ((y4 r hl (by omega)).2) dX4_aimAt_10 ?_
  refine AX.iret (pc := 11) dX4_aimAt_11 rfl rfl (by decide) (by decide) ?_
  exact ⟨rfl, s1, m1, k1, n1⟩
