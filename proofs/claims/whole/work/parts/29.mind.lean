/-! ===== Mind: the darts ===== -/
theorem vfn {a : UInt64} (h : DF a) : vf_n64 a := by
  have h1 := (FP.Core.fin_bits a).mp h
  unfold vf_n64
  rw [UInt64.le_iff_toNat_le]
  have h2 : (a &&& 0x7fffffffffffffff).toNat = a.toNat % 2 ^ 63 := FP.Core.mask_toNat a
  rw [h2]
  show _ ≤ 9218868437227405312
  omega
theorem cmpl_gt {o : Option Ordering} (h : o = some .gt) : ¬ Op.cmpValue o .l ≤ 0 := by subst h; decide
theorem cmpl_le {o : Option Ordering} (h : o ≠ some .gt) : Op.cmpValue o .l ≤ 0 := by
  match o, h with
  | none, _ => decide
  | some .lt, _ => decide
  | some .eq, _ => decide
  | some .gt, h => exact absurd rfl h
theorem cmpg_lt {o : Option Ordering} (h : ¬ 0 ≤ Op.cmpValue o .g) : o = some .lt := by
  match o, h with
  | none, h => exact absurd (by decide) h
  | some .lt, _ => rfl
  | some .eq, h => exact absurd (by decide) h
  | some .gt, h => exact absurd (by decide) h
theorem cmpg_ge {o : Option Ordering} (h : 0 ≤ Op.cmpValue o .g) : o ≠ some .lt := by
  intro q; subst q; exact absurd h (by decide)
/-- a Mind at cell b: its hand, and what that makes of each AIM -/
def MI (h : XH) (b sd rg dk ck : Nat) : Prop := (b = 10 ∨ b = 26) ∧ sd ≤ 200 ∧ rg ≤ 200 ∧ h.2 b = .inr (3, [.ref 1, .ref 4, .int (nI sd), .int (nI rg), .ref (b + 1), .ref (b + 2), .ref (b + 3), .ref (b + 4), .ref (b + 5), .int (nI dk), .ref (b + 6), .ref (b + 11), .int (nI ck)]) ∧
  iA h (b + 1) 315 (fun q => nI (wtN sd rg q)) ∧ dA h (b + 2) 315 (fun q => odW (wtN sd rg q))
theorem MI.same {S : List Nat} {h h' : XH} {b sd rg dk ck : Nat} (H : MI h b sd rg dk ck) (hs : Same S h h') (h0 : b ∉ S) (h1 : b + 1 ∉ S) (h2 : b + 2 ∉ S) : MI h' b sd rg dk ck :=
  ⟨H.1, H.2.1, H.2.2.1, hs.at h0 H.2.2.2.1, H.2.2.2.2.1.same hs h1, H.2.2.2.2.2.same hs h2⟩
/-- what it knows of DARTS and AIMS, up to dk -/
def MK (h : XH) (b o sd rg dk : Nat) : Prop := leN o ≤ dk + 1 ∧ dk ≤ 501 ∧ ∃ (fd : Nat → UInt64) (fa : Nat → Int32), h.2 (b + 4) = .inl (2, 502, .inr (.inr (.inr (.inl fd)))) ∧ h.2 (b + 5) = .inl (0, 502, .inl fa) ∧ fd 0 = FP.dconst0 ∧
  ∀ r, leN o ≤ r → r ≤ dk → fd r = dD o sd rg r ∧ fa r = nI (dA_ o sd rg r)
theorem MK.same {S : List Nat} {h h' : XH} {b o sd rg dk : Nat} (H : MK h b o sd rg dk) (hs : Same S h h') (h4 : b + 4 ∉ S) (h5 : b + 5 ∉ S) : MK h' b o sd rg dk := by
  obtain ⟨q1, q2, fd, fa, e4, e5, q3, q4⟩ := H
  exact ⟨q1, q2, fd, fa, hs.at h4 e4, hs.at h5 e5, q3, q4⟩
/-- a table that is right below r -/
def dOK (o sd rg r : Nat) (fd : Nat → UInt64) : Prop := ∀ d, d < r → (d = 0 ∨ leN o ≤ d) → fd d = dD o sd rg d
theorem dOK.val {o sd rg r : Nat} {fd : Nat → UInt64} (H : dOK o sd rg r fd) (ho : o ≤ 2) (hs : sd ≤ 200) (hr : rg ≤ 200) (h1 : r ≤ 502) : ∀ d, d < r → (d = 0 ∨ leN o ≤ d) → DF (fd d) ∧ 0 ≤ zv (fd d) ∧ zv (fd d) ≤ ((3006 : Nat) : Int) * (FP.Core.one64 : Int) := by
  intro d hd hz
  rw [H d hd hz]
  by_cases e : d = 0
  · subst e
    obtain ⟨c1, c2⟩ := dconst0_zv
    refine ⟨c1, ?_, ?_⟩
    · show 0 ≤ zv FP.dconst0
      rw [c2]; exact Int.le_refl _
    · show zv FP.dconst0 ≤ _
      rw [c2]; exact Int.mul_nonneg (by omega) (Int.le_of_lt one_posI)
  · obtain ⟨j1, j2, j3, -⟩ := dD_ok ho hs hr d (by omega) (by omega)
    refine ⟨j1, ?_, Int.le_trans j3 (Int.mul_le_mul_of_nonneg_right (by omega) (Int.le_of_lt one_posI))⟩
    have := one_posI
    generalize (FP.Core.one64 : Int) = O at *
    omega
theorem l_dartsBy (w : XW) (h : XH) {o b sd rg dk ck r a : Nat} {fd : Nat → UInt64} (hn : 42 ≤ h.1) (ho : o ≤ 2) (hF : FA h) (hM : MI h b sd rg dk ck) (hN : iA h (b + 3) 63 (fun s => oI (nxN o r s))) (ed : h.2 (b + 4) = .inl (2, 502, .inr (.inr (.inr (.inl fd))))) (hD : dOK o sd rg r fd) (h0 : 0 < r) (hr : r ≤ 501) (h1 : 1 ≤ a) (h2 : a < 63) (P : Option Value → XH → Prop) (hP : P (some (.double ((dvV o sd rg fd r a).getD FP.dconst0))) h) : ∀ (g k : Nat), k + g = fC a → AX w M_X4_dartsBy 0 0 14 [.ref b, .int (nI a), .double ((dvS o sd rg fd r a k).1), .null, .int (nI ((dvS o sd rg fd r a k).2)), .int (nI (5 * a)), .int (nI (5 * a + k)), .null, .null] [] h P
  | 0, k, hg => by
    have e : k = fC a := by omega
    subst e
    obtain ⟨hb, hs, hrg, eb, ⟨cw, dw, qw⟩, ⟨co, do_, qo⟩⟩ := id hM
    obtain ⟨cn, dn, qn⟩ := id hN
    obtain ⟨c5, d5, r5⟩ := id hF.2.1
    obtain ⟨c6, d6, r6⟩ := id hF.2.2.1
    have hc5 := fC_le a
    have hV := hD.val ho hs hrg (by omega)
    have hS := dvS_ok (o := o) (D := fd) hs hrg h1 h2 h0 (B := 3006) (by decide) hV (fC a) (Nat.le_refl _)
    rw [wTo_all hs hrg h1 h2] at hS
    refine AX.iload (pc := 14) dX4_dartsBy_14 rfl ?_
    refine AX.iload (pc := 16) dX4_dartsBy_16 rfl ?_
    refine AX.aload_n (pc := 18) dX4_dartsBy_18 rfl ?_
    refine AX.getf (pc := 19) fX4_dartsBy_49 (lt_k hn (by omega)) eb rfl dX4_dartsBy_19 ?_
    refine AX.getf (pc := 22) fX4_dartsBy_94 (lt_k hn (by omega)) hF.1 rfl dX4_dartsBy_22 ?_
    refine AX.iload_n (pc := 25) dX4_dartsBy_25 rfl ?_
    refine AX.ialdN (pc := 26) (i := a) (v := (nI (fC a))) (lt_k hn (by omega)) d5 (by decide) (by omega) (r5 _ h2) dX4_dartsBy_26 ?_
    refine AX.iaddN (pc := 27) (c := 5 * a + (fC a)) dX4_dartsBy_27 rfl ?_
    refine AX.icmp_geN (pc := 28) (tgt := 103) dX4_dartsBy_28 (by decide) (by omega) (by omega) (fun hc28 => ?_) (fun q => absurd q (by omega))
    refine AX.iload (pc := 103) dX4_dartsBy_103 rfl ?_
    refine AX.sipush (pc := 105) (v := nI 1000) dX4_dartsBy_105 (by decide) ?_
    refine AX.icmp_ltN (pc := 108) (tgt := 113) dX4_dartsBy_108 (by decide) (by omega) (by decide) (fun hc108 => ?_) (fun hc108 => ?_)
    · refine AX.dload_n (pc := 113) dX4_dartsBy_113 rfl ?_
      refine AX.sipush (pc := 114) (v := nI 1000) dX4_dartsBy_114 (by decide) ?_
      refine AX.iload (pc := 117) dX4_dartsBy_117 rfl ?_
      refine AX.isubN (pc := 119) (c := 1000 - (dvS o sd rg fd r a (fC a)).2) dX4_dartsBy_119 (by omega) ?_
      refine AX.i2d (pc := 120) dX4_dartsBy_120 ?_
      refine AX.ldc2d (pc := 121) (v := 4652007308841189376) dX4_dartsBy_121 cX4_dartsBy_65 ?_
      refine AX.ddiv (pc := 124) dX4_dartsBy_124 (vfn (odW_zv (x := 1000 - (dvS o sd rg fd r a (fC a)).2) (by omega)).1) ?_
      refine AX.topd (y := odW (1000 - (dvS o sd rg fd r a (fC a)).2)) rfl ?_
      refine AX.ddiv (pc := 125) dX4_dartsBy_125 (vfn (dvV_ok (v := FP.ddiv (dvS o sd rg fd r a (fC a)).1 (odW (1000 - (dvS o sd rg fd r a (fC a)).2))) hs hrg h1 h2 h0 (B := 3006) (by decide) hV (by unfold dvV; rw [if_neg (by omega)])).1) ?_
      refine AX.dret (pc := 126) dX4_dartsBy_126 rfl (by decide) (by decide) ?_
      have e : (dvV o sd rg fd r a).getD FP.dconst0 = FP.ddiv ((dvS o sd rg fd r a (fC a)).1) (odW (1000 - (dvS o sd rg fd r a (fC a)).2)) := by unfold dvV; rw [if_neg (by omega)]; rfl
      rw [e] at hP
      exact hP
    · refine AX.dconst0 (pc := 111) dX4_dartsBy_111 ?_
      refine AX.dret (pc := 112) dX4_dartsBy_112 rfl (by decide) (by decide) ?_
      have e : (dvV o sd rg fd r a).getD FP.dconst0 = FP.dconst0 := by unfold dvV; rw [if_pos hc108]; rfl
      rw [e] at hP
      exact hP
  | g + 1, k, hg => by
    obtain ⟨hb, hs, hrg, eb, ⟨cw, dw, qw⟩, ⟨co, do_, qo⟩⟩ := id hM
    obtain ⟨cn, dn, qn⟩ := id hN
    obtain ⟨c5, d5, r5⟩ := id hF.2.1
    obtain ⟨c6, d6, r6⟩ := id hF.2.2.1
    have hc5 := fC_le a
    have hV := hD.val ho hs hrg (by omega)
    have h63 := fS_lt (5 * a + k) (by omega)
    have hwt := wt_le (sd := sd) (rg := rg) (q := 5 * a + k) hs hrg (by omega)
    have hS := dvS_ok (o := o) (D := fd) hs hrg h1 h2 h0 (B := 3006) (by decide) hV k (by omega)
    have hS1 := dvS_ok (o := o) (D := fd) hs hrg h1 h2 h0 (B := 3006) (by decide) hV (k + 1) (by omega)
    have hmo := wTo_mono sd rg a (k := k) (j := fC a) (by omega)
    rw [wTo_all hs hrg h1 h2] at hmo
    have hz : dvS o sd rg fd r a (k + 1) = match nxN o r (fS (5 * a + k)) with
      | none => ((dvS o sd rg fd r a k).1, (dvS o sd rg fd r a k).2 + wtN sd rg (5 * a + k))
      | some d => if fS (5 * a + k) = 0 then ((dvS o sd rg fd r a k).1, (dvS o sd rg fd r a k).2 + wtN sd rg (5 * a + k)) else (FP.dadd (dvS o sd rg fd r a k).1 (FP.dmul (odW (wtN sd rg (5 * a + k))) (fd d)), (dvS o sd rg fd r a k).2) := rfl
    have ih := l_dartsBy w h hn ho hF hM hN ed hD h0 hr h1 h2 P hP g (k + 1) (by omega)
    cases hx : nxN o r (fS (5 * a + k)) with
    | none =>
      rw [hx] at hz
      rw [hz] at ih
      refine AX.iload (pc := 14) dX4_dartsBy_14 rfl ?_
      refine AX.iload (pc := 16) dX4_dartsBy_16 rfl ?_
      refine AX.aload_n (pc := 18) dX4_dartsBy_18 rfl ?_
      refine AX.getf (pc := 19) fX4_dartsBy_49 (lt_k hn (by omega)) eb rfl dX4_dartsBy_19 ?_
      refine AX.getf (pc := 22) fX4_dartsBy_94 (lt_k hn (by omega)) hF.1 rfl dX4_dartsBy_22 ?_
      refine AX.iload_n (pc := 25) dX4_dartsBy_25 rfl ?_
      refine AX.ialdN (pc := 26) (i := a) (v := (nI (fC a))) (lt_k hn (by omega)) d5 (by decide) (by omega) (r5 _ h2) dX4_dartsBy_26 ?_
      refine AX.iaddN (pc := 27) (c := 5 * a + (fC a)) dX4_dartsBy_27 rfl ?_
      refine AX.icmp_geN (pc := 28) (tgt := 103) dX4_dartsBy_28 (by decide) (by omega) (by omega) (fun q => absurd q (by omega)) (fun hc28 => ?_)
      refine AX.aload_n (pc := 31) dX4_dartsBy_31 rfl ?_
      refine AX.getf (pc := 32) fX4_dartsBy_49 (lt_k hn (by omega)) eb rfl dX4_dartsBy_32 ?_
      refine AX.getf (pc := 35) fX4_dartsBy_97 (lt_k hn (by omega)) hF.1 rfl dX4_dartsBy_35 ?_
      refine AX.iload (pc := 38) dX4_dartsBy_38 rfl ?_
      refine AX.ialdN (pc := 40) (i := 5 * a + k) (v := (nI (fS (5 * a + k)))) (lt_k hn (by omega)) d6 (by decide) (by omega) (r6 _ (by omega)) dX4_dartsBy_40 ?_
      refine AX.istore (pc := 41) (L' := [.ref b, .int (nI a), .double ((dvS o sd rg fd r a k).1), .null, .int (nI ((dvS o sd rg fd r a k).2)), .int (nI (5 * a)), .int (nI (5 * a + k)), .int (nI (fS (5 * a + k))), .null]) dX4_dartsBy_41 (by decide) rfl ?_
      refine AX.aload_n (pc := 43) dX4_dartsBy_43 rfl ?_
      refine AX.getf (pc := 44) fX4_dartsBy_26 (lt_k hn (by omega)) eb rfl dX4_dartsBy_44 ?_
      refine AX.iload (pc := 47) dX4_dartsBy_47 rfl ?_
      refine AX.ialdN (pc := 49) (i := fS (5 * a + k)) (v := (-5)) (lt_k hn (by omega)) dn (by decide) h63 ((qn _ h63).trans (by show oI (nxN o r (fS (5 * a + k))) = _; rw [hx]; rfl)) dX4_dartsBy_49 ?_
      refine AX.istore (pc := 50) (L' := [.ref b, .int (nI a), .double ((dvS o sd rg fd r a k).1), .null, .int (nI ((dvS o sd rg fd r a k).2)), .int (nI (5 * a)), .int (nI (5 * a + k)), .int (nI (fS (5 * a + k))), .int (-5)]) dX4_dartsBy_50 (by decide) rfl ?_
      refine AX.iload (pc := 52) dX4_dartsBy_52 rfl ?_
      refine AX.bipush (pc := 54) (v := (-5)) dX4_dartsBy_54 (by decide) ?_
      refine AX.icmp_eq (pc := 56) (tgt := 64) dX4_dartsBy_56 (by decide) (fun hc56 => ?_) (fun q => absurd rfl q)
      refine AX.iload (pc := 64) dX4_dartsBy_64 rfl ?_
      refine AX.aload_n (pc := 66) dX4_dartsBy_66 rfl ?_
      refine AX.getf (pc := 67) fX4_dartsBy_18 (lt_k hn (by omega)) eb rfl dX4_dartsBy_67 ?_
      refine AX.iload (pc := 70) dX4_dartsBy_70 rfl ?_
      refine AX.ialdN (pc := 72) (i := 5 * a + k) (v := (nI (wtN sd rg (5 * a + k)))) (lt_k hn (by omega)) dw (by decide) (by omega) (qw _ (by omega)) dX4_dartsBy_72 ?_
      refine AX.iaddN (pc := 73) (c := (dvS o sd rg fd r a k).2 + (wtN sd rg (5 * a + k))) dX4_dartsBy_73 rfl ?_
      refine AX.istore (pc := 74) (L' := [.ref b, .int (nI a), .double ((dvS o sd rg fd r a k).1), .null, .int (nI ((dvS o sd rg fd r a k).2 + (wtN sd rg (5 * a + k)))), .int (nI (5 * a)), .int (nI (5 * a + k)), .int (nI (fS (5 * a + k))), .int (-5)]) dX4_dartsBy_74 (by decide) rfl ?_
      refine AX.goto (pc := 76) (tgt := 97) dX4_dartsBy_76 (by decide) ?_
      refine AX.iincN (c := 5 * a + k + 1) (pc := 97) (L' := [.ref b, .int (nI a), .double ((dvS o sd rg fd r a k).1), .null, .int (nI ((dvS o sd rg fd r a k).2 + (wtN sd rg (5 * a + k)))), .int (nI (5 * a)), .int (nI (5 * a + k + 1)), .int (nI (fS (5 * a + k))), .int (-5)]) dX4_dartsBy_97 rfl (inc1 _) (by decide) rfl ?_
      refine AX.goto (pc := 100) (tgt := 14) dX4_dartsBy_100 (by decide) ?_
      refine AX.sub (L' := [.ref b, .int (nI a), .double ((dvS o sd rg fd r a k).1), .null, .int (nI ((dvS o sd rg fd r a k).2 + (wtN sd rg (5 * a + k)))), .int (nI (5 * a)), .int (nI (5 * a + (k + 1))), .null, .null]) ⟨Or.inr rfl, Or.inr rfl, Or.inr rfl, Or.inl rfl, Or.inr rfl, Or.inr rfl, Or.inr rfl, Or.inl rfl, Or.inl rfl, trivial⟩ ?_
      exact ih
    | some d =>
      have hd := nxN_eq hx
      rw [hx] at hz
      by_cases hf0 : fS (5 * a + k) = 0
      · have hz : dvS o sd rg fd r a (k + 1) = ((dvS o sd rg fd r a k).1, (dvS o sd rg fd r a k).2 + wtN sd rg (5 * a + k)) := by rw [hz]; exact if_pos hf0
        rw [hz] at ih
        refine AX.iload (pc := 14) dX4_dartsBy_14 rfl ?_
        refine AX.iload (pc := 16) dX4_dartsBy_16 rfl ?_
        refine AX.aload_n (pc := 18) dX4_dartsBy_18 rfl ?_
        refine AX.getf (pc := 19) fX4_dartsBy_49 (lt_k hn (by omega)) eb rfl dX4_dartsBy_19 ?_
        refine AX.getf (pc := 22) fX4_dartsBy_94 (lt_k hn (by omega)) hF.1 rfl dX4_dartsBy_22 ?_
        refine AX.iload_n (pc := 25) dX4_dartsBy_25 rfl ?_
        refine AX.ialdN (pc := 26) (i := a) (v := (nI (fC a))) (lt_k hn (by omega)) d5 (by decide) (by omega) (r5 _ h2) dX4_dartsBy_26 ?_
        refine AX.iaddN (pc := 27) (c := 5 * a + (fC a)) dX4_dartsBy_27 rfl ?_
        refine AX.icmp_geN (pc := 28) (tgt := 103) dX4_dartsBy_28 (by decide) (by omega) (by omega) (fun q => absurd q (by omega)) (fun hc28 => ?_)
        refine AX.aload_n (pc := 31) dX4_dartsBy_31 rfl ?_
        refine AX.getf (pc := 32) fX4_dartsBy_49 (lt_k hn (by omega)) eb rfl dX4_dartsBy_32 ?_
        refine AX.getf (pc := 35) fX4_dartsBy_97 (lt_k hn (by omega)) hF.1 rfl dX4_dartsBy_35 ?_
        refine AX.iload (pc := 38) dX4_dartsBy_38 rfl ?_
        refine AX.ialdN (pc := 40) (i := 5 * a + k) (v := (nI (fS (5 * a + k)))) (lt_k hn (by omega)) d6 (by decide) (by omega) (r6 _ (by omega)) dX4_dartsBy_40 ?_
        refine AX.istore (pc := 41) (L' := [.ref b, .int (nI a), .double ((dvS o sd rg fd r a k).1), .null, .int (nI ((dvS o sd rg fd r a k).2)), .int (nI (5 * a)), .int (nI (5 * a + k)), .int (nI (fS (5 * a + k))), .null]) dX4_dartsBy_41 (by decide) rfl ?_
        refine AX.aload_n (pc := 43) dX4_dartsBy_43 rfl ?_
        refine AX.getf (pc := 44) fX4_dartsBy_26 (lt_k hn (by omega)) eb rfl dX4_dartsBy_44 ?_
        refine AX.iload (pc := 47) dX4_dartsBy_47 rfl ?_
        refine AX.ialdN (pc := 49) (i := fS (5 * a + k)) (v := (nI d)) (lt_k hn (by omega)) dn (by decide) h63 ((qn _ h63).trans (by show oI (nxN o r (fS (5 * a + k))) = _; rw [hx]; rfl)) dX4_dartsBy_49 ?_
        refine AX.istore (pc := 50) (L' := [.ref b, .int (nI a), .double ((dvS o sd rg fd r a k).1), .null, .int (nI ((dvS o sd rg fd r a k).2)), .int (nI (5 * a)), .int (nI (5 * a + k)), .int (nI (fS (5 * a + k))), .int (nI d)]) dX4_dartsBy_50 (by decide) rfl ?_
        refine AX.iload (pc := 52) dX4_dartsBy_52 rfl ?_
        refine AX.bipush (pc := 54) (v := (-5)) dX4_dartsBy_54 (by decide) ?_
        refine AX.icmp_eq (pc := 56) (tgt := 64) dX4_dartsBy_56 (by decide) (fun q => absurd q (nI_m5 (by omega))) (fun hc56 => ?_)
        refine AX.iload (pc := 59) dX4_dartsBy_59 rfl ?_
        refine AX.if_neN (pc := 61) (tgt := 79) dX4_dartsBy_61 (by decide) (by omega) (fun q => absurd q (by omega)) (fun hc61 => ?_)
        refine AX.iload (pc := 64) dX4_dartsBy_64 rfl ?_
        refine AX.aload_n (pc := 66) dX4_dartsBy_66 rfl ?_
        refine AX.getf (pc := 67) fX4_dartsBy_18 (lt_k hn (by omega)) eb rfl dX4_dartsBy_67 ?_
        refine AX.iload (pc := 70) dX4_dartsBy_70 rfl ?_
        refine AX.ialdN (pc := 72) (i := 5 * a + k) (v := (nI (wtN sd rg (5 * a + k)))) (lt_k hn (by omega)) dw (by decide) (by omega) (qw _ (by omega)) dX4_dartsBy_72 ?_
        refine AX.iaddN (pc := 73) (c := (dvS o sd rg fd r a k).2 + (wtN sd rg (5 * a + k))) dX4_dartsBy_73 rfl ?_
        refine AX.istore (pc := 74) (L' := [.ref b, .int (nI a), .double ((dvS o sd rg fd r a k).1), .null, .int (nI ((dvS o sd rg fd r a k).2 + (wtN sd rg (5 * a + k)))), .int (nI (5 * a)), .int (nI (5 * a + k)), .int (nI (fS (5 * a + k))), .int (nI d)]) dX4_dartsBy_74 (by decide) rfl ?_
        refine AX.goto (pc := 76) (tgt := 97) dX4_dartsBy_76 (by decide) ?_
        refine AX.iincN (c := 5 * a + k + 1) (pc := 97) (L' := [.ref b, .int (nI a), .double ((dvS o sd rg fd r a k).1), .null, .int (nI ((dvS o sd rg fd r a k).2 + (wtN sd rg (5 * a + k)))), .int (nI (5 * a)), .int (nI (5 * a + k + 1)), .int (nI (fS (5 * a + k))), .int (nI d)]) dX4_dartsBy_97 rfl (inc1 _) (by decide) rfl ?_
        refine AX.goto (pc := 100) (tgt := 14) dX4_dartsBy_100 (by decide) ?_
        refine AX.sub (L' := [.ref b, .int (nI a), .double ((dvS o sd rg fd r a k).1), .null, .int (nI ((dvS o sd rg fd r a k).2 + (wtN sd rg (5 * a + k)))), .int (nI (5 * a)), .int (nI (5 * a + (k + 1))), .null, .null]) ⟨Or.inr rfl, Or.inr rfl, Or.inr rfl, Or.inl rfl, Or.inr rfl, Or.inr rfl, Or.inr rfl, Or.inl rfl, Or.inl rfl, trivial⟩ ?_
        exact ih
      · have hsc : 0 < scN (fS (5 * a + k)) := by
          have : ∀ s, s < 63 → s ≠ 0 → 0 < scN s := by decide
          exact this _ h63 hf0
        have hz : dvS o sd rg fd r a (k + 1) = (FP.dadd (dvS o sd rg fd r a k).1 (FP.dmul (odW (wtN sd rg (5 * a + k))) (fd d)), (dvS o sd rg fd r a k).2) := by rw [hz]; exact if_neg hf0
        rw [hz] at ih hS1
        obtain ⟨v1, v2, v3⟩ := hV d (by omega) (by unfold leN; split <;> omega)
        refine AX.iload (pc := 14) dX4_dartsBy_14 rfl ?_
        refine AX.iload (pc := 16) dX4_dartsBy_16 rfl ?_
        refine AX.aload_n (pc := 18) dX4_dartsBy_18 rfl ?_
        refine AX.getf (pc := 19) fX4_dartsBy_49 (lt_k hn (by omega)) eb rfl dX4_dartsBy_19 ?_
        refine AX.getf (pc := 22) fX4_dartsBy_94 (lt_k hn (by omega)) hF.1 rfl dX4_dartsBy_22 ?_
        refine AX.iload_n (pc := 25) dX4_dartsBy_25 rfl ?_
        refine AX.ialdN (pc := 26) (i := a) (v := (nI (fC a))) (lt_k hn (by omega)) d5 (by decide) (by omega) (r5 _ h2) dX4_dartsBy_26 ?_
        refine AX.iaddN (pc := 27) (c := 5 * a + (fC a)) dX4_dartsBy_27 rfl ?_
        refine AX.icmp_geN (pc := 28) (tgt := 103) dX4_dartsBy_28 (by decide) (by omega) (by omega) (fun q => absurd q (by omega)) (fun hc28 => ?_)
        refine AX.aload_n (pc := 31) dX4_dartsBy_31 rfl ?_
        refine AX.getf (pc := 32) fX4_dartsBy_49 (lt_k hn (by omega)) eb rfl dX4_dartsBy_32 ?_
        refine AX.getf (pc := 35) fX4_dartsBy_97 (lt_k hn (by omega)) hF.1 rfl dX4_dartsBy_35 ?_
        refine AX.iload (pc := 38) dX4_dartsBy_38 rfl ?_
        refine AX.ialdN (pc := 40) (i := 5 * a + k) (v := (nI (fS (5 * a + k)))) (lt_k hn (by omega)) d6 (by decide) (by omega) (r6 _ (by omega)) dX4_dartsBy_40 ?_
        refine AX.istore (pc := 41) (L' := [.ref b, .int (nI a), .double ((dvS o sd rg fd r a k).1), .null, .int (nI ((dvS o sd rg fd r a k).2)), .int (nI (5 * a)), .int (nI (5 * a + k)), .int (nI (fS (5 * a + k))), .null]) dX4_dartsBy_41 (by decide) rfl ?_
        refine AX.aload_n (pc := 43) dX4_dartsBy_43 rfl ?_
        refine AX.getf (pc := 44) fX4_dartsBy_26 (lt_k hn (by omega)) eb rfl dX4_dartsBy_44 ?_
        refine AX.iload (pc := 47) dX4_dartsBy_47 rfl ?_
        refine AX.ialdN (pc := 49) (i := fS (5 * a + k)) (v := (nI d)) (lt_k hn (by omega)) dn (by decide) h63 ((qn _ h63).trans (by show oI (nxN o r (fS (5 * a + k))) = _; rw [hx]; rfl)) dX4_dartsBy_49 ?_
        refine AX.istore (pc := 50) (L' := [.ref b, .int (nI a), .double ((dvS o sd rg fd r a k).1), .null, .int (nI ((dvS o sd rg fd r a k).2)), .int (nI (5 * a)), .int (nI (5 * a + k)), .int (nI (fS (5 * a + k))), .int (nI d)]) dX4_dartsBy_50 (by decide) rfl ?_
        refine AX.iload (pc := 52) dX4_dartsBy_52 rfl ?_
        refine AX.bipush (pc := 54) (v := (-5)) dX4_dartsBy_54 (by decide) ?_
        refine AX.icmp_eq (pc := 56) (tgt := 64) dX4_dartsBy_56 (by decide) (fun q => absurd q (nI_m5 (by omega))) (fun hc56 => ?_)
        refine AX.iload (pc := 59) dX4_dartsBy_59 rfl ?_
        refine AX.if_neN (pc := 61) (tgt := 79) dX4_dartsBy_61 (by decide) (by omega) (fun hc61 => ?_) (fun q => absurd q (by omega))
        refine AX.dload_n (pc := 79) dX4_dartsBy_79 rfl ?_
        refine AX.aload_n (pc := 80) dX4_dartsBy_80 rfl ?_
        refine AX.getf (pc := 81) fX4_dartsBy_22 (lt_k hn (by omega)) eb rfl dX4_dartsBy_81 ?_
        refine AX.iload (pc := 84) dX4_dartsBy_84 rfl ?_
        refine AX.daldN (pc := 86) (i := 5 * a + k) (v := (odW (wtN sd rg (5 * a + k)))) (lt_k hn (by omega)) do_ (by decide) (by omega) (qo _ (by omega)) dX4_dartsBy_86 ?_
        refine AX.aload_n (pc := 87) dX4_dartsBy_87 rfl ?_
        refine AX.getf (pc := 88) fX4_dartsBy_29 (lt_k hn (by omega)) eb rfl dX4_dartsBy_88 ?_
        refine AX.iload (pc := 91) dX4_dartsBy_91 rfl ?_
        refine AX.daldN (pc := 93) (i := d) (v := (fd d)) (lt_k hn (by omega)) ed (by decide) (by omega) rfl dX4_dartsBy_93 ?_
        refine AX.dmul (pc := 94) dX4_dartsBy_94 (vfn (odd_mul hwt v1 (B := 3006) (by decide) v2 v3).1) ?_
        refine AX.dadd (pc := 95) dX4_dartsBy_95 (vfn hS1.1) ?_
        refine AX.dstore_n (pc := 96) (L' := [.ref b, .int (nI a), .double (FP.dadd ((dvS o sd rg fd r a k).1) (FP.dmul (odW (wtN sd rg (5 * a + k))) (fd d))), .null, .int (nI ((dvS o sd rg fd r a k).2)), .int (nI (5 * a)), .int (nI (5 * a + k)), .int (nI (fS (5 * a + k))), .int (nI d)]) dX4_dartsBy_96 (by decide) rfl ?_
        refine AX.iincN (c := 5 * a + k + 1) (pc := 97) (L' := [.ref b, .int (nI a), .double (FP.dadd ((dvS o sd rg fd r a k).1) (FP.dmul (odW (wtN sd rg (5 * a + k))) (fd d))), .null, .int (nI ((dvS o sd rg fd r a k).2)), .int (nI (5 * a)), .int (nI (5 * a + k + 1)), .int (nI (fS (5 * a + k))), .int (nI d)]) dX4_dartsBy_97 rfl (inc1 _) (by decide) rfl ?_
        refine AX.goto (pc := 100) (tgt := 14) dX4_dartsBy_100 (by decide) ?_
        refine AX.sub (L' := [.ref b, .int (nI a), .double (FP.dadd ((dvS o sd rg fd r a k).1) (FP.dmul (odW (wtN sd rg (5 * a + k))) (fd d))), .null, .int (nI ((dvS o sd rg fd r a k).2)), .int (nI (5 * a)), .int (nI (5 * a + (k + 1))), .null, .null]) ⟨Or.inr rfl, Or.inr rfl, Or.inr rfl, Or.inl rfl, Or.inr rfl, Or.inr rfl, Or.inr rfl, Or.inl rfl, Or.inl rfl, trivial⟩ ?_
        exact ih
theorem c_dartsBy (w : XW) (h : XH) {o b sd rg dk ck r a : Nat} {fd : Nat → UInt64} (hn : 42 ≤ h.1) (ho : o ≤ 2) (hF : FA h) (hM : MI h b sd rg dk ck) (hN : iA h (b + 3) 63 (fun s => oI (nxN o r s))) (ed : h.2 (b + 4) = .inl (2, 502, .inr (.inr (.inr (.inl fd))))) (hD : dOK o sd rg r fd) (h0 : 0 < r) (hr : r ≤ 501) (h1 : 1 ≤ a) (h2 : a < 63) : CA w M_X4_dartsBy [.ref b, .int (nI a)] h (fun v' h'' => v' = some (.double ((dvV o sd rg fd r a).getD FP.dconst0)) ∧ h'' = h) := by
  refine CA.of (by decide) rfl (fun _ => Nat.le_of_ble_eq_true rfl) ?_
  show AX w M_X4_dartsBy 0 0 0 [.ref b, .int (nI a), .null, .null, .null, .null, .null, .null, .null] [] h _
  refine AX.dconst1 (pc := 0) dX4_dartsBy_0 ?_
  refine AX.dstore_n (pc := 1) (L' := [.ref b, .int (nI a), .double FP.dconst1, .null, .null, .null, .null, .null, .null]) dX4_dartsBy_1 (by decide) rfl ?_
  refine AX.iconst (pc := 2) (v := nI 0) dX4_dartsBy_2 (by decide) ?_
  refine AX.istore (pc := 3) (L' := [.ref b, .int (nI a), .double FP.dconst1, .null, .int (nI 0), .null, .null, .null, .null]) dX4_dartsBy_3 (by decide) rfl ?_
  refine AX.iload_n (pc := 5) dX4_dartsBy_5 rfl ?_
  refine AX.iconst (pc := 6) (v := nI 5) dX4_dartsBy_6 (by decide) ?_
  refine AX.imul (pc := 7) dX4_dartsBy_7 ?_
  refine AX.topi (y := (nI (5 * a))) (by rw [pk_mul, Nat.mul_comm]) ?_
  refine AX.istore (pc := 8) (L' := [.ref b, .int (nI a), .double FP.dconst1, .null, .int (nI 0), .int (nI (5 * a)), .null, .null, .null]) dX4_dartsBy_8 (by decide) rfl ?_
  refine AX.iload (pc := 10) dX4_dartsBy_10 rfl ?_
  refine AX.istore (pc := 12) (L' := [.ref b, .int (nI a), .double FP.dconst1, .null, .int (nI 0), .int (nI (5 * a)), .int (nI (5 * a)), .null, .null]) dX4_dartsBy_12 (by decide) rfl ?_
  exact l_dartsBy w h hn ho hF hM hN ed hD h0 hr h1 h2 _ ⟨rfl, rfl⟩ (fC a) 0 (by omega)
