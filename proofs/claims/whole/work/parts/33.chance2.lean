/-! ===== Mind: the chances ===== -/
theorem cmpl_not {o : Option Ordering} (h : ¬ Op.cmpValue o .l ≤ 0) : o = some .gt := by
  match o, h with
  | none, h => exact absurd (by decide) h
  | some .lt, h => exact absurd (by decide) h
  | some .eq, h => exact absurd (by decide) h
  | some .gt, _ => rfl
theorem cmpl_yes {o : Option Ordering} (h : Op.cmpValue o .l ≤ 0) : o ≠ some .gt := by
  intro q; subst q; exact absurd h (by decide)
theorem MC.ok {h : XH} {b o sd rg ck j : Nat} {fc : Nat → UInt64} (hj : j ≤ 2) (hc : ck + 1 ≤ 180) (H : MC h b o sd rg ck (j + 1)) (e : h.2 (b + 7 + j) = .inl (2, 181, .inr (.inr (.inr (.inl fc))))) : cOK o sd rg j (ck + 1) fc := by
  obtain ⟨fc', fa, e1, e2, e3⟩ := H.2.2.2.2 j (by omega)
  have q := e1.symm.trans e
  cases q
  exact fun d h1 h2 => (e3 d (by omega) (by omega)).1
theorem MC.next {h h' : XH} {b o sd rg ck j : Nat} {fc fc1 : Nat → UInt64} {fa1 : Nat → Int32} (hj : j ≤ 2) (hc : ck + 1 ≤ 180) (H : MC h b o sd rg ck (j + 1)) (hC : cOK o sd rg j (ck + 1) fc)
    (e1 : h.2 (b + 7 + (j + 1)) = .inl (2, 181, .inr (.inr (.inr (.inl fc1))))) (e2 : h.2 (b + 12 + (j + 1)) = .inl (0, 181, .inl fa1))
    (hS : Same [b + 7 + (j + 1), b + 12 + (j + 1)] h h') (x1 : h'.2 (b + 7 + (j + 1)) = .inl (2, 181, .inr (.inr (.inr (.inl (vf_upd fc1 (ck + 1) (csel (fun a => chS o sd rg fc (ck + 1) a (fC a)) 61).2))))))
    (x2 : h'.2 (b + 12 + (j + 1)) = .inl (0, 181, .inl (upd fa1 (ck + 1) (nI (csel (fun a => chS o sd rg fc (ck + 1) a (fC a)) 61).1)))) : MC h' b o sd rg ck (j + 2) := by
  have ec : csel (fun a => chS o sd rg fc (ck + 1) a (fC a)) 61 = cT o sd rg (j + 1) (ck + 1) := by
    simp only [cT, if_neg (Nat.succ_ne_zero ck)]
    exact csel_congr _ (fun a _ _ => chS_congr hC _)
  rw [ec] at x1 x2
  obtain ⟨q1, q2, q3, q4, q5⟩ := H
  refine ⟨q1, q2, q3.same hS (by simp; omega), q4.same hS (by simp; omega), fun k hk => ?_⟩
  obtain ⟨fc', fa', y1, y2, y3⟩ := q5 k hk
  by_cases z : k = j + 1
  · subst z
    have w1 := y1.symm.trans e1
    have w2 := y2.symm.trans e2
    cases w1
    cases w2
    refine ⟨_, _, x1, x2, fun r r1 r2 => ?_⟩
    by_cases zr : r = ck + 1
    · subst zr
      rw [vupd_at, upd_at]
      exact ⟨rfl, fun _ _ => rfl⟩
    · rw [vupd_off zr, upd_off zr]
      exact y3 r r1 (by omega)
  · exact ⟨fc', fa', hS.at (by simp; omega) y1, hS.at (by simp; omega) y2, fun r r1 r2 => y3 r r1 (by omega)⟩
theorem l_chooseChance (w : XW) (h : XH) {o b sd rg dk ck j : Nat} {fc fc1 : Nat → UInt64} {fa1 : Nat → Int32} (hn : 42 ≤ h.1) (hF : FA h) (hM : MI h b sd rg dk ck) (hN : iA h (b + 3) 63 (fun s => oI (nxN o (ck + 1) s))) (hMC : MC h b o sd rg ck (j + 1)) (ec : h.2 (b + 7 + j) = .inl (2, 181, .inr (.inr (.inr (.inl fc))))) (e1 : h.2 (b + 7 + (j + 1)) = .inl (2, 181, .inr (.inr (.inr (.inl fc1))))) (e2 : h.2 (b + 12 + (j + 1)) = .inl (0, 181, .inl fa1)) (hj : j ≤ 2) (hr : ck + 1 ≤ 180) (P : Option Value → XH → Prop) (hP : ∀ h', Same [b + 7 + (j + 1), b + 12 + (j + 1)] h h' → h'.2 (b + 7 + (j + 1)) = .inl (2, 181, .inr (.inr (.inr (.inl (vf_upd fc1 (ck + 1) (csel (fun a => chS o sd rg fc (ck + 1) a (fC a)) 61).2))))) → h'.2 (b + 12 + (j + 1)) = .inl (0, 181, .inl (upd fa1 (ck + 1) (nI (csel (fun a => chS o sd rg fc (ck + 1) a (fC a)) 61).1))) → P none h') : ∀ (g k : Nat), k + g = 61 → AX w M_X4_chooseChance 0 0 15 [.ref b, .int (nI (ck + 1)), .int (nI (j + 1)), .double ((csel (fun a => chS o sd rg fc (ck + 1) a (fC a)) k).2), .null, .int (nI ((csel (fun a => chS o sd rg fc (ck + 1) a (fC a)) k).1)), .int (nI (k + 2)), .null, .null] [] h P
  | 0, k, hg => by
    have e : k = 61 := by omega
    subst e
    obtain ⟨hb, hs, hrg, eb, qw0, qo0⟩ := id hM
    have hC := MC.ok hj hr hMC ec
    obtain ⟨-, -, hR6, hR11, -⟩ := id hMC
    obtain ⟨f6, e6, q6⟩ := id hR6
    obtain ⟨f11, e11, q11⟩ := id hR11
    have hbest := (csel_in (fun a => chS o sd rg fc (ck + 1) a (fC a)) 61).2.1
    refine AX.iload (pc := 15) dX4_chooseChance_15 rfl ?_
    refine AX.bipush (pc := 17) (v := nI 63) dX4_chooseChance_17 (by decide) ?_
    refine AX.icmp_geN (pc := 19) (tgt := 53) dX4_chooseChance_19 (by decide) (by decide) (by decide) (fun hc19 => ?_) (fun q => absurd q (by decide))
    refine AX.aload_n (pc := 53) dX4_chooseChance_53 rfl ?_
    refine AX.getf (pc := 54) fX4_chooseChance_37 (lt_k hn (by omega)) eb rfl dX4_chooseChance_54 ?_
    refine AX.iload_n (pc := 57) dX4_chooseChance_57 rfl ?_
    refine AX.aaldN (pc := 58) (i := j + 1) (b := b + 7 + (j + 1)) (by decide) (lt_k hn (by omega)) e6 (by decide) (by omega) (q6 _ (by omega)) dX4_chooseChance_58 ?_
    refine AX.iload_n (pc := 59) dX4_chooseChance_59 rfl ?_
    refine AX.dload_n (pc := 60) dX4_chooseChance_60 rfl ?_
    refine AX.dastN (pc := 61) (i := ck + 1) (g := vf_upd fc1 (ck + 1) ((csel (fun a => chS o sd rg fc (ck + 1) a (fC a)) 61).2)) (lt_k hn (by omega)) e1 (by decide) (by omega) rfl dX4_chooseChance_61 ?_
    refine AX.aload_n (pc := 62) dX4_chooseChance_62 rfl ?_
    refine AX.getf (pc := 63) fX4_chooseChance_42 (lt_k hn (by omega)) ((xset_ne (by omega)).trans eb) rfl dX4_chooseChance_63 ?_
    refine AX.iload_n (pc := 66) dX4_chooseChance_66 rfl ?_
    refine AX.aaldN (pc := 67) (i := j + 1) (b := b + 12 + (j + 1)) (by decide) (lt_k hn (by omega)) ((xset_ne (by omega)).trans e11) (by decide) (by omega) (q11 _ (by omega)) dX4_chooseChance_67 ?_
    refine AX.iload_n (pc := 68) dX4_chooseChance_68 rfl ?_
    refine AX.iload (pc := 69) dX4_chooseChance_69 rfl ?_
    refine AX.iastN (pc := 71) (i := ck + 1) (g := upd fa1 (ck + 1) (nI ((csel (fun a => chS o sd rg fc (ck + 1) a (fC a)) 61).1))) (lt_k hn (by omega)) ((xset_ne (by omega)).trans e2) (by decide) (by omega) rfl dX4_chooseChance_71 ?_
    refine AX.vret (pc := 72) dX4_chooseChance_72 rfl (by decide) (by decide) ?_
    exact hP _ ((Same.set Same.rf (by simp)).trans (Same.set Same.rf (by simp))) ((xset_ne (by omega)).trans (xset_same _ _ _)) (xset_same _ _ _)
  | g + 1, k, hg => by
    obtain ⟨hb, hs, hrg, eb, qw0, qo0⟩ := id hM
    have hC := MC.ok hj hr hMC ec
    obtain ⟨-, -, hR6, hR11, -⟩ := id hMC
    obtain ⟨f6, e6, q6⟩ := id hR6
    obtain ⟨f11, e11, q11⟩ := id hR11
    have hbest := (csel_in (fun a => chS o sd rg fc (ck + 1) a (fC a)) k).2.1
    have hz : csel (fun a => chS o sd rg fc (ck + 1) a (fC a)) (k + 1) = if dgt (chS o sd rg fc (ck + 1) (k + 2) (fC (k + 2))) (csel (fun a => chS o sd rg fc (ck + 1) a (fC a)) k).2 = true then (k + 2, chS o sd rg fc (ck + 1) (k + 2) (fC (k + 2))) else csel (fun a => chS o sd rg fc (ck + 1) a (fC a)) k := rfl
    have ih := l_chooseChance w h hn hF hM hN hMC ec e1 e2 hj hr P hP g (k + 1) (by omega)
    refine AX.iload (pc := 15) dX4_chooseChance_15 rfl ?_
    refine AX.bipush (pc := 17) (v := nI 63) dX4_chooseChance_17 (by decide) ?_
    refine AX.icmp_geN (pc := 19) (tgt := 53) dX4_chooseChance_19 (by decide) (by omega) (by decide) (fun q => absurd q (by omega)) (fun hc19 => ?_)
    refine AX.aload_n (pc := 22) dX4_chooseChance_22 rfl ?_
    refine AX.iload (pc := 23) dX4_chooseChance_23 rfl ?_
    refine AX.iload_n (pc := 25) dX4_chooseChance_25 rfl ?_
    refine AX.iconst (pc := 26) (v := nI 1) dX4_chooseChance_26 (by decide) ?_
    refine AX.isubN (pc := 27) (c := j) dX4_chooseChance_27 rfl ?_
    refine AX.callV (pc := 28) (M2 := M_X4_chanceBy) (As := [.int (nI (k + 2)), .int (nI j)]) (rest := []) (c_chanceBy w h hn hF hM hN hR6 ec hC hj hr (a := k + 2) (by omega) (by omega)) xc_X4_chooseChance__X4_chanceBy gX4_chooseChance_X4_chanceBy (ci := 3) rfl (lt_k hn (by omega)) eb rfl (Nat.le_of_ble_eq_true rfl) dX4_chooseChance_28 ?_
    rintro _ h9 ⟨rfl, e9⟩
    have e9 := e9.symm
    subst e9
    show AX w M_X4_chooseChance 0 0 31 [.ref b, .int (nI (ck + 1)), .int (nI (j + 1)), .double ((csel (fun a => chS o sd rg fc (ck + 1) a (fC a)) k).2), .null, .int (nI ((csel (fun a => chS o sd rg fc (ck + 1) a (fC a)) k).1)), .int (nI (k + 2)), .null, .null] [.double (chS o sd rg fc (ck + 1) (k + 2) (fC (k + 2)))] _ _
    refine AX.dstore (pc := 31) (L' := [.ref b, .int (nI (ck + 1)), .int (nI (j + 1)), .double ((csel (fun a => chS o sd rg fc (ck + 1) a (fC a)) k).2), .null, .int (nI ((csel (fun a => chS o sd rg fc (ck + 1) a (fC a)) k).1)), .int (nI (k + 2)), .double (chS o sd rg fc (ck + 1) (k + 2) (fC (k + 2))), .null]) dX4_chooseChance_31 (by decide) rfl ?_
    refine AX.dload (pc := 33) dX4_chooseChance_33 rfl ?_
    refine AX.dload_n (pc := 35) dX4_chooseChance_35 rfl ?_
    refine AX.dcmp (pc := 36) dX4_chooseChance_36 ?_
    refine AX.if_le (pc := 37) (tgt := 47) dX4_chooseChance_37 (by decide) (fun hc37 => ?_) (fun hc37 => ?_)
    · refine AX.iincN (c := k + 3) (pc := 47) (L' := [.ref b, .int (nI (ck + 1)), .int (nI (j + 1)), .double ((csel (fun a => chS o sd rg fc (ck + 1) a (fC a)) k).2), .null, .int (nI ((csel (fun a => chS o sd rg fc (ck + 1) a (fC a)) k).1)), .int (nI (k + 3)), .double (chS o sd rg fc (ck + 1) (k + 2) (fC (k + 2))), .null]) dX4_chooseChance_47 rfl (inc1 _) (by decide) rfl ?_
      refine AX.goto (pc := 50) (tgt := 15) dX4_chooseChance_50 (by decide) ?_
      have hz : csel (fun a => chS o sd rg fc (ck + 1) a (fC a)) (k + 1) = csel (fun a => chS o sd rg fc (ck + 1) a (fC a)) k := by rw [hz]; exact if_neg (fun q => cmpl_yes hc37 (of_decide_eq_true q))
      rw [hz] at ih
      refine AX.sub (L' := [.ref b, .int (nI (ck + 1)), .int (nI (j + 1)), .double ((csel (fun a => chS o sd rg fc (ck + 1) a (fC a)) k).2), .null, .int (nI ((csel (fun a => chS o sd rg fc (ck + 1) a (fC a)) k).1)), .int (nI (k + 1 + 2)), .null, .null]) ⟨Or.inr rfl, Or.inr rfl, Or.inr rfl, Or.inr rfl, Or.inl rfl, Or.inr rfl, Or.inr rfl, Or.inl rfl, Or.inl rfl, trivial⟩ ?_
      exact ih
    · refine AX.dload (pc := 40) dX4_chooseChance_40 rfl ?_
      refine AX.dstore_n (pc := 42) (L' := [.ref b, .int (nI (ck + 1)), .int (nI (j + 1)), .double (chS o sd rg fc (ck + 1) (k + 2) (fC (k + 2))), .null, .int (nI ((csel (fun a => chS o sd rg fc (ck + 1) a (fC a)) k).1)), .int (nI (k + 2)), .double (chS o sd rg fc (ck + 1) (k + 2) (fC (k + 2))), .null]) dX4_chooseChance_42 (by decide) rfl ?_
      refine AX.iload (pc := 43) dX4_chooseChance_43 rfl ?_
      refine AX.istore (pc := 45) (L' := [.ref b, .int (nI (ck + 1)), .int (nI (j + 1)), .double (chS o sd rg fc (ck + 1) (k + 2) (fC (k + 2))), .null, .int (nI (k + 2)), .int (nI (k + 2)), .double (chS o sd rg fc (ck + 1) (k + 2) (fC (k + 2))), .null]) dX4_chooseChance_45 (by decide) rfl ?_
      refine AX.iincN (c := k + 3) (pc := 47) (L' := [.ref b, .int (nI (ck + 1)), .int (nI (j + 1)), .double (chS o sd rg fc (ck + 1) (k + 2) (fC (k + 2))), .null, .int (nI (k + 2)), .int (nI (k + 3)), .double (chS o sd rg fc (ck + 1) (k + 2) (fC (k + 2))), .null]) dX4_chooseChance_47 rfl (inc1 _) (by decide) rfl ?_
      refine AX.goto (pc := 50) (tgt := 15) dX4_chooseChance_50 (by decide) ?_
      have hz : csel (fun a => chS o sd rg fc (ck + 1) a (fC a)) (k + 1) = (k + 2, chS o sd rg fc (ck + 1) (k + 2) (fC (k + 2))) := by rw [hz]; exact if_pos (decide_eq_true (cmpl_not hc37))
      rw [hz] at ih
      refine AX.sub (L' := [.ref b, .int (nI (ck + 1)), .int (nI (j + 1)), .double (chS o sd rg fc (ck + 1) (k + 2) (fC (k + 2))), .null, .int (nI (k + 2)), .int (nI (k + 1 + 2)), .null, .null]) ⟨Or.inr rfl, Or.inr rfl, Or.inr rfl, Or.inr rfl, Or.inl rfl, Or.inr rfl, Or.inr rfl, Or.inl rfl, Or.inl rfl, trivial⟩ ?_
      exact ih
theorem c_chooseChance (w : XW) (h : XH) {o b sd rg dk ck j : Nat} {fc fc1 : Nat → UInt64} {fa1 : Nat → Int32} (hn : 42 ≤ h.1) (hF : FA h) (hM : MI h b sd rg dk ck) (hN : iA h (b + 3) 63 (fun s => oI (nxN o (ck + 1) s))) (hMC : MC h b o sd rg ck (j + 1)) (ec : h.2 (b + 7 + j) = .inl (2, 181, .inr (.inr (.inr (.inl fc))))) (e1 : h.2 (b + 7 + (j + 1)) = .inl (2, 181, .inr (.inr (.inr (.inl fc1))))) (e2 : h.2 (b + 12 + (j + 1)) = .inl (0, 181, .inl fa1)) (hj : j ≤ 2) (hr : ck + 1 ≤ 180) : CA w M_X4_chooseChance [.ref b, .int (nI (ck + 1)), .int (nI (j + 1))] h (fun v h' => v = none ∧ Same [b + 7 + (j + 1), b + 12 + (j + 1)] h h' ∧ MC h' b o sd rg ck (j + 2)) := by
  refine CA.of (by decide) rfl (fun _ => Nat.le_of_ble_eq_true rfl) ?_
  obtain ⟨hb, hs, hrg, eb, qw0, qo0⟩ := id hM
  have hC := MC.ok hj hr hMC ec
  obtain ⟨-, -, hR6, hR11, -⟩ := id hMC
  obtain ⟨f6, e6, q6⟩ := id hR6
  obtain ⟨f11, e11, q11⟩ := id hR11
  show AX w M_X4_chooseChance 0 0 0 [.ref b, .int (nI (ck + 1)), .int (nI (j + 1)), .null, .null, .null, .null, .null, .null] [] h _
  refine AX.aload_n (pc := 0) dX4_chooseChance_0 rfl ?_
  refine AX.iconst (pc := 1) (v := nI 1) dX4_chooseChance_1 (by decide) ?_
  refine AX.iload_n (pc := 2) dX4_chooseChance_2 rfl ?_
  refine AX.iconst (pc := 3) (v := nI 1) dX4_chooseChance_3 (by decide) ?_
  refine AX.isubN (pc := 4) (c := j) dX4_chooseChance_4 rfl ?_
  refine AX.callV (pc := 5) (M2 := M_X4_chanceBy) (As := [.int (nI 1), .int (nI j)]) (rest := []) (c_chanceBy w h hn hF hM hN hR6 ec hC hj hr (a := 1) (by omega) (by omega)) xc_X4_chooseChance__X4_chanceBy gX4_chooseChance_X4_chanceBy (ci := 3) rfl (lt_k hn (by omega)) eb rfl (Nat.le_of_ble_eq_true rfl) dX4_chooseChance_5 ?_
  rintro _ h9 ⟨rfl, e9⟩
  have e9 := e9.symm
  subst e9
  show AX w M_X4_chooseChance 0 0 8 [.ref b, .int (nI (ck + 1)), .int (nI (j + 1)), .null, .null, .null, .null, .null, .null] [.double (chS o sd rg fc (ck + 1) 1 (fC 1))] _ _
  refine AX.dstore_n (pc := 8) (L' := [.ref b, .int (nI (ck + 1)), .int (nI (j + 1)), .double (chS o sd rg fc (ck + 1) 1 (fC 1)), .null, .null, .null, .null, .null]) dX4_chooseChance_8 (by decide) rfl ?_
  refine AX.iconst (pc := 9) (v := nI 1) dX4_chooseChance_9 (by decide) ?_
  refine AX.istore (pc := 10) (L' := [.ref b, .int (nI (ck + 1)), .int (nI (j + 1)), .double (chS o sd rg fc (ck + 1) 1 (fC 1)), .null, .int (nI 1), .null, .null, .null]) dX4_chooseChance_10 (by decide) rfl ?_
  refine AX.iconst (pc := 12) (v := nI 2) dX4_chooseChance_12 (by decide) ?_
  refine AX.istore (pc := 13) (L' := [.ref b, .int (nI (ck + 1)), .int (nI (j + 1)), .double (chS o sd rg fc (ck + 1) 1 (fC 1)), .null, .int (nI 1), .int (nI 2), .null, .null]) dX4_chooseChance_13 (by decide) rfl ?_
  exact l_chooseChance w h hn hF hM hN hMC ec e1 e2 hj hr _ (fun h' p q r => ⟨rfl, p, MC.next hj hr hMC hC e1 e2 p q r⟩) 61 0 (by omega)
theorem l_learnChances (w : XW) (P : Option Value → XH → Prop) (h0 : XH) (o b sd rg dk ck0 r : Nat) (hr : r ≤ 180) (hP : ∀ h', Same [b, b + 3, b + 8, b + 9, b + 10, b + 13, b + 14, b + 15] h0 h' → MI h' b sd rg dk (max ck0 r) → MC h' b o sd rg (max ck0 r) 1 → (∃ fn, h'.2 (b + 3) = .inl (0, 63, .inl fn)) → P none h') : ∀ (g ck : Nat) (h : XH), r - ck = g → ck0 ≤ ck → (ck ≤ r ∨ ck = ck0) → 42 ≤ h.1 → RU h o → FA h → MI h b sd rg dk ck → (∃ fn : Nat → Int32, h.2 (b + 3) = .inl (0, 63, .inl fn)) → MC h b o sd rg ck 1 → Same [b, b + 3, b + 8, b + 9, b + 10, b + 13, b + 14, b + 15] h0 h → AX w M_X4_learnChances 0 0 7 [.ref b, .int (nI r), .int (nI (ck + 1)), .null] [] h P
  | 0, ck, h, hg, hk0, hk1, hn, hR, hF, hM, hE, hK, hS => by
    obtain ⟨hb, hs, hrg, eb, qw0, qo0⟩ := id hM
    obtain ⟨fn, en⟩ := hE
    have hdk := hK.2.1
    have e : max ck0 r = ck := by omega
    refine AX.iload_n (pc := 7) dX4_learnChances_7 rfl ?_
    refine AX.iload_n (pc := 8) dX4_learnChances_8 rfl ?_
    refine AX.icmp_gtN (pc := 9) (tgt := 54) dX4_learnChances_9 (by decide) (by omega) (by omega) (fun hc9 => ?_) (fun q => absurd q (by omega))
    refine AX.vret (pc := 54) dX4_learnChances_54 rfl (by decide) (by decide) ?_
    exact hP h hS (by rw [e]; exact hM) (by rw [e]; exact hK) ⟨fn, en⟩
  | g + 1, ck, h, hg, hk0, hk1, hn, hR, hF, hM, hE, hK, hS => by
    obtain ⟨hb, hs, hrg, eb, qw0, qo0⟩ := id hM
    obtain ⟨fn, en⟩ := hE
    refine AX.iload_n (pc := 7) dX4_learnChances_7 rfl ?_
    refine AX.iload_n (pc := 8) dX4_learnChances_8 rfl ?_
    refine AX.icmp_gtN (pc := 9) (tgt := 54) dX4_learnChances_9 (by decide) (by omega) (by omega) (fun q => absurd q (by omega)) (fun hc9 => ?_)
    refine AX.aload_n (pc := 12) dX4_learnChances_12 rfl ?_
    refine AX.getf (pc := 13) fX4_learnChances_45 (lt_k hn (by omega)) eb rfl dX4_learnChances_13 ?_
    refine AX.iload_n (pc := 16) dX4_learnChances_16 rfl ?_
    refine AX.aload_n (pc := 17) dX4_learnChances_17 rfl ?_
    refine AX.getf (pc := 18) fX4_learnChances_26 (lt_k hn (by omega)) eb rfl dX4_learnChances_18 ?_
    refine AX.callV (pc := 21) (M2 := M_X9_restsBehind) (As := [.int (nI (ck + 1)), .ref (b + 3)]) (rest := []) (c_restsBehind w h hR (ck + 1) (b + 3) (by omega) (by omega) (by omega) en) xc_X4_learnChances__X9_restsBehind gX4_learnChances_X9_restsBehind (ci := 8) rfl (lt_k hn (by omega)) hR.2.1 rfl (Nat.le_of_ble_eq_true rfl) dX4_learnChances_21 ?_
    rintro _ h1 ⟨rfl, s1, n1⟩
    have M1 := hM.same s1 (by simp) (by simp) (by simp)
    have F1 := hF.same s1 (by simp; omega) (by simp; omega) (by simp; omega) (by simp; omega) (by simp; omega)
    have K1 := hK.same s1 (by simp) (by simp) (fun k hk => by simp; omega)
    have t1 := s1.le hn
    have z1 : Same [b, b + 3, b + 8, b + 9, b + 10, b + 13, b + 14, b + 15] h h1 := s1.wide (by simp)
    show AX w M_X4_learnChances 0 0 24 [.ref b, .int (nI r), .int (nI (ck + 1)), .null] [] _ _
    refine AX.iconst (pc := 24) (v := nI 1) dX4_learnChances_24 (by decide) ?_
    refine AX.istore_n (pc := 25) (L' := [.ref b, .int (nI r), .int (nI (ck + 1)), .int (nI 1)]) dX4_learnChances_25 (by decide) rfl ?_
    refine AX.iload_n (pc := 26) dX4_learnChances_26 rfl ?_
    refine AX.iconst (pc := 27) (v := nI 3) dX4_learnChances_27 (by decide) ?_
    refine AX.icmp_gtN (pc := 28) (tgt := 43) dX4_learnChances_28 (by decide) (by decide) (by decide) (fun q => absurd q (by decide)) (fun hc28 => ?_)
    obtain ⟨fc1, fa1, x1, -, -⟩ := K1.2.2.2.2 0 (by decide)
    obtain ⟨fd1, fb1, y1, v1, -⟩ := K1.2.2.2.2 (0 + 1) (by decide)
    refine AX.aload_n (pc := 31) dX4_learnChances_31 rfl ?_
    refine AX.iload_n (pc := 32) dX4_learnChances_32 rfl ?_
    refine AX.iload_n (pc := 33) dX4_learnChances_33 rfl ?_
    refine AX.callV (pc := 34) (M2 := M_X4_chooseChance) (As := [.int (nI (ck + 1)), .int (nI 1)]) (rest := []) (c_chooseChance w h1 t1 F1 M1 n1 K1 x1 y1 v1 (j := 0) (by decide) (by omega)) xc_X4_learnChances__X4_chooseChance gX4_learnChances_X4_chooseChance (ci := 3) rfl (lt_k (s1.le hn) (by omega)) M1.2.2.2.1 rfl (Nat.le_of_ble_eq_true rfl) dX4_learnChances_34 ?_
    rintro _ h2 ⟨rfl, s2, K2⟩
    have M2 := M1.same s2 (by simp <;> omega) (by simp <;> omega) (by simp <;> omega)
    have F2 := F1.same s2 (by simp <;> omega) (by simp <;> omega) (by simp <;> omega) (by simp <;> omega) (by simp <;> omega)
    have n2 := n1.same s2 (by simp <;> omega)
    have t2 := s2.le t1
    have z2 : Same [b, b + 3, b + 8, b + 9, b + 10, b + 13, b + 14, b + 15] h h2 := z1.trans (s2.wide (by simp))
    show AX w M_X4_learnChances 0 0 37 [.ref b, .int (nI r), .int (nI (ck + 1)), .int (nI 1)] [] _ _
    refine AX.iincN (c := 2) (pc := 37) (L' := [.ref b, .int (nI r), .int (nI (ck + 1)), .int (nI 2)]) dX4_learnChances_37 rfl (inc1 _) (by decide) rfl ?_
    refine AX.goto (pc := 40) (tgt := 26) dX4_learnChances_40 (by decide) ?_
    refine AX.iload_n (pc := 26) dX4_learnChances_26 rfl ?_
    refine AX.iconst (pc := 27) (v := nI 3) dX4_learnChances_27 (by decide) ?_
    refine AX.icmp_gtN (pc := 28) (tgt := 43) dX4_learnChances_28 (by decide) (by decide) (by decide) (fun q => absurd q (by decide)) (fun hc28 => ?_)
    obtain ⟨fc2, fa2, x2, -, -⟩ := K2.2.2.2.2 1 (by decide)
    obtain ⟨fd2, fb2, y2, v2, -⟩ := K2.2.2.2.2 (1 + 1) (by decide)
    refine AX.aload_n (pc := 31) dX4_learnChances_31 rfl ?_
    refine AX.iload_n (pc := 32) dX4_learnChances_32 rfl ?_
    refine AX.iload_n (pc := 33) dX4_learnChances_33 rfl ?_
    refine AX.callV (pc := 34) (M2 := M_X4_chooseChance) (As := [.int (nI (ck + 1)), .int (nI 2)]) (rest := []) (c_chooseChance w h2 t2 F2 M2 n2 K2 x2 y2 v2 (j := 1) (by decide) (by omega)) xc_X4_learnChances__X4_chooseChance gX4_learnChances_X4_chooseChance (ci := 3) rfl (lt_k t2 (by omega)) M2.2.2.2.1 rfl (Nat.le_of_ble_eq_true rfl) dX4_learnChances_34 ?_
    rintro _ h3 ⟨rfl, s3, K3⟩
    have M3 := M2.same s3 (by simp <;> omega) (by simp <;> omega) (by simp <;> omega)
    have F3 := F2.same s3 (by simp <;> omega) (by simp <;> omega) (by simp <;> omega) (by simp <;> omega) (by simp <;> omega)
    have n3 := n2.same s3 (by simp <;> omega)
    have t3 := s3.le t2
    have z3 : Same [b, b + 3, b + 8, b + 9, b + 10, b + 13, b + 14, b + 15] h h3 := z2.trans (s3.wide (by simp))
    show AX w M_X4_learnChances 0 0 37 [.ref b, .int (nI r), .int (nI (ck + 1)), .int (nI 2)] [] _ _
    refine AX.iincN (c := 3) (pc := 37) (L' := [.ref b, .int (nI r), .int (nI (ck + 1)), .int (nI 3)]) dX4_learnChances_37 rfl (inc1 _) (by decide) rfl ?_
    refine AX.goto (pc := 40) (tgt := 26) dX4_learnChances_40 (by decide) ?_
    refine AX.iload_n (pc := 26) dX4_learnChances_26 rfl ?_
    refine AX.iconst (pc := 27) (v := nI 3) dX4_learnChances_27 (by decide) ?_
    refine AX.icmp_gtN (pc := 28) (tgt := 43) dX4_learnChances_28 (by decide) (by decide) (by decide) (fun q => absurd q (by decide)) (fun hc28 => ?_)
    obtain ⟨fc3, fa3, x3, -, -⟩ := K3.2.2.2.2 2 (by decide)
    obtain ⟨fd3, fb3, y3, v3, -⟩ := K3.2.2.2.2 (2 + 1) (by decide)
    refine AX.aload_n (pc := 31) dX4_learnChances_31 rfl ?_
    refine AX.iload_n (pc := 32) dX4_learnChances_32 rfl ?_
    refine AX.iload_n (pc := 33) dX4_learnChances_33 rfl ?_
    refine AX.callV (pc := 34) (M2 := M_X4_chooseChance) (As := [.int (nI (ck + 1)), .int (nI 3)]) (rest := []) (c_chooseChance w h3 t3 F3 M3 n3 K3 x3 y3 v3 (j := 2) (by decide) (by omega)) xc_X4_learnChances__X4_chooseChance gX4_learnChances_X4_chooseChance (ci := 3) rfl (lt_k t3 (by omega)) M3.2.2.2.1 rfl (Nat.le_of_ble_eq_true rfl) dX4_learnChances_34 ?_
    rintro _ h4 ⟨rfl, s4, K4⟩
    have M4 := M3.same s4 (by simp <;> omega) (by simp <;> omega) (by simp <;> omega)
    have F4 := F3.same s4 (by simp <;> omega) (by simp <;> omega) (by simp <;> omega) (by simp <;> omega) (by simp <;> omega)
    have n4 := n3.same s4 (by simp <;> omega)
    have t4 := s4.le t3
    have z4 : Same [b, b + 3, b + 8, b + 9, b + 10, b + 13, b + 14, b + 15] h h4 := z3.trans (s4.wide (by simp))
    show AX w M_X4_learnChances 0 0 37 [.ref b, .int (nI r), .int (nI (ck + 1)), .int (nI 3)] [] _ _
    refine AX.iincN (c := 4) (pc := 37) (L' := [.ref b, .int (nI r), .int (nI (ck + 1)), .int (nI 4)]) dX4_learnChances_37 rfl (inc1 _) (by decide) rfl ?_
    refine AX.goto (pc := 40) (tgt := 26) dX4_learnChances_40 (by decide) ?_
    refine AX.iload_n (pc := 26) dX4_learnChances_26 rfl ?_
    refine AX.iconst (pc := 27) (v := nI 3) dX4_learnChances_27 (by decide) ?_
    refine AX.icmp_gtN (pc := 28) (tgt := 43) dX4_learnChances_28 (by decide) (by decide) (by decide) (fun hc28 => ?_) (fun q => absurd q (by decide))
    refine AX.aload_n (pc := 43) dX4_learnChances_43 rfl ?_
    refine AX.iload_n (pc := 44) dX4_learnChances_44 rfl ?_
    refine AX.putf (pc := 45) (fs' := [.ref 1, .ref 4, .int (nI sd), .int (nI rg), .ref (b + 1), .ref (b + 2), .ref (b + 3), .ref (b + 4), .ref (b + 5), .int (nI dk), .ref (b + 6), .ref (b + 11), .int (nI (ck + 1))]) fX4_learnChances_76 rfl (lt_k t4 (by omega)) M4.2.2.2.1 (Nat.le_of_ble_eq_true rfl) rfl rfl rfl dX4_learnChances_45 ?_
    refine AX.iincN (c := ck + 2) (pc := 48) (L' := [.ref b, .int (nI r), .int (nI (ck + 2)), .int (nI 4)]) dX4_learnChances_48 rfl (inc1 _) (by decide) rfl ?_
    refine AX.goto (pc := 51) (tgt := 7) dX4_learnChances_51 (by decide) ?_
    have s3 := z4.trans (Same.set (h0 := h4) (e := .inr (3, [.ref 1, .ref 4, .int (nI sd), .int (nI rg), .ref (b + 1), .ref (b + 2), .ref (b + 3), .ref (b + 4), .ref (b + 5), .int (nI dk), .ref (b + 6), .ref (b + 11), .int (nI (ck + 1))])) (a := b) Same.rf (by simp))
    have sx := Same.rest (a := b) (h := h4) (e := .inr (3, [.ref 1, .ref 4, .int (nI sd), .int (nI rg), .ref (b + 1), .ref (b + 2), .ref (b + 3), .ref (b + 4), .ref (b + 5), .int (nI dk), .ref (b + 6), .ref (b + 11), .int (nI (ck + 1))]))
    obtain ⟨f9, e9, -⟩ := n4
    refine AX.sub (L' := [.ref b, .int (nI r), .int (nI (ck + 1 + 1)), .null]) ⟨Or.inr rfl, Or.inr rfl, Or.inr rfl, Or.inl rfl, trivial⟩ ?_
    exact l_learnChances w P h0 o b sd rg dk ck0 r hr hP g (ck + 1) _ (by omega) (by omega) (by omega) (s3.le hn) (hR.same s3 (by simp; omega) (by simp; omega) (by simp; omega)) (hF.same s3 (by simp; omega) (by simp; omega) (by simp; omega) (by simp; omega) (by simp; omega)) ⟨hb, hs, hrg, xset_same _ _ _, M4.2.2.2.2.1.same sx (by simp), M4.2.2.2.2.2.same sx (by simp)⟩ ⟨f9, sx.at (by simp) e9⟩ ((MC.up (by omega) K4).same sx (by simp) (by simp) (fun k hk => by simp; omega)) (hS.trans s3)
theorem c_learnChances (w : XW) (h : XH) {o b sd rg dk ck : Nat} (r : Nat) (hr : r ≤ 180) (hn : 42 ≤ h.1) (hR : RU h o) (hF : FA h) (hM : MI h b sd rg dk ck) {fn : Nat → Int32} (en : h.2 (b + 3) = .inl (0, 63, .inl fn)) (hK : MC h b o sd rg ck 1) : CA w M_X4_learnChances [.ref b, .int (nI r)] h (fun v h' => v = none ∧ Same [b, b + 3, b + 8, b + 9, b + 10, b + 13, b + 14, b + 15] h h' ∧ MI h' b sd rg dk (max ck r) ∧ MC h' b o sd rg (max ck r) 1 ∧ (∃ fn, h'.2 (b + 3) = .inl (0, 63, .inl fn))) := by
  refine CA.of (by decide) rfl (fun _ => Nat.le_of_ble_eq_true rfl) ?_
  obtain ⟨hb, hs, hrg, eb, qw0, qo0⟩ := id hM
  have hdk := hK.2.1
  show AX w M_X4_learnChances 0 0 0 [.ref b, .int (nI r), .null, .null] [] h _
  refine AX.aload_n (pc := 0) dX4_learnChances_0 rfl ?_
  refine AX.getf (pc := 1) fX4_learnChances_76 (lt_k hn (by omega)) eb rfl dX4_learnChances_1 ?_
  refine AX.iconst (pc := 4) (v := nI 1) dX4_learnChances_4 (by decide) ?_
  refine AX.iaddN (pc := 5) (c := ck + 1) dX4_learnChances_5 rfl ?_
  refine AX.istore_n (pc := 6) (L' := [.ref b, .int (nI r), .int (nI (ck + 1)), .null]) dX4_learnChances_6 (by decide) rfl ?_
  exact l_learnChances w _ h o b sd rg dk ck r hr (fun h' p q r s => ⟨rfl, p, q, r, s⟩) (r - ck) ck h rfl (Nat.le_refl _) (Or.inr rfl) hn hR hF hM ⟨fn, en⟩ hK Same.rf
theorem c_chanceAt (w : XW) (h : XH) {o b sd rg dk ck : Nat} (hn : 42 ≤ h.1) (hR : RU h o) (hF : FA h) (hM : MI h b sd rg dk ck) {fn : Nat → Int32} (en : h.2 (b + 3) = .inl (0, 63, .inl fn)) (hK : MC h b o sd rg ck 1) (r k : Nat) (hr : r ≤ 180) (hk : k ≤ 3) (hl : r = 0 ∨ leN o ≤ r)  : CA w M_X4_chanceAt [.ref b, .int (nI r), .int (nI k)] h (fun v h' => v = some (.double (cN o sd rg k r)) ∧ Same [b, b + 3, b + 8, b + 9, b + 10, b + 13, b + 14, b + 15] h h' ∧ MI h' b sd rg dk (max ck r) ∧ MC h' b o sd rg (max ck r) 1 ∧ (∃ fn, h'.2 (b + 3) = .inl (0, 63, .inl fn))) := by
  refine CA.of (by decide) rfl (fun _ => Nat.le_of_ble_eq_true rfl) ?_
  obtain ⟨hb, hs, hrg, eb, qw0, qo0⟩ := id hM
  show AX w M_X4_chanceAt 0 0 0 [.ref b, .int (nI r), .int (nI k)] [] h _
  refine AX.aload_n (pc := 0) dX4_chanceAt_0 rfl ?_
  refine AX.iload_n (pc := 1) dX4_chanceAt_1 rfl ?_
  refine AX.callV (pc := 2) (M2 := M_X4_learnChances) (As := [.int (nI r)]) (rest := []) (c_learnChances w h r hr hn hR hF hM en hK) xc_X4_chanceAt__X4_learnChances gX4_chanceAt_X4_learnChances (ci := 3) rfl (lt_k hn (by omega)) eb rfl (Nat.le_of_ble_eq_true rfl) dX4_chanceAt_2 ?_
  rintro _ h1 ⟨rfl, s1, m1, k1, n1⟩
  obtain ⟨y1, y2, ⟨f6, e6, q6⟩, ⟨f11, e11, q11⟩, y5⟩ := id k1
  obtain ⟨fc, fa, x1, x2, x3⟩ := y5 k hk
  show AX w M_X4_chanceAt 0 0 5 [.ref b, .int (nI r), .int (nI k)] [] _ _
  refine AX.aload_n (pc := 5) dX4_chanceAt_5 rfl ?_
  refine AX.getf (pc := 6) fX4_chanceAt_37 (lt_k (s1.le hn) (by omega)) m1.2.2.2.1 rfl dX4_chanceAt_6 ?_
  refine AX.iload_n (pc := 9) dX4_chanceAt_9 rfl ?_
  refine AX.aaldN (pc := 10) (i := k) (b := b + 7 + k) (by decide) (lt_k (s1.le hn) (by omega)) e6 (by decide) (by omega) (q6 _ (by omega)) dX4_chanceAt_10 ?_
  refine AX.iload_n (pc := 11) dX4_chanceAt_11 rfl ?_
  refine AX.daldN (pc := 12) (i := r) (v := (cN o sd rg k r)) (lt_k (s1.le hn) (by omega)) x1 (by decide) (by omega) ((x3 r hr (by omega)).1) dX4_chanceAt_12 ?_
  refine AX.dret (pc := 13) dX4_chanceAt_13 rfl (by decide) (by decide) ?_
  exact ⟨rfl, s1, m1, k1, n1⟩
theorem c_chanceAimAt (w : XW) (h : XH) {o b sd rg dk ck : Nat} (hn : 42 ≤ h.1) (hR : RU h o) (hF : FA h) (hM : MI h b sd rg dk ck) {fn : Nat → Int32} (en : h.2 (b + 3) = .inl (0, 63, .inl fn)) (hK : MC h b o sd rg ck 1) (r k : Nat) (hr : r ≤ 180) (hk : k ≤ 3) (hl : r = 0 ∨ leN o ≤ r) (hk1 : 1 ≤ k) (hr0 : r ≠ 0) : CA w M_X4_chanceAimAt [.ref b, .int (nI r), .int (nI k)] h (fun v h' => v = some (.int (nI (cA_ o sd rg k r))) ∧ Same [b, b + 3, b + 8, b + 9, b + 10, b + 13, b + 14, b + 15] h h' ∧ MI h' b sd rg dk (max ck r) ∧ MC h' b o sd rg (max ck r) 1 ∧ (∃ fn, h'.2 (b + 3) = .inl (0, 63, .inl fn))) := by
  refine CA.of (by decide) rfl (fun _ => Nat.le_of_ble_eq_true rfl) ?_
  obtain ⟨hb, hs, hrg, eb, qw0, qo0⟩ := id hM
  show AX w M_X4_chanceAimAt 0 0 0 [.ref b, .int (nI r), .int (nI k)] [] h _
  refine AX.aload_n (pc := 0) dX4_chanceAimAt_0 rfl ?_
  refine AX.iload_n (pc := 1) dX4_chanceAimAt_1 rfl ?_
  refine AX.callV (pc := 2) (M2 := M_X4_learnChances) (As := [.int (nI r)]) (rest := []) (c_learnChances w h r hr hn hR hF hM en hK) xc_X4_chanceAimAt__X4_learnChances gX4_chanceAimAt_X4_learnChances (ci := 3) rfl (lt_k hn (by omega)) eb rfl (Nat.le_of_ble_eq_true rfl) dX4_chanceAimAt_2 ?_
  rintro _ h1 ⟨rfl, s1, m1, k1, n1⟩
  obtain ⟨y1, y2, ⟨f6, e6, q6⟩, ⟨f11, e11, q11⟩, y5⟩ := id k1
  obtain ⟨fc, fa, x1, x2, x3⟩ := y5 k hk
  show AX w M_X4_chanceAimAt 0 0 5 [.ref b, .int (nI r), .int (nI k)] [] _ _
  refine AX.aload_n (pc := 5) dX4_chanceAimAt_5 rfl ?_
  refine AX.getf (pc := 6) fX4_chanceAimAt_42 (lt_k (s1.le hn) (by omega)) m1.2.2.2.1 rfl dX4_chanceAimAt_6 ?_
  refine AX.iload_n (pc := 9) dX4_chanceAimAt_9 rfl ?_
  refine AX.aaldN (pc := 10) (i := k) (b := b + 12 + k) (by decide) (lt_k (s1.le hn) (by omega)) e11 (by decide) (by omega) (q11 _ (by omega)) dX4_chanceAimAt_10 ?_
  refine AX.iload_n (pc := 11) dX4_chanceAimAt_11 rfl ?_
  refine AX.ialdN (pc := 12) (i := r) (v := (nI (cA_ o sd rg k r))) (lt_k (s1.le hn) (by omega)) x2 (by decide) (by omega) ((x3 r hr (by omega)).2 hk1 hr0) dX4_chanceAimAt_12 ?_
  refine AX.iret (pc := 13) dX4_chanceAimAt_13 rfl rfl (by decide) (by decide) ?_
  exact ⟨rfl, s1, m1, k1, n1⟩
