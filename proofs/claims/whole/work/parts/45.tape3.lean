/-! ===== THE TAPE: the PATH ===== -/
def ptN (y : Nat → Nat) (l : Nat) : Nat → Nat → List Nat → Nat ⊕ List Nat
  | 0, a, _ => .inl (a - 1)
  | g + 1, a, X => match psN y l a with
    | .inl k => .inl k
    | .inr (n, s) => if l ≤ a + n then .inr (X ++ [s]) else if y (a + n) = 32 then ptN y l g (a + n + 1) (X ++ [s]) else .inl (a + n)
def ptR (h' : XH) (l : Nat) (y : Nat → Nat) (v : Option Value) (R : Nat ⊕ List Nat) : Prop := match R with
  | .inl k => v = some (.int (nI k)) ∧ ∃ a X, TP h' l y a X
  | .inr X => v = some (.int (-1)) ∧ ∃ a, TP h' l y a X
theorem nI_m1 {k : Nat} (h : k < 1000000) : ¬ nI k = -1 := by
  intro e
  have := congrArg Int32.toInt e
  rw [nI_toInt (by omega)] at this
  have h2 : (-1 : Int32).toInt = -1 := by decide
  omega
theorem l_path (w : XW) (P : Option Value → XH → Prop) (h0 : XH) {l : Nat} {y : Nat → Nat} (R : Nat ⊕ List Nat) (hP : ∀ v h', Same [72, 74] h0 h' → ptR h' l y v R → P v h') : ∀ (g i a : Nat) (X : List Nat) (h : XH), i + g = 12 → X.length = i → a ≤ l → (i = 0 ∨ 1 ≤ a) → 75 ≤ h.1 → TP h l y a X → ptN y l g a X = R → Same [72, 74] h0 h → AX w M_X10_faultOfPath 0 0 12 [.ref 72, .int (nI i), .null] [] h P
  | 0, i, a, X, h, hg, hi, ha, ha1, hn, hT, hR, hS => by
    obtain ⟨-, hl60, hX12, ⟨f, e73, qf⟩, s0_, e74, qs⟩ := id hT
    have e : i = 12 := by omega
    rw [e]
    refine AX.iload_n (pc := 12) dX10_faultOfPath_12 rfl ?_
    refine AX.bipush (pc := 13) (v := nI 12) dX10_faultOfPath_13 (by decide) ?_
    refine AX.icmp_geN (pc := 15) (tgt := 78) dX10_faultOfPath_15 (by decide) (by decide) (by decide) (fun hc15 => ?_) (fun q => absurd q (by decide))
    refine AX.aload_n (pc := 78) dX10_faultOfPath_78 rfl ?_
    refine AX.getf (pc := 79) fX10_faultOfPath_26 (lt_k hn (by omega)) hT.1 rfl dX10_faultOfPath_79 ?_
    refine AX.iconst (pc := 82) (v := nI 1) dX10_faultOfPath_82 (by decide) ?_
    refine AX.isubN (pc := 83) (c := a - 1) dX10_faultOfPath_83 (by omega) ?_
    refine AX.iret (pc := 84) dX10_faultOfPath_84 rfl rfl (by decide) (by decide) ?_
    refine hP _ h hS ?_
    rw [← hR]
    exact ⟨rfl, a, X, hT⟩
  | g + 1, i, a, X, h, hg, hi, ha, ha1, hn, hT, hR, hS => by
    obtain ⟨-, hl60, hX12, ⟨f, e73, qf⟩, s0_, e74, qs⟩ := id hT
    have hz : ptN y l (g + 1) a X = match psN y l a with
      | .inl k => .inl k
      | .inr (n, s) => if l ≤ a + n then .inr (X ++ [s]) else if y (a + n) = 32 then ptN y l g (a + n + 1) (X ++ [s]) else .inl (a + n) := rfl
    have hle := psN_le (y := y) (l := l) (a := a)
    cases hp : psN y l a with
    | inl k =>
      rw [hp] at hle hz
      have hle : k ≤ max l a := hle
      refine AX.iload_n (pc := 12) dX10_faultOfPath_12 rfl ?_
      refine AX.bipush (pc := 13) (v := nI 12) dX10_faultOfPath_13 (by decide) ?_
      refine AX.icmp_geN (pc := 15) (tgt := 78) dX10_faultOfPath_15 (by decide) (by omega) (by decide) (fun q => absurd q (by omega)) (fun hc15 => ?_)
      refine AX.aload_n (pc := 18) dX10_faultOfPath_18 rfl ?_
      refine AX.callV (pc := 19) (M2 := M_X10_faultOfSpot) (As := []) (rest := []) (c_faultOfSpot w h hn hT (by omega) ha) xc_X10_faultOfPath__X10_faultOfSpot gX10_faultOfPath_X10_faultOfSpot (ci := 9) rfl (lt_k hn (by omega)) hT.1 rfl (Nat.le_of_ble_eq_true rfl) dX10_faultOfPath_19 ?_
      rintro v1 h1 T1
      rw [hp] at T1
      obtain ⟨rfl, e9⟩ := T1
      have e9 := e9.symm
      subst e9
      show AX w M_X10_faultOfPath 0 0 22 [.ref 72, .int (nI i), .null] [.int (nI k)] _ _
      refine AX.istore_n (pc := 22) (L' := [.ref 72, .int (nI i), .int (nI k)]) dX10_faultOfPath_22 (by decide) rfl ?_
      refine AX.iload_n (pc := 23) dX10_faultOfPath_23 rfl ?_
      refine AX.iconst (pc := 24) (v := (-1)) dX10_faultOfPath_24 (by decide) ?_
      refine AX.icmp_eq (pc := 25) (tgt := 30) dX10_faultOfPath_25 (by decide) (fun q => absurd q (nI_m1 (by omega))) (fun hc25 => ?_)
      refine AX.iload_n (pc := 28) dX10_faultOfPath_28 rfl ?_
      refine AX.iret (pc := 29) dX10_faultOfPath_29 rfl rfl (by decide) (by decide) ?_
      refine hP _ h hS ?_
      rw [← hR, hz]
      exact ⟨rfl, a, X, hT⟩
    | inr p =>
      obtain ⟨n, s⟩ := p
      rw [hp] at hle hz
      have hle : 1 ≤ n ∧ a + n ≤ l ∧ s < 63 := hle
      refine AX.iload_n (pc := 12) dX10_faultOfPath_12 rfl ?_
      refine AX.bipush (pc := 13) (v := nI 12) dX10_faultOfPath_13 (by decide) ?_
      refine AX.icmp_geN (pc := 15) (tgt := 78) dX10_faultOfPath_15 (by decide) (by omega) (by decide) (fun q => absurd q (by omega)) (fun hc15 => ?_)
      refine AX.aload_n (pc := 18) dX10_faultOfPath_18 rfl ?_
      refine AX.callV (pc := 19) (M2 := M_X10_faultOfSpot) (As := []) (rest := []) (c_faultOfSpot w h hn hT (by omega) ha) xc_X10_faultOfPath__X10_faultOfSpot gX10_faultOfPath_X10_faultOfSpot (ci := 9) rfl (lt_k hn (by omega)) hT.1 rfl (Nat.le_of_ble_eq_true rfl) dX10_faultOfPath_19 ?_
      rintro v1 h1 T1
      rw [hp] at T1
      obtain ⟨rfl, s1, T1⟩ := T1
      obtain ⟨-, hl61, hX13, ⟨f1, e731, qf1⟩, s2_, e741, qs1⟩ := id T1
      show AX w M_X10_faultOfPath 0 0 22 [.ref 72, .int (nI i), .null] [.int (-1)] _ _
      refine AX.istore_n (pc := 22) (L' := [.ref 72, .int (nI i), .int (-1)]) dX10_faultOfPath_22 (by decide) rfl ?_
      refine AX.iload_n (pc := 23) dX10_faultOfPath_23 rfl ?_
      refine AX.iconst (pc := 24) (v := (-1)) dX10_faultOfPath_24 (by decide) ?_
      refine AX.icmp_eq (pc := 25) (tgt := 30) dX10_faultOfPath_25 (by decide) (fun hc25 => ?_) (fun q => absurd rfl q)
      refine AX.aload_n (pc := 30) dX10_faultOfPath_30 rfl ?_
      refine AX.getf (pc := 31) fX10_faultOfPath_26 (lt_k (s1.le hn) (by omega)) T1.1 rfl dX10_faultOfPath_31 ?_
      refine AX.aload_n (pc := 34) dX10_faultOfPath_34 rfl ?_
      refine AX.getf (pc := 35) fX10_faultOfPath_18 (lt_k (s1.le hn) (by omega)) T1.1 rfl dX10_faultOfPath_35 ?_
      refine AX.icmp_ltN (pc := 38) (tgt := 43) dX10_faultOfPath_38 (by decide) (by omega) (by omega) (fun hc38 => ?_) (fun hc38 => ?_)
      · refine AX.aload_n (pc := 43) dX10_faultOfPath_43 rfl ?_
        refine AX.getf (pc := 44) fX10_faultOfPath_11 (lt_k (s1.le hn) (by omega)) T1.1 rfl dX10_faultOfPath_44 ?_
        refine AX.aload_n (pc := 47) dX10_faultOfPath_47 rfl ?_
        refine AX.getf (pc := 48) fX10_faultOfPath_26 (lt_k (s1.le hn) (by omega)) T1.1 rfl dX10_faultOfPath_48 ?_
        refine AX.ialdN (pc := 51) (i := a + n) (v := (nI (y (a + n)))) (lt_k (s1.le hn) (by omega)) e731 (by decide) (by omega) ((qf1 _ (by omega)).1) dX10_faultOfPath_51 ?_
        refine AX.bipush (pc := 52) (v := nI 32) dX10_faultOfPath_52 (by decide) ?_
        refine AX.icmp_eqN (pc := 54) (tgt := 62) dX10_faultOfPath_54 (by decide) (by have := yb qf1 (j := a + n) (by omega); omega) (by decide) (fun hc54 => ?_) (fun hc54 => ?_)
        · refine AX.aload_n (pc := 62) dX10_faultOfPath_62 rfl ?_
          refine AX.dup (pc := 63) dX10_faultOfPath_63 rfl ?_
          refine AX.getf (pc := 64) fX10_faultOfPath_26 (lt_k (s1.le hn) (by omega)) T1.1 rfl dX10_faultOfPath_64 ?_
          refine AX.iconst (pc := 67) (v := nI 1) dX10_faultOfPath_67 (by decide) ?_
          refine AX.iaddN (pc := 68) (c := a + n + 1) dX10_faultOfPath_68 rfl ?_
          refine AX.putf (pc := 69) (fs' := [.ref 73, .int (nI l), .ref 74, .int (nI ((X ++ [s]).length)), .int (nI (a + n + 1))]) fX10_faultOfPath_26 rfl (lt_k (s1.le hn) (by omega)) T1.1 (Nat.le_of_ble_eq_true rfl) rfl rfl rfl dX10_faultOfPath_69 ?_
          refine AX.iincN (c := i + 1) (pc := 72) (L' := [.ref 72, .int (nI (i + 1)), .int (-1)]) dX10_faultOfPath_72 rfl (inc1 _) (by decide) rfl ?_
          refine AX.goto (pc := 75) (tgt := 12) dX10_faultOfPath_75 (by decide) ?_
          have sx : Same [72, 74] h1 (xset h1 72 (.inr (9, [.ref 73, .int (nI l), .ref 74, .int (nI ((X ++ [s]).length)), .int (nI (a + n + 1))]))) := Same.set Same.rf (by simp)
          refine AX.sub (L' := [.ref 72, .int (nI (i + 1)), .null]) ⟨Or.inr rfl, Or.inr rfl, Or.inl rfl, trivial⟩ ?_
          have hR2 : ptN y l g (a + n + 1) (X ++ [s]) = R := by rw [← hR, hz]; show _ = (if l ≤ a + n then _ else if y (a + n) = 32 then _ else _); rw [if_neg (by omega), if_pos (by omega)]
          exact l_path w P h0 R hP g (i + 1) (a + n + 1) (X ++ [s]) _ (by omega) (by rw [List.length_append, hi]; rfl) (by omega) (Or.inr (by omega)) (sx.le (s1.le hn)) ⟨xset_same _ _ _, hl61, hX13, ⟨f1, sx.at (by simp) e731, qf1⟩, s2_, (xset_ne (by decide)).trans e741, qs1⟩ hR2 (hS.trans (s1.trans sx))
        · refine AX.aload_n (pc := 57) dX10_faultOfPath_57 rfl ?_
          refine AX.getf (pc := 58) fX10_faultOfPath_26 (lt_k (s1.le hn) (by omega)) T1.1 rfl dX10_faultOfPath_58 ?_
          refine AX.iret (pc := 61) dX10_faultOfPath_61 rfl rfl (by decide) (by decide) ?_
          refine hP _ h1 (hS.trans s1) ?_
          rw [← hR, hz]
          show ptR _ _ _ _ (if l ≤ a + n then _ else if y (a + n) = 32 then _ else _)
          rw [if_neg (by omega), if_neg (by omega)]
          exact ⟨rfl, a + n, _, T1⟩
      · refine AX.iconst (pc := 41) (v := (-1)) dX10_faultOfPath_41 (by decide) ?_
        refine AX.iret (pc := 42) dX10_faultOfPath_42 rfl rfl (by decide) (by decide) ?_
        refine hP _ h1 (hS.trans s1) ?_
        rw [← hR, hz]
        show ptR _ _ _ _ (if l ≤ a + n then _ else _)
        rw [if_pos (by omega)]
        exact ⟨rfl, a + n, T1⟩
theorem TP.zero {h h' : XH} {l a : Nat} {y : Nat → Nat} {X : List Nat} (H : TP h l y a X) (hs : Same [72] h h') (e : h'.2 72 = .inr (9, [.ref 73, .int (nI l), .ref 74, .int (nI 0), .int (nI 0)])) : TP h' l y 0 [] := by
  obtain ⟨-, p1, p2, ⟨f, e1, q1⟩, s, e2, q2⟩ := H
  exact ⟨e, p1, Nat.zero_le _, ⟨f, hs.at (by simp) e1, q1⟩, s, hs.at (by simp) e2, fun j hj => absurd hj (Nat.not_lt_zero _)⟩
theorem c_faultOfPath (w : XW) (h : XH) {l a : Nat} {y : Nat → Nat} {X : List Nat} (hn : 75 ≤ h.1) (hT : TP h l y a X) : CA w M_X10_faultOfPath [.ref 72] h (fun v h' => Same [72, 74] h h' ∧ ptR h' l y v (ptN y l 12 0 [])) := by
  refine CA.of (by decide) rfl (fun _ => Nat.le_of_ble_eq_true rfl) ?_
  obtain ⟨-, hl60, hX12, ⟨f, e73, qf⟩, s0_, e74, qs⟩ := id hT
  show AX w M_X10_faultOfPath 0 0 0 [.ref 72, .null, .null] [] h _
  refine AX.aload_n (pc := 0) dX10_faultOfPath_0 rfl ?_
  refine AX.iconst (pc := 1) (v := nI 0) dX10_faultOfPath_1 (by decide) ?_
  refine AX.putf (pc := 2) (fs' := [.ref 73, .int (nI l), .ref 74, .int (nI X.length), .int (nI 0)]) fX10_faultOfPath_26 rfl (lt_k hn (by omega)) hT.1 (Nat.le_of_ble_eq_true rfl) rfl rfl rfl dX10_faultOfPath_2 ?_
  refine AX.aload_n (pc := 5) dX10_faultOfPath_5 rfl ?_
  refine AX.iconst (pc := 6) (v := nI 0) dX10_faultOfPath_6 (by decide) ?_
  refine AX.putf (pc := 7) (h := xset h 72 (.inr (9, [.ref 73, .int (nI l), .ref 74, .int (nI X.length), .int (nI 0)]))) (a := 72) (fs' := [.ref 73, .int (nI l), .ref 74, .int (nI 0), .int (nI 0)]) fX10_faultOfPath_29 rfl (lt_k hn (by omega)) (xset_same _ _ _) (Nat.le_of_ble_eq_true rfl) rfl rfl rfl dX10_faultOfPath_7 ?_
  refine AX.iconst (pc := 10) (v := nI 0) dX10_faultOfPath_10 (by decide) ?_
  refine AX.istore_n (pc := 11) (L' := [.ref 72, .int (nI 0), .null]) dX10_faultOfPath_11 (by decide) rfl ?_
  have sx : Same [72] h (xset (xset h 72 (.inr (9, [.ref 73, .int (nI l), .ref 74, .int (nI X.length), .int (nI 0)]))) 72 (.inr (9, [.ref 73, .int (nI l), .ref 74, .int (nI 0), .int (nI 0)]))) := (Same.set (Same.set Same.rf (by simp)) (by simp))
  exact l_path w _ h (ptN y l 12 0 []) (fun v h2 p q => ⟨p, q⟩) 12 0 0 [] _ rfl rfl (Nat.zero_le _) (Or.inl rfl) (sx.le hn) (hT.zero sx (xset_same _ _ _)) rfl (sx.wide (by simp))
