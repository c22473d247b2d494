/-! ===== THE PAPER; what is copied ===== -/
/-- what stands on the PAPER -/
def PT (h : XH) (X : List Nat) : Prop := h.2 75 = .inr (4, [.ref 76, .int (nI X.length)]) ∧ X.length ≤ 12 ∧ ∃ f : Nat → Int32, h.2 76 = .inl (0, 12, .inl f) ∧ ∀ j, j < X.length → f j = nI (X.getD j 0)
theorem PT.same {S : List Nat} {h h' : XH} {X : List Nat} (H : PT h X) (hs : Same S h h') (h1 : 75 ∉ S) (h2 : 76 ∉ S) : PT h' X := by
  obtain ⟨e, l, f, e2, q⟩ := H
  exact ⟨hs.at h1 e, l, f, hs.at h2 e2, q⟩
theorem PT.push {h' : XH} {X : List Nat} {c : Nat} {f : Nat → Int32} (l : X.length < 12) (q : ∀ j, j < X.length → f j = nI (X.getD j 0)) (e : h'.2 75 = .inr (4, [.ref 76, .int (nI (X.length + 1))])) (e2 : h'.2 76 = .inl (0, 12, .inl (upd f X.length (nI c)))) : PT h' (X ++ [c]) := by
  refine ⟨?_, ?_, _, e2, fun j hj => ?_⟩
  · rw [List.length_append]; exact e
  · rw [List.length_append]; exact l
  · rw [List.length_append] at hj
    have hj : j < X.length + 1 := hj
    by_cases z : j = X.length
    · subst z
      rw [upd_at, List.getD_eq_getElem?_getD, List.getElem?_append_right (Nat.le_refl _)]
      simp
    · rw [upd_off z, q j (by omega), List.getD_eq_getElem?_getD, List.getD_eq_getElem?_getD, List.getElem?_append_left (by omega)]
def dgN (n : Nat) : List Nat := if n < 10 then [48 + n] else [48 + n / 10, 48 + n % 10]
/-- a SPOT's text -/
def spN (s : Nat) : List Nat := if s = 0 then [45] else if s ≤ 20 then 83 :: dgN s else if s ≤ 40 then 68 :: dgN (s - 20) else if s ≤ 60 then 84 :: dgN (s - 40) else if s = 61 then [79, 66] else [66, 85]
theorem dgN_le (n : Nat) : (dgN n).length ≤ 2 := by unfold dgN; split <;> exact Nat.le_of_ble_eq_true rfl
theorem spN_le (s : Nat) : (spN s).length ≤ 3 := by
  unfold spN
  have a := dgN_le s
  have b := dgN_le (s - 20)
  have c := dgN_le (s - 40)
  (repeat' split) <;> simp only [List.length_cons, List.length_nil] <;> omega
/-- the text of the first i SPOTS of a row -/
def txN (sp : Nat → Nat) : Nat → List Nat
  | 0 => []
  | i + 1 => txN sp i ++ ((if i = 0 then [] else [32]) ++ spN (sp i))
theorem txN_le (sp : Nat → Nat) : ∀ i, (txN sp i).length + 1 ≤ 4 * i + 1
  | 0 => by simp [txN]
  | i + 1 => by
    have := txN_le sp i
    have := spN_le (sp i)
    simp only [txN, List.length_append]
    split <;> simp only [List.length_cons, List.length_nil] <;> omega
theorem c_put (w : XW) (h : XH) {X : List Nat} (c : Nat) (hn : 77 ≤ h.1) (hT : PT h X) (hl : X.length < 12) : CA w M_X5_put [.ref 75, .int (nI c)] h (fun v h' => v = none ∧ Same [75, 76] h h' ∧ PT h' (X ++ [c])) := by
  refine CA.of (by decide) rfl (fun _ => Nat.le_of_ble_eq_true rfl) ?_
  obtain ⟨-, -, f, e2, q⟩ := id hT
  show AX w M_X5_put 0 0 0 [.ref 75, .int (nI c)] [] h _
  refine AX.aload_n (pc := 0) dX5_put_0 rfl ?_
  refine AX.getf (pc := 1) fX5_put_15 (lt_k hn (by omega)) hT.1 rfl dX5_put_1 ?_
  refine AX.bipush (pc := 4) (v := nI 12) dX5_put_4 (by decide) ?_
  refine AX.icmp_geN (pc := 6) (tgt := 29) dX5_put_6 (by decide) (by omega) (by decide) (fun q => absurd q (by omega)) (fun hc6 => ?_)
  refine AX.aload_n (pc := 9) dX5_put_9 rfl ?_
  refine AX.getf (pc := 10) fX5_put_11 (lt_k hn (by omega)) hT.1 rfl dX5_put_10 ?_
  refine AX.aload_n (pc := 13) dX5_put_13 rfl ?_
  refine AX.getf (pc := 14) fX5_put_15 (lt_k hn (by omega)) hT.1 rfl dX5_put_14 ?_
  refine AX.iload_n (pc := 17) dX5_put_17 rfl ?_
  refine AX.iastN (pc := 18) (i := X.length) (g := upd f X.length (nI c)) (lt_k hn (by omega)) e2 (by decide) (by omega) rfl dX5_put_18 ?_
  refine AX.aload_n (pc := 19) dX5_put_19 rfl ?_
  refine AX.dup (pc := 20) dX5_put_20 rfl ?_
  refine AX.getf (pc := 21) fX5_put_15 (lt_k hn (by omega)) ((xset_ne (by decide)).trans hT.1) rfl dX5_put_21 ?_
  refine AX.iconst (pc := 24) (v := nI 1) dX5_put_24 (by decide) ?_
  refine AX.iaddN (pc := 25) (c := X.length + 1) dX5_put_25 rfl ?_
  refine AX.putf (pc := 26) (h := xset h 76 (.inl (0, 12, .inl (upd f X.length (nI c))))) (a := 75) (fs' := [.ref 76, .int (nI (X.length + 1))]) fX5_put_15 rfl (lt_k hn (by omega)) ((xset_ne (by decide)).trans hT.1) (Nat.le_of_ble_eq_true rfl) rfl rfl rfl dX5_put_26 ?_
  refine AX.vret (pc := 29) dX5_put_29 rfl (by decide) (by decide) ?_
  exact ⟨rfl, (Same.set Same.rf (by simp)).trans (Same.set Same.rf (by simp)), PT.push hl q (xset_same _ _ _) ((xset_ne (by decide)).trans (xset_same _ _ _))⟩
theorem c_putPair (w : XW) (h : XH) {X : List Nat} (a c : Nat) (hn : 77 ≤ h.1) (hT : PT h X) (hl : X.length + 2 ≤ 12) : CA w M_X5_putPair [.ref 75, .int (nI a), .int (nI c)] h (fun v h' => v = none ∧ Same [75, 76] h h' ∧ PT h' (X ++ [a, c])) := by
  refine CA.of (by decide) rfl (fun _ => Nat.le_of_ble_eq_true rfl) ?_
  show AX w M_X5_putPair 0 0 0 [.ref 75, .int (nI a), .int (nI c)] [] h _
  refine AX.aload_n (pc := 0) dX5_putPair_0 rfl ?_
  refine AX.iload_n (pc := 1) dX5_putPair_1 rfl ?_
  refine AX.callV (pc := 2) (M2 := M_X5_put) (As := [.int (nI a)]) (rest := []) (c_put w h a hn hT (by omega)) xc_X5_putPair__X5_put gX5_putPair_X5_put (ci := 4) rfl (lt_k hn (by omega)) hT.1 rfl (Nat.le_of_ble_eq_true rfl) dX5_putPair_2 ?_
  rintro _ h1 ⟨rfl, s1, T1⟩
  have t1 := s1.le hn
  have z1 : Same [75, 76] h h1 := s1
  show AX w M_X5_putPair 0 0 5 [.ref 75, .int (nI a), .int (nI c)] [] _ _
  refine AX.aload_n (pc := 5) dX5_putPair_5 rfl ?_
  refine AX.iload_n (pc := 6) dX5_putPair_6 rfl ?_
  refine AX.callV (pc := 7) (M2 := M_X5_put) (As := [.int (nI c)]) (rest := []) (c_put w h1 c (t1) T1 (by simp only [List.length_append, List.length_cons, List.length_nil]; omega)) xc_X5_putPair__X5_put gX5_putPair_X5_put (ci := 4) rfl (lt_k (t1) (by omega)) T1.1 rfl (Nat.le_of_ble_eq_true rfl) dX5_putPair_7 ?_
  rintro _ h2 ⟨rfl, s2, T2⟩
  have t2 := s2.le (t1)
  have z2 : Same [75, 76] h h2 := z1.trans s2
  show AX w M_X5_putPair 0 0 10 [.ref 75, .int (nI a), .int (nI c)] [] _ _
  refine AX.vret (pc := 10) dX5_putPair_10 rfl (by decide) (by decide) ?_
  have e : X ++ [a, c] = ((X ++ [a]) ++ [c]) := by simp
  exact ⟨rfl, z2, by rw [e]; exact T2⟩
theorem c_putNumber (w : XW) (h : XH) {X : List Nat} (c n : Nat) (hn : 77 ≤ h.1) (hT : PT h X) (hc : n < 100) (hl : X.length + 3 ≤ 12) : CA w M_X5_putNumber [.ref 75, .int (nI c), .int (nI n)] h (fun v h' => v = none ∧ Same [75, 76] h h' ∧ PT h' (X ++ (c :: dgN n))) := by
  refine CA.of (by decide) rfl (fun _ => Nat.le_of_ble_eq_true rfl) ?_
  show AX w M_X5_putNumber 0 0 0 [.ref 75, .int (nI c), .int (nI n)] [] h _
  refine AX.aload_n (pc := 0) dX5_putNumber_0 rfl ?_
  refine AX.iload_n (pc := 1) dX5_putNumber_1 rfl ?_
  refine AX.callV (pc := 2) (M2 := M_X5_put) (As := [.int (nI c)]) (rest := []) (c_put w h c hn hT (by omega)) xc_X5_putNumber__X5_put gX5_putNumber_X5_put (ci := 4) rfl (lt_k hn (by omega)) hT.1 rfl (Nat.le_of_ble_eq_true rfl) dX5_putNumber_2 ?_
  rintro _ h1 ⟨rfl, s1, T1⟩
  have t1 := s1.le hn
  have z1 : Same [75, 76] h h1 := s1
  show AX w M_X5_putNumber 0 0 5 [.ref 75, .int (nI c), .int (nI n)] [] _ _
  refine AX.iload_n (pc := 5) dX5_putNumber_5 rfl ?_
  refine AX.bipush (pc := 6) (v := nI 10) dX5_putNumber_6 (by decide) ?_
  refine AX.icmp_ltN (pc := 8) (tgt := 22) dX5_putNumber_8 (by decide) (by omega) (by decide) (fun hc8 => ?_) (fun hc8 => ?_)
  · refine AX.aload_n (pc := 22) dX5_putNumber_22 rfl ?_
    refine AX.bipush (pc := 23) (v := nI 48) dX5_putNumber_23 (by decide) ?_
    refine AX.iload_n (pc := 25) dX5_putNumber_25 rfl ?_
    refine AX.bipush (pc := 26) (v := nI 10) dX5_putNumber_26 (by decide) ?_
    refine AX.iremN (pc := 28) (c := n % 10) dX5_putNumber_28 (by omega) (by decide) (by decide) rfl ?_
    refine AX.iaddN (pc := 29) (c := 48 + (n % 10)) dX5_putNumber_29 rfl ?_
    refine AX.callV (pc := 30) (M2 := M_X5_put) (As := [.int (nI (48 + (n % 10)))]) (rest := []) (c_put w h1 (48 + (n % 10)) (t1) T1 (by simp only [List.length_append, List.length_cons, List.length_nil]; omega)) xc_X5_putNumber__X5_put gX5_putNumber_X5_put (ci := 4) rfl (lt_k (t1) (by omega)) T1.1 rfl (Nat.le_of_ble_eq_true rfl) dX5_putNumber_30 ?_
    rintro _ h2 ⟨rfl, s2, T2⟩
    have t2 := s2.le (t1)
    have z2 : Same [75, 76] h h2 := z1.trans s2
    show AX w M_X5_putNumber 0 0 33 [.ref 75, .int (nI c), .int (nI n)] [] _ _
    refine AX.vret (pc := 33) dX5_putNumber_33 rfl (by decide) (by decide) ?_
    have e : X ++ (c :: dgN n) = ((X ++ [c]) ++ [48 + (n % 10)]) := by unfold dgN; rw [if_pos (by omega), Nat.mod_eq_of_lt (show n < 10 by omega)]; simp
    exact ⟨rfl, z2, by rw [e]; exact T2⟩
  · refine AX.aload_n (pc := 11) dX5_putNumber_11 rfl ?_
    refine AX.bipush (pc := 12) (v := nI 48) dX5_putNumber_12 (by decide) ?_
    refine AX.iload_n (pc := 14) dX5_putNumber_14 rfl ?_
    refine AX.bipush (pc := 15) (v := nI 10) dX5_putNumber_15 (by decide) ?_
    refine AX.idivN (pc := 17) (c := n / 10) dX5_putNumber_17 (by omega) (by decide) (by decide) rfl ?_
    refine AX.iaddN (pc := 18) (c := 48 + (n / 10)) dX5_putNumber_18 rfl ?_
    refine AX.callV (pc := 19) (M2 := M_X5_put) (As := [.int (nI (48 + (n / 10)))]) (rest := []) (c_put w h1 (48 + (n / 10)) (t1) T1 (by simp only [List.length_append, List.length_cons, List.length_nil]; omega)) xc_X5_putNumber__X5_put gX5_putNumber_X5_put (ci := 4) rfl (lt_k (t1) (by omega)) T1.1 rfl (Nat.le_of_ble_eq_true rfl) dX5_putNumber_19 ?_
    rintro _ h3 ⟨rfl, s3, T3⟩
    have t3 := s3.le (t1)
    have z3 : Same [75, 76] h h3 := z1.trans s3
    show AX w M_X5_putNumber 0 0 22 [.ref 75, .int (nI c), .int (nI n)] [] _ _
    refine AX.aload_n (pc := 22) dX5_putNumber_22 rfl ?_
    refine AX.bipush (pc := 23) (v := nI 48) dX5_putNumber_23 (by decide) ?_
    refine AX.iload_n (pc := 25) dX5_putNumber_25 rfl ?_
    refine AX.bipush (pc := 26) (v := nI 10) dX5_putNumber_26 (by decide) ?_
    refine AX.iremN (pc := 28) (c := n % 10) dX5_putNumber_28 (by omega) (by decide) (by decide) rfl ?_
    refine AX.iaddN (pc := 29) (c := 48 + (n % 10)) dX5_putNumber_29 rfl ?_
    refine AX.callV (pc := 30) (M2 := M_X5_put) (As := [.int (nI (48 + (n % 10)))]) (rest := []) (c_put w h3 (48 + (n % 10)) (t3) T3 (by simp only [List.length_append, List.length_cons, List.length_nil]; omega)) xc_X5_putNumber__X5_put gX5_putNumber_X5_put (ci := 4) rfl (lt_k (t3) (by omega)) T3.1 rfl (Nat.le_of_ble_eq_true rfl) dX5_putNumber_30 ?_
    rintro _ h4 ⟨rfl, s4, T4⟩
    have t4 := s4.le (t3)
    have z4 : Same [75, 76] h h4 := z3.trans s4
    show AX w M_X5_putNumber 0 0 33 [.ref 75, .int (nI c), .int (nI n)] [] _ _
    refine AX.vret (pc := 33) dX5_putNumber_33 rfl (by decide) (by decide) ?_
    have e : X ++ (c :: dgN n) = (((X ++ [c]) ++ [48 + (n / 10)]) ++ [48 + (n % 10)]) := by unfold dgN; rw [if_neg (by omega)]; simp
    exact ⟨rfl, z4, by rw [e]; exact T4⟩
theorem c_spellSpot (w : XW) (h : XH) {X : List Nat} (s : Nat) (hn : 77 ≤ h.1) (hT : PT h X) (hs : s < 63) (hl : X.length + 3 ≤ 12) : CA w M_X5_spellSpot [.ref 75, .int (nI s)] h (fun v h' => v = none ∧ Same [75, 76] h h' ∧ PT h' (X ++ spN s)) := by
  refine CA.of (by decide) rfl (fun _ => Nat.le_of_ble_eq_true rfl) ?_
  show AX w M_X5_spellSpot 0 0 0 [.ref 75, .int (nI s)] [] h _
  refine AX.iload_n (pc := 0) dX5_spellSpot_0 rfl ?_
  refine AX.callS (pc := 1) (M2 := M_X0_kindOf) (As := [.int (nI s)]) (rest := []) (c_kindOf w h s hs) xc_X5_spellSpot__X0_kindOf gX5_spellSpot_X0_kindOf rfl (Nat.le_of_ble_eq_true rfl) dX5_spellSpot_1 ?_
  rintro _ h9 ⟨rfl, e9⟩
  have e9 := e9.symm
  subst e9
  show AX w M_X5_spellSpot 0 0 4 [.ref 75, .int (nI s)] [.int (nI (kdN s))] _ _
  by_cases h0 : s = 0
  · have hk : kdN s = 0 := by unfold kdN; (repeat' split) <;> omega
    have et : spN s = [45] := by unfold spN; rw [if_pos h0]
    rw [hk, et]
    show AX w M_X5_spellSpot 0 0 4 [.ref 75, .int (nI s)] [.int (nI 0)] _ _
    refine AX.tableOut (pc := 4) (tgt := 98) dX5_spellSpot_4 (by decide) (by decide) ?_
    refine AX.aload_n (pc := 98) dX5_spellSpot_98 rfl ?_
    refine AX.bipush (pc := 99) (v := nI 45) dX5_spellSpot_99 (by decide) ?_
    refine AX.callV (pc := 101) (M2 := M_X5_put) (As := [.int (nI 45)]) (rest := []) (c_put w h 45 hn hT (by omega)) xc_X5_spellSpot__X5_put gX5_spellSpot_X5_put (ci := 4) rfl (lt_k hn (by omega)) hT.1 rfl (Nat.le_of_ble_eq_true rfl) dX5_spellSpot_101 ?_
    rintro _ h1 ⟨rfl, s1, T1⟩
    show AX w M_X5_spellSpot 0 0 104 [.ref 75, .int (nI s)] [] _ _
    refine AX.vret (pc := 104) dX5_spellSpot_104 rfl (by decide) (by decide) ?_
    exact ⟨rfl, s1, T1⟩
  by_cases h1 : s ≤ 20
  · have hk : kdN s = 1 := by unfold kdN; (repeat' split) <;> omega
    have et : spN s = 83 :: dgN s := by unfold spN; rw [if_neg (by omega), if_pos (by omega)]
    rw [hk, et]
    show AX w M_X5_spellSpot 0 0 4 [.ref 75, .int (nI s)] [.int (nI 1)] _ _
    refine AX.tableIn (pc := 4) (off := 58) (tgt := 62) dX5_spellSpot_4 (by decide) (by decide) (by decide) (by decide) ?_
    refine AX.aload_n (pc := 62) dX5_spellSpot_62 rfl ?_
    refine AX.bipush (pc := 63) (v := nI 83) dX5_spellSpot_63 (by decide) ?_
    refine AX.iload_n (pc := 65) dX5_spellSpot_65 rfl ?_
    refine AX.callV (pc := 66) (M2 := M_X5_putNumber) (As := [.int (nI 83), .int (nI s)]) (rest := []) (c_putNumber w h 83 s hn hT (by omega) hl) xc_X5_spellSpot__X5_putNumber gX5_spellSpot_X5_putNumber (ci := 4) rfl (lt_k hn (by omega)) hT.1 rfl (Nat.le_of_ble_eq_true rfl) dX5_spellSpot_66 ?_
    rintro _ h1 ⟨rfl, s1, T1⟩
    show AX w M_X5_spellSpot 0 0 69 [.ref 75, .int (nI s)] [] _ _
    refine AX.goto (pc := 69) (tgt := 104) dX5_spellSpot_69 (by decide) ?_
    refine AX.vret (pc := 104) dX5_spellSpot_104 rfl (by decide) (by decide) ?_
    exact ⟨rfl, s1, T1⟩
  by_cases h2 : s ≤ 40
  · have hk : kdN s = 2 := by unfold kdN; (repeat' split) <;> omega
    have et : spN s = 68 :: dgN (s - 20) := by unfold spN; rw [if_neg (by omega), if_neg (by omega), if_pos (by omega)]
    rw [hk, et]
    show AX w M_X5_spellSpot 0 0 4 [.ref 75, .int (nI s)] [.int (nI 2)] _ _
    refine AX.tableIn (pc := 4) (off := 68) (tgt := 72) dX5_spellSpot_4 (by decide) (by decide) (by decide) (by decide) ?_
    refine AX.aload_n (pc := 72) dX5_spellSpot_72 rfl ?_
    refine AX.bipush (pc := 73) (v := nI 68) dX5_spellSpot_73 (by decide) ?_
    refine AX.iload_n (pc := 75) dX5_spellSpot_75 rfl ?_
    refine AX.bipush (pc := 76) (v := nI 20) dX5_spellSpot_76 (by decide) ?_
    refine AX.isubN (pc := 78) (c := s - 20) dX5_spellSpot_78 (by omega) ?_
    refine AX.callV (pc := 79) (M2 := M_X5_putNumber) (As := [.int (nI 68), .int (nI (s - 20))]) (rest := []) (c_putNumber w h 68 (s - 20) hn hT (by omega) hl) xc_X5_spellSpot__X5_putNumber gX5_spellSpot_X5_putNumber (ci := 4) rfl (lt_k hn (by omega)) hT.1 rfl (Nat.le_of_ble_eq_true rfl) dX5_spellSpot_79 ?_
    rintro _ h1 ⟨rfl, s1, T1⟩
    show AX w M_X5_spellSpot 0 0 82 [.ref 75, .int (nI s)] [] _ _
    refine AX.goto (pc := 82) (tgt := 104) dX5_spellSpot_82 (by decide) ?_
    refine AX.vret (pc := 104) dX5_spellSpot_104 rfl (by decide) (by decide) ?_
    exact ⟨rfl, s1, T1⟩
  by_cases h3 : s ≤ 60
  · have hk : kdN s = 3 := by unfold kdN; (repeat' split) <;> omega
    have et : spN s = 84 :: dgN (s - 40) := by unfold spN; rw [if_neg (by omega), if_neg (by omega), if_neg (by omega), if_pos (by omega)]
    rw [hk, et]
    show AX w M_X5_spellSpot 0 0 4 [.ref 75, .int (nI s)] [.int (nI 3)] _ _
    refine AX.tableIn (pc := 4) (off := 81) (tgt := 85) dX5_spellSpot_4 (by decide) (by decide) (by decide) (by decide) ?_
    refine AX.aload_n (pc := 85) dX5_spellSpot_85 rfl ?_
    refine AX.bipush (pc := 86) (v := nI 84) dX5_spellSpot_86 (by decide) ?_
    refine AX.iload_n (pc := 88) dX5_spellSpot_88 rfl ?_
    refine AX.bipush (pc := 89) (v := nI 40) dX5_spellSpot_89 (by decide) ?_
    refine AX.isubN (pc := 91) (c := s - 40) dX5_spellSpot_91 (by omega) ?_
    refine AX.callV (pc := 92) (M2 := M_X5_putNumber) (As := [.int (nI 84), .int (nI (s - 40))]) (rest := []) (c_putNumber w h 84 (s - 40) hn hT (by omega) hl) xc_X5_spellSpot__X5_putNumber gX5_spellSpot_X5_putNumber (ci := 4) rfl (lt_k hn (by omega)) hT.1 rfl (Nat.le_of_ble_eq_true rfl) dX5_spellSpot_92 ?_
    rintro _ h1 ⟨rfl, s1, T1⟩
    show AX w M_X5_spellSpot 0 0 95 [.ref 75, .int (nI s)] [] _ _
    refine AX.goto (pc := 95) (tgt := 104) dX5_spellSpot_95 (by decide) ?_
    refine AX.vret (pc := 104) dX5_spellSpot_104 rfl (by decide) (by decide) ?_
    exact ⟨rfl, s1, T1⟩
  by_cases h4 : s = 61
  · have hk : kdN s = 5 := by unfold kdN; (repeat' split) <;> omega
    have et : spN s = [79, 66] := by unfold spN; rw [if_neg (by omega), if_neg (by omega), if_neg (by omega), if_neg (by omega), if_pos (by omega)]
    rw [hk, et]
    show AX w M_X5_spellSpot 0 0 4 [.ref 75, .int (nI s)] [.int (nI 5)] _ _
    refine AX.tableIn (pc := 4) (off := 36) (tgt := 40) dX5_spellSpot_4 (by decide) (by decide) (by decide) (by decide) ?_
    refine AX.aload_n (pc := 40) dX5_spellSpot_40 rfl ?_
    refine AX.bipush (pc := 41) (v := nI 79) dX5_spellSpot_41 (by decide) ?_
    refine AX.bipush (pc := 43) (v := nI 66) dX5_spellSpot_43 (by decide) ?_
    refine AX.callV (pc := 45) (M2 := M_X5_putPair) (As := [.int (nI 79), .int (nI 66)]) (rest := []) (c_putPair w h 79 66 hn hT (by omega)) xc_X5_spellSpot__X5_putPair gX5_spellSpot_X5_putPair (ci := 4) rfl (lt_k hn (by omega)) hT.1 rfl (Nat.le_of_ble_eq_true rfl) dX5_spellSpot_45 ?_
    rintro _ h1 ⟨rfl, s1, T1⟩
    show AX w M_X5_spellSpot 0 0 48 [.ref 75, .int (nI s)] [] _ _
    refine AX.goto (pc := 48) (tgt := 104) dX5_spellSpot_48 (by decide) ?_
    refine AX.vret (pc := 104) dX5_spellSpot_104 rfl (by decide) (by decide) ?_
    exact ⟨rfl, s1, T1⟩
  have hk : kdN s = 4 := by unfold kdN; (repeat' split) <;> omega
  have et : spN s = [66, 85] := by unfold spN; rw [if_neg (by omega), if_neg (by omega), if_neg (by omega), if_neg (by omega), if_neg (by omega)]
  rw [hk, et]
  show AX w M_X5_spellSpot 0 0 4 [.ref 75, .int (nI s)] [.int (nI 4)] _ _
  refine AX.tableIn (pc := 4) (off := 47) (tgt := 51) dX5_spellSpot_4 (by decide) (by decide) (by decide) (by decide) ?_
  refine AX.aload_n (pc := 51) dX5_spellSpot_51 rfl ?_
  refine AX.bipush (pc := 52) (v := nI 66) dX5_spellSpot_52 (by decide) ?_
  refine AX.bipush (pc := 54) (v := nI 85) dX5_spellSpot_54 (by decide) ?_
  refine AX.callV (pc := 56) (M2 := M_X5_putPair) (As := [.int (nI 66), .int (nI 85)]) (rest := []) (c_putPair w h 66 85 hn hT (by omega)) xc_X5_spellSpot__X5_putPair gX5_spellSpot_X5_putPair (ci := 4) rfl (lt_k hn (by omega)) hT.1 rfl (Nat.le_of_ble_eq_true rfl) dX5_spellSpot_56 ?_
  rintro _ h1 ⟨rfl, s1, T1⟩
  show AX w M_X5_spellSpot 0 0 59 [.ref 75, .int (nI s)] [] _ _
  refine AX.goto (pc := 59) (tgt := 104) dX5_spellSpot_59 (by decide) ?_
  refine AX.vret (pc := 104) dX5_spellSpot_104 rfl (by decide) (by decide) ?_
  exact ⟨rfl, s1, T1⟩
theorem l_spellRow (w : XW) (P : Option Value → XH → Prop) (h0 : XH) {a m : Nat} {fr : Nat → Int32} (sp : Nat → Nat) (ha : a = 63) (hm : m ≤ 3) (hsp : ∀ j, j < m → fr j = nI (sp j) ∧ sp j < 63) (hP : ∀ h', Same [75, 76] h0 h' → PT h' (txN sp m) → P none h') : ∀ (g i : Nat) (h : XH), i + g = m → 77 ≤ h.1 → h.2 63 = .inl (0, 3, .inl fr) → PT h (txN sp i) → Same [75, 76] h0 h → AX w M_X5_spellRow 0 0 7 [.ref 75, .ref 63, .int (nI m), .int (nI i)] [] h P
  | 0, i, h, hg, hn, er, hT, hS => by
    have e : i = m := by omega
    subst e
    refine AX.iload_n (pc := 7) dX5_spellRow_7 rfl ?_
    refine AX.iload_n (pc := 8) dX5_spellRow_8 rfl ?_
    refine AX.icmp_geN (pc := 9) (tgt := 35) dX5_spellRow_9 (by decide) (by omega) (by omega) (fun hc9 => ?_) (fun q => absurd q (by omega))
    refine AX.vret (pc := 35) dX5_spellRow_35 rfl (by decide) (by decide) ?_
    exact hP h hS hT
  | g + 1, i, h, hg, hn, er, hT, hS => by
    obtain ⟨q1, q2⟩ := hsp i (by omega)
    have hlen := txN_le sp i
    refine AX.iload_n (pc := 7) dX5_spellRow_7 rfl ?_
    refine AX.iload_n (pc := 8) dX5_spellRow_8 rfl ?_
    refine AX.icmp_geN (pc := 9) (tgt := 35) dX5_spellRow_9 (by decide) (by omega) (by omega) (fun q => absurd q (by omega)) (fun hc9 => ?_)
    refine AX.iload_n (pc := 12) dX5_spellRow_12 rfl ?_
    refine AX.if_leN (pc := 13) (tgt := 22) dX5_spellRow_13 (by decide) (by omega) (fun hc13 => ?_) (fun hc13 => ?_)
    · refine AX.aload_n (pc := 22) dX5_spellRow_22 rfl ?_
      refine AX.aload_n (pc := 23) dX5_spellRow_23 rfl ?_
      refine AX.iload_n (pc := 24) dX5_spellRow_24 rfl ?_
      refine AX.ialdN (pc := 25) (i := i) (v := (nI (sp i))) (lt_k hn (by omega)) er (by decide) (by omega) q1 dX5_spellRow_25 ?_
      refine AX.callV (pc := 26) (M2 := M_X5_spellSpot) (As := [.int (nI (sp i))]) (rest := []) (c_spellSpot w h (sp i) hn hT q2 (by omega)) xc_X5_spellRow__X5_spellSpot gX5_spellRow_X5_spellSpot (ci := 4) rfl (lt_k hn (by omega)) hT.1 rfl (Nat.le_of_ble_eq_true rfl) dX5_spellRow_26 ?_
      rintro _ h2 ⟨rfl, s2, T2⟩
      show AX w M_X5_spellRow 0 0 29 [.ref 75, .ref 63, .int (nI m), .int (nI i)] [] _ _
      refine AX.iincN (c := i + 1) (pc := 29) (L' := [.ref 75, .ref 63, .int (nI m), .int (nI (i + 1))]) dX5_spellRow_29 rfl (inc1 _) (by decide) rfl ?_
      refine AX.goto (pc := 32) (tgt := 7) dX5_spellRow_32 (by decide) ?_
      have e : txN sp (i + 1) = txN sp i ++ spN (sp i) := by simp only [txN]; rw [if_pos (show i = 0 by omega)]; simp
      exact l_spellRow w P h0 sp ha hm hsp hP g (i + 1) h2 (by omega) (s2.le hn) (s2.at (by simp) er) (by rw [e]; exact T2) (hS.trans s2)
    · refine AX.aload_n (pc := 16) dX5_spellRow_16 rfl ?_
      refine AX.bipush (pc := 17) (v := nI 32) dX5_spellRow_17 (by decide) ?_
      refine AX.callV (pc := 19) (M2 := M_X5_put) (As := [.int (nI 32)]) (rest := []) (c_put w h 32 hn hT (by omega)) xc_X5_spellRow__X5_put gX5_spellRow_X5_put (ci := 4) rfl (lt_k hn (by omega)) hT.1 rfl (Nat.le_of_ble_eq_true rfl) dX5_spellRow_19 ?_
      rintro _ h1 ⟨rfl, s1, T1⟩
      show AX w M_X5_spellRow 0 0 22 [.ref 75, .ref 63, .int (nI m), .int (nI i)] [] _ _
      refine AX.aload_n (pc := 22) dX5_spellRow_22 rfl ?_
      refine AX.aload_n (pc := 23) dX5_spellRow_23 rfl ?_
      refine AX.iload_n (pc := 24) dX5_spellRow_24 rfl ?_
      refine AX.ialdN (pc := 25) (i := i) (v := (nI (sp i))) (lt_k (s1.le hn) (by omega)) (s1.at (by simp) er) (by decide) (by omega) q1 dX5_spellRow_25 ?_
      refine AX.callV (pc := 26) (M2 := M_X5_spellSpot) (As := [.int (nI (sp i))]) (rest := []) (c_spellSpot w h1 (sp i) (s1.le hn) T1 q2 (by rw [List.length_append]; simp only [List.length_cons, List.length_nil]; omega)) xc_X5_spellRow__X5_spellSpot gX5_spellRow_X5_spellSpot (ci := 4) rfl (lt_k (s1.le hn) (by omega)) T1.1 rfl (Nat.le_of_ble_eq_true rfl) dX5_spellRow_26 ?_
      rintro _ h3 ⟨rfl, s2, T2⟩
      show AX w M_X5_spellRow 0 0 29 [.ref 75, .ref 63, .int (nI m), .int (nI i)] [] _ _
      refine AX.iincN (c := i + 1) (pc := 29) (L' := [.ref 75, .ref 63, .int (nI m), .int (nI (i + 1))]) dX5_spellRow_29 rfl (inc1 _) (by decide) rfl ?_
      refine AX.goto (pc := 32) (tgt := 7) dX5_spellRow_32 (by decide) ?_
      have e : txN sp (i + 1) = txN sp i ++ [32] ++ spN (sp i) := by simp only [txN]; rw [if_neg (show ¬ i = 0 by omega)]; simp
      exact l_spellRow w P h0 sp ha hm hsp hP g (i + 1) h3 (by omega) ((s1.trans s2).le hn) ((s1.trans s2).at (by simp) er) (by rw [e]; exact T2) (hS.trans (s1.trans s2))
theorem c_spellRow (w : XW) (h : XH) {m : Nat} {X : List Nat} {fr : Nat → Int32} (sp : Nat → Nat) (hn : 77 ≤ h.1) (hT : PT h X) (hm : m ≤ 3) (er : h.2 63 = .inl (0, 3, .inl fr)) (hsp : ∀ j, j < m → fr j = nI (sp j) ∧ sp j < 63) : CA w M_X5_spellRow [.ref 75, .ref 63, .int (nI m)] h (fun v h' => v = none ∧ Same [75, 76] h h' ∧ PT h' (txN sp m)) := by
  refine CA.of (by decide) rfl (fun _ => Nat.le_of_ble_eq_true rfl) ?_
  show AX w M_X5_spellRow 0 0 0 [.ref 75, .ref 63, .int (nI m), .null] [] h _
  refine AX.aload_n (pc := 0) dX5_spellRow_0 rfl ?_
  refine AX.iconst (pc := 1) (v := nI 0) dX5_spellRow_1 (by decide) ?_
  refine AX.putf (pc := 2) (fs' := [.ref 76, .int (nI 0)]) fX5_spellRow_15 rfl (lt_k hn (by omega)) hT.1 (Nat.le_of_ble_eq_true rfl) rfl rfl rfl dX5_spellRow_2 ?_
  refine AX.iconst (pc := 5) (v := nI 0) dX5_spellRow_5 (by decide) ?_
  refine AX.istore_n (pc := 6) (L' := [.ref 75, .ref 63, .int (nI m), .int (nI 0)]) dX5_spellRow_6 (by decide) rfl ?_
  obtain ⟨-, -, f, e2, -⟩ := id hT
  have sx : Same [75, 76] h (xset h 75 (.inr (4, [.ref 76, .int (nI 0)]))) := Same.set Same.rf (by simp)
  exact l_spellRow w _ h sp rfl hm hsp (fun h' p q => ⟨rfl, p, q⟩) m 0 _ (by omega) (sx.le hn) (sx.at (by simp) er) ⟨xset_same _ _ _, Nat.zero_le _, f, (xset_ne (by decide)).trans e2, fun j hj => absurd hj (Nat.not_lt_zero _)⟩ sx
theorem c_pBecome (w : XW) (h : XH) {a c : Nat} {x0 x1 x2 x3 x4 x5 y0 y1 y2 y3 y4 y5 : Int32} (ha : a < h.1) (hc : c < h.1) (hac : a ≠ c) (ea : h.2 a = .inr (5, [.int x0, .int x1, .int x2, .int x3, .int x4, .int x5])) (ec : h.2 c = .inr (5, [.int y0, .int y1, .int y2, .int y3, .int y4, .int y5])) : CA w M_X6_become [.ref a, .ref c] h (fun v h' => v = none ∧ Same [a] h h' ∧ h'.2 a = .inr (5, [.int y0, .int y1, .int y2, .int y3, .int y4, .int y5])) := by
  refine CA.of (by decide) rfl (fun _ => Nat.le_of_ble_eq_true rfl) ?_
  show AX w M_X6_become 0 0 0 [.ref a, .ref c] [] h _
  refine AX.aload_n (pc := 0) dX6_become_0 rfl ?_
  refine AX.aload_n (pc := 1) dX6_become_1 rfl ?_
  refine AX.getf (pc := 2) fX6_become_9 (by first | exact ha | exact hc) ec rfl dX6_become_2 ?_
  refine AX.putf (pc := 5) (fs' := [.int y0, .int x1, .int x2, .int x3, .int x4, .int x5]) fX6_become_9 rfl (by first | exact ha | exact hc) ea (Nat.le_of_ble_eq_true rfl) rfl rfl rfl dX6_become_5 ?_
  refine AX.aload_n (pc := 8) dX6_become_8 rfl ?_
  refine AX.aload_n (pc := 9) dX6_become_9 rfl ?_
  refine AX.getf (pc := 10) fX6_become_15 (by first | exact ha | exact hc) ((xset_ne (by omega)).trans ec) rfl dX6_become_10 ?_
  refine AX.putf (pc := 13) (h := xset h a (.inr (5, [.int y0, .int x1, .int x2, .int x3, .int x4, .int x5]))) (a := a) (fs' := [.int y0, .int y1, .int x2, .int x3, .int x4, .int x5]) fX6_become_15 rfl (by first | exact ha | exact hc) (xset_same _ _ _) (Nat.le_of_ble_eq_true rfl) rfl rfl rfl dX6_become_13 ?_
  refine AX.aload_n (pc := 16) dX6_become_16 rfl ?_
  refine AX.aload_n (pc := 17) dX6_become_17 rfl ?_
  refine AX.getf (pc := 18) fX6_become_18 (by first | exact ha | exact hc) ((xset_ne (by omega)).trans ((xset_ne (by omega)).trans ec)) rfl dX6_become_18 ?_
  refine AX.putf (pc := 21) (h := xset (xset h a (.inr (5, [.int y0, .int x1, .int x2, .int x3, .int x4, .int x5]))) a (.inr (5, [.int y0, .int y1, .int x2, .int x3, .int x4, .int x5]))) (a := a) (fs' := [.int y0, .int y1, .int y2, .int x3, .int x4, .int x5]) fX6_become_18 rfl (by first | exact ha | exact hc) (xset_same _ _ _) (Nat.le_of_ble_eq_true rfl) rfl rfl rfl dX6_become_21 ?_
  refine AX.aload_n (pc := 24) dX6_become_24 rfl ?_
  refine AX.aload_n (pc := 25) dX6_become_25 rfl ?_
  refine AX.getf (pc := 26) fX6_become_21 (by first | exact ha | exact hc) ((xset_ne (by omega)).trans ((xset_ne (by omega)).trans ((xset_ne (by omega)).trans ec))) rfl dX6_become_26 ?_
  refine AX.putf (pc := 29) (h := xset (xset (xset h a (.inr (5, [.int y0, .int x1, .int x2, .int x3, .int x4, .int x5]))) a (.inr (5, [.int y0, .int y1, .int x2, .int x3, .int x4, .int x5]))) a (.inr (5, [.int y0, .int y1, .int y2, .int x3, .int x4, .int x5]))) (a := a) (fs' := [.int y0, .int y1, .int y2, .int y3, .int x4, .int x5]) fX6_become_21 rfl (by first | exact ha | exact hc) (xset_same _ _ _) (Nat.le_of_ble_eq_true rfl) rfl rfl rfl dX6_become_29 ?_
  refine AX.aload_n (pc := 32) dX6_become_32 rfl ?_
  refine AX.aload_n (pc := 33) dX6_become_33 rfl ?_
  refine AX.getf (pc := 34) fX6_become_24 (by first | exact ha | exact hc) ((xset_ne (by omega)).trans ((xset_ne (by omega)).trans ((xset_ne (by omega)).trans ((xset_ne (by omega)).trans ec)))) rfl dX6_become_34 ?_
  refine AX.putf (pc := 37) (h := xset (xset (xset (xset h a (.inr (5, [.int y0, .int x1, .int x2, .int x3, .int x4, .int x5]))) a (.inr (5, [.int y0, .int y1, .int x2, .int x3, .int x4, .int x5]))) a (.inr (5, [.int y0, .int y1, .int y2, .int x3, .int x4, .int x5]))) a (.inr (5, [.int y0, .int y1, .int y2, .int y3, .int x4, .int x5]))) (a := a) (fs' := [.int y0, .int y1, .int y2, .int y3, .int y4, .int x5]) fX6_become_24 rfl (by first | exact ha | exact hc) (xset_same _ _ _) (Nat.le_of_ble_eq_true rfl) rfl rfl rfl dX6_become_37 ?_
  refine AX.aload_n (pc := 40) dX6_become_40 rfl ?_
  refine AX.aload_n (pc := 41) dX6_become_41 rfl ?_
  refine AX.getf (pc := 42) fX6_become_27 (by first | exact ha | exact hc) ((xset_ne (by omega)).trans ((xset_ne (by omega)).trans ((xset_ne (by omega)).trans ((xset_ne (by omega)).trans ((xset_ne (by omega)).trans ec))))) rfl dX6_become_42 ?_
  refine AX.putf (pc := 45) (h := xset (xset (xset (xset (xset h a (.inr (5, [.int y0, .int x1, .int x2, .int x3, .int x4, .int x5]))) a (.inr (5, [.int y0, .int y1, .int x2, .int x3, .int x4, .int x5]))) a (.inr (5, [.int y0, .int y1, .int y2, .int x3, .int x4, .int x5]))) a (.inr (5, [.int y0, .int y1, .int y2, .int y3, .int x4, .int x5]))) a (.inr (5, [.int y0, .int y1, .int y2, .int y3, .int y4, .int x5]))) (a := a) (fs' := [.int y0, .int y1, .int y2, .int y3, .int y4, .int y5]) fX6_become_27 rfl (by first | exact ha | exact hc) (xset_same _ _ _) (Nat.le_of_ble_eq_true rfl) rfl rfl rfl dX6_become_45 ?_
  refine AX.vret (pc := 48) dX6_become_48 rfl (by decide) (by decide) ?_
  exact ⟨rfl, (Same.set (Same.set (Same.set (Same.set (Same.set (Same.set Same.rf (by simp)) (by simp)) (by simp)) (by simp)) (by simp)) (by simp)), (xset_same _ _ _)⟩
