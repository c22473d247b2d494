/-! ===== THE TAPE: read, fed; what is told of a PLAYER ===== -/
theorem TP.len0 {h h' : XH} {l a : Nat} {y : Nat → Nat} {X : List Nat} (H : TP h l y a X) (hs : Same [72] h h') (e : h'.2 72 = .inr (9, [.ref 73, .int (nI 0), .ref 74, .int (nI X.length), .int (nI a)])) : TP h' 0 y a X := by
  obtain ⟨-, p1, p2, ⟨f, e1, q1⟩, s, e2, q2⟩ := H
  exact ⟨e, Nat.zero_le _, p2, ⟨f, hs.at (by simp) e1, fun j hj => absurd hj (Nat.not_lt_zero _)⟩, s, hs.at (by simp) e2, q2⟩
theorem ptR.tp {h' : XH} {l : Nat} {y : Nat → Nat} {v : Option Value} {R : Nat ⊕ List Nat} (H : ptR h' l y v R) : ∃ (z : Int32) (a : Nat) (X : List Nat), v = some (.int z) ∧ TP h' l y a X ∧ ∀ h2, TP h2 0 y a X → ptR h2 0 y v R := by
  match R, H with
  | .inl k, H =>
    obtain ⟨e, a, X, T⟩ := H
    exact ⟨_, a, X, e, T, fun h2 T2 => ⟨e, a, X, T2⟩⟩
  | .inr X, H =>
    obtain ⟨e, a, T⟩ := H
    exact ⟨_, a, X, e, T, fun h2 T2 => ⟨e, a, T2⟩⟩
theorem c_read (w : XW) (h : XH) {l a : Nat} {y : Nat → Nat} {X : List Nat} (hn : 75 ≤ h.1) (hT : TP h l y a X) : CA w M_X10_read [.ref 72] h (fun v h' => Same [72, 74] h h' ∧ ptR h' 0 y v (ptN y l 12 0 [])) := by
  refine CA.of (by decide) rfl (fun _ => Nat.le_of_ble_eq_true rfl) ?_
  obtain ⟨-, hl60, hX12, ⟨f, e73, qf⟩, s0_, e74, qs⟩ := id hT
  show AX w M_X10_read 0 0 0 [.ref 72, .null] [] h _
  refine AX.aload_n (pc := 0) dX10_read_0 rfl ?_
  refine AX.callV (pc := 1) (M2 := M_X10_faultOfPath) (As := []) (rest := []) (c_faultOfPath w h hn hT) xc_X10_read__X10_faultOfPath gX10_read_X10_faultOfPath (ci := 9) rfl (lt_k hn (by omega)) hT.1 rfl (Nat.le_of_ble_eq_true rfl) dX10_read_1 ?_
  rintro v1 h1 ⟨s1, R1⟩
  obtain ⟨z, a1, X1, rfl, T1, U1⟩ := R1.tp
  show AX w M_X10_read 0 0 4 [.ref 72, .null] [.int z] _ _
  refine AX.istore_n (pc := 4) (L' := [.ref 72, .int z]) dX10_read_4 (by decide) rfl ?_
  refine AX.aload_n (pc := 5) dX10_read_5 rfl ?_
  refine AX.iconst (pc := 6) (v := nI 0) dX10_read_6 (by decide) ?_
  refine AX.putf (pc := 7) (fs' := [.ref 73, .int (nI 0), .ref 74, .int (nI X1.length), .int (nI a1)]) fX10_read_18 rfl (lt_k (s1.le hn) (by omega)) T1.1 (Nat.le_of_ble_eq_true rfl) rfl rfl rfl dX10_read_7 ?_
  refine AX.iload_n (pc := 10) dX10_read_10 rfl ?_
  refine AX.iret (pc := 11) dX10_read_11 rfl rfl (by decide) (by decide) ?_
  have sx : Same [72] h1 (xset h1 72 (.inr (9, [.ref 73, .int (nI 0), .ref 74, .int (nI X1.length), .int (nI a1)]))) := Same.rest
  exact ⟨s1.trans (sx.wide (by simp)), U1 _ (T1.len0 sx (xset_same _ _ _))⟩
theorem c_append (w : XW) (h : XH) {l a : Nat} {y : Nat → Nat} {X : List Nat} (c : Nat) (hc : c < 128) (hn : 75 ≤ h.1) (hT : TP h l y a X) (hl : l < 60) : CA w M_X10_append [.ref 72, .int (nI c)] h (fun v h' => v = some (.int (bI true)) ∧ Same [72, 73] h h' ∧ TP h' (l + 1) (fun j => if j = l then c else y j) a X) := by
  refine CA.of (by decide) rfl (fun _ => Nat.le_of_ble_eq_true rfl) ?_
  obtain ⟨-, hl60, hX12, ⟨f, e73, qf⟩, s0_, e74, qs⟩ := id hT
  show AX w M_X10_append 0 0 0 [.ref 72, .int (nI c)] [] h _
  refine AX.aload_n (pc := 0) dX10_append_0 rfl ?_
  refine AX.getf (pc := 1) fX10_append_18 (lt_k hn (by omega)) hT.1 rfl dX10_append_1 ?_
  refine AX.bipush (pc := 4) (v := nI 60) dX10_append_4 (by decide) ?_
  refine AX.icmp_ltN (pc := 6) (tgt := 11) dX10_append_6 (by decide) (by omega) (by decide) (fun hc6 => ?_) (fun q => absurd q (by omega))
  refine AX.aload_n (pc := 11) dX10_append_11 rfl ?_
  refine AX.getf (pc := 12) fX10_append_11 (lt_k hn (by omega)) hT.1 rfl dX10_append_12 ?_
  refine AX.aload_n (pc := 15) dX10_append_15 rfl ?_
  refine AX.getf (pc := 16) fX10_append_18 (lt_k hn (by omega)) hT.1 rfl dX10_append_16 ?_
  refine AX.iload_n (pc := 19) dX10_append_19 rfl ?_
  refine AX.iastN (pc := 20) (i := l) (g := upd f l (nI c)) (lt_k hn (by omega)) e73 (by decide) (by omega) rfl dX10_append_20 ?_
  refine AX.aload_n (pc := 21) dX10_append_21 rfl ?_
  refine AX.dup (pc := 22) dX10_append_22 rfl ?_
  refine AX.getf (pc := 23) fX10_append_18 (lt_k hn (by omega)) ((xset_ne (by decide)).trans hT.1) rfl dX10_append_23 ?_
  refine AX.iconst (pc := 26) (v := nI 1) dX10_append_26 (by decide) ?_
  refine AX.iaddN (pc := 27) (c := l + 1) dX10_append_27 rfl ?_
  refine AX.putf (pc := 28) (h := xset h 73 (.inl (0, 60, .inl (upd f l (nI c))))) (a := 72) (fs' := [.ref 73, .int (nI (l + 1)), .ref 74, .int (nI X.length), .int (nI a)]) fX10_append_18 rfl (lt_k hn (by omega)) ((xset_ne (by decide)).trans hT.1) (Nat.le_of_ble_eq_true rfl) rfl rfl rfl dX10_append_28 ?_
  refine AX.iconst (pc := 31) (v := nI 1) dX10_append_31 (by decide) ?_
  refine AX.iret (pc := 32) dX10_append_32 rfl rfl (by decide) (by decide) ?_
  have sx : Same [72, 73] h (xset (xset h 73 (.inl (0, 60, .inl (upd f l (nI c))))) 72 (.inr (9, [.ref 73, .int (nI (l + 1)), .ref 74, .int (nI X.length), .int (nI a)]))) := Same.set (Same.set Same.rf (by simp)) (by simp)
  refine ⟨rfl, sx, xset_same _ _ _, hl, hX12, ⟨_, (xset_ne (by decide)).trans (xset_same _ _ _), fun j hj => ?_⟩, s0_, sx.at (by simp) e74, qs⟩
  by_cases z : j = l
  · subst z; simp only [upd_at, if_true]; exact ⟨trivial, hc⟩
  · simp only [if_neg z]; rw [upd_off z]; exact qf j (by omega)
theorem c_appendFull (w : XW) (h : XH) {l a : Nat} {y : Nat → Nat} {X : List Nat} (c : Nat) (hn : 75 ≤ h.1) (hT : TP h l y a X) (hl : ¬ l < 60) : CA w M_X10_append [.ref 72, .int (nI c)] h (fun v' h'' => v' = some (.int (bI false)) ∧ h'' = h) := by
  refine CA.of (by decide) rfl (fun _ => Nat.le_of_ble_eq_true rfl) ?_
  obtain ⟨-, hl60, hX12, ⟨f, e73, qf⟩, s0_, e74, qs⟩ := id hT
  show AX w M_X10_append 0 0 0 [.ref 72, .int (nI c)] [] h _
  refine AX.aload_n (pc := 0) dX10_append_0 rfl ?_
  refine AX.getf (pc := 1) fX10_append_18 (lt_k hn (by omega)) hT.1 rfl dX10_append_1 ?_
  refine AX.bipush (pc := 4) (v := nI 60) dX10_append_4 (by decide) ?_
  refine AX.icmp_ltN (pc := 6) (tgt := 11) dX10_append_6 (by decide) (by omega) (by decide) (fun q => absurd q (by omega)) (fun hc6 => ?_)
  refine AX.iconst (pc := 9) (v := nI 0) dX10_append_9 (by decide) ?_
  refine AX.iret (pc := 10) dX10_append_10 rfl rfl (by decide) (by decide) ?_
  exact ⟨rfl, rfl⟩
theorem c_tell0 (w : XW) (h : XH) {a : Nat} {x0 x1 x2 x3 x4 x5 : Int32} (ha : a < h.1) (ea : h.2 a = .inr (5, [.int x0, .int x1, .int x2, .int x3, .int x4, .int x5])) : CE w M_X6_tell [.ref a, .int (nI 0)] h (some (.int x2)) h := by
  refine CA.of (by decide) rfl (fun _ => Nat.le_of_ble_eq_true rfl) ?_
  show AX w M_X6_tell 0 0 0 [.ref a, .int (nI 0)] [] h _
  refine AX.iload_n (pc := 0) dX6_tell_0 rfl ?_
  refine AX.tableIn (pc := 1) (off := 39) (tgt := 40) dX6_tell_1 (by decide) (by decide) (by decide) (by decide) ?_
  refine AX.aload_n (pc := 40) dX6_tell_40 rfl ?_
  refine AX.getf (pc := 41) fX6_tell_18 ha ea rfl dX6_tell_41 ?_
  refine AX.iret (pc := 44) dX6_tell_44 rfl rfl (by decide) (by decide) ?_
  exact ⟨rfl, rfl⟩
theorem c_tell1 (w : XW) (h : XH) {a : Nat} {x0 x1 x2 x3 x4 x5 : Int32} (ha : a < h.1) (ea : h.2 a = .inr (5, [.int x0, .int x1, .int x2, .int x3, .int x4, .int x5])) : CE w M_X6_tell [.ref a, .int (nI 1)] h (some (.int x3)) h := by
  refine CA.of (by decide) rfl (fun _ => Nat.le_of_ble_eq_true rfl) ?_
  show AX w M_X6_tell 0 0 0 [.ref a, .int (nI 1)] [] h _
  refine AX.iload_n (pc := 0) dX6_tell_0 rfl ?_
  refine AX.tableIn (pc := 1) (off := 44) (tgt := 45) dX6_tell_1 (by decide) (by decide) (by decide) (by decide) ?_
  refine AX.aload_n (pc := 45) dX6_tell_45 rfl ?_
  refine AX.getf (pc := 46) fX6_tell_21 ha ea rfl dX6_tell_46 ?_
  refine AX.iret (pc := 49) dX6_tell_49 rfl rfl (by decide) (by decide) ?_
  exact ⟨rfl, rfl⟩
theorem c_tell2 (w : XW) (h : XH) {a : Nat} {x0 x1 x2 x3 x4 x5 : Int32} (ha : a < h.1) (ea : h.2 a = .inr (5, [.int x0, .int x1, .int x2, .int x3, .int x4, .int x5])) : CE w M_X6_tell [.ref a, .int (nI 2)] h (some (.int x4)) h := by
  refine CA.of (by decide) rfl (fun _ => Nat.le_of_ble_eq_true rfl) ?_
  show AX w M_X6_tell 0 0 0 [.ref a, .int (nI 2)] [] h _
  refine AX.iload_n (pc := 0) dX6_tell_0 rfl ?_
  refine AX.tableIn (pc := 1) (off := 49) (tgt := 50) dX6_tell_1 (by decide) (by decide) (by decide) (by decide) ?_
  refine AX.aload_n (pc := 50) dX6_tell_50 rfl ?_
  refine AX.getf (pc := 51) fX6_tell_24 ha ea rfl dX6_tell_51 ?_
  refine AX.iret (pc := 54) dX6_tell_54 rfl rfl (by decide) (by decide) ?_
  exact ⟨rfl, rfl⟩
theorem c_tell3 (w : XW) (h : XH) {a : Nat} {x0 x1 x2 x3 x4 x5 : Int32} (ha : a < h.1) (ea : h.2 a = .inr (5, [.int x0, .int x1, .int x2, .int x3, .int x4, .int x5])) : CE w M_X6_tell [.ref a, .int (nI 3)] h (some (.int x5)) h := by
  refine CA.of (by decide) rfl (fun _ => Nat.le_of_ble_eq_true rfl) ?_
  show AX w M_X6_tell 0 0 0 [.ref a, .int (nI 3)] [] h _
  refine AX.iload_n (pc := 0) dX6_tell_0 rfl ?_
  refine AX.tableIn (pc := 1) (off := 54) (tgt := 55) dX6_tell_1 (by decide) (by decide) (by decide) (by decide) ?_
  refine AX.aload_n (pc := 55) dX6_tell_55 rfl ?_
  refine AX.getf (pc := 56) fX6_tell_27 ha ea rfl dX6_tell_56 ?_
  refine AX.iret (pc := 59) dX6_tell_59 rfl rfl (by decide) (by decide) ?_
  exact ⟨rfl, rfl⟩
theorem c_tell4 (w : XW) (h : XH) {a : Nat} {x0 x1 x2 x3 x4 x5 : Int32} (ha : a < h.1) (ea : h.2 a = .inr (5, [.int x0, .int x1, .int x2, .int x3, .int x4, .int x5])) : CE w M_X6_tell [.ref a, .int (nI 4)] h (some (.int x0)) h := by
  refine CA.of (by decide) rfl (fun _ => Nat.le_of_ble_eq_true rfl) ?_
  show AX w M_X6_tell 0 0 0 [.ref a, .int (nI 4)] [] h _
  refine AX.iload_n (pc := 0) dX6_tell_0 rfl ?_
  refine AX.tableIn (pc := 1) (off := 59) (tgt := 60) dX6_tell_1 (by decide) (by decide) (by decide) (by decide) ?_
  refine AX.aload_n (pc := 60) dX6_tell_60 rfl ?_
  refine AX.getf (pc := 61) fX6_tell_9 ha ea rfl dX6_tell_61 ?_
  refine AX.iret (pc := 64) dX6_tell_64 rfl rfl (by decide) (by decide) ?_
  exact ⟨rfl, rfl⟩
theorem c_tell5 (w : XW) (h : XH) {a : Nat} {x0 x1 x2 x3 x4 x5 : Int32} (ha : a < h.1) (ea : h.2 a = .inr (5, [.int x0, .int x1, .int x2, .int x3, .int x4, .int x5])) : CE w M_X6_tell [.ref a, .int (nI 5)] h (some (.int x1)) h := by
  refine CA.of (by decide) rfl (fun _ => Nat.le_of_ble_eq_true rfl) ?_
  show AX w M_X6_tell 0 0 0 [.ref a, .int (nI 5)] [] h _
  refine AX.iload_n (pc := 0) dX6_tell_0 rfl ?_
  refine AX.tableIn (pc := 1) (off := 64) (tgt := 65) dX6_tell_1 (by decide) (by decide) (by decide) (by decide) ?_
  refine AX.aload_n (pc := 65) dX6_tell_65 rfl ?_
  refine AX.getf (pc := 66) fX6_tell_15 ha ea rfl dX6_tell_66 ?_
  refine AX.iret (pc := 69) dX6_tell_69 rfl rfl (by decide) (by decide) ?_
  exact ⟨rfl, rfl⟩
