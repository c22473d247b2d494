/-! ===== CONSTRUCTORS: FALLS ===== -/
theorem dfX1 : ∀ w : XW, ∀ j, j < 4 → defaultValue (tyX1 j) = vp_V (([.null, .null, .null, .null] : List Value).map (xv w)) j := fun w j hj => match j, hj with
  | 0, _ => rfl
  | 1, _ => rfl
  | 2, _ => rfl
  | 3, _ => rfl
  | j + 4, hj => absurd hj (by omega)
theorem dfX2 : ∀ w : XW, ∀ j, j < 5 → defaultValue (tyX2 j) = vp_V (([.null, .null, .int (nI 0), .null, .int (nI 0)] : List Value).map (xv w)) j := fun w j hj => match j, hj with
  | 0, _ => rfl
  | 1, _ => rfl
  | 2, _ => rfl
  | 3, _ => rfl
  | 4, _ => rfl
  | j + 5, hj => absurd hj (by omega)
theorem dfX3 : ∀ w : XW, ∀ j, j < 8 → defaultValue (tyX3 j) = vp_V (([.null, .int (nI 0), .int (nI 0), .int (nI 0), .int (nI 0), .int (nI 0), .int (nI 0), .int (nI 0)] : List Value).map (xv w)) j := fun w j hj => match j, hj with
  | 0, _ => rfl
  | 1, _ => rfl
  | 2, _ => rfl
  | 3, _ => rfl
  | 4, _ => rfl
  | 5, _ => rfl
  | 6, _ => rfl
  | 7, _ => rfl
  | j + 8, hj => absurd hj (by omega)
theorem dfX4 : ∀ w : XW, ∀ j, j < 13 → defaultValue (tyX4 j) = vp_V (([.null, .null, .int (nI 0), .int (nI 0), .null, .null, .null, .null, .null, .int (nI 0), .null, .null, .int (nI 0)] : List Value).map (xv w)) j := fun w j hj => match j, hj with
  | 0, _ => rfl
  | 1, _ => rfl
  | 2, _ => rfl
  | 3, _ => rfl
  | 4, _ => rfl
  | 5, _ => rfl
  | 6, _ => rfl
  | 7, _ => rfl
  | 8, _ => rfl
  | 9, _ => rfl
  | 10, _ => rfl
  | 11, _ => rfl
  | 12, _ => rfl
  | j + 13, hj => absurd hj (by omega)
theorem dfX5 : ∀ w : XW, ∀ j, j < 2 → defaultValue (tyX5 j) = vp_V (([.null, .int (nI 0)] : List Value).map (xv w)) j := fun w j hj => match j, hj with
  | 0, _ => rfl
  | 1, _ => rfl
  | j + 2, hj => absurd hj (by omega)
theorem dfX6 : ∀ w : XW, ∀ j, j < 6 → defaultValue (tyX6 j) = vp_V (([.int (nI 0), .int (nI 0), .int (nI 0), .int (nI 0), .int (nI 0), .int (nI 0)] : List Value).map (xv w)) j := fun w j hj => match j, hj with
  | 0, _ => rfl
  | 1, _ => rfl
  | 2, _ => rfl
  | 3, _ => rfl
  | 4, _ => rfl
  | 5, _ => rfl
  | j + 6, hj => absurd hj (by omega)
theorem dfX7 : ∀ w : XW, ∀ j, j < 9 → defaultValue (tyX7 j) = vp_V (([.null, .null, .null, .null, .null, .null, .null, .null, .null] : List Value).map (xv w)) j := fun w j hj => match j, hj with
  | 0, _ => rfl
  | 1, _ => rfl
  | 2, _ => rfl
  | 3, _ => rfl
  | 4, _ => rfl
  | 5, _ => rfl
  | 6, _ => rfl
  | 7, _ => rfl
  | 8, _ => rfl
  | j + 9, hj => absurd hj (by omega)
theorem dfX8 : ∀ w : XW, ∀ j, j < 3 → defaultValue (tyX8 j) = vp_V (([.null, .int (nI 0), .int (nI 0)] : List Value).map (xv w)) j := fun w j hj => match j, hj with
  | 0, _ => rfl
  | 1, _ => rfl
  | 2, _ => rfl
  | j + 3, hj => absurd hj (by omega)
theorem dfX9 : ∀ w : XW, ∀ j, j < 3 → defaultValue (tyX9 j) = vp_V (([.null, .null, .int (nI 0)] : List Value).map (xv w)) j := fun w j hj => match j, hj with
  | 0, _ => rfl
  | 1, _ => rfl
  | 2, _ => rfl
  | j + 3, hj => absurd hj (by omega)
theorem dfX10 : ∀ w : XW, ∀ j, j < 5 → defaultValue (tyX10 j) = vp_V (([.null, .int (nI 0), .null, .int (nI 0), .int (nI 0)] : List Value).map (xv w)) j := fun w j hj => match j, hj with
  | 0, _ => rfl
  | 1, _ => rfl
  | 2, _ => rfl
  | 3, _ => rfl
  | 4, _ => rfl
  | j + 5, hj => absurd hj (by omega)
theorem dfX11 : ∀ w : XW, ∀ j, j < 12 → defaultValue (tyX11 j) = vp_V (([.null, .null, .null, .null, .null, .null, .null, .int (nI 0), .null, .null, .null, .null] : List Value).map (xv w)) j := fun w j hj => match j, hj with
  | 0, _ => rfl
  | 1, _ => rfl
  | 2, _ => rfl
  | 3, _ => rfl
  | 4, _ => rfl
  | 5, _ => rfl
  | 6, _ => rfl
  | 7, _ => rfl
  | 8, _ => rfl
  | 9, _ => rfl
  | 10, _ => rfl
  | 11, _ => rfl
  | j + 12, hj => absurd hj (by omega)
theorem dfX12 : ∀ w : XW, ∀ j, j < 40 → defaultValue (tyX12 j) = vp_V (([.null, .null, .null, .int (nI 0), .int (nI 0), .null, .null, .null, .null, .null, .null, .null, .null, .null, .null, .null, .int (nI 0), .null, .null, .null, .null, .null, .null, .null, .int (nI 0), .null, .int (nI 0), .null, .null, .int (nI 0), .null, .int (nI 0), .int (nI 0), .int (nI 0), .null, .int (nI 0), .null, .null, .null, .null] : List Value).map (xv w)) j := fun w j hj => match j, hj with
  | 0, _ => rfl
  | 1, _ => rfl
  | 2, _ => rfl
  | 3, _ => rfl
  | 4, _ => rfl
  | 5, _ => rfl
  | 6, _ => rfl
  | 7, _ => rfl
  | 8, _ => rfl
  | 9, _ => rfl
  | 10, _ => rfl
  | 11, _ => rfl
  | 12, _ => rfl
  | 13, _ => rfl
  | 14, _ => rfl
  | 15, _ => rfl
  | 16, _ => rfl
  | 17, _ => rfl
  | 18, _ => rfl
  | 19, _ => rfl
  | 20, _ => rfl
  | 21, _ => rfl
  | 22, _ => rfl
  | 23, _ => rfl
  | 24, _ => rfl
  | 25, _ => rfl
  | 26, _ => rfl
  | 27, _ => rfl
  | 28, _ => rfl
  | 29, _ => rfl
  | 30, _ => rfl
  | 31, _ => rfl
  | 32, _ => rfl
  | 33, _ => rfl
  | 34, _ => rfl
  | 35, _ => rfl
  | 36, _ => rfl
  | 37, _ => rfl
  | 38, _ => rfl
  | 39, _ => rfl
  | j + 40, hj => absurd hj (by omega)
def updN (f : Nat → Nat) (k x : Nat) : Nat → Nat := fun j => if j = k then x else f j
theorem updN_at (f : Nat → Nat) (k x : Nat) : updN f k x k = x := by simp [updN]
theorem updN_off {f : Nat → Nat} {k j x : Nat} (hn : j ≠ k) : updN f k x j = f j := by simp [updN, hn]
/-- FALLS laid so far: of AIM a the first m a -/
def FMw (m : Nat → Nat) (z : Nat → Nat) (q : Nat) : Int32 := nI (if q % 5 < m (q / 5) then z q else 0)
def FM (h : XH) (m : Nat → Nat) : Prop := h.2 4 = .inr (0, [.ref 5, .ref 6, .ref 7, .ref 8]) ∧ iA h 5 63 (fun a => nI (m a)) ∧ iA h 6 315 (FMw m fS) ∧ iA h 7 315 (FMw m fTS) ∧ iA h 8 315 (FMw m fTR)
theorem FM.congr {h : XH} {m m' : Nat → Nat} (H : FM h m) (e : ∀ a, a < 63 → m a = m' a) : FM h m' := by
  obtain ⟨h0, ⟨f1, e1, q1⟩, ⟨f2, e2, q2⟩, ⟨f3, e3, q3⟩, ⟨f4, e4, q4⟩⟩ := H
  have z : ∀ z q, q < 315 → FMw m z q = FMw m' z q := fun z q hq => by
    unfold FMw
    rw [e (q / 5) (by omega)]
  exact ⟨h0, ⟨f1, e1, fun j hj => by rw [q1 j hj]; exact congrArg nI (e j hj)⟩, ⟨f2, e2, fun j hj => by rw [q2 j hj, z _ j hj]⟩, ⟨f3, e3, fun j hj => by rw [q3 j hj, z _ j hj]⟩, ⟨f4, e4, fun j hj => by rw [q4 j hj, z _ j hj]⟩⟩
theorem FM.put {m z : Nat → Nat} {a i v : Nat} {g : Nat → Int32} (hg : ∀ q, q < 315 → g q = FMw m z q) (hm : m a = i) (hi : i < 5) (hv : z (5 * a + i) = v) : ∀ q, q < 315 → upd g (a * 5 + i) (nI v) q = FMw (updN m a (i + 1)) z q := by
  intro q hq
  by_cases e : q = a * 5 + i
  · subst e
    rw [upd_at]
    unfold FMw
    rw [show (a * 5 + i) / 5 = a by omega, show (a * 5 + i) % 5 = i by omega, updN_at, if_pos (by omega), show a * 5 + i = 5 * a + i by omega, hv]
  · rw [upd_off e, hg q hq]
    unfold FMw
    by_cases ea : q / 5 = a
    · rw [ea, hm, updN_at]
      by_cases h1 : q % 5 < i
      · rw [if_pos h1, if_pos (by omega)]
      · rw [if_neg h1, if_neg (by omega)]
    · rw [updN_off ea]
theorem c_fAdd (w : XW) (h : XH) {m : Nat → Nat} {a i : Nat} (hn : 9 ≤ h.1) (hF : FM h m) (ha : a < 63) (hm : m a = i) (hi : i < 5) {s x y : Nat} (hs : fS (5 * a + i) = s) (hx : fTS (5 * a + i) = x) (hy : fTR (5 * a + i) = y) : CA w M_X1_add [.ref 4, .int (nI a), .int (nI s), .int (nI x), .int (nI y)] h (fun v' h' => v' = none ∧ Same [5, 6, 7, 8] h h' ∧ FM h' (updN m a (i + 1))) := by
  refine CA.of (by decide) rfl (fun _ => Nat.le_of_ble_eq_true rfl) ?_
  obtain ⟨f1, e1, q1⟩ := id hF.2.1
  obtain ⟨f2, e2, q2⟩ := id hF.2.2.1
  obtain ⟨f3, e3, q3⟩ := id hF.2.2.2.1
  obtain ⟨f4, e4, q4⟩ := id hF.2.2.2.2
  show AX w M_X1_add 0 0 0 [.ref 4, .int (nI a), .int (nI s), .int (nI x), .int (nI y), .null] [] h _
  refine AX.iload_n (pc := 0) dX1_add_0 rfl ?_
  refine AX.iconst (pc := 1) (v := nI 5) dX1_add_1 (by decide) ?_
  refine AX.imulN (pc := 2) (c := a * 5) dX1_add_2 rfl ?_
  refine AX.aload_n (pc := 3) dX1_add_3 rfl ?_
  refine AX.getf (pc := 4) fX1_add_9 (lt_k hn (by omega)) hF.1 rfl dX1_add_4 ?_
  refine AX.iload_n (pc := 7) dX1_add_7 rfl ?_
  refine AX.ialdN (pc := 8) (i := a) (v := (nI i)) (lt_k hn (by omega)) e1 (by decide) (by omega) ((q1 a ha).trans (congrArg nI hm)) dX1_add_8 ?_
  refine AX.iaddN (pc := 9) (c := a * 5 + i) dX1_add_9 rfl ?_
  refine AX.istore (pc := 10) (L' := [.ref 4, .int (nI a), .int (nI s), .int (nI x), .int (nI y), .int (nI (a * 5 + i))]) dX1_add_10 (by decide) rfl ?_
  refine AX.aload_n (pc := 12) dX1_add_12 rfl ?_
  refine AX.getf (pc := 13) fX1_add_15 (lt_k hn (by omega)) hF.1 rfl dX1_add_13 ?_
  refine AX.iload (pc := 16) dX1_add_16 rfl ?_
  refine AX.iload_n (pc := 18) dX1_add_18 rfl ?_
  refine AX.iastN (pc := 19) (i := a * 5 + i) (g := upd f2 (a * 5 + i) (nI s)) (lt_k hn (by omega)) e2 (by decide) (by omega) rfl dX1_add_19 ?_
  refine AX.aload_n (pc := 20) dX1_add_20 rfl ?_
  refine AX.getf (pc := 21) fX1_add_18 (lt_k hn (by omega)) ((xset_ne (by decide)).trans hF.1) rfl dX1_add_21 ?_
  refine AX.iload (pc := 24) dX1_add_24 rfl ?_
  refine AX.iload_n (pc := 26) dX1_add_26 rfl ?_
  refine AX.iastN (pc := 27) (i := a * 5 + i) (g := upd f3 (a * 5 + i) (nI x)) (lt_k hn (by omega)) ((xset_ne (by decide)).trans e3) (by decide) (by omega) rfl dX1_add_27 ?_
  refine AX.aload_n (pc := 28) dX1_add_28 rfl ?_
  refine AX.getf (pc := 29) fX1_add_21 (lt_k hn (by omega)) ((xset_ne (by decide)).trans ((xset_ne (by decide)).trans hF.1)) rfl dX1_add_29 ?_
  refine AX.iload (pc := 32) dX1_add_32 rfl ?_
  refine AX.iload (pc := 34) dX1_add_34 rfl ?_
  refine AX.iastN (pc := 36) (i := a * 5 + i) (g := upd f4 (a * 5 + i) (nI y)) (lt_k hn (by omega)) ((xset_ne (by decide)).trans ((xset_ne (by decide)).trans e4)) (by decide) (by omega) rfl dX1_add_36 ?_
  refine AX.aload_n (pc := 37) dX1_add_37 rfl ?_
  refine AX.getf (pc := 38) fX1_add_9 (lt_k hn (by omega)) ((xset_ne (by decide)).trans ((xset_ne (by decide)).trans ((xset_ne (by decide)).trans hF.1))) rfl dX1_add_38 ?_
  refine AX.iload_n (pc := 41) dX1_add_41 rfl ?_
  refine AX.dup2 (pc := 42) dX1_add_42 rfl rfl ?_
  refine AX.ialdN (pc := 43) (i := a) (v := (nI i)) (lt_k hn (by omega)) ((xset_ne (by decide)).trans ((xset_ne (by decide)).trans ((xset_ne (by decide)).trans e1))) (by decide) (by omega) ((q1 a ha).trans (congrArg nI hm)) dX1_add_43 ?_
  refine AX.iconst (pc := 44) (v := nI 1) dX1_add_44 (by decide) ?_
  refine AX.iaddN (pc := 45) (c := i + 1) dX1_add_45 rfl ?_
  refine AX.iastN (pc := 46) (i := a) (g := upd f1 a (nI (i + 1))) (lt_k hn (by omega)) ((xset_ne (by decide)).trans ((xset_ne (by decide)).trans ((xset_ne (by decide)).trans e1))) (by decide) (by omega) rfl dX1_add_46 ?_
  refine AX.vret (pc := 47) dX1_add_47 rfl (by decide) (by decide) ?_
  have sx : Same [5, 6, 7, 8] h (xset (xset (xset (xset h 6 (.inl (0, 315, .inl (upd f2 (a * 5 + i) (nI s))))) 7 (.inl (0, 315, .inl (upd f3 (a * 5 + i) (nI x))))) 8 (.inl (0, 315, .inl (upd f4 (a * 5 + i) (nI y))))) 5 (.inl (0, 63, .inl (upd f1 a (nI (i + 1)))))) := Same.set (Same.set (Same.set (Same.set (Same.rf) (by simp)) (by simp)) (by simp)) (by simp)
  exact ⟨rfl, sx, sx.at (by simp) hF.1, ⟨_, (xset_same _ _ _), fun j hj => if e : j = a then (by subst e; rw [upd_at]; exact congrArg nI (updN_at _ _ _).symm) else (by rw [upd_off e, q1 j hj]; exact congrArg nI (updN_off e).symm)⟩, ⟨_, ((xset_ne (by decide)).trans ((xset_ne (by decide)).trans ((xset_ne (by decide)).trans (xset_same _ _ _)))), FM.put q2 hm hi hs⟩, ⟨_, ((xset_ne (by decide)).trans ((xset_ne (by decide)).trans (xset_same _ _ _))), FM.put q3 hm hi hx⟩, ⟨_, ((xset_ne (by decide)).trans (xset_same _ _ _)), FM.put q4 hm hi hy⟩⟩
theorem fB (n b i : Nat) (h1 : 1 ≤ n) (h2 : n ≤ 20) (hb : b = 0 ∨ b = 20 ∨ b = 40) : fS (5 * (n + b)) = n + b ∧ fTS (5 * (n + b)) = 0 ∧ fTR (5 * (n + b)) = 0 ∧ fS (5 * (n + b) + 1) = bsN n 19 + b ∧ fTS (5 * (n + b) + 1) = 1 ∧ fTR (5 * (n + b) + 1) = 0 ∧ fS (5 * (n + b) + 2) = bsN n 1 + b ∧ fTS (5 * (n + b) + 2) = 1 ∧ fTR (5 * (n + b) + 2) = 0 := by
  have z : ∀ b, b = 0 ∨ b = 20 ∨ b = 40 → ∀ n, n < 21 → 1 ≤ n → fS (5 * (n + b)) = n + b ∧ fTS (5 * (n + b)) = 0 ∧ fTR (5 * (n + b)) = 0 ∧ fS (5 * (n + b) + 1) = bsN n 19 + b ∧ fTS (5 * (n + b) + 1) = 1 ∧ fTR (5 * (n + b) + 1) = 0 ∧ fS (5 * (n + b) + 2) = bsN n 1 + b ∧ fTS (5 * (n + b) + 2) = 1 ∧ fTR (5 * (n + b) + 2) = 0 := by
    rintro b (rfl | rfl | rfl)
    · decide +kernel
    · decide +kernel
    · decide +kernel
  exact z b hb n (by omega) h1
theorem c_fBesides (w : XW) (h : XH) {m : Nat → Nat} {n b : Nat} (hn : 9 ≤ h.1) (hF : FM h m) (u1 : 1 ≤ n) (u2 : n ≤ 20) (hb : b = 0 ∨ b = 20 ∨ b = 40) (hm : m (n + b) = 0) : CA w M_X1_addBesides [.ref 4, .int (nI n), .int (nI b)] h (fun v' h' => v' = none ∧ Same [5, 6, 7, 8] h h' ∧ FM h' (updN m (n + b) 3)) := by
  refine CA.of (by decide) rfl (fun _ => Nat.le_of_ble_eq_true rfl) ?_
  obtain ⟨z1, z2, z3, z4, z5, z6, z7, z8, z9⟩ := fB n b 0 u1 u2 hb
  show AX w M_X1_addBesides 0 0 0 [.ref 4, .int (nI n), .int (nI b), .null] [] h _
  refine AX.iload_n (pc := 0) dX1_addBesides_0 rfl ?_
  refine AX.iload_n (pc := 1) dX1_addBesides_1 rfl ?_
  refine AX.iaddN (pc := 2) (c := n + b) dX1_addBesides_2 rfl ?_
  refine AX.istore_n (pc := 3) (L' := [.ref 4, .int (nI n), .int (nI b), .int (nI (n + b))]) dX1_addBesides_3 (by decide) rfl ?_
  refine AX.aload_n (pc := 4) dX1_addBesides_4 rfl ?_
  refine AX.iload_n (pc := 5) dX1_addBesides_5 rfl ?_
  refine AX.iload_n (pc := 6) dX1_addBesides_6 rfl ?_
  refine AX.iconst (pc := 7) (v := nI 0) dX1_addBesides_7 (by decide) ?_
  refine AX.iconst (pc := 8) (v := nI 0) dX1_addBesides_8 (by decide) ?_
  refine AX.callV (pc := 9) (M2 := M_X1_add) (As := [.int (nI (n + b)), .int (nI (n + b)), .int (nI 0), .int (nI 0)]) (rest := []) (c_fAdd w h hn hF (a := n + b) (i := 0) (by omega) hm (by decide) z1 z2 z3) xc_X1_addBesides__X1_add gX1_addBesides_X1_add (ci := 0) rfl (lt_k hn (by omega)) hF.1 rfl (Nat.le_of_ble_eq_true rfl) dX1_addBesides_9 ?_
  rintro _ h1 ⟨rfl, s1, F1⟩
  have n1 := s1.le hn
  show AX w M_X1_addBesides 0 0 12 [.ref 4, .int (nI n), .int (nI b), .int (nI (n + b))] [] _ _
  refine AX.aload_n (pc := 12) dX1_addBesides_12 rfl ?_
  refine AX.iload_n (pc := 13) dX1_addBesides_13 rfl ?_
  refine AX.iload_n (pc := 14) dX1_addBesides_14 rfl ?_
  refine AX.iconst (pc := 15) (v := (-1)) dX1_addBesides_15 (by decide) ?_
  refine AX.callS (pc := 16) (M2 := M_X0_numberBeside) (As := [.int (nI n), .int (-1)]) (rest := [.int (nI (n + b)), .ref 4]) (c_numberBeside w h1 n 19 (-1) u2 (Or.inr ⟨rfl, rfl⟩)) xc_X1_addBesides__X0_numberBeside gX1_addBesides_X0_numberBeside rfl (Nat.le_of_ble_eq_true rfl) dX1_addBesides_16 ?_
  rintro _ h9 ⟨rfl, e9⟩
  have e9 := e9.symm
  subst e9
  show AX w M_X1_addBesides 0 0 19 [.ref 4, .int (nI n), .int (nI b), .int (nI (n + b))] [.int (nI (bsN n 19)), .int (nI (n + b)), .ref 4] _ _
  refine AX.iload_n (pc := 19) dX1_addBesides_19 rfl ?_
  refine AX.iaddN (pc := 20) (c := bsN n 19 + b) dX1_addBesides_20 rfl ?_
  refine AX.iconst (pc := 21) (v := nI 1) dX1_addBesides_21 (by decide) ?_
  refine AX.iconst (pc := 22) (v := nI 0) dX1_addBesides_22 (by decide) ?_
  refine AX.callV (pc := 23) (M2 := M_X1_add) (As := [.int (nI (n + b)), .int (nI (bsN n 19 + b)), .int (nI 1), .int (nI 0)]) (rest := []) (c_fAdd w h1 n1 F1 (a := n + b) (i := 1) (by omega) (updN_at _ _ _) (by decide) z4 z5 z6) xc_X1_addBesides__X1_add gX1_addBesides_X1_add (ci := 0) rfl (lt_k n1 (by omega)) F1.1 rfl (Nat.le_of_ble_eq_true rfl) dX1_addBesides_23 ?_
  rintro _ h2 ⟨rfl, s2, F2⟩
  have n2 := s2.le n1
  show AX w M_X1_addBesides 0 0 26 [.ref 4, .int (nI n), .int (nI b), .int (nI (n + b))] [] _ _
  refine AX.aload_n (pc := 26) dX1_addBesides_26 rfl ?_
  refine AX.iload_n (pc := 27) dX1_addBesides_27 rfl ?_
  refine AX.iload_n (pc := 28) dX1_addBesides_28 rfl ?_
  refine AX.iconst (pc := 29) (v := nI 1) dX1_addBesides_29 (by decide) ?_
  refine AX.callS (pc := 30) (M2 := M_X0_numberBeside) (As := [.int (nI n), .int (nI 1)]) (rest := [.int (nI (n + b)), .ref 4]) (c_numberBeside w h2 n 1 (nI 1) u2 (Or.inl ⟨rfl, rfl⟩)) xc_X1_addBesides__X0_numberBeside gX1_addBesides_X0_numberBeside rfl (Nat.le_of_ble_eq_true rfl) dX1_addBesides_30 ?_
  rintro _ h9 ⟨rfl, e9⟩
  have e9 := e9.symm
  subst e9
  show AX w M_X1_addBesides 0 0 33 [.ref 4, .int (nI n), .int (nI b), .int (nI (n + b))] [.int (nI (bsN n 1)), .int (nI (n + b)), .ref 4] _ _
  refine AX.iload_n (pc := 33) dX1_addBesides_33 rfl ?_
  refine AX.iaddN (pc := 34) (c := bsN n 1 + b) dX1_addBesides_34 rfl ?_
  refine AX.iconst (pc := 35) (v := nI 1) dX1_addBesides_35 (by decide) ?_
  refine AX.iconst (pc := 36) (v := nI 0) dX1_addBesides_36 (by decide) ?_
  refine AX.callV (pc := 37) (M2 := M_X1_add) (As := [.int (nI (n + b)), .int (nI (bsN n 1 + b)), .int (nI 1), .int (nI 0)]) (rest := []) (c_fAdd w h2 n2 F2 (a := n + b) (i := 2) (by omega) (updN_at _ _ _) (by decide) z7 z8 z9) xc_X1_addBesides__X1_add gX1_addBesides_X1_add (ci := 0) rfl (lt_k n2 (by omega)) F2.1 rfl (Nat.le_of_ble_eq_true rfl) dX1_addBesides_37 ?_
  rintro _ h3 ⟨rfl, s3, F3⟩
  have n3 := s3.le n2
  show AX w M_X1_addBesides 0 0 40 [.ref 4, .int (nI n), .int (nI b), .int (nI (n + b))] [] _ _
  refine AX.vret (pc := 40) dX1_addBesides_40 rfl (by decide) (by decide) ?_
  exact ⟨rfl, s1.trans (s2.trans s3), F3.congr (fun a ha => if e : a = n + b then (by subst e; rw [updN_at, updN_at]) else (by rw [updN_off e, updN_off e, updN_off e, updN_off e]))⟩
