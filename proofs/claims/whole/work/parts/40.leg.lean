/-! ===== THE LEG ===== -/
/-- leg or picture at cell b, its two players behind it; q: hands 0 .. 3, rests 4 5, legs 6 7, thrown 8 9, points 10 11, out, start, began, turn, left, the rest at the visit's begin, seed -/
def LG (h : XH) (b : Nat) (q : Nat → Int32) : Prop := h.2 b = .inr (2, [.ref (b + 1), .int (q 12), .int (q 13), .int (q 14), .int (q 15), .int (q 16), .int (q 17), .int (q 18)]) ∧ rA h (b + 1) 6 2 (fun p => some (b + 2 + p)) ∧
  h.2 (b + 2) = .inr (5, [.int (q 0), .int (q 2), .int (q 4), .int (q 6), .int (q 8), .int (q 10)]) ∧ h.2 (b + 3) = .inr (5, [.int (q 1), .int (q 3), .int (q 5), .int (q 7), .int (q 9), .int (q 11)])
theorem LG.same {S : List Nat} {h h' : XH} {b : Nat} {q : Nat → Int32} (H : LG h b q) (hs : Same S h h') (h0 : b ∉ S) (h1 : b + 1 ∉ S) (h2 : b + 2 ∉ S) (h3 : b + 3 ∉ S) : LG h' b q := ⟨hs.at h0 H.1, H.2.1.same hs h1, hs.at h2 H.2.2.1, hs.at h3 H.2.2.2⟩
def bvN (q : Nat → Int32) (p : Nat) : Nat → Int32 := upd (upd (upd q 15 (nI p)) 16 (nI 3)) 17 (q (4 + p))
def bgN (q : Nat → Int32) (g : Nat) : Nat → Int32 := bvN (upd (upd (upd q 4 (q 13)) 5 (q 13)) 14 (nI g)) g
/-- a DART of player t makes of the REST x (none: BUST); g began the leg -/
def ldN (q : Nat → Int32) (t g : Nat) (x : Option Nat) : Nat → Int32 :=
  let now : Int32 := match x with
    | none => q 17
    | some d => nI d
  let q1 := upd (upd (upd (upd q (8 + t) (q (8 + t) + nI 1)) (10 + t) (q (10 + t) + (q (4 + t) - now))) (4 + t) now) 16 (q 16 - nI 1)
  match x with
  | none => bvN q1 (1 - t)
  | some 0 => bgN (upd q1 (6 + t) (q (6 + t) + nI 1)) (1 - g)
  | some (_ + 1) => if q 16 - nI 1 = 0 then bvN q1 (1 - t) else q1
def dwN (q : Nat → Int32) : Nat → Int32 := upd q 18 (q 18 * 1103515245 + nI 12345)
theorem c_beginVisit (w : XW) (h : XH) {q : Nat → Int32} (hn : 72 ≤ h.1) (hL : LG h 64 q) (p : Nat) (hp : p ≤ 1) : CA w M_X3_beginVisit [.ref 64, .int (nI p)] h (fun v h' => v = none ∧ Same [64] h h' ∧ LG h' 64 (bvN q p)) := by
  refine CA.of (by decide) rfl (fun _ => Nat.le_of_ble_eq_true rfl) ?_
  obtain ⟨f65, e65, q65⟩ := id hL.2.1
  obtain ⟨eb, er_, e2, e3⟩ := id hL
  have z : p = 0 ∨ p = 1 := by omega
  rcases z with rfl | rfl
  · show AX w M_X3_beginVisit 0 0 0 [.ref 64, .int (nI 0)] [] h _
    refine AX.aload_n (pc := 0) dX3_beginVisit_0 rfl ?_
    refine AX.iload_n (pc := 1) dX3_beginVisit_1 rfl ?_
    refine AX.putf (pc := 2) (fs' := [.ref 65, .int (q 12), .int (q 13), .int (q 14), .int (nI 0), .int (q 16), .int (q 17), .int (q 18)]) fX3_beginVisit_38 rfl (lt_k hn (by omega)) eb (Nat.le_of_ble_eq_true rfl) rfl rfl rfl dX3_beginVisit_2 ?_
    refine AX.aload_n (pc := 5) dX3_beginVisit_5 rfl ?_
    refine AX.iconst (pc := 6) (v := nI 3) dX3_beginVisit_6 (by decide) ?_
    refine AX.putf (pc := 7) (h := xset h 64 (.inr (2, [.ref 65, .int (q 12), .int (q 13), .int (q 14), .int (nI 0), .int (q 16), .int (q 17), .int (q 18)]))) (a := 64) (fs' := [.ref 65, .int (q 12), .int (q 13), .int (q 14), .int (nI 0), .int (nI 3), .int (q 17), .int (q 18)]) fX3_beginVisit_41 rfl (lt_k hn (by omega)) (xset_same _ _ _) (Nat.le_of_ble_eq_true rfl) rfl rfl rfl dX3_beginVisit_7 ?_
    refine AX.aload_n (pc := 10) dX3_beginVisit_10 rfl ?_
    refine AX.aload_n (pc := 11) dX3_beginVisit_11 rfl ?_
    refine AX.getf (pc := 12) fX3_beginVisit_12 (lt_k hn (by omega)) (xset_same _ _ _) rfl dX3_beginVisit_12 ?_
    refine AX.iload_n (pc := 15) dX3_beginVisit_15 rfl ?_
    refine AX.aaldN (pc := 16) (i := 0) (b := 66) (by decide) (lt_k hn (by omega)) ((xset_ne (by decide)).trans ((xset_ne (by decide)).trans e65)) (by decide) (by decide) (q65 _ (by decide)) dX3_beginVisit_16 ?_
    refine AX.getf (pc := 17) fX3_beginVisit_47 (lt_k hn (by omega)) ((xset_ne (by decide)).trans ((xset_ne (by decide)).trans e2)) rfl dX3_beginVisit_17 ?_
    refine AX.putf (pc := 20) (h := xset (xset h 64 (.inr (2, [.ref 65, .int (q 12), .int (q 13), .int (q 14), .int (nI 0), .int (q 16), .int (q 17), .int (q 18)]))) 64 (.inr (2, [.ref 65, .int (q 12), .int (q 13), .int (q 14), .int (nI 0), .int (nI 3), .int (q 17), .int (q 18)]))) (a := 64) (fs' := [.ref 65, .int (q 12), .int (q 13), .int (q 14), .int (nI 0), .int (nI 3), .int (q 4), .int (q 18)]) fX3_beginVisit_44 rfl (lt_k hn (by omega)) (xset_same _ _ _) (Nat.le_of_ble_eq_true rfl) rfl rfl rfl dX3_beginVisit_20 ?_
    refine AX.vret (pc := 23) dX3_beginVisit_23 rfl (by decide) (by decide) ?_
    have sx : Same [64] h (xset (xset (xset h 64 (.inr (2, [.ref 65, .int (q 12), .int (q 13), .int (q 14), .int (nI 0), .int (q 16), .int (q 17), .int (q 18)]))) 64 (.inr (2, [.ref 65, .int (q 12), .int (q 13), .int (q 14), .int (nI 0), .int (nI 3), .int (q 17), .int (q 18)]))) 64 (.inr (2, [.ref 65, .int (q 12), .int (q 13), .int (q 14), .int (nI 0), .int (nI 3), .int (q 4), .int (q 18)]))) := (Same.set (Same.set (Same.set Same.rf (by simp)) (by simp)) (by simp))
    exact ⟨rfl, sx, (xset_same _ _ _), hL.2.1.same sx (by simp), ((xset_ne (by decide)).trans ((xset_ne (by decide)).trans ((xset_ne (by decide)).trans e2))), ((xset_ne (by decide)).trans ((xset_ne (by decide)).trans ((xset_ne (by decide)).trans e3)))⟩
  · show AX w M_X3_beginVisit 0 0 0 [.ref 64, .int (nI 1)] [] h _
    refine AX.aload_n (pc := 0) dX3_beginVisit_0 rfl ?_
    refine AX.iload_n (pc := 1) dX3_beginVisit_1 rfl ?_
    refine AX.putf (pc := 2) (fs' := [.ref 65, .int (q 12), .int (q 13), .int (q 14), .int (nI 1), .int (q 16), .int (q 17), .int (q 18)]) fX3_beginVisit_38 rfl (lt_k hn (by omega)) eb (Nat.le_of_ble_eq_true rfl) rfl rfl rfl dX3_beginVisit_2 ?_
    refine AX.aload_n (pc := 5) dX3_beginVisit_5 rfl ?_
    refine AX.iconst (pc := 6) (v := nI 3) dX3_beginVisit_6 (by decide) ?_
    refine AX.putf (pc := 7) (h := xset h 64 (.inr (2, [.ref 65, .int (q 12), .int (q 13), .int (q 14), .int (nI 1), .int (q 16), .int (q 17), .int (q 18)]))) (a := 64) (fs' := [.ref 65, .int (q 12), .int (q 13), .int (q 14), .int (nI 1), .int (nI 3), .int (q 17), .int (q 18)]) fX3_beginVisit_41 rfl (lt_k hn (by omega)) (xset_same _ _ _) (Nat.le_of_ble_eq_true rfl) rfl rfl rfl dX3_beginVisit_7 ?_
    refine AX.aload_n (pc := 10) dX3_beginVisit_10 rfl ?_
    refine AX.aload_n (pc := 11) dX3_beginVisit_11 rfl ?_
    refine AX.getf (pc := 12) fX3_beginVisit_12 (lt_k hn (by omega)) (xset_same _ _ _) rfl dX3_beginVisit_12 ?_
    refine AX.iload_n (pc := 15) dX3_beginVisit_15 rfl ?_
    refine AX.aaldN (pc := 16) (i := 1) (b := 67) (by decide) (lt_k hn (by omega)) ((xset_ne (by decide)).trans ((xset_ne (by decide)).trans e65)) (by decide) (by decide) (q65 _ (by decide)) dX3_beginVisit_16 ?_
    refine AX.getf (pc := 17) fX3_beginVisit_47 (lt_k hn (by omega)) ((xset_ne (by decide)).trans ((xset_ne (by decide)).trans e3)) rfl dX3_beginVisit_17 ?_
    refine AX.putf (pc := 20) (h := xset (xset h 64 (.inr (2, [.ref 65, .int (q 12), .int (q 13), .int (q 14), .int (nI 1), .int (q 16), .int (q 17), .int (q 18)]))) 64 (.inr (2, [.ref 65, .int (q 12), .int (q 13), .int (q 14), .int (nI 1), .int (nI 3), .int (q 17), .int (q 18)]))) (a := 64) (fs' := [.ref 65, .int (q 12), .int (q 13), .int (q 14), .int (nI 1), .int (nI 3), .int (q 5), .int (q 18)]) fX3_beginVisit_44 rfl (lt_k hn (by omega)) (xset_same _ _ _) (Nat.le_of_ble_eq_true rfl) rfl rfl rfl dX3_beginVisit_20 ?_
    refine AX.vret (pc := 23) dX3_beginVisit_23 rfl (by decide) (by decide) ?_
    have sx : Same [64] h (xset (xset (xset h 64 (.inr (2, [.ref 65, .int (q 12), .int (q 13), .int (q 14), .int (nI 1), .int (q 16), .int (q 17), .int (q 18)]))) 64 (.inr (2, [.ref 65, .int (q 12), .int (q 13), .int (q 14), .int (nI 1), .int (nI 3), .int (q 17), .int (q 18)]))) 64 (.inr (2, [.ref 65, .int (q 12), .int (q 13), .int (q 14), .int (nI 1), .int (nI 3), .int (q 5), .int (q 18)]))) := (Same.set (Same.set (Same.set Same.rf (by simp)) (by simp)) (by simp))
    exact ⟨rfl, sx, (xset_same _ _ _), hL.2.1.same sx (by simp), ((xset_ne (by decide)).trans ((xset_ne (by decide)).trans ((xset_ne (by decide)).trans e2))), ((xset_ne (by decide)).trans ((xset_ne (by decide)).trans ((xset_ne (by decide)).trans e3)))⟩
theorem c_begin (w : XW) (h : XH) {q : Nat → Int32} (hn : 72 ≤ h.1) (hL : LG h 64 q) (g : Nat) (hg : g ≤ 1) (hq : q 14 = nI g) : CA w M_X3_begin [.ref 64] h (fun v h' => v = none ∧ Same [64, 66, 67] h h' ∧ LG h' 64 (bgN q g)) := by
  refine CA.of (by decide) rfl (fun _ => Nat.le_of_ble_eq_true rfl) ?_
  obtain ⟨f65, e65, q65⟩ := id hL.2.1
  obtain ⟨eb, er_, e2, e3⟩ := id hL
  rw [hq] at eb
  show AX w M_X3_begin 0 0 0 [.ref 64] [] h _
  refine AX.aload_n (pc := 0) dX3_begin_0 rfl ?_
  refine AX.getf (pc := 1) fX3_begin_12 (lt_k hn (by omega)) eb rfl dX3_begin_1 ?_
  refine AX.iconst (pc := 4) (v := nI 0) dX3_begin_4 (by decide) ?_
  refine AX.aaldN (pc := 5) (i := 0) (b := 66) (by decide) (lt_k hn (by omega)) e65 (by decide) (by decide) (q65 _ (by decide)) dX3_begin_5 ?_
  refine AX.aload_n (pc := 6) dX3_begin_6 rfl ?_
  refine AX.getf (pc := 7) fX3_begin_22 (lt_k hn (by omega)) eb rfl dX3_begin_7 ?_
  refine AX.putf (pc := 10) (fs' := [.int (q 0), .int (q 2), .int (q 13), .int (q 6), .int (q 8), .int (q 10)]) fX3_begin_47 rfl (lt_k hn (by omega)) e2 (Nat.le_of_ble_eq_true rfl) rfl rfl rfl dX3_begin_10 ?_
  refine AX.aload_n (pc := 13) dX3_begin_13 rfl ?_
  refine AX.getf (pc := 14) fX3_begin_12 (lt_k hn (by omega)) ((xset_ne (by decide)).trans eb) rfl dX3_begin_14 ?_
  refine AX.iconst (pc := 17) (v := nI 1) dX3_begin_17 (by decide) ?_
  refine AX.aaldN (pc := 18) (i := 1) (b := 67) (by decide) (lt_k hn (by omega)) ((xset_ne (by decide)).trans e65) (by decide) (by decide) (q65 _ (by decide)) dX3_begin_18 ?_
  refine AX.aload_n (pc := 19) dX3_begin_19 rfl ?_
  refine AX.getf (pc := 20) fX3_begin_22 (lt_k hn (by omega)) ((xset_ne (by decide)).trans eb) rfl dX3_begin_20 ?_
  refine AX.putf (pc := 23) (h := xset h 66 (.inr (5, [.int (q 0), .int (q 2), .int (q 13), .int (q 6), .int (q 8), .int (q 10)]))) (a := 67) (fs' := [.int (q 1), .int (q 3), .int (q 13), .int (q 7), .int (q 9), .int (q 11)]) fX3_begin_47 rfl (lt_k hn (by omega)) ((xset_ne (by decide)).trans e3) (Nat.le_of_ble_eq_true rfl) rfl rfl rfl dX3_begin_23 ?_
  have sx : Same [64, 66, 67] h (xset (xset h 66 (.inr (5, [.int (q 0), .int (q 2), .int (q 13), .int (q 6), .int (q 8), .int (q 10)]))) 67 (.inr (5, [.int (q 1), .int (q 3), .int (q 13), .int (q 7), .int (q 9), .int (q 11)]))) := (Same.set (Same.set Same.rf (by simp)) (by simp))
  refine AX.aload_n (pc := 26) dX3_begin_26 rfl ?_
  refine AX.aload_n (pc := 27) dX3_begin_27 rfl ?_
  refine AX.getf (pc := 28) fX3_begin_35 (lt_k hn (by omega)) ((xset_ne (by decide)).trans ((xset_ne (by decide)).trans eb)) rfl dX3_begin_28 ?_
  refine AX.callV (pc := 31) (M2 := M_X3_beginVisit) (As := [.int (nI g)]) (rest := []) (c_beginVisit w (xset (xset h 66 (.inr (5, [.int (q 0), .int (q 2), .int (q 13), .int (q 6), .int (q 8), .int (q 10)]))) 67 (.inr (5, [.int (q 1), .int (q 3), .int (q 13), .int (q 7), .int (q 9), .int (q 11)]))) (sx.le hn) (q := upd (upd (upd q 4 (q 13)) 5 (q 13)) 14 (nI g)) ⟨((xset_ne (by decide)).trans ((xset_ne (by decide)).trans eb)), hL.2.1.same sx (by simp), ((xset_ne (by decide)).trans (xset_same _ _ _)), (xset_same _ _ _)⟩ g (by omega)) xc_X3_begin__X3_beginVisit gX3_begin_X3_beginVisit (ci := 2) rfl (lt_k hn (by omega)) ((xset_ne (by decide)).trans ((xset_ne (by decide)).trans eb)) rfl (Nat.le_of_ble_eq_true rfl) dX3_begin_31 ?_
  rintro _ h1 ⟨rfl, s1, l1⟩
  show AX w M_X3_begin 0 0 34 [.ref 64] [] _ _
  refine AX.vret (pc := 34) dX3_begin_34 rfl (by decide) (by decide) ?_
  exact ⟨rfl, sx.trans (s1.wide (by simp)), l1⟩
theorem c_restOfThrower0 (w : XW) (h : XH) {q : Nat → Int32} (hn : 72 ≤ h.1) (hL : LG h 64 q) (hq : q 15 = nI 0) : CA w M_X3_restOfThrower [.ref 64] h (fun v' h'' => v' = some (.int (q 4)) ∧ h'' = h) := by
  refine CA.of (by decide) rfl (fun _ => Nat.le_of_ble_eq_true rfl) ?_
  obtain ⟨f65, e65, q65⟩ := id hL.2.1
  obtain ⟨eb, er_, e2, e3⟩ := id hL
  rw [hq] at eb
  show AX w M_X3_restOfThrower 0 0 0 [.ref 64] [] h _
  refine AX.aload_n (pc := 0) dX3_restOfThrower_0 rfl ?_
  refine AX.getf (pc := 1) fX3_restOfThrower_12 (lt_k hn (by omega)) eb rfl dX3_restOfThrower_1 ?_
  refine AX.aload_n (pc := 4) dX3_restOfThrower_4 rfl ?_
  refine AX.getf (pc := 5) fX3_restOfThrower_38 (lt_k hn (by omega)) eb rfl dX3_restOfThrower_5 ?_
  refine AX.aaldN (pc := 8) (i := 0) (b := 66) (by decide) (lt_k hn (by omega)) e65 (by decide) (by decide) (q65 _ (by decide)) dX3_restOfThrower_8 ?_
  refine AX.getf (pc := 9) fX3_restOfThrower_47 (lt_k hn (by omega)) e2 rfl dX3_restOfThrower_9 ?_
  refine AX.iret (pc := 12) dX3_restOfThrower_12 rfl rfl (by decide) (by decide) ?_
  exact ⟨rfl, rfl⟩
theorem c_restOfThrower1 (w : XW) (h : XH) {q : Nat → Int32} (hn : 72 ≤ h.1) (hL : LG h 64 q) (hq : q 15 = nI 1) : CA w M_X3_restOfThrower [.ref 64] h (fun v' h'' => v' = some (.int (q 5)) ∧ h'' = h) := by
  refine CA.of (by decide) rfl (fun _ => Nat.le_of_ble_eq_true rfl) ?_
  obtain ⟨f65, e65, q65⟩ := id hL.2.1
  obtain ⟨eb, er_, e2, e3⟩ := id hL
  rw [hq] at eb
  show AX w M_X3_restOfThrower 0 0 0 [.ref 64] [] h _
  refine AX.aload_n (pc := 0) dX3_restOfThrower_0 rfl ?_
  refine AX.getf (pc := 1) fX3_restOfThrower_12 (lt_k hn (by omega)) eb rfl dX3_restOfThrower_1 ?_
  refine AX.aload_n (pc := 4) dX3_restOfThrower_4 rfl ?_
  refine AX.getf (pc := 5) fX3_restOfThrower_38 (lt_k hn (by omega)) eb rfl dX3_restOfThrower_5 ?_
  refine AX.aaldN (pc := 8) (i := 1) (b := 67) (by decide) (lt_k hn (by omega)) e65 (by decide) (by decide) (q65 _ (by decide)) dX3_restOfThrower_8 ?_
  refine AX.getf (pc := 9) fX3_restOfThrower_47 (lt_k hn (by omega)) e3 rfl dX3_restOfThrower_9 ?_
  refine AX.iret (pc := 12) dX3_restOfThrower_12 rfl rfl (by decide) (by decide) ?_
  exact ⟨rfl, rfl⟩
theorem c_legsOfBoth (w : XW) (h : XH) {q : Nat → Int32} (hn : 72 ≤ h.1) (hL : LG h 64 q) : CA w M_X3_legsOfBoth [.ref 64] h (fun v' h'' => v' = some (.int (q 6 + q 7)) ∧ h'' = h) := by
  refine CA.of (by decide) rfl (fun _ => Nat.le_of_ble_eq_true rfl) ?_
  obtain ⟨f65, e65, q65⟩ := id hL.2.1
  obtain ⟨eb, er_, e2, e3⟩ := id hL
  show AX w M_X3_legsOfBoth 0 0 0 [.ref 64] [] h _
  refine AX.aload_n (pc := 0) dX3_legsOfBoth_0 rfl ?_
  refine AX.getf (pc := 1) fX3_legsOfBoth_12 (lt_k hn (by omega)) eb rfl dX3_legsOfBoth_1 ?_
  refine AX.iconst (pc := 4) (v := nI 0) dX3_legsOfBoth_4 (by decide) ?_
  refine AX.aaldN (pc := 5) (i := 0) (b := 66) (by decide) (lt_k hn (by omega)) e65 (by decide) (by decide) (q65 _ (by decide)) dX3_legsOfBoth_5 ?_
  refine AX.getf (pc := 6) fX3_legsOfBoth_54 (lt_k hn (by omega)) e2 rfl dX3_legsOfBoth_6 ?_
  refine AX.aload_n (pc := 9) dX3_legsOfBoth_9 rfl ?_
  refine AX.getf (pc := 10) fX3_legsOfBoth_12 (lt_k hn (by omega)) eb rfl dX3_legsOfBoth_10 ?_
  refine AX.iconst (pc := 13) (v := nI 1) dX3_legsOfBoth_13 (by decide) ?_
  refine AX.aaldN (pc := 14) (i := 1) (b := 67) (by decide) (lt_k hn (by omega)) e65 (by decide) (by decide) (q65 _ (by decide)) dX3_legsOfBoth_14 ?_
  refine AX.getf (pc := 15) fX3_legsOfBoth_54 (lt_k hn (by omega)) e3 rfl dX3_legsOfBoth_15 ?_
  refine AX.iadd (pc := 18) dX3_legsOfBoth_18 ?_
  refine AX.iret (pc := 19) dX3_legsOfBoth_19 rfl rfl (by decide) (by decide) ?_
  exact ⟨rfl, rfl⟩
theorem c_hasRestOfOne (w : XW) (h : XH) {q : Nat → Int32} (hn : 72 ≤ h.1) (hL : LG h 64 q) : CA w M_X3_hasRestOfOne [.ref 64] h (fun v' h'' => v' = some (.int (bI (decide (q 4 = nI 1 ∨ q 5 = nI 1 ∨ q 17 = nI 1)))) ∧ h'' = h) := by
  refine CA.of (by decide) rfl (fun _ => Nat.le_of_ble_eq_true rfl) ?_
  obtain ⟨f65, e65, q65⟩ := id hL.2.1
  obtain ⟨eb, er_, e2, e3⟩ := id hL
  show AX w M_X3_hasRestOfOne 0 0 0 [.ref 64] [] h _
  refine AX.aload_n (pc := 0) dX3_hasRestOfOne_0 rfl ?_
  refine AX.getf (pc := 1) fX3_hasRestOfOne_12 (lt_k hn (by omega)) eb rfl dX3_hasRestOfOne_1 ?_
  refine AX.iconst (pc := 4) (v := nI 0) dX3_hasRestOfOne_4 (by decide) ?_
  refine AX.aaldN (pc := 5) (i := 0) (b := 66) (by decide) (lt_k hn (by omega)) e65 (by decide) (by decide) (q65 _ (by decide)) dX3_hasRestOfOne_5 ?_
  refine AX.getf (pc := 6) fX3_hasRestOfOne_47 (lt_k hn (by omega)) e2 rfl dX3_hasRestOfOne_6 ?_
  refine AX.iconst (pc := 9) (v := nI 1) dX3_hasRestOfOne_9 (by decide) ?_
  refine AX.icmp_eq (pc := 10) (tgt := 34) dX3_hasRestOfOne_10 (by decide) (fun hc10 => ?_) (fun hc10 => ?_)
  · refine AX.iconst (pc := 34) (v := nI 1) dX3_hasRestOfOne_34 (by decide) ?_
    refine AX.goto (pc := 35) (tgt := 39) dX3_hasRestOfOne_35 (by decide) ?_
    refine AX.iret (pc := 39) dX3_hasRestOfOne_39 rfl rfl (by decide) (by decide) ?_
    exact ⟨s1 (by first | exact decide_eq_true (Or.inl hc10) | exact decide_eq_true (Or.inr (Or.inl hc23)) | exact decide_eq_true (Or.inr (Or.inr hc31)) | exact decide_eq_true (Or.inr (Or.inr (Decidable.of_not_not hc31)))), rfl⟩
  · refine AX.aload_n (pc := 13) dX3_hasRestOfOne_13 rfl ?_
    refine AX.getf (pc := 14) fX3_hasRestOfOne_12 (lt_k hn (by omega)) eb rfl dX3_hasRestOfOne_14 ?_
    refine AX.iconst (pc := 17) (v := nI 1) dX3_hasRestOfOne_17 (by decide) ?_
    refine AX.aaldN (pc := 18) (i := 1) (b := 67) (by decide) (lt_k hn (by omega)) e65 (by decide) (by decide) (q65 _ (by decide)) dX3_hasRestOfOne_18 ?_
    refine AX.getf (pc := 19) fX3_hasRestOfOne_47 (lt_k hn (by omega)) e3 rfl dX3_hasRestOfOne_19 ?_
    refine AX.iconst (pc := 22) (v := nI 1) dX3_hasRestOfOne_22 (by decide) ?_
    refine AX.icmp_eq (pc := 23) (tgt := 34) dX3_hasRestOfOne_23 (by decide) (fun hc23 => ?_) (fun hc23 => ?_)
    · refine AX.iconst (pc := 34) (v := nI 1) dX3_hasRestOfOne_34 (by decide) ?_
      refine AX.goto (pc := 35) (tgt := 39) dX3_hasRestOfOne_35 (by decide) ?_
      refine AX.iret (pc := 39) dX3_hasRestOfOne_39 rfl rfl (by decide) (by decide) ?_
      exact ⟨s1 (by first | exact decide_eq_true (Or.inl hc10) | exact decide_eq_true (Or.inr (Or.inl hc23)) | exact decide_eq_true (Or.inr (Or.inr hc31)) | exact decide_eq_true (Or.inr (Or.inr (Decidable.of_not_not hc31)))), rfl⟩
    · refine AX.aload_n (pc := 26) dX3_hasRestOfOne_26 rfl ?_
      refine AX.getf (pc := 27) fX3_hasRestOfOne_44 (lt_k hn (by omega)) eb rfl dX3_hasRestOfOne_27 ?_
      refine AX.iconst (pc := 30) (v := nI 1) dX3_hasRestOfOne_30 (by decide) ?_
      refine AX.icmp_ne (pc := 31) (tgt := 38) dX3_hasRestOfOne_31 (by decide) (fun hc31 => ?_) (fun hc31 => ?_)
      · refine AX.iconst (pc := 38) (v := nI 0) dX3_hasRestOfOne_38 (by decide) ?_
        refine AX.iret (pc := 39) dX3_hasRestOfOne_39 rfl rfl (by decide) (by decide) ?_
        exact ⟨s0 (decide_eq_false (by rintro (z | z | z); exact hc10 z; exact hc23 z; first | exact hc31 z | exact absurd z hc31)), rfl⟩
      · refine AX.iconst (pc := 34) (v := nI 1) dX3_hasRestOfOne_34 (by decide) ?_
        refine AX.goto (pc := 35) (tgt := 39) dX3_hasRestOfOne_35 (by decide) ?_
        refine AX.iret (pc := 39) dX3_hasRestOfOne_39 rfl rfl (by decide) (by decide) ?_
        exact ⟨s1 (by first | exact decide_eq_true (Or.inl hc10) | exact decide_eq_true (Or.inr (Or.inl hc23)) | exact decide_eq_true (Or.inr (Or.inr hc31)) | exact decide_eq_true (Or.inr (Or.inr (Decidable.of_not_not hc31)))), rfl⟩
theorem c_draw (w : XW) (h : XH) {q : Nat → Int32} (hn : 72 ≤ h.1) (hL : LG h 64 q) : CA w M_X3_draw [.ref 64] h (fun v h' => v = some (.int (((dwN q 18).toUInt32 >>> ((nI 16).toUInt32 &&& Int32.toUInt32 31)).toInt32 - ((dwN q 18).toUInt32 >>> ((nI 16).toUInt32 &&& Int32.toUInt32 31)).toInt32 / nI 1000 * nI 1000)) ∧ Same [64] h h' ∧ LG h' 64 (dwN q)) := by
  refine CA.of (by decide) rfl (fun _ => Nat.le_of_ble_eq_true rfl) ?_
  obtain ⟨f65, e65, q65⟩ := id hL.2.1
  obtain ⟨eb, er_, e2, e3⟩ := id hL
  show AX w M_X3_draw 0 0 0 [.ref 64] [] h _
  refine AX.aload_n (pc := 0) dX3_draw_0 rfl ?_
  refine AX.aload_n (pc := 1) dX3_draw_1 rfl ?_
  refine AX.getf (pc := 2) fX3_draw_25 (lt_k hn (by omega)) eb rfl dX3_draw_2 ?_
  refine AX.ldc (pc := 5) (v := 1103515245) dX3_draw_5 cX3_draw_63 ?_
  refine AX.imul (pc := 7) dX3_draw_7 ?_
  refine AX.sipush (pc := 8) (v := nI 12345) dX3_draw_8 (by decide) ?_
  refine AX.iadd (pc := 11) dX3_draw_11 ?_
  refine AX.putf (pc := 12) (fs' := [.ref 65, .int (q 12), .int (q 13), .int (q 14), .int (q 15), .int (q 16), .int (q 17), .int (((q 18) * 1103515245) + (nI 12345))]) fX3_draw_25 rfl (lt_k hn (by omega)) eb (Nat.le_of_ble_eq_true rfl) rfl rfl rfl dX3_draw_12 ?_
  refine AX.aload_n (pc := 15) dX3_draw_15 rfl ?_
  refine AX.getf (pc := 16) fX3_draw_25 (lt_k hn (by omega)) (xset_same _ _ _) rfl dX3_draw_16 ?_
  refine AX.bipush (pc := 19) (v := nI 16) dX3_draw_19 (by decide) ?_
  refine AX.iushr (pc := 21) dX3_draw_21 ?_
  refine AX.sipush (pc := 22) (v := nI 1000) dX3_draw_22 (by decide) ?_
  refine AX.irem (pc := 25) dX3_draw_25 (by decide) ?_
  refine AX.iret (pc := 26) dX3_draw_26 rfl rfl (by decide) (by decide) ?_
  have sx : Same [64] h (xset h 64 (.inr (2, [.ref 65, .int (q 12), .int (q 13), .int (q 14), .int (q 15), .int (q 16), .int (q 17), .int (((q 18) * 1103515245) + (nI 12345))]))) := (Same.set Same.rf (by simp))
  exact ⟨rfl, sx, (xset_same _ _ _), hL.2.1.same sx (by simp), ((xset_ne (by decide)).trans e2), ((xset_ne (by decide)).trans e3)⟩
theorem c_land_0_none (w : XW) (h : XH) {q : Nat → Int32} {g : Nat} (hn : 72 ≤ h.1) (hL : LG h 64 q) (h15 : q 15 = nI 0) : CA w M_X3_land [.ref 64, .int (oI none)] h (fun v h' => v = some (.int (oI none)) ∧ Same [64, 66, 67] h h' ∧ LG h' 64 (ldN q 0 g none)) := by
  refine CA.of (by decide) rfl (fun _ => Nat.le_of_ble_eq_true rfl) ?_
  obtain ⟨f65, e65, q65⟩ := id hL.2.1
  obtain ⟨eb, er_, e2, e3⟩ := id hL
  rw [h15] at eb
  show AX w M_X3_land 0 0 0 [.ref 64, .int (-5), .null, .null] [] h _
  refine AX.aload_n (pc := 0) dX3_land_0 rfl ?_
  refine AX.getf (pc := 1) fX3_land_12 (lt_k hn (by omega)) eb rfl dX3_land_1 ?_
  refine AX.aload_n (pc := 4) dX3_land_4 rfl ?_
  refine AX.getf (pc := 5) fX3_land_38 (lt_k hn (by omega)) eb rfl dX3_land_5 ?_
  refine AX.aaldN (pc := 8) (i := 0) (b := 66) (by decide) (lt_k hn (by omega)) e65 (by decide) (by decide) (q65 _ (by decide)) dX3_land_8 ?_
  refine AX.astore_n (pc := 9) (L' := [.ref 64, .int (-5), .ref 66, .null]) dX3_land_9 (by decide) rfl ?_
  refine AX.iload_n (pc := 10) dX3_land_10 rfl ?_
  refine AX.bipush (pc := 11) (v := (-5)) dX3_land_11 (by decide) ?_
  refine AX.icmp_ne (pc := 13) (tgt := 23) dX3_land_13 (by decide) (fun q => absurd rfl q) (fun hc13 => ?_)
  refine AX.aload_n (pc := 16) dX3_land_16 rfl ?_
  refine AX.getf (pc := 17) fX3_land_44 (lt_k hn (by omega)) eb rfl dX3_land_17 ?_
  refine AX.goto (pc := 20) (tgt := 24) dX3_land_20 (by decide) ?_
  refine AX.istore_n (pc := 24) (L' := [.ref 64, .int (-5), .ref 66, .int (q 17)]) dX3_land_24 (by decide) rfl ?_
  refine AX.aload_n (pc := 25) dX3_land_25 rfl ?_
  refine AX.dup (pc := 26) dX3_land_26 rfl ?_
  refine AX.getf (pc := 27) fX3_land_57 (lt_k hn (by omega)) e2 rfl dX3_land_27 ?_
  refine AX.iconst (pc := 30) (v := nI 1) dX3_land_30 (by decide) ?_
  refine AX.iadd (pc := 31) dX3_land_31 ?_
  refine AX.putf (pc := 32) (fs' := [.int (q 0), .int (q 2), .int (q 4), .int (q 6), .int ((q 8) + (nI 1)), .int (q 10)]) fX3_land_57 rfl (lt_k hn (by omega)) e2 (Nat.le_of_ble_eq_true rfl) rfl rfl rfl dX3_land_32 ?_
  refine AX.aload_n (pc := 35) dX3_land_35 rfl ?_
  refine AX.dup (pc := 36) dX3_land_36 rfl ?_
  refine AX.getf (pc := 37) fX3_land_60 (lt_k hn (by omega)) (xset_same _ _ _) rfl dX3_land_37 ?_
  refine AX.aload_n (pc := 40) dX3_land_40 rfl ?_
  refine AX.getf (pc := 41) fX3_land_47 (lt_k hn (by omega)) (xset_same _ _ _) rfl dX3_land_41 ?_
  refine AX.iload_n (pc := 44) dX3_land_44 rfl ?_
  refine AX.isub (pc := 45) dX3_land_45 ?_
  refine AX.iadd (pc := 46) dX3_land_46 ?_
  refine AX.putf (pc := 47) (h := xset h 66 (.inr (5, [.int (q 0), .int (q 2), .int (q 4), .int (q 6), .int ((q 8) + (nI 1)), .int (q 10)]))) (a := 66) (fs' := [.int (q 0), .int (q 2), .int (q 4), .int (q 6), .int ((q 8) + (nI 1)), .int ((q 10) + ((q 4) - (q 17)))]) fX3_land_60 rfl (lt_k hn (by omega)) (xset_same _ _ _) (Nat.le_of_ble_eq_true rfl) rfl rfl rfl dX3_land_47 ?_
  refine AX.aload_n (pc := 50) dX3_land_50 rfl ?_
  refine AX.iload_n (pc := 51) dX3_land_51 rfl ?_
  refine AX.putf (pc := 52) (h := xset (xset h 66 (.inr (5, [.int (q 0), .int (q 2), .int (q 4), .int (q 6), .int ((q 8) + (nI 1)), .int (q 10)]))) 66 (.inr (5, [.int (q 0), .int (q 2), .int (q 4), .int (q 6), .int ((q 8) + (nI 1)), .int ((q 10) + ((q 4) - (q 17)))]))) (a := 66) (fs' := [.int (q 0), .int (q 2), .int (q 17), .int (q 6), .int ((q 8) + (nI 1)), .int ((q 10) + ((q 4) - (q 17)))]) fX3_land_47 rfl (lt_k hn (by omega)) (xset_same _ _ _) (Nat.le_of_ble_eq_true rfl) rfl rfl rfl dX3_land_52 ?_
  refine AX.aload_n (pc := 55) dX3_land_55 rfl ?_
  refine AX.dup (pc := 56) dX3_land_56 rfl ?_
  refine AX.getf (pc := 57) fX3_land_41 (lt_k hn (by omega)) ((xset_ne (by decide)).trans ((xset_ne (by decide)).trans ((xset_ne (by decide)).trans eb))) rfl dX3_land_57 ?_
  refine AX.iconst (pc := 60) (v := nI 1) dX3_land_60 (by decide) ?_
  refine AX.isub (pc := 61) dX3_land_61 ?_
  refine AX.putf (pc := 62) (h := xset (xset (xset h 66 (.inr (5, [.int (q 0), .int (q 2), .int (q 4), .int (q 6), .int ((q 8) + (nI 1)), .int (q 10)]))) 66 (.inr (5, [.int (q 0), .int (q 2), .int (q 4), .int (q 6), .int ((q 8) + (nI 1)), .int ((q 10) + ((q 4) - (q 17)))]))) 66 (.inr (5, [.int (q 0), .int (q 2), .int (q 17), .int (q 6), .int ((q 8) + (nI 1)), .int ((q 10) + ((q 4) - (q 17)))]))) (a := 64) (fs' := [.ref 65, .int (q 12), .int (q 13), .int (q 14), .int (nI 0), .int ((q 16) - (nI 1)), .int (q 17), .int (q 18)]) fX3_land_41 rfl (lt_k hn (by omega)) ((xset_ne (by decide)).trans ((xset_ne (by decide)).trans ((xset_ne (by decide)).trans eb))) (Nat.le_of_ble_eq_true rfl) rfl rfl rfl dX3_land_62 ?_
  refine AX.iload_n (pc := 65) dX3_land_65 rfl ?_
  refine AX.if_ne (pc := 66) (tgt := 96) dX3_land_66 (by decide) (fun hc66 => ?_) (fun q => absurd q (by decide))
  refine AX.iload_n (pc := 96) dX3_land_96 rfl ?_
  refine AX.bipush (pc := 97) (v := (-5)) dX3_land_97 (by decide) ?_
  refine AX.icmp_eq (pc := 99) (tgt := 109) dX3_land_99 (by decide) (fun hc99 => ?_) (fun q => absurd rfl q)
  have sx : Same [64, 66, 67] h (xset (xset (xset (xset h 66 (.inr (5, [.int (q 0), .int (q 2), .int (q 4), .int (q 6), .int ((q 8) + (nI 1)), .int (q 10)]))) 66 (.inr (5, [.int (q 0), .int (q 2), .int (q 4), .int (q 6), .int ((q 8) + (nI 1)), .int ((q 10) + ((q 4) - (q 17)))]))) 66 (.inr (5, [.int (q 0), .int (q 2), .int (q 17), .int (q 6), .int ((q 8) + (nI 1)), .int ((q 10) + ((q 4) - (q 17)))]))) 64 (.inr (2, [.ref 65, .int (q 12), .int (q 13), .int (q 14), .int (nI 0), .int ((q 16) - (nI 1)), .int (q 17), .int (q 18)]))) := (Same.set (Same.set (Same.set (Same.set Same.rf (by simp)) (by simp)) (by simp)) (by simp))
  refine AX.aload_n (pc := 109) dX3_land_109 rfl ?_
  refine AX.iconst (pc := 110) (v := nI 1) dX3_land_110 (by decide) ?_
  refine AX.aload_n (pc := 111) dX3_land_111 rfl ?_
  refine AX.getf (pc := 112) fX3_land_38 (lt_k hn (by omega)) (xset_same _ _ _) rfl dX3_land_112 ?_
  refine AX.isubN (pc := 115) (c := 1) dX3_land_115 rfl ?_
  refine AX.callV (pc := 116) (M2 := M_X3_beginVisit) (As := [.int (nI 1)]) (rest := []) (c_beginVisit w (xset (xset (xset (xset h 66 (.inr (5, [.int (q 0), .int (q 2), .int (q 4), .int (q 6), .int ((q 8) + (nI 1)), .int (q 10)]))) 66 (.inr (5, [.int (q 0), .int (q 2), .int (q 4), .int (q 6), .int ((q 8) + (nI 1)), .int ((q 10) + ((q 4) - (q 17)))]))) 66 (.inr (5, [.int (q 0), .int (q 2), .int (q 17), .int (q 6), .int ((q 8) + (nI 1)), .int ((q 10) + ((q 4) - (q 17)))]))) 64 (.inr (2, [.ref 65, .int (q 12), .int (q 13), .int (q 14), .int (nI 0), .int ((q 16) - (nI 1)), .int (q 17), .int (q 18)]))) (sx.le hn) (q := (upd (upd (upd (upd q 8 (q 8 + nI 1)) 10 (q 10 + (q 4 - q 17))) 4 (q 17)) 16 (q 16 - nI 1))) ⟨(Eq.trans (xset_same _ _ _) (by rw [← h15]; rfl)), hL.2.1.same sx (by simp), ((xset_ne (by decide)).trans (xset_same _ _ _)), ((xset_ne (by decide)).trans ((xset_ne (by decide)).trans ((xset_ne (by decide)).trans ((xset_ne (by decide)).trans e3))))⟩ 1 (by omega)) xc_X3_land__X3_beginVisit gX3_land_X3_beginVisit (ci := 2) rfl (lt_k hn (by omega)) (xset_same _ _ _) rfl (Nat.le_of_ble_eq_true rfl) dX3_land_116 ?_
  rintro _ h1 ⟨rfl, s1, l1⟩
  show AX w M_X3_land 0 0 119 [.ref 64, .int (-5), .ref 66, .int (q 17)] [] _ _
  refine AX.iload_n (pc := 119) dX3_land_119 rfl ?_
  refine AX.iret (pc := 120) dX3_land_120 rfl rfl (by decide) (by decide) ?_
  exact ⟨rfl, sx.trans (s1.wide (by simp)), l1⟩
theorem c_land_0_zero0 (w : XW) (h : XH) {q : Nat → Int32} (hn : 72 ≤ h.1) (hL : LG h 64 q) (h15 : q 15 = nI 0) (h14 : q 14 = nI 0) : CA w M_X3_land [.ref 64, .int (oI (some 0))] h (fun v h' => v = some (.int (oI (some 0))) ∧ Same [64, 66, 67] h h' ∧ LG h' 64 (ldN q 0 0 (some 0))) := by
  refine CA.of (by decide) rfl (fun _ => Nat.le_of_ble_eq_true rfl) ?_
  obtain ⟨f65, e65, q65⟩ := id hL.2.1
  obtain ⟨eb, er_, e2, e3⟩ := id hL
  rw [h15] at eb
  rw [h14] at eb
  show AX w M_X3_land 0 0 0 [.ref 64, .int (nI 0), .null, .null] [] h _
  refine AX.aload_n (pc := 0) dX3_land_0 rfl ?_
  refine AX.getf (pc := 1) fX3_land_12 (lt_k hn (by omega)) eb rfl dX3_land_1 ?_
  refine AX.aload_n (pc := 4) dX3_land_4 rfl ?_
  refine AX.getf (pc := 5) fX3_land_38 (lt_k hn (by omega)) eb rfl dX3_land_5 ?_
  refine AX.aaldN (pc := 8) (i := 0) (b := 66) (by decide) (lt_k hn (by omega)) e65 (by decide) (by decide) (q65 _ (by decide)) dX3_land_8 ?_
  refine AX.astore_n (pc := 9) (L' := [.ref 64, .int (nI 0), .ref 66, .null]) dX3_land_9 (by decide) rfl ?_
  refine AX.iload_n (pc := 10) dX3_land_10 rfl ?_
  refine AX.bipush (pc := 11) (v := (-5)) dX3_land_11 (by decide) ?_
  refine AX.icmp_ne (pc := 13) (tgt := 23) dX3_land_13 (by decide) (fun hc13 => ?_) (fun q => absurd q (nI_m5 (by decide)))
  refine AX.iload_n (pc := 23) dX3_land_23 rfl ?_
  refine AX.istore_n (pc := 24) (L' := [.ref 64, .int (nI 0), .ref 66, .int (nI 0)]) dX3_land_24 (by decide) rfl ?_
  refine AX.aload_n (pc := 25) dX3_land_25 rfl ?_
  refine AX.dup (pc := 26) dX3_land_26 rfl ?_
  refine AX.getf (pc := 27) fX3_land_57 (lt_k hn (by omega)) e2 rfl dX3_land_27 ?_
  refine AX.iconst (pc := 30) (v := nI 1) dX3_land_30 (by decide) ?_
  refine AX.iadd (pc := 31) dX3_land_31 ?_
  refine AX.putf (pc := 32) (fs' := [.int (q 0), .int (q 2), .int (q 4), .int (q 6), .int ((q 8) + (nI 1)), .int (q 10)]) fX3_land_57 rfl (lt_k hn (by omega)) e2 (Nat.le_of_ble_eq_true rfl) rfl rfl rfl dX3_land_32 ?_
  refine AX.aload_n (pc := 35) dX3_land_35 rfl ?_
  refine AX.dup (pc := 36) dX3_land_36 rfl ?_
  refine AX.getf (pc := 37) fX3_land_60 (lt_k hn (by omega)) (xset_same _ _ _) rfl dX3_land_37 ?_
  refine AX.aload_n (pc := 40) dX3_land_40 rfl ?_
  refine AX.getf (pc := 41) fX3_land_47 (lt_k hn (by omega)) (xset_same _ _ _) rfl dX3_land_41 ?_
  refine AX.iload_n (pc := 44) dX3_land_44 rfl ?_
  refine AX.isub (pc := 45) dX3_land_45 ?_
  refine AX.iadd (pc := 46) dX3_land_46 ?_
  refine AX.putf (pc := 47) (h := xset h 66 (.inr (5, [.int (q 0), .int (q 2), .int (q 4), .int (q 6), .int ((q 8) + (nI 1)), .int (q 10)]))) (a := 66) (fs' := [.int (q 0), .int (q 2), .int (q 4), .int (q 6), .int ((q 8) + (nI 1)), .int ((q 10) + ((q 4) - (nI 0)))]) fX3_land_60 rfl (lt_k hn (by omega)) (xset_same _ _ _) (Nat.le_of_ble_eq_true rfl) rfl rfl rfl dX3_land_47 ?_
  refine AX.aload_n (pc := 50) dX3_land_50 rfl ?_
  refine AX.iload_n (pc := 51) dX3_land_51 rfl ?_
  refine AX.putf (pc := 52) (h := xset (xset h 66 (.inr (5, [.int (q 0), .int (q 2), .int (q 4), .int (q 6), .int ((q 8) + (nI 1)), .int (q 10)]))) 66 (.inr (5, [.int (q 0), .int (q 2), .int (q 4), .int (q 6), .int ((q 8) + (nI 1)), .int ((q 10) + ((q 4) - (nI 0)))]))) (a := 66) (fs' := [.int (q 0), .int (q 2), .int (nI 0), .int (q 6), .int ((q 8) + (nI 1)), .int ((q 10) + ((q 4) - (nI 0)))]) fX3_land_47 rfl (lt_k hn (by omega)) (xset_same _ _ _) (Nat.le_of_ble_eq_true rfl) rfl rfl rfl dX3_land_52 ?_
  refine AX.aload_n (pc := 55) dX3_land_55 rfl ?_
  refine AX.dup (pc := 56) dX3_land_56 rfl ?_
  refine AX.getf (pc := 57) fX3_land_41 (lt_k hn (by omega)) ((xset_ne (by decide)).trans ((xset_ne (by decide)).trans ((xset_ne (by decide)).trans eb))) rfl dX3_land_57 ?_
  refine AX.iconst (pc := 60) (v := nI 1) dX3_land_60 (by decide) ?_
  refine AX.isub (pc := 61) dX3_land_61 ?_
  refine AX.putf (pc := 62) (h := xset (xset (xset h 66 (.inr (5, [.int (q 0), .int (q 2), .int (q 4), .int (q 6), .int ((q 8) + (nI 1)), .int (q 10)]))) 66 (.inr (5, [.int (q 0), .int (q 2), .int (q 4), .int (q 6), .int ((q 8) + (nI 1)), .int ((q 10) + ((q 4) - (nI 0)))]))) 66 (.inr (5, [.int (q 0), .int (q 2), .int (nI 0), .int (q 6), .int ((q 8) + (nI 1)), .int ((q 10) + ((q 4) - (nI 0)))]))) (a := 64) (fs' := [.ref 65, .int (q 12), .int (q 13), .int (nI 0), .int (nI 0), .int ((q 16) - (nI 1)), .int (q 17), .int (q 18)]) fX3_land_41 rfl (lt_k hn (by omega)) ((xset_ne (by decide)).trans ((xset_ne (by decide)).trans ((xset_ne (by decide)).trans eb))) (Nat.le_of_ble_eq_true rfl) rfl rfl rfl dX3_land_62 ?_
  refine AX.iload_n (pc := 65) dX3_land_65 rfl ?_
  refine AX.if_neN (pc := 66) (tgt := 96) dX3_land_66 (by decide) (by decide) (fun q => absurd q (by decide)) (fun hc66 => ?_)
  refine AX.aload_n (pc := 69) dX3_land_69 rfl ?_
  refine AX.dup (pc := 70) dX3_land_70 rfl ?_
  refine AX.getf (pc := 71) fX3_land_54 (lt_k hn (by omega)) ((xset_ne (by decide)).trans (xset_same _ _ _)) rfl dX3_land_71 ?_
  refine AX.iconst (pc := 74) (v := nI 1) dX3_land_74 (by decide) ?_
  refine AX.iadd (pc := 75) dX3_land_75 ?_
  refine AX.putf (pc := 76) (h := xset (xset (xset (xset h 66 (.inr (5, [.int (q 0), .int (q 2), .int (q 4), .int (q 6), .int ((q 8) + (nI 1)), .int (q 10)]))) 66 (.inr (5, [.int (q 0), .int (q 2), .int (q 4), .int (q 6), .int ((q 8) + (nI 1)), .int ((q 10) + ((q 4) - (nI 0)))]))) 66 (.inr (5, [.int (q 0), .int (q 2), .int (nI 0), .int (q 6), .int ((q 8) + (nI 1)), .int ((q 10) + ((q 4) - (nI 0)))]))) 64 (.inr (2, [.ref 65, .int (q 12), .int (q 13), .int (nI 0), .int (nI 0), .int ((q 16) - (nI 1)), .int (q 17), .int (q 18)]))) (a := 66) (fs' := [.int (q 0), .int (q 2), .int (nI 0), .int ((q 6) + (nI 1)), .int ((q 8) + (nI 1)), .int ((q 10) + ((q 4) - (nI 0)))]) fX3_land_54 rfl (lt_k hn (by omega)) ((xset_ne (by decide)).trans (xset_same _ _ _)) (Nat.le_of_ble_eq_true rfl) rfl rfl rfl dX3_land_76 ?_
  refine AX.aload_n (pc := 79) dX3_land_79 rfl ?_
  refine AX.iconst (pc := 80) (v := nI 1) dX3_land_80 (by decide) ?_
  refine AX.aload_n (pc := 81) dX3_land_81 rfl ?_
  refine AX.getf (pc := 82) fX3_land_35 (lt_k hn (by omega)) ((xset_ne (by decide)).trans (xset_same _ _ _)) rfl dX3_land_82 ?_
  refine AX.isubN (pc := 85) (c := 1) dX3_land_85 rfl ?_
  refine AX.putf (pc := 86) (h := xset (xset (xset (xset (xset h 66 (.inr (5, [.int (q 0), .int (q 2), .int (q 4), .int (q 6), .int ((q 8) + (nI 1)), .int (q 10)]))) 66 (.inr (5, [.int (q 0), .int (q 2), .int (q 4), .int (q 6), .int ((q 8) + (nI 1)), .int ((q 10) + ((q 4) - (nI 0)))]))) 66 (.inr (5, [.int (q 0), .int (q 2), .int (nI 0), .int (q 6), .int ((q 8) + (nI 1)), .int ((q 10) + ((q 4) - (nI 0)))]))) 64 (.inr (2, [.ref 65, .int (q 12), .int (q 13), .int (nI 0), .int (nI 0), .int ((q 16) - (nI 1)), .int (q 17), .int (q 18)]))) 66 (.inr (5, [.int (q 0), .int (q 2), .int (nI 0), .int ((q 6) + (nI 1)), .int ((q 8) + (nI 1)), .int ((q 10) + ((q 4) - (nI 0)))]))) (a := 64) (fs' := [.ref 65, .int (q 12), .int (q 13), .int (nI 1), .int (nI 0), .int ((q 16) - (nI 1)), .int (q 17), .int (q 18)]) fX3_land_35 rfl (lt_k hn (by omega)) ((xset_ne (by decide)).trans (xset_same _ _ _)) (Nat.le_of_ble_eq_true rfl) rfl rfl rfl dX3_land_86 ?_
  have sx : Same [64, 66, 67] h (xset (xset (xset (xset (xset (xset h 66 (.inr (5, [.int (q 0), .int (q 2), .int (q 4), .int (q 6), .int ((q 8) + (nI 1)), .int (q 10)]))) 66 (.inr (5, [.int (q 0), .int (q 2), .int (q 4), .int (q 6), .int ((q 8) + (nI 1)), .int ((q 10) + ((q 4) - (nI 0)))]))) 66 (.inr (5, [.int (q 0), .int (q 2), .int (nI 0), .int (q 6), .int ((q 8) + (nI 1)), .int ((q 10) + ((q 4) - (nI 0)))]))) 64 (.inr (2, [.ref 65, .int (q 12), .int (q 13), .int (nI 0), .int (nI 0), .int ((q 16) - (nI 1)), .int (q 17), .int (q 18)]))) 66 (.inr (5, [.int (q 0), .int (q 2), .int (nI 0), .int ((q 6) + (nI 1)), .int ((q 8) + (nI 1)), .int ((q 10) + ((q 4) - (nI 0)))]))) 64 (.inr (2, [.ref 65, .int (q 12), .int (q 13), .int (nI 1), .int (nI 0), .int ((q 16) - (nI 1)), .int (q 17), .int (q 18)]))) := (Same.set (Same.set (Same.set (Same.set (Same.set (Same.set Same.rf (by simp)) (by simp)) (by simp)) (by simp)) (by simp)) (by simp))
  refine AX.aload_n (pc := 89) dX3_land_89 rfl ?_
  refine AX.callV (pc := 90) (M2 := M_X3_begin) (As := []) (rest := []) (c_begin w (xset (xset (xset (xset (xset (xset h 66 (.inr (5, [.int (q 0), .int (q 2), .int (q 4), .int (q 6), .int ((q 8) + (nI 1)), .int (q 10)]))) 66 (.inr (5, [.int (q 0), .int (q 2), .int (q 4), .int (q 6), .int ((q 8) + (nI 1)), .int ((q 10) + ((q 4) - (nI 0)))]))) 66 (.inr (5, [.int (q 0), .int (q 2), .int (nI 0), .int (q 6), .int ((q 8) + (nI 1)), .int ((q 10) + ((q 4) - (nI 0)))]))) 64 (.inr (2, [.ref 65, .int (q 12), .int (q 13), .int (nI 0), .int (nI 0), .int ((q 16) - (nI 1)), .int (q 17), .int (q 18)]))) 66 (.inr (5, [.int (q 0), .int (q 2), .int (nI 0), .int ((q 6) + (nI 1)), .int ((q 8) + (nI 1)), .int ((q 10) + ((q 4) - (nI 0)))]))) 64 (.inr (2, [.ref 65, .int (q 12), .int (q 13), .int (nI 1), .int (nI 0), .int ((q 16) - (nI 1)), .int (q 17), .int (q 18)]))) (sx.le hn) (q := upd (upd (upd (upd (upd (upd q 8 (q 8 + nI 1)) 10 (q 10 + (q 4 - nI 0))) 4 (nI 0)) 16 (q 16 - nI 1)) 6 (q 6 + nI 1)) 14 (nI 1)) ⟨(Eq.trans (xset_same _ _ _) (by rw [← h15]; rfl)), hL.2.1.same sx (by simp), ((xset_ne (by decide)).trans (xset_same _ _ _)), ((xset_ne (by decide)).trans ((xset_ne (by decide)).trans ((xset_ne (by decide)).trans ((xset_ne (by decide)).trans ((xset_ne (by decide)).trans ((xset_ne (by decide)).trans e3))))))⟩ 1 (by decide) rfl) xc_X3_land__X3_begin gX3_land_X3_begin (ci := 2) rfl (lt_k hn (by omega)) (xset_same _ _ _) rfl (Nat.le_of_ble_eq_true rfl) dX3_land_90 ?_
  rintro _ h1 ⟨rfl, s1, l1⟩
  show AX w M_X3_land 0 0 93 [.ref 64, .int (nI 0), .ref 66, .int (nI 0)] [] _ _
  refine AX.goto (pc := 93) (tgt := 119) dX3_land_93 (by decide) ?_
  refine AX.iload_n (pc := 119) dX3_land_119 rfl ?_
  refine AX.iret (pc := 120) dX3_land_120 rfl rfl (by decide) (by decide) ?_
  exact ⟨rfl, sx.trans (s1.wide (by simp)), l1⟩
theorem c_land_0_zero1 (w : XW) (h : XH) {q : Nat → Int32} (hn : 72 ≤ h.1) (hL : LG h 64 q) (h15 : q 15 = nI 0) (h14 : q 14 = nI 1) : CA w M_X3_land [.ref 64, .int (oI (some 0))] h (fun v h' => v = some (.int (oI (some 0))) ∧ Same [64, 66, 67] h h' ∧ LG h' 64 (ldN q 0 1 (some 0))) := by
  refine CA.of (by decide) rfl (fun _ => Nat.le_of_ble_eq_true rfl) ?_
  obtain ⟨f65, e65, q65⟩ := id hL.2.1
  obtain ⟨eb, er_, e2, e3⟩ := id hL
  rw [h15] at eb
  rw [h14] at eb
  show AX w M_X3_land 0 0 0 [.ref 64, .int (nI 0), .null, .null] [] h _
  refine AX.aload_n (pc := 0) dX3_land_0 rfl ?_
  refine AX.getf (pc := 1) fX3_land_12 (lt_k hn (by omega)) eb rfl dX3_land_1 ?_
  refine AX.aload_n (pc := 4) dX3_land_4 rfl ?_
  refine AX.getf (pc := 5) fX3_land_38 (lt_k hn (by omega)) eb rfl dX3_land_5 ?_
  refine AX.aaldN (pc := 8) (i := 0) (b := 66) (by decide) (lt_k hn (by omega)) e65 (by decide) (by decide) (q65 _ (by decide)) dX3_land_8 ?_
  refine AX.astore_n (pc := 9) (L' := [.ref 64, .int (nI 0), .ref 66, .null]) dX3_land_9 (by decide) rfl ?_
  refine AX.iload_n (pc := 10) dX3_land_10 rfl ?_
  refine AX.bipush (pc := 11) (v := (-5)) dX3_land_11 (by decide) ?_
  refine AX.icmp_ne (pc := 13) (tgt := 23) dX3_land_13 (by decide) (fun hc13 => ?_) (fun q => absurd q (nI_m5 (by decide)))
  refine AX.iload_n (pc := 23) dX3_land_23 rfl ?_
  refine AX.istore_n (pc := 24) (L' := [.ref 64, .int (nI 0), .ref 66, .int (nI 0)]) dX3_land_24 (by decide) rfl ?_
  refine AX.aload_n (pc := 25) dX3_land_25 rfl ?_
  refine AX.dup (pc := 26) dX3_land_26 rfl ?_
  refine AX.getf (pc := 27) fX3_land_57 (lt_k hn (by omega)) e2 rfl dX3_land_27 ?_
  refine AX.iconst (pc := 30) (v := nI 1) dX3_land_30 (by decide) ?_
  refine AX.iadd (pc := 31) dX3_land_31 ?_
  refine AX.putf (pc := 32) (fs' := [.int (q 0), .int (q 2), .int (q 4), .int (q 6), .int ((q 8) + (nI 1)), .int (q 10)]) fX3_land_57 rfl (lt_k hn (by omega)) e2 (Nat.le_of_ble_eq_true rfl) rfl rfl rfl dX3_land_32 ?_
  refine AX.aload_n (pc := 35) dX3_land_35 rfl ?_
  refine AX.dup (pc := 36) dX3_land_36 rfl ?_
  refine AX.getf (pc := 37) fX3_land_60 (lt_k hn (by omega)) (xset_same _ _ _) rfl dX3_land_37 ?_
  refine AX.aload_n (pc := 40) dX3_land_40 rfl ?_
  refine AX.getf (pc := 41) fX3_land_47 (lt_k hn (by omega)) (xset_same _ _ _) rfl dX3_land_41 ?_
  refine AX.iload_n (pc := 44) dX3_land_44 rfl ?_
  refine AX.isub (pc := 45) dX3_land_45 ?_
  refine AX.iadd (pc := 46) dX3_land_46 ?_
  refine AX.putf (pc := 47) (h := xset h 66 (.inr (5, [.int (q 0), .int (q 2), .int (q 4), .int (q 6), .int ((q 8) + (nI 1)), .int (q 10)]))) (a := 66) (fs' := [.int (q 0), .int (q 2), .int (q 4), .int (q 6), .int ((q 8) + (nI 1)), .int ((q 10) + ((q 4) - (nI 0)))]) fX3_land_60 rfl (lt_k hn (by omega)) (xset_same _ _ _) (Nat.le_of_ble_eq_true rfl) rfl rfl rfl dX3_land_47 ?_
  refine AX.aload_n (pc := 50) dX3_land_50 rfl ?_
  refine AX.iload_n (pc := 51) dX3_land_51 rfl ?_
  refine AX.putf (pc := 52) (h := xset (xset h 66 (.inr (5, [.int (q 0), .int (q 2), .int (q 4), .int (q 6), .int ((q 8) + (nI 1)), .int (q 10)]))) 66 (.inr (5, [.int (q 0), .int (q 2), .int (q 4), .int (q 6), .int ((q 8) + (nI 1)), .int ((q 10) + ((q 4) - (nI 0)))]))) (a := 66) (fs' := [.int (q 0), .int (q 2), .int (nI 0), .int (q 6), .int ((q 8) + (nI 1)), .int ((q 10) + ((q 4) - (nI 0)))]) fX3_land_47 rfl (lt_k hn (by omega)) (xset_same _ _ _) (Nat.le_of_ble_eq_true rfl) rfl rfl rfl dX3_land_52 ?_
  refine AX.aload_n (pc := 55) dX3_land_55 rfl ?_
  refine AX.dup (pc := 56) dX3_land_56 rfl ?_
  refine AX.getf (pc := 57) fX3_land_41 (lt_k hn (by omega)) ((xset_ne (by decide)).trans ((xset_ne (by decide)).trans ((xset_ne (by decide)).trans eb))) rfl dX3_land_57 ?_
  refine AX.iconst (pc := 60) (v := nI 1) dX3_land_60 (by decide) ?_
  refine AX.isub (pc := 61) dX3_land_61 ?_
  refine AX.putf (pc := 62) (h := xset (xset (xset h 66 (.inr (5, [.int (q 0), .int (q 2), .int (q 4), .int (q 6), .int ((q 8) + (nI 1)), .int (q 10)]))) 66 (.inr (5, [.int (q 0), .int (q 2), .int (q 4), .int (q 6), .int ((q 8) + (nI 1)), .int ((q 10) + ((q 4) - (nI 0)))]))) 66 (.inr (5, [.int (q 0), .int (q 2), .int (nI 0), .int (q 6), .int ((q 8) + (nI 1)), .int ((q 10) + ((q 4) - (nI 0)))]))) (a := 64) (fs' := [.ref 65, .int (q 12), .int (q 13), .int (nI 1), .int (nI 0), .int ((q 16) - (nI 1)), .int (q 17), .int (q 18)]) fX3_land_41 rfl (lt_k hn (by omega)) ((xset_ne (by decide)).trans ((xset_ne (by decide)).trans ((xset_ne (by decide)).trans eb))) (Nat.le_of_ble_eq_true rfl) rfl rfl rfl dX3_land_62 ?_
  refine AX.iload_n (pc := 65) dX3_land_65 rfl ?_
  refine AX.if_neN (pc := 66) (tgt := 96) dX3_land_66 (by decide) (by decide) (fun q => absurd q (by decide)) (fun hc66 => ?_)
  refine AX.aload_n (pc := 69) dX3_land_69 rfl ?_
  refine AX.dup (pc := 70) dX3_land_70 rfl ?_
  refine AX.getf (pc := 71) fX3_land_54 (lt_k hn (by omega)) ((xset_ne (by decide)).trans (xset_same _ _ _)) rfl dX3_land_71 ?_
  refine AX.iconst (pc := 74) (v := nI 1) dX3_land_74 (by decide) ?_
  refine AX.iadd (pc := 75) dX3_land_75 ?_
  refine AX.putf (pc := 76) (h := xset (xset (xset (xset h 66 (.inr (5, [.int (q 0), .int (q 2), .int (q 4), .int (q 6), .int ((q 8) + (nI 1)), .int (q 10)]))) 66 (.inr (5, [.int (q 0), .int (q 2), .int (q 4), .int (q 6), .int ((q 8) + (nI 1)), .int ((q 10) + ((q 4) - (nI 0)))]))) 66 (.inr (5, [.int (q 0), .int (q 2), .int (nI 0), .int (q 6), .int ((q 8) + (nI 1)), .int ((q 10) + ((q 4) - (nI 0)))]))) 64 (.inr (2, [.ref 65, .int (q 12), .int (q 13), .int (nI 1), .int (nI 0), .int ((q 16) - (nI 1)), .int (q 17), .int (q 18)]))) (a := 66) (fs' := [.int (q 0), .int (q 2), .int (nI 0), .int ((q 6) + (nI 1)), .int ((q 8) + (nI 1)), .int ((q 10) + ((q 4) - (nI 0)))]) fX3_land_54 rfl (lt_k hn (by omega)) ((xset_ne (by decide)).trans (xset_same _ _ _)) (Nat.le_of_ble_eq_true rfl) rfl rfl rfl dX3_land_76 ?_
  refine AX.aload_n (pc := 79) dX3_land_79 rfl ?_
  refine AX.iconst (pc := 80) (v := nI 1) dX3_land_80 (by decide) ?_
  refine AX.aload_n (pc := 81) dX3_land_81 rfl ?_
  refine AX.getf (pc := 82) fX3_land_35 (lt_k hn (by omega)) ((xset_ne (by decide)).trans (xset_same _ _ _)) rfl dX3_land_82 ?_
  refine AX.isubN (pc := 85) (c := 0) dX3_land_85 rfl ?_
  refine AX.putf (pc := 86) (h := xset (xset (xset (xset (xset h 66 (.inr (5, [.int (q 0), .int (q 2), .int (q 4), .int (q 6), .int ((q 8) + (nI 1)), .int (q 10)]))) 66 (.inr (5, [.int (q 0), .int (q 2), .int (q 4), .int (q 6), .int ((q 8) + (nI 1)), .int ((q 10) + ((q 4) - (nI 0)))]))) 66 (.inr (5, [.int (q 0), .int (q 2), .int (nI 0), .int (q 6), .int ((q 8) + (nI 1)), .int ((q 10) + ((q 4) - (nI 0)))]))) 64 (.inr (2, [.ref 65, .int (q 12), .int (q 13), .int (nI 1), .int (nI 0), .int ((q 16) - (nI 1)), .int (q 17), .int (q 18)]))) 66 (.inr (5, [.int (q 0), .int (q 2), .int (nI 0), .int ((q 6) + (nI 1)), .int ((q 8) + (nI 1)), .int ((q 10) + ((q 4) - (nI 0)))]))) (a := 64) (fs' := [.ref 65, .int (q 12), .int (q 13), .int (nI 0), .int (nI 0), .int ((q 16) - (nI 1)), .int (q 17), .int (q 18)]) fX3_land_35 rfl (lt_k hn (by omega)) ((xset_ne (by decide)).trans (xset_same _ _ _)) (Nat.le_of_ble_eq_true rfl) rfl rfl rfl dX3_land_86 ?_
  have sx : Same [64, 66, 67] h (xset (xset (xset (xset (xset (xset h 66 (.inr (5, [.int (q 0), .int (q 2), .int (q 4), .int (q 6), .int ((q 8) + (nI 1)), .int (q 10)]))) 66 (.inr (5, [.int (q 0), .int (q 2), .int (q 4), .int (q 6), .int ((q 8) + (nI 1)), .int ((q 10) + ((q 4) - (nI 0)))]))) 66 (.inr (5, [.int (q 0), .int (q 2), .int (nI 0), .int (q 6), .int ((q 8) + (nI 1)), .int ((q 10) + ((q 4) - (nI 0)))]))) 64 (.inr (2, [.ref 65, .int (q 12), .int (q 13), .int (nI 1), .int (nI 0), .int ((q 16) - (nI 1)), .int (q 17), .int (q 18)]))) 66 (.inr (5, [.int (q 0), .int (q 2), .int (nI 0), .int ((q 6) + (nI 1)), .int ((q 8) + (nI 1)), .int ((q 10) + ((q 4) - (nI 0)))]))) 64 (.inr (2, [.ref 65, .int (q 12), .int (q 13), .int (nI 0), .int (nI 0), .int ((q 16) - (nI 1)), .int (q 17), .int (q 18)]))) := (Same.set (Same.set (Same.set (Same.set (Same.set (Same.set Same.rf (by simp)) (by simp)) (by simp)) (by simp)) (by simp)) (by simp))
  refine AX.aload_n (pc := 89) dX3_land_89 rfl ?_
  refine AX.callV (pc := 90) (M2 := M_X3_begin) (As := []) (rest := []) (c_begin w (xset (xset (xset (xset (xset (xset h 66 (.inr (5, [.int (q 0), .int (q 2), .int (q 4), .int (q 6), .int ((q 8) + (nI 1)), .int (q 10)]))) 66 (.inr (5, [.int (q 0), .int (q 2), .int (q 4), .int (q 6), .int ((q 8) + (nI 1)), .int ((q 10) + ((q 4) - (nI 0)))]))) 66 (.inr (5, [.int (q 0), .int (q 2), .int (nI 0), .int (q 6), .int ((q 8) + (nI 1)), .int ((q 10) + ((q 4) - (nI 0)))]))) 64 (.inr (2, [.ref 65, .int (q 12), .int (q 13), .int (nI 1), .int (nI 0), .int ((q 16) - (nI 1)), .int (q 17), .int (q 18)]))) 66 (.inr (5, [.int (q 0), .int (q 2), .int (nI 0), .int ((q 6) + (nI 1)), .int ((q 8) + (nI 1)), .int ((q 10) + ((q 4) - (nI 0)))]))) 64 (.inr (2, [.ref 65, .int (q 12), .int (q 13), .int (nI 0), .int (nI 0), .int ((q 16) - (nI 1)), .int (q 17), .int (q 18)]))) (sx.le hn) (q := upd (upd (upd (upd (upd (upd q 8 (q 8 + nI 1)) 10 (q 10 + (q 4 - nI 0))) 4 (nI 0)) 16 (q 16 - nI 1)) 6 (q 6 + nI 1)) 14 (nI 0)) ⟨(Eq.trans (xset_same _ _ _) (by rw [← h15]; rfl)), hL.2.1.same sx (by simp), ((xset_ne (by decide)).trans (xset_same _ _ _)), ((xset_ne (by decide)).trans ((xset_ne (by decide)).trans ((xset_ne (by decide)).trans ((xset_ne (by decide)).trans ((xset_ne (by decide)).trans ((xset_ne (by decide)).trans e3))))))⟩ 0 (by decide) rfl) xc_X3_land__X3_begin gX3_land_X3_begin (ci := 2) rfl (lt_k hn (by omega)) (xset_same _ _ _) rfl (Nat.le_of_ble_eq_true rfl) dX3_land_90 ?_
  rintro _ h1 ⟨rfl, s1, l1⟩
  show AX w M_X3_land 0 0 93 [.ref 64, .int (nI 0), .ref 66, .int (nI 0)] [] _ _
  refine AX.goto (pc := 93) (tgt := 119) dX3_land_93 (by decide) ?_
  refine AX.iload_n (pc := 119) dX3_land_119 rfl ?_
  refine AX.iret (pc := 120) dX3_land_120 rfl rfl (by decide) (by decide) ?_
  exact ⟨rfl, sx.trans (s1.wide (by simp)), l1⟩
theorem c_land_0_pos (w : XW) (h : XH) {q : Nat → Int32} {g : Nat} (hn : 72 ≤ h.1) (hL : LG h 64 q) (h15 : q 15 = nI 0) (d : Nat) (hd : d + 1 < 1000000) : CA w M_X3_land [.ref 64, .int (oI (some (d + 1)))] h (fun v h' => v = some (.int (oI (some (d + 1)))) ∧ Same [64, 66, 67] h h' ∧ LG h' 64 (ldN q 0 g (some (d + 1)))) := by
  refine CA.of (by decide) rfl (fun _ => Nat.le_of_ble_eq_true rfl) ?_
  obtain ⟨f65, e65, q65⟩ := id hL.2.1
  obtain ⟨eb, er_, e2, e3⟩ := id hL
  rw [h15] at eb
  show AX w M_X3_land 0 0 0 [.ref 64, .int (nI (d + 1)), .null, .null] [] h _
  refine AX.aload_n (pc := 0) dX3_land_0 rfl ?_
  refine AX.getf (pc := 1) fX3_land_12 (lt_k hn (by omega)) eb rfl dX3_land_1 ?_
  refine AX.aload_n (pc := 4) dX3_land_4 rfl ?_
  refine AX.getf (pc := 5) fX3_land_38 (lt_k hn (by omega)) eb rfl dX3_land_5 ?_
  refine AX.aaldN (pc := 8) (i := 0) (b := 66) (by decide) (lt_k hn (by omega)) e65 (by decide) (by decide) (q65 _ (by decide)) dX3_land_8 ?_
  refine AX.astore_n (pc := 9) (L' := [.ref 64, .int (nI (d + 1)), .ref 66, .null]) dX3_land_9 (by decide) rfl ?_
  refine AX.iload_n (pc := 10) dX3_land_10 rfl ?_
  refine AX.bipush (pc := 11) (v := (-5)) dX3_land_11 (by decide) ?_
  refine AX.icmp_ne (pc := 13) (tgt := 23) dX3_land_13 (by decide) (fun hc13 => ?_) (fun q => absurd q (nI_m5 (by omega)))
  refine AX.iload_n (pc := 23) dX3_land_23 rfl ?_
  refine AX.istore_n (pc := 24) (L' := [.ref 64, .int (nI (d + 1)), .ref 66, .int (nI (d + 1))]) dX3_land_24 (by decide) rfl ?_
  refine AX.aload_n (pc := 25) dX3_land_25 rfl ?_
  refine AX.dup (pc := 26) dX3_land_26 rfl ?_
  refine AX.getf (pc := 27) fX3_land_57 (lt_k hn (by omega)) e2 rfl dX3_land_27 ?_
  refine AX.iconst (pc := 30) (v := nI 1) dX3_land_30 (by decide) ?_
  refine AX.iadd (pc := 31) dX3_land_31 ?_
  refine AX.putf (pc := 32) (fs' := [.int (q 0), .int (q 2), .int (q 4), .int (q 6), .int ((q 8) + (nI 1)), .int (q 10)]) fX3_land_57 rfl (lt_k hn (by omega)) e2 (Nat.le_of_ble_eq_true rfl) rfl rfl rfl dX3_land_32 ?_
  refine AX.aload_n (pc := 35) dX3_land_35 rfl ?_
  refine AX.dup (pc := 36) dX3_land_36 rfl ?_
  refine AX.getf (pc := 37) fX3_land_60 (lt_k hn (by omega)) (xset_same _ _ _) rfl dX3_land_37 ?_
  refine AX.aload_n (pc := 40) dX3_land_40 rfl ?_
  refine AX.getf (pc := 41) fX3_land_47 (lt_k hn (by omega)) (xset_same _ _ _) rfl dX3_land_41 ?_
  refine AX.iload_n (pc := 44) dX3_land_44 rfl ?_
  refine AX.isub (pc := 45) dX3_land_45 ?_
  refine AX.iadd (pc := 46) dX3_land_46 ?_
  refine AX.putf (pc := 47) (h := xset h 66 (.inr (5, [.int (q 0), .int (q 2), .int (q 4), .int (q 6), .int ((q 8) + (nI 1)), .int (q 10)]))) (a := 66) (fs' := [.int (q 0), .int (q 2), .int (q 4), .int (q 6), .int ((q 8) + (nI 1)), .int ((q 10) + ((q 4) - (nI (d + 1))))]) fX3_land_60 rfl (lt_k hn (by omega)) (xset_same _ _ _) (Nat.le_of_ble_eq_true rfl) rfl rfl rfl dX3_land_47 ?_
  refine AX.aload_n (pc := 50) dX3_land_50 rfl ?_
  refine AX.iload_n (pc := 51) dX3_land_51 rfl ?_
  refine AX.putf (pc := 52) (h := xset (xset h 66 (.inr (5, [.int (q 0), .int (q 2), .int (q 4), .int (q 6), .int ((q 8) + (nI 1)), .int (q 10)]))) 66 (.inr (5, [.int (q 0), .int (q 2), .int (q 4), .int (q 6), .int ((q 8) + (nI 1)), .int ((q 10) + ((q 4) - (nI (d + 1))))]))) (a := 66) (fs' := [.int (q 0), .int (q 2), .int (nI (d + 1)), .int (q 6), .int ((q 8) + (nI 1)), .int ((q 10) + ((q 4) - (nI (d + 1))))]) fX3_land_47 rfl (lt_k hn (by omega)) (xset_same _ _ _) (Nat.le_of_ble_eq_true rfl) rfl rfl rfl dX3_land_52 ?_
  refine AX.aload_n (pc := 55) dX3_land_55 rfl ?_
  refine AX.dup (pc := 56) dX3_land_56 rfl ?_
  refine AX.getf (pc := 57) fX3_land_41 (lt_k hn (by omega)) ((xset_ne (by decide)).trans ((xset_ne (by decide)).trans ((xset_ne (by decide)).trans eb))) rfl dX3_land_57 ?_
  refine AX.iconst (pc := 60) (v := nI 1) dX3_land_60 (by decide) ?_
  refine AX.isub (pc := 61) dX3_land_61 ?_
  refine AX.putf (pc := 62) (h := xset (xset (xset h 66 (.inr (5, [.int (q 0), .int (q 2), .int (q 4), .int (q 6), .int ((q 8) + (nI 1)), .int (q 10)]))) 66 (.inr (5, [.int (q 0), .int (q 2), .int (q 4), .int (q 6), .int ((q 8) + (nI 1)), .int ((q 10) + ((q 4) - (nI (d + 1))))]))) 66 (.inr (5, [.int (q 0), .int (q 2), .int (nI (d + 1)), .int (q 6), .int ((q 8) + (nI 1)), .int ((q 10) + ((q 4) - (nI (d + 1))))]))) (a := 64) (fs' := [.ref 65, .int (q 12), .int (q 13), .int (q 14), .int (nI 0), .int ((q 16) - (nI 1)), .int (q 17), .int (q 18)]) fX3_land_41 rfl (lt_k hn (by omega)) ((xset_ne (by decide)).trans ((xset_ne (by decide)).trans ((xset_ne (by decide)).trans eb))) (Nat.le_of_ble_eq_true rfl) rfl rfl rfl dX3_land_62 ?_
  refine AX.iload_n (pc := 65) dX3_land_65 rfl ?_
  refine AX.if_neN (pc := 66) (tgt := 96) dX3_land_66 (by decide) (by omega) (fun hc66 => ?_) (fun q => absurd q (by omega))
  refine AX.iload_n (pc := 96) dX3_land_96 rfl ?_
  refine AX.bipush (pc := 97) (v := (-5)) dX3_land_97 (by decide) ?_
  refine AX.icmp_eq (pc := 99) (tgt := 109) dX3_land_99 (by decide) (fun q => absurd q (nI_m5 (by omega))) (fun hc99 => ?_)
  refine AX.aload_n (pc := 102) dX3_land_102 rfl ?_
  refine AX.getf (pc := 103) fX3_land_41 (lt_k hn (by omega)) (xset_same _ _ _) rfl dX3_land_103 ?_
  refine AX.if_ne (pc := 106) (tgt := 119) dX3_land_106 (by decide) (fun hc106 => ?_) (fun hc106 => ?_)
  · refine AX.iload_n (pc := 119) dX3_land_119 rfl ?_
    refine AX.iret (pc := 120) dX3_land_120 rfl rfl (by decide) (by decide) ?_
    have sx : Same [64, 66, 67] h (xset (xset (xset (xset h 66 (.inr (5, [.int (q 0), .int (q 2), .int (q 4), .int (q 6), .int ((q 8) + (nI 1)), .int (q 10)]))) 66 (.inr (5, [.int (q 0), .int (q 2), .int (q 4), .int (q 6), .int ((q 8) + (nI 1)), .int ((q 10) + ((q 4) - (nI (d + 1))))]))) 66 (.inr (5, [.int (q 0), .int (q 2), .int (nI (d + 1)), .int (q 6), .int ((q 8) + (nI 1)), .int ((q 10) + ((q 4) - (nI (d + 1))))]))) 64 (.inr (2, [.ref 65, .int (q 12), .int (q 13), .int (q 14), .int (nI 0), .int ((q 16) - (nI 1)), .int (q 17), .int (q 18)]))) := (Same.set (Same.set (Same.set (Same.set Same.rf (by simp)) (by simp)) (by simp)) (by simp))
    exact ⟨rfl, sx, by show LG _ 64 (if q 16 - nI 1 = 0 then _ else _); rw [if_neg hc106]; exact ⟨(Eq.trans (xset_same _ _ _) (by rw [← h15]; rfl)), hL.2.1.same sx (by simp), ((xset_ne (by decide)).trans (xset_same _ _ _)), ((xset_ne (by decide)).trans ((xset_ne (by decide)).trans ((xset_ne (by decide)).trans ((xset_ne (by decide)).trans e3))))⟩⟩
  · have sx : Same [64, 66, 67] h (xset (xset (xset (xset h 66 (.inr (5, [.int (q 0), .int (q 2), .int (q 4), .int (q 6), .int ((q 8) + (nI 1)), .int (q 10)]))) 66 (.inr (5, [.int (q 0), .int (q 2), .int (q 4), .int (q 6), .int ((q 8) + (nI 1)), .int ((q 10) + ((q 4) - (nI (d + 1))))]))) 66 (.inr (5, [.int (q 0), .int (q 2), .int (nI (d + 1)), .int (q 6), .int ((q 8) + (nI 1)), .int ((q 10) + ((q 4) - (nI (d + 1))))]))) 64 (.inr (2, [.ref 65, .int (q 12), .int (q 13), .int (q 14), .int (nI 0), .int ((q 16) - (nI 1)), .int (q 17), .int (q 18)]))) := (Same.set (Same.set (Same.set (Same.set Same.rf (by simp)) (by simp)) (by simp)) (by simp))
    refine AX.aload_n (pc := 109) dX3_land_109 rfl ?_
    refine AX.iconst (pc := 110) (v := nI 1) dX3_land_110 (by decide) ?_
    refine AX.aload_n (pc := 111) dX3_land_111 rfl ?_
    refine AX.getf (pc := 112) fX3_land_38 (lt_k hn (by omega)) (xset_same _ _ _) rfl dX3_land_112 ?_
    refine AX.isubN (pc := 115) (c := 1) dX3_land_115 rfl ?_
    refine AX.callV (pc := 116) (M2 := M_X3_beginVisit) (As := [.int (nI 1)]) (rest := []) (c_beginVisit w (xset (xset (xset (xset h 66 (.inr (5, [.int (q 0), .int (q 2), .int (q 4), .int (q 6), .int ((q 8) + (nI 1)), .int (q 10)]))) 66 (.inr (5, [.int (q 0), .int (q 2), .int (q 4), .int (q 6), .int ((q 8) + (nI 1)), .int ((q 10) + ((q 4) - (nI (d + 1))))]))) 66 (.inr (5, [.int (q 0), .int (q 2), .int (nI (d + 1)), .int (q 6), .int ((q 8) + (nI 1)), .int ((q 10) + ((q 4) - (nI (d + 1))))]))) 64 (.inr (2, [.ref 65, .int (q 12), .int (q 13), .int (q 14), .int (nI 0), .int ((q 16) - (nI 1)), .int (q 17), .int (q 18)]))) (sx.le hn) (q := (upd (upd (upd (upd q 8 (q 8 + nI 1)) 10 (q 10 + (q 4 - nI (d + 1)))) 4 (nI (d + 1))) 16 (q 16 - nI 1))) ⟨(Eq.trans (xset_same _ _ _) (by rw [← h15]; rfl)), hL.2.1.same sx (by simp), ((xset_ne (by decide)).trans (xset_same _ _ _)), ((xset_ne (by decide)).trans ((xset_ne (by decide)).trans ((xset_ne (by decide)).trans ((xset_ne (by decide)).trans e3))))⟩ 1 (by omega)) xc_X3_land__X3_beginVisit gX3_land_X3_beginVisit (ci := 2) rfl (lt_k hn (by omega)) (xset_same _ _ _) rfl (Nat.le_of_ble_eq_true rfl) dX3_land_116 ?_
    rintro _ h1 ⟨rfl, s1, l1⟩
    show AX w M_X3_land 0 0 119 [.ref 64, .int (nI (d + 1)), .ref 66, .int (nI (d + 1))] [] _ _
    refine AX.iload_n (pc := 119) dX3_land_119 rfl ?_
    refine AX.iret (pc := 120) dX3_land_120 rfl rfl (by decide) (by decide) ?_
    exact ⟨rfl, sx.trans (s1.wide (by simp)), by show LG _ 64 (if q 16 - nI 1 = 0 then _ else _); rw [if_pos hc106]; exact l1⟩
theorem c_land_1_none (w : XW) (h : XH) {q : Nat → Int32} {g : Nat} (hn : 72 ≤ h.1) (hL : LG h 64 q) (h15 : q 15 = nI 1) : CA w M_X3_land [.ref 64, .int (oI none)] h (fun v h' => v = some (.int (oI none)) ∧ Same [64, 66, 67] h h' ∧ LG h' 64 (ldN q 1 g none)) := by
  refine CA.of (by decide) rfl (fun _ => Nat.le_of_ble_eq_true rfl) ?_
  obtain ⟨f65, e65, q65⟩ := id hL.2.1
  obtain ⟨eb, er_, e2, e3⟩ := id hL
  rw [h15] at eb
  show AX w M_X3_land 0 0 0 [.ref 64, .int (-5), .null, .null] [] h _
  refine AX.aload_n (pc := 0) dX3_land_0 rfl ?_
  refine AX.getf (pc := 1) fX3_land_12 (lt_k hn (by omega)) eb rfl dX3_land_1 ?_
  refine AX.aload_n (pc := 4) dX3_land_4 rfl ?_
  refine AX.getf (pc := 5) fX3_land_38 (lt_k hn (by omega)) eb rfl dX3_land_5 ?_
  refine AX.aaldN (pc := 8) (i := 1) (b := 67) (by decide) (lt_k hn (by omega)) e65 (by decide) (by decide) (q65 _ (by decide)) dX3_land_8 ?_
  refine AX.astore_n (pc := 9) (L' := [.ref 64, .int (-5), .ref 67, .null]) dX3_land_9 (by decide) rfl ?_
  refine AX.iload_n (pc := 10) dX3_land_10 rfl ?_
  refine AX.bipush (pc := 11) (v := (-5)) dX3_land_11 (by decide) ?_
  refine AX.icmp_ne (pc := 13) (tgt := 23) dX3_land_13 (by decide) (fun q => absurd rfl q) (fun hc13 => ?_)
  refine AX.aload_n (pc := 16) dX3_land_16 rfl ?_
  refine AX.getf (pc := 17) fX3_land_44 (lt_k hn (by omega)) eb rfl dX3_land_17 ?_
  refine AX.goto (pc := 20) (tgt := 24) dX3_land_20 (by decide) ?_
  refine AX.istore_n (pc := 24) (L' := [.ref 64, .int (-5), .ref 67, .int (q 17)]) dX3_land_24 (by decide) rfl ?_
  refine AX.aload_n (pc := 25) dX3_land_25 rfl ?_
  refine AX.dup (pc := 26) dX3_land_26 rfl ?_
  refine AX.getf (pc := 27) fX3_land_57 (lt_k hn (by omega)) e3 rfl dX3_land_27 ?_
  refine AX.iconst (pc := 30) (v := nI 1) dX3_land_30 (by decide) ?_
  refine AX.iadd (pc := 31) dX3_land_31 ?_
  refine AX.putf (pc := 32) (fs' := [.int (q 1), .int (q 3), .int (q 5), .int (q 7), .int ((q 9) + (nI 1)), .int (q 11)]) fX3_land_57 rfl (lt_k hn (by omega)) e3 (Nat.le_of_ble_eq_true rfl) rfl rfl rfl dX3_land_32 ?_
  refine AX.aload_n (pc := 35) dX3_land_35 rfl ?_
  refine AX.dup (pc := 36) dX3_land_36 rfl ?_
  refine AX.getf (pc := 37) fX3_land_60 (lt_k hn (by omega)) (xset_same _ _ _) rfl dX3_land_37 ?_
  refine AX.aload_n (pc := 40) dX3_land_40 rfl ?_
  refine AX.getf (pc := 41) fX3_land_47 (lt_k hn (by omega)) (xset_same _ _ _) rfl dX3_land_41 ?_
  refine AX.iload_n (pc := 44) dX3_land_44 rfl ?_
  refine AX.isub (pc := 45) dX3_land_45 ?_
  refine AX.iadd (pc := 46) dX3_land_46 ?_
  refine AX.putf (pc := 47) (h := xset h 67 (.inr (5, [.int (q 1), .int (q 3), .int (q 5), .int (q 7), .int ((q 9) + (nI 1)), .int (q 11)]))) (a := 67) (fs' := [.int (q 1), .int (q 3), .int (q 5), .int (q 7), .int ((q 9) + (nI 1)), .int ((q 11) + ((q 5) - (q 17)))]) fX3_land_60 rfl (lt_k hn (by omega)) (xset_same _ _ _) (Nat.le_of_ble_eq_true rfl) rfl rfl rfl dX3_land_47 ?_
  refine AX.aload_n (pc := 50) dX3_land_50 rfl ?_
  refine AX.iload_n (pc := 51) dX3_land_51 rfl ?_
  refine AX.putf (pc := 52) (h := xset (xset h 67 (.inr (5, [.int (q 1), .int (q 3), .int (q 5), .int (q 7), .int ((q 9) + (nI 1)), .int (q 11)]))) 67 (.inr (5, [.int (q 1), .int (q 3), .int (q 5), .int (q 7), .int ((q 9) + (nI 1)), .int ((q 11) + ((q 5) - (q 17)))]))) (a := 67) (fs' := [.int (q 1), .int (q 3), .int (q 17), .int (q 7), .int ((q 9) + (nI 1)), .int ((q 11) + ((q 5) - (q 17)))]) fX3_land_47 rfl (lt_k hn (by omega)) (xset_same _ _ _) (Nat.le_of_ble_eq_true rfl) rfl rfl rfl dX3_land_52 ?_
  refine AX.aload_n (pc := 55) dX3_land_55 rfl ?_
  refine AX.dup (pc := 56) dX3_land_56 rfl ?_
  refine AX.getf (pc := 57) fX3_land_41 (lt_k hn (by omega)) ((xset_ne (by decide)).trans ((xset_ne (by decide)).trans ((xset_ne (by decide)).trans eb))) rfl dX3_land_57 ?_
  refine AX.iconst (pc := 60) (v := nI 1) dX3_land_60 (by decide) ?_
  refine AX.isub (pc := 61) dX3_land_61 ?_
  refine AX.putf (pc := 62) (h := xset (xset (xset h 67 (.inr (5, [.int (q 1), .int (q 3), .int (q 5), .int (q 7), .int ((q 9) + (nI 1)), .int (q 11)]))) 67 (.inr (5, [.int (q 1), .int (q 3), .int (q 5), .int (q 7), .int ((q 9) + (nI 1)), .int ((q 11) + ((q 5) - (q 17)))]))) 67 (.inr (5, [.int (q 1), .int (q 3), .int (q 17), .int (q 7), .int ((q 9) + (nI 1)), .int ((q 11) + ((q 5) - (q 17)))]))) (a := 64) (fs' := [.ref 65, .int (q 12), .int (q 13), .int (q 14), .int (nI 1), .int ((q 16) - (nI 1)), .int (q 17), .int (q 18)]) fX3_land_41 rfl (lt_k hn (by omega)) ((xset_ne (by decide)).trans ((xset_ne (by decide)).trans ((xset_ne (by decide)).trans eb))) (Nat.le_of_ble_eq_true rfl) rfl rfl rfl dX3_land_62 ?_
  refine AX.iload_n (pc := 65) dX3_land_65 rfl ?_
  refine AX.if_ne (pc := 66) (tgt := 96) dX3_land_66 (by decide) (fun hc66 => ?_) (fun q => absurd q (by decide))
  refine AX.iload_n (pc := 96) dX3_land_96 rfl ?_
  refine AX.bipush (pc := 97) (v := (-5)) dX3_land_97 (by decide) ?_
  refine AX.icmp_eq (pc := 99) (tgt := 109) dX3_land_99 (by decide) (fun hc99 => ?_) (fun q => absurd rfl q)
  have sx : Same [64, 66, 67] h (xset (xset (xset (xset h 67 (.inr (5, [.int (q 1), .int (q 3), .int (q 5), .int (q 7), .int ((q 9) + (nI 1)), .int (q 11)]))) 67 (.inr (5, [.int (q 1), .int (q 3), .int (q 5), .int (q 7), .int ((q 9) + (nI 1)), .int ((q 11) + ((q 5) - (q 17)))]))) 67 (.inr (5, [.int (q 1), .int (q 3), .int (q 17), .int (q 7), .int ((q 9) + (nI 1)), .int ((q 11) + ((q 5) - (q 17)))]))) 64 (.inr (2, [.ref 65, .int (q 12), .int (q 13), .int (q 14), .int (nI 1), .int ((q 16) - (nI 1)), .int (q 17), .int (q 18)]))) := (Same.set (Same.set (Same.set (Same.set Same.rf (by simp)) (by simp)) (by simp)) (by simp))
  refine AX.aload_n (pc := 109) dX3_land_109 rfl ?_
  refine AX.iconst (pc := 110) (v := nI 1) dX3_land_110 (by decide) ?_
  refine AX.aload_n (pc := 111) dX3_land_111 rfl ?_
  refine AX.getf (pc := 112) fX3_land_38 (lt_k hn (by omega)) (xset_same _ _ _) rfl dX3_land_112 ?_
  refine AX.isubN (pc := 115) (c := 0) dX3_land_115 rfl ?_
  refine AX.callV (pc := 116) (M2 := M_X3_beginVisit) (As := [.int (nI 0)]) (rest := []) (c_beginVisit w (xset (xset (xset (xset h 67 (.inr (5, [.int (q 1), .int (q 3), .int (q 5), .int (q 7), .int ((q 9) + (nI 1)), .int (q 11)]))) 67 (.inr (5, [.int (q 1), .int (q 3), .int (q 5), .int (q 7), .int ((q 9) + (nI 1)), .int ((q 11) + ((q 5) - (q 17)))]))) 67 (.inr (5, [.int (q 1), .int (q 3), .int (q 17), .int (q 7), .int ((q 9) + (nI 1)), .int ((q 11) + ((q 5) - (q 17)))]))) 64 (.inr (2, [.ref 65, .int (q 12), .int (q 13), .int (q 14), .int (nI 1), .int ((q 16) - (nI 1)), .int (q 17), .int (q 18)]))) (sx.le hn) (q := (upd (upd (upd (upd q 9 (q 9 + nI 1)) 11 (q 11 + (q 5 - q 17))) 5 (q 17)) 16 (q 16 - nI 1))) ⟨(Eq.trans (xset_same _ _ _) (by rw [← h15]; rfl)), hL.2.1.same sx (by simp), ((xset_ne (by decide)).trans ((xset_ne (by decide)).trans ((xset_ne (by decide)).trans ((xset_ne (by decide)).trans e2)))), ((xset_ne (by decide)).trans (xset_same _ _ _))⟩ 0 (by omega)) xc_X3_land__X3_beginVisit gX3_land_X3_beginVisit (ci := 2) rfl (lt_k hn (by omega)) (xset_same _ _ _) rfl (Nat.le_of_ble_eq_true rfl) dX3_land_116 ?_
  rintro _ h1 ⟨rfl, s1, l1⟩
  show AX w M_X3_land 0 0 119 [.ref 64, .int (-5), .ref 67, .int (q 17)] [] _ _
  refine AX.iload_n (pc := 119) dX3_land_119 rfl ?_
  refine AX.iret (pc := 120) dX3_land_120 rfl rfl (by decide) (by decide) ?_
  exact ⟨rfl, sx.trans (s1.wide (by simp)), l1⟩
theorem c_land_1_zero0 (w : XW) (h : XH) {q : Nat → Int32} (hn : 72 ≤ h.1) (hL : LG h 64 q) (h15 : q 15 = nI 1) (h14 : q 14 = nI 0) : CA w M_X3_land [.ref 64, .int (oI (some 0))] h (fun v h' => v = some (.int (oI (some 0))) ∧ Same [64, 66, 67] h h' ∧ LG h' 64 (ldN q 1 0 (some 0))) := by
  refine CA.of (by decide) rfl (fun _ => Nat.le_of_ble_eq_true rfl) ?_
  obtain ⟨f65, e65, q65⟩ := id hL.2.1
  obtain ⟨eb, er_, e2, e3⟩ := id hL
  rw [h15] at eb
  rw [h14] at eb
  show AX w M_X3_land 0 0 0 [.ref 64, .int (nI 0), .null, .null] [] h _
  refine AX.aload_n (pc := 0) dX3_land_0 rfl ?_
  refine AX.getf (pc := 1) fX3_land_12 (lt_k hn (by omega)) eb rfl dX3_land_1 ?_
  refine AX.aload_n (pc := 4) dX3_land_4 rfl ?_
  refine AX.getf (pc := 5) fX3_land_38 (lt_k hn (by omega)) eb rfl dX3_land_5 ?_
  refine AX.aaldN (pc := 8) (i := 1) (b := 67) (by decide) (lt_k hn (by omega)) e65 (by decide) (by decide) (q65 _ (by decide)) dX3_land_8 ?_
  refine AX.astore_n (pc := 9) (L' := [.ref 64, .int (nI 0), .ref 67, .null]) dX3_land_9 (by decide) rfl ?_
  refine AX.iload_n (pc := 10) dX3_land_10 rfl ?_
  refine AX.bipush (pc := 11) (v := (-5)) dX3_land_11 (by decide) ?_
  refine AX.icmp_ne (pc := 13) (tgt := 23) dX3_land_13 (by decide) (fun hc13 => ?_) (fun q => absurd q (nI_m5 (by decide)))
  refine AX.iload_n (pc := 23) dX3_land_23 rfl ?_
  refine AX.istore_n (pc := 24) (L' := [.ref 64, .int (nI 0), .ref 67, .int (nI 0)]) dX3_land_24 (by decide) rfl ?_
  refine AX.aload_n (pc := 25) dX3_land_25 rfl ?_
  refine AX.dup (pc := 26) dX3_land_26 rfl ?_
  refine AX.getf (pc := 27) fX3_land_57 (lt_k hn (by omega)) e3 rfl dX3_land_27 ?_
  refine AX.iconst (pc := 30) (v := nI 1) dX3_land_30 (by decide) ?_
  refine AX.iadd (pc := 31) dX3_land_31 ?_
  refine AX.putf (pc := 32) (fs' := [.int (q 1), .int (q 3), .int (q 5), .int (q 7), .int ((q 9) + (nI 1)), .int (q 11)]) fX3_land_57 rfl (lt_k hn (by omega)) e3 (Nat.le_of_ble_eq_true rfl) rfl rfl rfl dX3_land_32 ?_
  refine AX.aload_n (pc := 35) dX3_land_35 rfl ?_
  refine AX.dup (pc := 36) dX3_land_36 rfl ?_
  refine AX.getf (pc := 37) fX3_land_60 (lt_k hn (by omega)) (xset_same _ _ _) rfl dX3_land_37 ?_
  refine AX.aload_n (pc := 40) dX3_land_40 rfl ?_
  refine AX.getf (pc := 41) fX3_land_47 (lt_k hn (by omega)) (xset_same _ _ _) rfl dX3_land_41 ?_
  refine AX.iload_n (pc := 44) dX3_land_44 rfl ?_
  refine AX.isub (pc := 45) dX3_land_45 ?_
  refine AX.iadd (pc := 46) dX3_land_46 ?_
  refine AX.putf (pc := 47) (h := xset h 67 (.inr (5, [.int (q 1), .int (q 3), .int (q 5), .int (q 7), .int ((q 9) + (nI 1)), .int (q 11)]))) (a := 67) (fs' := [.int (q 1), .int (q 3), .int (q 5), .int (q 7), .int ((q 9) + (nI 1)), .int ((q 11) + ((q 5) - (nI 0)))]) fX3_land_60 rfl (lt_k hn (by omega)) (xset_same _ _ _) (Nat.le_of_ble_eq_true rfl) rfl rfl rfl dX3_land_47 ?_
  refine AX.aload_n (pc := 50) dX3_land_50 rfl ?_
  refine AX.iload_n (pc := 51) dX3_land_51 rfl ?_
  refine AX.putf (pc := 52) (h := xset (xset h 67 (.inr (5, [.int (q 1), .int (q 3), .int (q 5), .int (q 7), .int ((q 9) + (nI 1)), .int (q 11)]))) 67 (.inr (5, [.int (q 1), .int (q 3), .int (q 5), .int (q 7), .int ((q 9) + (nI 1)), .int ((q 11) + ((q 5) - (nI 0)))]))) (a := 67) (fs' := [.int (q 1), .int (q 3), .int (nI 0), .int (q 7), .int ((q 9) + (nI 1)), .int ((q 11) + ((q 5) - (nI 0)))]) fX3_land_47 rfl (lt_k hn (by omega)) (xset_same _ _ _) (Nat.le_of_ble_eq_true rfl) rfl rfl rfl dX3_land_52 ?_
  refine AX.aload_n (pc := 55) dX3_land_55 rfl ?_
  refine AX.dup (pc := 56) dX3_land_56 rfl ?_
  refine AX.getf (pc := 57) fX3_land_41 (lt_k hn (by omega)) ((xset_ne (by decide)).trans ((xset_ne (by decide)).trans ((xset_ne (by decide)).trans eb))) rfl dX3_land_57 ?_
  refine AX.iconst (pc := 60) (v := nI 1) dX3_land_60 (by decide) ?_
  refine AX.isub (pc := 61) dX3_land_61 ?_
  refine AX.putf (pc := 62) (h := xset (xset (xset h 67 (.inr (5, [.int (q 1), .int (q 3), .int (q 5), .int (q 7), .int ((q 9) + (nI 1)), .int (q 11)]))) 67 (.inr (5, [.int (q 1), .int (q 3), .int (q 5), .int (q 7), .int ((q 9) + (nI 1)), .int ((q 11) + ((q 5) - (nI 0)))]))) 67 (.inr (5, [.int (q 1), .int (q 3), .int (nI 0), .int (q 7), .int ((q 9) + (nI 1)), .int ((q 11) + ((q 5) - (nI 0)))]))) (a := 64) (fs' := [.ref 65, .int (q 12), .int (q 13), .int (nI 0), .int (nI 1), .int ((q 16) - (nI 1)), .int (q 17), .int (q 18)]) fX3_land_41 rfl (lt_k hn (by omega)) ((xset_ne (by decide)).trans ((xset_ne (by decide)).trans ((xset_ne (by decide)).trans eb))) (Nat.le_of_ble_eq_true rfl) rfl rfl rfl dX3_land_62 ?_
  refine AX.iload_n (pc := 65) dX3_land_65 rfl ?_
  refine AX.if_neN (pc := 66) (tgt := 96) dX3_land_66 (by decide) (by decide) (fun q => absurd q (by decide)) (fun hc66 => ?_)
  refine AX.aload_n (pc := 69) dX3_land_69 rfl ?_
  refine AX.dup (pc := 70) dX3_land_70 rfl ?_
  refine AX.getf (pc := 71) fX3_land_54 (lt_k hn (by omega)) ((xset_ne (by decide)).trans (xset_same _ _ _)) rfl dX3_land_71 ?_
  refine AX.iconst (pc := 74) (v := nI 1) dX3_land_74 (by decide) ?_
  refine AX.iadd (pc := 75) dX3_land_75 ?_
  refine AX.putf (pc := 76) (h := xset (xset (xset (xset h 67 (.inr (5, [.int (q 1), .int (q 3), .int (q 5), .int (q 7), .int ((q 9) + (nI 1)), .int (q 11)]))) 67 (.inr (5, [.int (q 1), .int (q 3), .int (q 5), .int (q 7), .int ((q 9) + (nI 1)), .int ((q 11) + ((q 5) - (nI 0)))]))) 67 (.inr (5, [.int (q 1), .int (q 3), .int (nI 0), .int (q 7), .int ((q 9) + (nI 1)), .int ((q 11) + ((q 5) - (nI 0)))]))) 64 (.inr (2, [.ref 65, .int (q 12), .int (q 13), .int (nI 0), .int (nI 1), .int ((q 16) - (nI 1)), .int (q 17), .int (q 18)]))) (a := 67) (fs' := [.int (q 1), .int (q 3), .int (nI 0), .int ((q 7) + (nI 1)), .int ((q 9) + (nI 1)), .int ((q 11) + ((q 5) - (nI 0)))]) fX3_land_54 rfl (lt_k hn (by omega)) ((xset_ne (by decide)).trans (xset_same _ _ _)) (Nat.le_of_ble_eq_true rfl) rfl rfl rfl dX3_land_76 ?_
  refine AX.aload_n (pc := 79) dX3_land_79 rfl ?_
  refine AX.iconst (pc := 80) (v := nI 1) dX3_land_80 (by decide) ?_
  refine AX.aload_n (pc := 81) dX3_land_81 rfl ?_
  refine AX.getf (pc := 82) fX3_land_35 (lt_k hn (by omega)) ((xset_ne (by decide)).trans (xset_same _ _ _)) rfl dX3_land_82 ?_
  refine AX.isubN (pc := 85) (c := 1) dX3_land_85 rfl ?_
  refine AX.putf (pc := 86) (h := xset (xset (xset (xset (xset h 67 (.inr (5, [.int (q 1), .int (q 3), .int (q 5), .int (q 7), .int ((q 9) + (nI 1)), .int (q 11)]))) 67 (.inr (5, [.int (q 1), .int (q 3), .int (q 5), .int (q 7), .int ((q 9) + (nI 1)), .int ((q 11) + ((q 5) - (nI 0)))]))) 67 (.inr (5, [.int (q 1), .int (q 3), .int (nI 0), .int (q 7), .int ((q 9) + (nI 1)), .int ((q 11) + ((q 5) - (nI 0)))]))) 64 (.inr (2, [.ref 65, .int (q 12), .int (q 13), .int (nI 0), .int (nI 1), .int ((q 16) - (nI 1)), .int (q 17), .int (q 18)]))) 67 (.inr (5, [.int (q 1), .int (q 3), .int (nI 0), .int ((q 7) + (nI 1)), .int ((q 9) + (nI 1)), .int ((q 11) + ((q 5) - (nI 0)))]))) (a := 64) (fs' := [.ref 65, .int (q 12), .int (q 13), .int (nI 1), .int (nI 1), .int ((q 16) - (nI 1)), .int (q 17), .int (q 18)]) fX3_land_35 rfl (lt_k hn (by omega)) ((xset_ne (by decide)).trans (xset_same _ _ _)) (Nat.le_of_ble_eq_true rfl) rfl rfl rfl dX3_land_86 ?_
  have sx : Same [64, 66, 67] h (xset (xset (xset (xset (xset (xset h 67 (.inr (5, [.int (q 1), .int (q 3), .int (q 5), .int (q 7), .int ((q 9) + (nI 1)), .int (q 11)]))) 67 (.inr (5, [.int (q 1), .int (q 3), .int (q 5), .int (q 7), .int ((q 9) + (nI 1)), .int ((q 11) + ((q 5) - (nI 0)))]))) 67 (.inr (5, [.int (q 1), .int (q 3), .int (nI 0), .int (q 7), .int ((q 9) + (nI 1)), .int ((q 11) + ((q 5) - (nI 0)))]))) 64 (.inr (2, [.ref 65, .int (q 12), .int (q 13), .int (nI 0), .int (nI 1), .int ((q 16) - (nI 1)), .int (q 17), .int (q 18)]))) 67 (.inr (5, [.int (q 1), .int (q 3), .int (nI 0), .int ((q 7) + (nI 1)), .int ((q 9) + (nI 1)), .int ((q 11) + ((q 5) - (nI 0)))]))) 64 (.inr (2, [.ref 65, .int (q 12), .int (q 13), .int (nI 1), .int (nI 1), .int ((q 16) - (nI 1)), .int (q 17), .int (q 18)]))) := (Same.set (Same.set (Same.set (Same.set (Same.set (Same.set Same.rf (by simp)) (by simp)) (by simp)) (by simp)) (by simp)) (by simp))
  refine AX.aload_n (pc := 89) dX3_land_89 rfl ?_
  refine AX.callV (pc := 90) (M2 := M_X3_begin) (As := []) (rest := []) (c_begin w (xset (xset (xset (xset (xset (xset h 67 (.inr (5, [.int (q 1), .int (q 3), .int (q 5), .int (q 7), .int ((q 9) + (nI 1)), .int (q 11)]))) 67 (.inr (5, [.int (q 1), .int (q 3), .int (q 5), .int (q 7), .int ((q 9) + (nI 1)), .int ((q 11) + ((q 5) - (nI 0)))]))) 67 (.inr (5, [.int (q 1), .int (q 3), .int (nI 0), .int (q 7), .int ((q 9) + (nI 1)), .int ((q 11) + ((q 5) - (nI 0)))]))) 64 (.inr (2, [.ref 65, .int (q 12), .int (q 13), .int (nI 0), .int (nI 1), .int ((q 16) - (nI 1)), .int (q 17), .int (q 18)]))) 67 (.inr (5, [.int (q 1), .int (q 3), .int (nI 0), .int ((q 7) + (nI 1)), .int ((q 9) + (nI 1)), .int ((q 11) + ((q 5) - (nI 0)))]))) 64 (.inr (2, [.ref 65, .int (q 12), .int (q 13), .int (nI 1), .int (nI 1), .int ((q 16) - (nI 1)), .int (q 17), .int (q 18)]))) (sx.le hn) (q := upd (upd (upd (upd (upd (upd q 9 (q 9 + nI 1)) 11 (q 11 + (q 5 - nI 0))) 5 (nI 0)) 16 (q 16 - nI 1)) 7 (q 7 + nI 1)) 14 (nI 1)) ⟨(Eq.trans (xset_same _ _ _) (by rw [← h15]; rfl)), hL.2.1.same sx (by simp), ((xset_ne (by decide)).trans ((xset_ne (by decide)).trans ((xset_ne (by decide)).trans ((xset_ne (by decide)).trans ((xset_ne (by decide)).trans ((xset_ne (by decide)).trans e2)))))), ((xset_ne (by decide)).trans (xset_same _ _ _))⟩ 1 (by decide) rfl) xc_X3_land__X3_begin gX3_land_X3_begin (ci := 2) rfl (lt_k hn (by omega)) (xset_same _ _ _) rfl (Nat.le_of_ble_eq_true rfl) dX3_land_90 ?_
  rintro _ h1 ⟨rfl, s1, l1⟩
  show AX w M_X3_land 0 0 93 [.ref 64, .int (nI 0), .ref 67, .int (nI 0)] [] _ _
  refine AX.goto (pc := 93) (tgt := 119) dX3_land_93 (by decide) ?_
  refine AX.iload_n (pc := 119) dX3_land_119 rfl ?_
  refine AX.iret (pc := 120) dX3_land_120 rfl rfl (by decide) (by decide) ?_
  exact ⟨rfl, sx.trans (s1.wide (by simp)), l1⟩
theorem c_land_1_zero1 (w : XW) (h : XH) {q : Nat → Int32} (hn : 72 ≤ h.1) (hL : LG h 64 q) (h15 : q 15 = nI 1) (h14 : q 14 = nI 1) : CA w M_X3_land [.ref 64, .int (oI (some 0))] h (fun v h' => v = some (.int (oI (some 0))) ∧ Same [64, 66, 67] h h' ∧ LG h' 64 (ldN q 1 1 (some 0))) := by
  refine CA.of (by decide) rfl (fun _ => Nat.le_of_ble_eq_true rfl) ?_
  obtain ⟨f65, e65, q65⟩ := id hL.2.1
  obtain ⟨eb, er_, e2, e3⟩ := id hL
  rw [h15] at eb
  rw [h14] at eb
  show AX w M_X3_land 0 0 0 [.ref 64, .int (nI 0), .null, .null] [] h _
  refine AX.aload_n (pc := 0) dX3_land_0 rfl ?_
  refine AX.getf (pc := 1) fX3_land_12 (lt_k hn (by omega)) eb rfl dX3_land_1 ?_
  refine AX.aload_n (pc := 4) dX3_land_4 rfl ?_
  refine AX.getf (pc := 5) fX3_land_38 (lt_k hn (by omega)) eb rfl dX3_land_5 ?_
  refine AX.aaldN (pc := 8) (i := 1) (b := 67) (by decide) (lt_k hn (by omega)) e65 (by decide) (by decide) (q65 _ (by decide)) dX3_land_8 ?_
  refine AX.astore_n (pc := 9) (L' := [.ref 64, .int (nI 0), .ref 67, .null]) dX3_land_9 (by decide) rfl ?_
  refine AX.iload_n (pc := 10) dX3_land_10 rfl ?_
  refine AX.bipush (pc := 11) (v := (-5)) dX3_land_11 (by decide) ?_
  refine AX.icmp_ne (pc := 13) (tgt := 23) dX3_land_13 (by decide) (fun hc13 => ?_) (fun q => absurd q (nI_m5 (by decide)))
  refine AX.iload_n (pc := 23) dX3_land_23 rfl ?_
  refine AX.istore_n (pc := 24) (L' := [.ref 64, .int (nI 0), .ref 67, .int (nI 0)]) dX3_land_24 (by decide) rfl ?_
  refine AX.aload_n (pc := 25) dX3_land_25 rfl ?_
  refine AX.dup (pc := 26) dX3_land_26 rfl ?_
  refine AX.getf (pc := 27) fX3_land_57 (lt_k hn (by omega)) e3 rfl dX3_land_27 ?_
  refine AX.iconst (pc := 30) (v := nI 1) dX3_land_30 (by decide) ?_
  refine AX.iadd (pc := 31) dX3_land_31 ?_
  refine AX.putf (pc := 32) (fs' := [.int (q 1), .int (q 3), .int (q 5), .int (q 7), .int ((q 9) + (nI 1)), .int (q 11)]) fX3_land_57 rfl (lt_k hn (by omega)) e3 (Nat.le_of_ble_eq_true rfl) rfl rfl rfl dX3_land_32 ?_
  refine AX.aload_n (pc := 35) dX3_land_35 rfl ?_
  refine AX.dup (pc := 36) dX3_land_36 rfl ?_
  refine AX.getf (pc := 37) fX3_land_60 (lt_k hn (by omega)) (xset_same _ _ _) rfl dX3_land_37 ?_
  refine AX.aload_n (pc := 40) dX3_land_40 rfl ?_
  refine AX.getf (pc := 41) fX3_land_47 (lt_k hn (by omega)) (xset_same _ _ _) rfl dX3_land_41 ?_
  refine AX.iload_n (pc := 44) dX3_land_44 rfl ?_
  refine AX.isub (pc := 45) dX3_land_45 ?_
  refine AX.iadd (pc := 46) dX3_land_46 ?_
  refine AX.putf (pc := 47) (h := xset h 67 (.inr (5, [.int (q 1), .int (q 3), .int (q 5), .int (q 7), .int ((q 9) + (nI 1)), .int (q 11)]))) (a := 67) (fs' := [.int (q 1), .int (q 3), .int (q 5), .int (q 7), .int ((q 9) + (nI 1)), .int ((q 11) + ((q 5) - (nI 0)))]) fX3_land_60 rfl (lt_k hn (by omega)) (xset_same _ _ _) (Nat.le_of_ble_eq_true rfl) rfl rfl rfl dX3_land_47 ?_
  refine AX.aload_n (pc := 50) dX3_land_50 rfl ?_
  refine AX.iload_n (pc := 51) dX3_land_51 rfl ?_
  refine AX.putf (pc := 52) (h := xset (xset h 67 (.inr (5, [.int (q 1), .int (q 3), .int (q 5), .int (q 7), .int ((q 9) + (nI 1)), .int (q 11)]))) 67 (.inr (5, [.int (q 1), .int (q 3), .int (q 5), .int (q 7), .int ((q 9) + (nI 1)), .int ((q 11) + ((q 5) - (nI 0)))]))) (a := 67) (fs' := [.int (q 1), .int (q 3), .int (nI 0), .int (q 7), .int ((q 9) + (nI 1)), .int ((q 11) + ((q 5) - (nI 0)))]) fX3_land_47 rfl (lt_k hn (by omega)) (xset_same _ _ _) (Nat.le_of_ble_eq_true rfl) rfl rfl rfl dX3_land_52 ?_
  refine AX.aload_n (pc := 55) dX3_land_55 rfl ?_
  refine AX.dup (pc := 56) dX3_land_56 rfl ?_
  refine AX.getf (pc := 57) fX3_land_41 (lt_k hn (by omega)) ((xset_ne (by decide)).trans ((xset_ne (by decide)).trans ((xset_ne (by decide)).trans eb))) rfl dX3_land_57 ?_
  refine AX.iconst (pc := 60) (v := nI 1) dX3_land_60 (by decide) ?_
  refine AX.isub (pc := 61) dX3_land_61 ?_
  refine AX.putf (pc := 62) (h := xset (xset (xset h 67 (.inr (5, [.int (q 1), .int (q 3), .int (q 5), .int (q 7), .int ((q 9) + (nI 1)), .int (q 11)]))) 67 (.inr (5, [.int (q 1), .int (q 3), .int (q 5), .int (q 7), .int ((q 9) + (nI 1)), .int ((q 11) + ((q 5) - (nI 0)))]))) 67 (.inr (5, [.int (q 1), .int (q 3), .int (nI 0), .int (q 7), .int ((q 9) + (nI 1)), .int ((q 11) + ((q 5) - (nI 0)))]))) (a := 64) (fs' := [.ref 65, .int (q 12), .int (q 13), .int (nI 1), .int (nI 1), .int ((q 16) - (nI 1)), .int (q 17), .int (q 18)]) fX3_land_41 rfl (lt_k hn (by omega)) ((xset_ne (by decide)).trans ((xset_ne (by decide)).trans ((xset_ne (by decide)).trans eb))) (Nat.le_of_ble_eq_true rfl) rfl rfl rfl dX3_land_62 ?_
  refine AX.iload_n (pc := 65) dX3_land_65 rfl ?_
  refine AX.if_neN (pc := 66) (tgt := 96) dX3_land_66 (by decide) (by decide) (fun q => absurd q (by decide)) (fun hc66 => ?_)
  refine AX.aload_n (pc := 69) dX3_land_69 rfl ?_
  refine AX.dup (pc := 70) dX3_land_70 rfl ?_
  refine AX.getf (pc := 71) fX3_land_54 (lt_k hn (by omega)) ((xset_ne (by decide)).trans (xset_same _ _ _)) rfl dX3_land_71 ?_
  refine AX.iconst (pc := 74) (v := nI 1) dX3_land_74 (by decide) ?_
  refine AX.iadd (pc := 75) dX3_land_75 ?_
  refine AX.putf (pc := 76) (h := xset (xset (xset (xset h 67 (.inr (5, [.int (q 1), .int (q 3), .int (q 5), .int (q 7), .int ((q 9) + (nI 1)), .int (q 11)]))) 67 (.inr (5, [.int (q 1), .int (q 3), .int (q 5), .int (q 7), .int ((q 9) + (nI 1)), .int ((q 11) + ((q 5) - (nI 0)))]))) 67 (.inr (5, [.int (q 1), .int (q 3), .int (nI 0), .int (q 7), .int ((q 9) + (nI 1)), .int ((q 11) + ((q 5) - (nI 0)))]))) 64 (.inr (2, [.ref 65, .int (q 12), .int (q 13), .int (nI 1), .int (nI 1), .int ((q 16) - (nI 1)), .int (q 17), .int (q 18)]))) (a := 67) (fs' := [.int (q 1), .int (q 3), .int (nI 0), .int ((q 7) + (nI 1)), .int ((q 9) + (nI 1)), .int ((q 11) + ((q 5) - (nI 0)))]) fX3_land_54 rfl (lt_k hn (by omega)) ((xset_ne (by decide)).trans (xset_same _ _ _)) (Nat.le_of_ble_eq_true rfl) rfl rfl rfl dX3_land_76 ?_
  refine AX.aload_n (pc := 79) dX3_land_79 rfl ?_
  refine AX.iconst (pc := 80) (v := nI 1) dX3_land_80 (by decide) ?_
  refine AX.aload_n (pc := 81) dX3_land_81 rfl ?_
  refine AX.getf (pc := 82) fX3_land_35 (lt_k hn (by omega)) ((xset_ne (by decide)).trans (xset_same _ _ _)) rfl dX3_land_82 ?_
  refine AX.isubN (pc := 85) (c := 0) dX3_land_85 rfl ?_
  refine AX.putf (pc := 86) (h := xset (xset (xset (xset (xset h 67 (.inr (5, [.int (q 1), .int (q 3), .int (q 5), .int (q 7), .int ((q 9) + (nI 1)), .int (q 11)]))) 67 (.inr (5, [.int (q 1), .int (q 3), .int (q 5), .int (q 7), .int ((q 9) + (nI 1)), .int ((q 11) + ((q 5) - (nI 0)))]))) 67 (.inr (5, [.int (q 1), .int (q 3), .int (nI 0), .int (q 7), .int ((q 9) + (nI 1)), .int ((q 11) + ((q 5) - (nI 0)))]))) 64 (.inr (2, [.ref 65, .int (q 12), .int (q 13), .int (nI 1), .int (nI 1), .int ((q 16) - (nI 1)), .int (q 17), .int (q 18)]))) 67 (.inr (5, [.int (q 1), .int (q 3), .int (nI 0), .int ((q 7) + (nI 1)), .int ((q 9) + (nI 1)), .int ((q 11) + ((q 5) - (nI 0)))]))) (a := 64) (fs' := [.ref 65, .int (q 12), .int (q 13), .int (nI 0), .int (nI 1), .int ((q 16) - (nI 1)), .int (q 17), .int (q 18)]) fX3_land_35 rfl (lt_k hn (by omega)) ((xset_ne (by decide)).trans (xset_same _ _ _)) (Nat.le_of_ble_eq_true rfl) rfl rfl rfl dX3_land_86 ?_
  have sx : Same [64, 66, 67] h (xset (xset (xset (xset (xset (xset h 67 (.inr (5, [.int (q 1), .int (q 3), .int (q 5), .int (q 7), .int ((q 9) + (nI 1)), .int (q 11)]))) 67 (.inr (5, [.int (q 1), .int (q 3), .int (q 5), .int (q 7), .int ((q 9) + (nI 1)), .int ((q 11) + ((q 5) - (nI 0)))]))) 67 (.inr (5, [.int (q 1), .int (q 3), .int (nI 0), .int (q 7), .int ((q 9) + (nI 1)), .int ((q 11) + ((q 5) - (nI 0)))]))) 64 (.inr (2, [.ref 65, .int (q 12), .int (q 13), .int (nI 1), .int (nI 1), .int ((q 16) - (nI 1)), .int (q 17), .int (q 18)]))) 67 (.inr (5, [.int (q 1), .int (q 3), .int (nI 0), .int ((q 7) + (nI 1)), .int ((q 9) + (nI 1)), .int ((q 11) + ((q 5) - (nI 0)))]))) 64 (.inr (2, [.ref 65, .int (q 12), .int (q 13), .int (nI 0), .int (nI 1), .int ((q 16) - (nI 1)), .int (q 17), .int (q 18)]))) := (Same.set (Same.set (Same.set (Same.set (Same.set (Same.set Same.rf (by simp)) (by simp)) (by simp)) (by simp)) (by simp)) (by simp))
  refine AX.aload_n (pc := 89) dX3_land_89 rfl ?_
  refine AX.callV (pc := 90) (M2 := M_X3_begin) (As := []) (rest := []) (c_begin w (xset (xset (xset (xset (xset (xset h 67 (.inr (5, [.int (q 1), .int (q 3), .int (q 5), .int (q 7), .int ((q 9) + (nI 1)), .int (q 11)]))) 67 (.inr (5, [.int (q 1), .int (q 3), .int (q 5), .int (q 7), .int ((q 9) + (nI 1)), .int ((q 11) + ((q 5) - (nI 0)))]))) 67 (.inr (5, [.int (q 1), .int (q 3), .int (nI 0), .int (q 7), .int ((q 9) + (nI 1)), .int ((q 11) + ((q 5) - (nI 0)))]))) 64 (.inr (2, [.ref 65, .int (q 12), .int (q 13), .int (nI 1), .int (nI 1), .int ((q 16) - (nI 1)), .int (q 17), .int (q 18)]))) 67 (.inr (5, [.int (q 1), .int (q 3), .int (nI 0), .int ((q 7) + (nI 1)), .int ((q 9) + (nI 1)), .int ((q 11) + ((q 5) - (nI 0)))]))) 64 (.inr (2, [.ref 65, .int (q 12), .int (q 13), .int (nI 0), .int (nI 1), .int ((q 16) - (nI 1)), .int (q 17), .int (q 18)]))) (sx.le hn) (q := upd (upd (upd (upd (upd (upd q 9 (q 9 + nI 1)) 11 (q 11 + (q 5 - nI 0))) 5 (nI 0)) 16 (q 16 - nI 1)) 7 (q 7 + nI 1)) 14 (nI 0)) ⟨(Eq.trans (xset_same _ _ _) (by rw [← h15]; rfl)), hL.2.1.same sx (by simp), ((xset_ne (by decide)).trans ((xset_ne (by decide)).trans ((xset_ne (by decide)).trans ((xset_ne (by decide)).trans ((xset_ne (by decide)).trans ((xset_ne (by decide)).trans e2)))))), ((xset_ne (by decide)).trans (xset_same _ _ _))⟩ 0 (by decide) rfl) xc_X3_land__X3_begin gX3_land_X3_begin (ci := 2) rfl (lt_k hn (by omega)) (xset_same _ _ _) rfl (Nat.le_of_ble_eq_true rfl) dX3_land_90 ?_
  rintro _ h1 ⟨rfl, s1, l1⟩
  show AX w M_X3_land 0 0 93 [.ref 64, .int (nI 0), .ref 67, .int (nI 0)] [] _ _
  refine AX.goto (pc := 93) (tgt := 119) dX3_land_93 (by decide) ?_
  refine AX.iload_n (pc := 119) dX3_land_119 rfl ?_
  refine AX.iret (pc := 120) dX3_land_120 rfl rfl (by decide) (by decide) ?_
  exact ⟨rfl, sx.trans (s1.wide (by simp)), l1⟩
theorem c_land_1_pos (w : XW) (h : XH) {q : Nat → Int32} {g : Nat} (hn : 72 ≤ h.1) (hL : LG h 64 q) (h15 : q 15 = nI 1) (d : Nat) (hd : d + 1 < 1000000) : CA w M_X3_land [.ref 64, .int (oI (some (d + 1)))] h (fun v h' => v = some (.int (oI (some (d + 1)))) ∧ Same [64, 66, 67] h h' ∧ LG h' 64 (ldN q 1 g (some (d + 1)))) := by
  refine CA.of (by decide) rfl (fun _ => Nat.le_of_ble_eq_true rfl) ?_
  obtain ⟨f65, e65, q65⟩ := id hL.2.1
  obtain ⟨eb, er_, e2, e3⟩ := id hL
  rw [h15] at eb
  show AX w M_X3_land 0 0 0 [.ref 64, .int (nI (d + 1)), .null, .null] [] h _
  refine AX.aload_n (pc := 0) dX3_land_0 rfl ?_
  refine AX.getf (pc := 1) fX3_land_12 (lt_k hn (by omega)) eb rfl dX3_land_1 ?_
  refine AX.aload_n (pc := 4) dX3_land_4 rfl ?_
  refine AX.getf (pc := 5) fX3_land_38 (lt_k hn (by omega)) eb rfl dX3_land_5 ?_
  refine AX.aaldN (pc := 8) (i := 1) (b := 67) (by decide) (lt_k hn (by omega)) e65 (by decide) (by decide) (q65 _ (by decide)) dX3_land_8 ?_
  refine AX.astore_n (pc := 9) (L' := [.ref 64, .int (nI (d + 1)), .ref 67, .null]) dX3_land_9 (by decide) rfl ?_
  refine AX.iload_n (pc := 10) dX3_land_10 rfl ?_
  refine AX.bipush (pc := 11) (v := (-5)) dX3_land_11 (by decide) ?_
  refine AX.icmp_ne (pc := 13) (tgt := 23) dX3_land_13 (by decide) (fun hc13 => ?_) (fun q => absurd q (nI_m5 (by omega)))
  refine AX.iload_n (pc := 23) dX3_land_23 rfl ?_
  refine AX.istore_n (pc := 24) (L' := [.ref 64, .int (nI (d + 1)), .ref 67, .int (nI (d + 1))]) dX3_land_24 (by decide) rfl ?_
  refine AX.aload_n (pc := 25) dX3_land_25 rfl ?_
  refine AX.dup (pc := 26) dX3_land_26 rfl ?_
  refine AX.getf (pc := 27) fX3_land_57 (lt_k hn (by omega)) e3 rfl dX3_land_27 ?_
  refine AX.iconst (pc := 30) (v := nI 1) dX3_land_30 (by decide) ?_
  refine AX.iadd (pc := 31) dX3_land_31 ?_
  refine AX.putf (pc := 32) (fs' := [.int (q 1), .int (q 3), .int (q 5), .int (q 7), .int ((q 9) + (nI 1)), .int (q 11)]) fX3_land_57 rfl (lt_k hn (by omega)) e3 (Nat.le_of_ble_eq_true rfl) rfl rfl rfl dX3_land_32 ?_
  refine AX.aload_n (pc := 35) dX3_land_35 rfl ?_
  refine AX.dup (pc := 36) dX3_land_36 rfl ?_
  refine AX.getf (pc := 37) fX3_land_60 (lt_k hn (by omega)) (xset_same _ _ _) rfl dX3_land_37 ?_
  refine AX.aload_n (pc := 40) dX3_land_40 rfl ?_
  refine AX.getf (pc := 41) fX3_land_47 (lt_k hn (by omega)) (xset_same _ _ _) rfl dX3_land_41 ?_
  refine AX.iload_n (pc := 44) dX3_land_44 rfl ?_
  refine AX.isub (pc := 45) dX3_land_45 ?_
  refine AX.iadd (pc := 46) dX3_land_46 ?_
  refine AX.putf (pc := 47) (h := xset h 67 (.inr (5, [.int (q 1), .int (q 3), .int (q 5), .int (q 7), .int ((q 9) + (nI 1)), .int (q 11)]))) (a := 67) (fs' := [.int (q 1), .int (q 3), .int (q 5), .int (q 7), .int ((q 9) + (nI 1)), .int ((q 11) + ((q 5) - (nI (d + 1))))]) fX3_land_60 rfl (lt_k hn (by omega)) (xset_same _ _ _) (Nat.le_of_ble_eq_true rfl) rfl rfl rfl dX3_land_47 ?_
  refine AX.aload_n (pc := 50) dX3_land_50 rfl ?_
  refine AX.iload_n (pc := 51) dX3_land_51 rfl ?_
  refine AX.putf (pc := 52) (h := xset (xset h 67 (.inr (5, [.int (q 1), .int (q 3), .int (q 5), .int (q 7), .int ((q 9) + (nI 1)), .int (q 11)]))) 67 (.inr (5, [.int (q 1), .int (q 3), .int (q 5), .int (q 7), .int ((q 9) + (nI 1)), .int ((q 11) + ((q 5) - (nI (d + 1))))]))) (a := 67) (fs' := [.int (q 1), .int (q 3), .int (nI (d + 1)), .int (q 7), .int ((q 9) + (nI 1)), .int ((q 11) + ((q 5) - (nI (d + 1))))]) fX3_land_47 rfl (lt_k hn (by omega)) (xset_same _ _ _) (Nat.le_of_ble_eq_true rfl) rfl rfl rfl dX3_land_52 ?_
  refine AX.aload_n (pc := 55) dX3_land_55 rfl ?_
  refine AX.dup (pc := 56) dX3_land_56 rfl ?_
  refine AX.getf (pc := 57) fX3_land_41 (lt_k hn (by omega)) ((xset_ne (by decide)).trans ((xset_ne (by decide)).trans ((xset_ne (by decide)).trans eb))) rfl dX3_land_57 ?_
  refine AX.iconst (pc := 60) (v := nI 1) dX3_land_60 (by decide) ?_
  refine AX.isub (pc := 61) dX3_land_61 ?_
  refine AX.putf (pc := 62) (h := xset (xset (xset h 67 (.inr (5, [.int (q 1), .int (q 3), .int (q 5), .int (q 7), .int ((q 9) + (nI 1)), .int (q 11)]))) 67 (.inr (5, [.int (q 1), .int (q 3), .int (q 5), .int (q 7), .int ((q 9) + (nI 1)), .int ((q 11) + ((q 5) - (nI (d + 1))))]))) 67 (.inr (5, [.int (q 1), .int (q 3), .int (nI (d + 1)), .int (q 7), .int ((q 9) + (nI 1)), .int ((q 11) + ((q 5) - (nI (d + 1))))]))) (a := 64) (fs' := [.ref 65, .int (q 12), .int (q 13), .int (q 14), .int (nI 1), .int ((q 16) - (nI 1)), .int (q 17), .int (q 18)]) fX3_land_41 rfl (lt_k hn (by omega)) ((xset_ne (by decide)).trans ((xset_ne (by decide)).trans ((xset_ne (by decide)).trans eb))) (Nat.le_of_ble_eq_true rfl) rfl rfl rfl dX3_land_62 ?_
  refine AX.iload_n (pc := 65) dX3_land_65 rfl ?_
  refine AX.if_neN (pc := 66) (tgt := 96) dX3_land_66 (by decide) (by omega) (fun hc66 => ?_) (fun q => absurd q (by omega))
  refine AX.iload_n (pc := 96) dX3_land_96 rfl ?_
  refine AX.bipush (pc := 97) (v := (-5)) dX3_land_97 (by decide) ?_
  refine AX.icmp_eq (pc := 99) (tgt := 109) dX3_land_99 (by decide) (fun q => absurd q (nI_m5 (by omega))) (fun hc99 => ?_)
  refine AX.aload_n (pc := 102) dX3_land_102 rfl ?_
  refine AX.getf (pc := 103) fX3_land_41 (lt_k hn (by omega)) (xset_same _ _ _) rfl dX3_land_103 ?_
  refine AX.if_ne (pc := 106) (tgt := 119) dX3_land_106 (by decide) (fun hc106 => ?_) (fun hc106 => ?_)
  · refine AX.iload_n (pc := 119) dX3_land_119 rfl ?_
    refine AX.iret (pc := 120) dX3_land_120 rfl rfl (by decide) (by decide) ?_
    have sx : Same [64, 66, 67] h (xset (xset (xset (xset h 67 (.inr (5, [.int (q 1), .int (q 3), .int (q 5), .int (q 7), .int ((q 9) + (nI 1)), .int (q 11)]))) 67 (.inr (5, [.int (q 1), .int (q 3), .int (q 5), .int (q 7), .int ((q 9) + (nI 1)), .int ((q 11) + ((q 5) - (nI (d + 1))))]))) 67 (.inr (5, [.int (q 1), .int (q 3), .int (nI (d + 1)), .int (q 7), .int ((q 9) + (nI 1)), .int ((q 11) + ((q 5) - (nI (d + 1))))]))) 64 (.inr (2, [.ref 65, .int (q 12), .int (q 13), .int (q 14), .int (nI 1), .int ((q 16) - (nI 1)), .int (q 17), .int (q 18)]))) := (Same.set (Same.set (Same.set (Same.set Same.rf (by simp)) (by simp)) (by simp)) (by simp))
    exact ⟨rfl, sx, by show LG _ 64 (if q 16 - nI 1 = 0 then _ else _); rw [if_neg hc106]; exact ⟨(Eq.trans (xset_same _ _ _) (by rw [← h15]; rfl)), hL.2.1.same sx (by simp), ((xset_ne (by decide)).trans ((xset_ne (by decide)).trans ((xset_ne (by decide)).trans ((xset_ne (by decide)).trans e2)))), ((xset_ne (by decide)).trans (xset_same _ _ _))⟩⟩
  · have sx : Same [64, 66, 67] h (xset (xset (xset (xset h 67 (.inr (5, [.int (q 1), .int (q 3), .int (q 5), .int (q 7), .int ((q 9) + (nI 1)), .int (q 11)]))) 67 (.inr (5, [.int (q 1), .int (q 3), .int (q 5), .int (q 7), .int ((q 9) + (nI 1)), .int ((q 11) + ((q 5) - (nI (d + 1))))]))) 67 (.inr (5, [.int (q 1), .int (q 3), .int (nI (d + 1)), .int (q 7), .int ((q 9) + (nI 1)), .int ((q 11) + ((q 5) - (nI (d + 1))))]))) 64 (.inr (2, [.ref 65, .int (q 12), .int (q 13), .int (q 14), .int (nI 1), .int ((q 16) - (nI 1)), .int (q 17), .int (q 18)]))) := (Same.set (Same.set (Same.set (Same.set Same.rf (by simp)) (by simp)) (by simp)) (by simp))
    refine AX.aload_n (pc := 109) dX3_land_109 rfl ?_
    refine AX.iconst (pc := 110) (v := nI 1) dX3_land_110 (by decide) ?_
    refine AX.aload_n (pc := 111) dX3_land_111 rfl ?_
    refine AX.getf (pc := 112) fX3_land_38 (lt_k hn (by omega)) (xset_same _ _ _) rfl dX3_land_112 ?_
    refine AX.isubN (pc := 115) (c := 0) dX3_land_115 rfl ?_
    refine AX.callV (pc := 116) (M2 := M_X3_beginVisit) (As := [.int (nI 0)]) (rest := []) (c_beginVisit w (xset (xset (xset (xset h 67 (.inr (5, [.int (q 1), .int (q 3), .int (q 5), .int (q 7), .int ((q 9) + (nI 1)), .int (q 11)]))) 67 (.inr (5, [.int (q 1), .int (q 3), .int (q 5), .int (q 7), .int ((q 9) + (nI 1)), .int ((q 11) + ((q 5) - (nI (d + 1))))]))) 67 (.inr (5, [.int (q 1), .int (q 3), .int (nI (d + 1)), .int (q 7), .int ((q 9) + (nI 1)), .int ((q 11) + ((q 5) - (nI (d + 1))))]))) 64 (.inr (2, [.ref 65, .int (q 12), .int (q 13), .int (q 14), .int (nI 1), .int ((q 16) - (nI 1)), .int (q 17), .int (q 18)]))) (sx.le hn) (q := (upd (upd (upd (upd q 9 (q 9 + nI 1)) 11 (q 11 + (q 5 - nI (d + 1)))) 5 (nI (d + 1))) 16 (q 16 - nI 1))) ⟨(Eq.trans (xset_same _ _ _) (by rw [← h15]; rfl)), hL.2.1.same sx (by simp), ((xset_ne (by decide)).trans ((xset_ne (by decide)).trans ((xset_ne (by decide)).trans ((xset_ne (by decide)).trans e2)))), ((xset_ne (by decide)).trans (xset_same _ _ _))⟩ 0 (by omega)) xc_X3_land__X3_beginVisit gX3_land_X3_beginVisit (ci := 2) rfl (lt_k hn (by omega)) (xset_same _ _ _) rfl (Nat.le_of_ble_eq_true rfl) dX3_land_116 ?_
    rintro _ h1 ⟨rfl, s1, l1⟩
    show AX w M_X3_land 0 0 119 [.ref 64, .int (nI (d + 1)), .ref 67, .int (nI (d + 1))] [] _ _
    refine AX.iload_n (pc := 119) dX3_land_119 rfl ?_
    refine AX.iret (pc := 120) dX3_land_120 rfl rfl (by decide) (by decide) ?_
    exact ⟨rfl, sx.trans (s1.wide (by simp)), by show LG _ 64 (if q 16 - nI 1 = 0 then _ else _); rw [if_pos hc106]; exact l1⟩
theorem c_land (w : XW) (h : XH) {q : Nat → Int32} {t g : Nat} (hn : 72 ≤ h.1) (hL : LG h 64 q) (ht : t ≤ 1) (hg : g ≤ 1) (h15 : q 15 = nI t) (h14 : q 14 = nI g) (x : Option Nat) (hx : ∀ d, x = some d → d < 1000000) : CA w M_X3_land [.ref 64, .int (oI x)] h (fun v h' => v = some (.int (oI x)) ∧ Same [64, 66, 67] h h' ∧ LG h' 64 (ldN q t g x)) := by
  have zt : t = 0 ∨ t = 1 := by omega
  have zg : g = 0 ∨ g = 1 := by omega
  match x, hx with
  | none, _ =>
    rcases zt with rfl | rfl
    · exact c_land_0_none w h hn hL h15
    · exact c_land_1_none w h hn hL h15
  | some 0, _ =>
    rcases zt with rfl | rfl
    · rcases zg with rfl | rfl
      · exact c_land_0_zero0 w h hn hL h15 h14
      · exact c_land_0_zero1 w h hn hL h15 h14
    · rcases zg with rfl | rfl
      · exact c_land_1_zero0 w h hn hL h15 h14
      · exact c_land_1_zero1 w h hn hL h15 h14
  | some (d + 1), hx =>
    have := hx (d + 1) rfl
    rcases zt with rfl | rfl
    · exact c_land_0_pos w h hn hL h15 d (by omega)
    · exact c_land_1_pos w h hn hL h15 d (by omega)
