/-! ===== CONSTRUCTORS: what lies at the leaves ===== -/
/-- below S all cells but a are as they were -/
def Old (S a : Nat) (h h' : XH) : Prop := ∀ k : Nat, k < S → k ≠ a → h'.2 k = h.2 k
theorem Old.at {S a k : Nat} {h h' : XH} {e : va_E} (H : Old S a h h') (hk : k < S) (ha : k ≠ a) (he : h.2 k = e) : h'.2 k = e := (H k hk ha).trans he
theorem Old.iA {S a k N : Nat} {h h' : XH} {g : Nat → Int32} (H : Old S a h h') (hk : k < S) (ha : k ≠ a) (he : iA h k N g) : iA h' k N g := he.imp (fun _ z => ⟨H.at hk ha z.1, z.2⟩)
theorem Old.zA {S a k N : Nat} {h h' : XH} {g : Nat → Int32} (H : Old S a h h') (hk : k < S) (ha : k ≠ a) (he : zA h k N g) : zA h' k N g := he.imp (fun _ z => ⟨H.at hk ha z.1, z.2⟩)
theorem Old.RU {S a o : Nat} {h h' : XH} (H : Old S a h h') (hk : 3 < S) (ha : a = 0 ∨ 3 < a) (he : RU h o) : RU h' o := ⟨he.1, H.at (by omega) (by omega) he.2.1, H.iA (by omega) (by omega) he.2.2.1, H.zA (by omega) (by omega) he.2.2.2⟩
theorem Old.FA {S a : Nat} {h h' : XH} (H : Old S a h h') (hk : 8 < S) (ha : a < 4 ∨ 8 < a) (he : FA h) : FA h' := ⟨H.at (by omega) (by omega) he.1, H.iA (by omega) (by omega) he.2.1, H.iA (by omega) (by omega) he.2.2.1, H.iA (by omega) (by omega) he.2.2.2.1, H.iA (by omega) (by omega) he.2.2.2.2⟩
theorem Old.lo {S S' a : Nat} {h h' : XH} (H : Old S a h h') (hs : S' ≤ S) : Old S' a h h' := fun k hk ha => H k (by omega) ha
theorem Old.trans {S a : Nat} {h h1 h2 : XH} (H : Old S a h h1) (H2 : Old S a h1 h2) : Old S a h h2 := fun k hk ha => (H2 k hk ha).trans (H k hk ha)
theorem c_iPlayer66 (w : XW) (h : XH)  (hn : h.1 = 67) (e0 : h.2 66 = .inr (5, [.int (nI 0), .int (nI 0), .int (nI 0), .int (nI 0), .int (nI 0), .int (nI 0)])) : CA w M_X6_init [.ref 66] h (fun v' h' => v' = none ∧ h'.1 = 67 ∧ Old 67 66 h h' ∧ h'.2 66 = .inr (5, [.int (nI 60), .int (nI 80), .int (nI 0), .int (nI 0), .int (nI 0), .int (nI 0)])) := by
  refine CA.of (by decide) rfl (fun _ => Nat.le_of_ble_eq_true rfl) ?_
  show AX w M_X6_init 0 0 0 [.ref 66] [] h _
  refine AX.aload_n (pc := 0) dX6_init_0 rfl ?_
  refine AX.objInit (pc := 1) (by decide +kernel) (by decide +kernel) (by decide +kernel) (by decide) (by decide) dX6_init_1 ?_
  refine AX.aload_n (pc := 4) dX6_init_4 rfl ?_
  refine AX.bipush (pc := 5) (v := nI 60) dX6_init_5 (by decide) ?_
  refine AX.putf (pc := 7) (fs' := [.int (nI 60), .int (nI 0), .int (nI 0), .int (nI 0), .int (nI 0), .int (nI 0)]) fX6_init_9 rfl (lt_h (N := 67) hn (by decide)) e0 (Nat.le_of_ble_eq_true rfl) rfl rfl rfl dX6_init_7 ?_
  refine AX.aload_n (pc := 10) dX6_init_10 rfl ?_
  refine AX.bipush (pc := 11) (v := nI 80) dX6_init_11 (by decide) ?_
  refine AX.putf (pc := 13) (h := xset h 66 (.inr (5, [.int (nI 60), .int (nI 0), .int (nI 0), .int (nI 0), .int (nI 0), .int (nI 0)]))) (a := 66) (fs' := [.int (nI 60), .int (nI 80), .int (nI 0), .int (nI 0), .int (nI 0), .int (nI 0)]) fX6_init_15 rfl (lt_h (N := 67) hn (by decide)) (xset_same _ _ _) (Nat.le_of_ble_eq_true rfl) rfl rfl rfl dX6_init_13 ?_
  refine AX.vret (pc := 16) dX6_init_16 rfl (by decide) (by decide) ?_
  exact ⟨rfl, hn, (fun k hk ha => (xset_ne (show k ≠ 66 by omega)).trans ((xset_ne (show k ≠ 66 by omega)).trans (rfl))), (xset_same _ _ _)⟩
theorem c_iPlayer67 (w : XW) (h : XH)  (hn : h.1 = 68) (e0 : h.2 67 = .inr (5, [.int (nI 0), .int (nI 0), .int (nI 0), .int (nI 0), .int (nI 0), .int (nI 0)])) : CA w M_X6_init [.ref 67] h (fun v' h' => v' = none ∧ h'.1 = 68 ∧ Old 68 67 h h' ∧ h'.2 67 = .inr (5, [.int (nI 60), .int (nI 80), .int (nI 0), .int (nI 0), .int (nI 0), .int (nI 0)])) := by
  refine CA.of (by decide) rfl (fun _ => Nat.le_of_ble_eq_true rfl) ?_
  show AX w M_X6_init 0 0 0 [.ref 67] [] h _
  refine AX.aload_n (pc := 0) dX6_init_0 rfl ?_
  refine AX.objInit (pc := 1) (by decide +kernel) (by decide +kernel) (by decide +kernel) (by decide) (by decide) dX6_init_1 ?_
  refine AX.aload_n (pc := 4) dX6_init_4 rfl ?_
  refine AX.bipush (pc := 5) (v := nI 60) dX6_init_5 (by decide) ?_
  refine AX.putf (pc := 7) (fs' := [.int (nI 60), .int (nI 0), .int (nI 0), .int (nI 0), .int (nI 0), .int (nI 0)]) fX6_init_9 rfl (lt_h (N := 68) hn (by decide)) e0 (Nat.le_of_ble_eq_true rfl) rfl rfl rfl dX6_init_7 ?_
  refine AX.aload_n (pc := 10) dX6_init_10 rfl ?_
  refine AX.bipush (pc := 11) (v := nI 80) dX6_init_11 (by decide) ?_
  refine AX.putf (pc := 13) (h := xset h 67 (.inr (5, [.int (nI 60), .int (nI 0), .int (nI 0), .int (nI 0), .int (nI 0), .int (nI 0)]))) (a := 67) (fs' := [.int (nI 60), .int (nI 80), .int (nI 0), .int (nI 0), .int (nI 0), .int (nI 0)]) fX6_init_15 rfl (lt_h (N := 68) hn (by decide)) (xset_same _ _ _) (Nat.le_of_ble_eq_true rfl) rfl rfl rfl dX6_init_13 ?_
  refine AX.vret (pc := 16) dX6_init_16 rfl (by decide) (by decide) ?_
  exact ⟨rfl, hn, (fun k hk ha => (xset_ne (show k ≠ 67 by omega)).trans ((xset_ne (show k ≠ 67 by omega)).trans (rfl))), (xset_same _ _ _)⟩
theorem c_iPlayer70 (w : XW) (h : XH)  (hn : h.1 = 71) (e0 : h.2 70 = .inr (5, [.int (nI 0), .int (nI 0), .int (nI 0), .int (nI 0), .int (nI 0), .int (nI 0)])) : CA w M_X6_init [.ref 70] h (fun v' h' => v' = none ∧ h'.1 = 71 ∧ Old 71 70 h h' ∧ h'.2 70 = .inr (5, [.int (nI 60), .int (nI 80), .int (nI 0), .int (nI 0), .int (nI 0), .int (nI 0)])) := by
  refine CA.of (by decide) rfl (fun _ => Nat.le_of_ble_eq_true rfl) ?_
  show AX w M_X6_init 0 0 0 [.ref 70] [] h _
  refine AX.aload_n (pc := 0) dX6_init_0 rfl ?_
  refine AX.objInit (pc := 1) (by decide +kernel) (by decide +kernel) (by decide +kernel) (by decide) (by decide) dX6_init_1 ?_
  refine AX.aload_n (pc := 4) dX6_init_4 rfl ?_
  refine AX.bipush (pc := 5) (v := nI 60) dX6_init_5 (by decide) ?_
  refine AX.putf (pc := 7) (fs' := [.int (nI 60), .int (nI 0), .int (nI 0), .int (nI 0), .int (nI 0), .int (nI 0)]) fX6_init_9 rfl (lt_h (N := 71) hn (by decide)) e0 (Nat.le_of_ble_eq_true rfl) rfl rfl rfl dX6_init_7 ?_
  refine AX.aload_n (pc := 10) dX6_init_10 rfl ?_
  refine AX.bipush (pc := 11) (v := nI 80) dX6_init_11 (by decide) ?_
  refine AX.putf (pc := 13) (h := xset h 70 (.inr (5, [.int (nI 60), .int (nI 0), .int (nI 0), .int (nI 0), .int (nI 0), .int (nI 0)]))) (a := 70) (fs' := [.int (nI 60), .int (nI 80), .int (nI 0), .int (nI 0), .int (nI 0), .int (nI 0)]) fX6_init_15 rfl (lt_h (N := 71) hn (by decide)) (xset_same _ _ _) (Nat.le_of_ble_eq_true rfl) rfl rfl rfl dX6_init_13 ?_
  refine AX.vret (pc := 16) dX6_init_16 rfl (by decide) (by decide) ?_
  exact ⟨rfl, hn, (fun k hk ha => (xset_ne (show k ≠ 70 by omega)).trans ((xset_ne (show k ≠ 70 by omega)).trans (rfl))), (xset_same _ _ _)⟩
theorem c_iPlayer71 (w : XW) (h : XH)  (hn : h.1 = 72) (e0 : h.2 71 = .inr (5, [.int (nI 0), .int (nI 0), .int (nI 0), .int (nI 0), .int (nI 0), .int (nI 0)])) : CA w M_X6_init [.ref 71] h (fun v' h' => v' = none ∧ h'.1 = 72 ∧ Old 72 71 h h' ∧ h'.2 71 = .inr (5, [.int (nI 60), .int (nI 80), .int (nI 0), .int (nI 0), .int (nI 0), .int (nI 0)])) := by
  refine CA.of (by decide) rfl (fun _ => Nat.le_of_ble_eq_true rfl) ?_
  show AX w M_X6_init 0 0 0 [.ref 71] [] h _
  refine AX.aload_n (pc := 0) dX6_init_0 rfl ?_
  refine AX.objInit (pc := 1) (by decide +kernel) (by decide +kernel) (by decide +kernel) (by decide) (by decide) dX6_init_1 ?_
  refine AX.aload_n (pc := 4) dX6_init_4 rfl ?_
  refine AX.bipush (pc := 5) (v := nI 60) dX6_init_5 (by decide) ?_
  refine AX.putf (pc := 7) (fs' := [.int (nI 60), .int (nI 0), .int (nI 0), .int (nI 0), .int (nI 0), .int (nI 0)]) fX6_init_9 rfl (lt_h (N := 72) hn (by decide)) e0 (Nat.le_of_ble_eq_true rfl) rfl rfl rfl dX6_init_7 ?_
  refine AX.aload_n (pc := 10) dX6_init_10 rfl ?_
  refine AX.bipush (pc := 11) (v := nI 80) dX6_init_11 (by decide) ?_
  refine AX.putf (pc := 13) (h := xset h 71 (.inr (5, [.int (nI 60), .int (nI 0), .int (nI 0), .int (nI 0), .int (nI 0), .int (nI 0)]))) (a := 71) (fs' := [.int (nI 60), .int (nI 80), .int (nI 0), .int (nI 0), .int (nI 0), .int (nI 0)]) fX6_init_15 rfl (lt_h (N := 72) hn (by decide)) (xset_same _ _ _) (Nat.le_of_ble_eq_true rfl) rfl rfl rfl dX6_init_13 ?_
  refine AX.vret (pc := 16) dX6_init_16 rfl (by decide) (by decide) ?_
  exact ⟨rfl, hn, (fun k hk ha => (xset_ne (show k ≠ 71 by omega)).trans ((xset_ne (show k ≠ 71 by omega)).trans (rfl))), (xset_same _ _ _)⟩
theorem c_iRack78 (w : XW) (h : XH)  (hn : h.1 = 79) (e0 : h.2 78 = .inr (7, [.null, .int (nI 0), .int (nI 0)])) : CA w M_X8_init [.ref 78] h (fun v' h' => v' = none ∧ h'.1 = 80 ∧ Old 79 78 h h' ∧ h'.2 78 = .inr (7, [.ref 79, .int (nI 0), .int (-11)]) ∧ h'.2 79 = .inl (0, 20, .inl (fun _ => nI 0))) := by
  refine CA.of (by decide) rfl (fun _ => Nat.le_of_ble_eq_true rfl) ?_
  show AX w M_X8_init 0 0 0 [.ref 78] [] h _
  refine AX.aload_n (pc := 0) dX8_init_0 rfl ?_
  refine AX.objInit (pc := 1) (by decide +kernel) (by decide +kernel) (by decide +kernel) (by decide) (by decide) dX8_init_1 ?_
  refine AX.aload_n (pc := 4) dX8_init_4 rfl ?_
  refine AX.bipush (pc := 5) (v := nI 20) dX8_init_5 (by decide) ?_
  refine AX.newI (pc := 7) (S := 79) (N := 20) hn (by decide +kernel) (by decide) (by decide) (by decide) dX8_init_7 ?_
  refine AX.putF (pc := 9) (h := xnew h 79 (.inl (0, 20, .inl (fun _ => nI 0)))) (a := 78) (fs' := [.ref 79, .int (nI 0), .int (nI 0)]) fX8_init_9 rfl rfl rfl (lt_h (N := 80) rfl (by decide)) ((xnew_ne (by decide)).trans e0) (Nat.le_of_ble_eq_true rfl) rfl rfl rfl dX8_init_9 ?_
  refine AX.aload_n (pc := 12) dX8_init_12 rfl ?_
  refine AX.bipush (pc := 13) (v := (-11)) dX8_init_13 (by decide) ?_
  refine AX.putf (pc := 15) (h := xset (xnew h 79 (.inl (0, 20, .inl (fun _ => nI 0)))) 78 (.inr (7, [.ref 79, .int (nI 0), .int (nI 0)]))) (a := 78) (fs' := [.ref 79, .int (nI 0), .int (-11)]) fX8_init_15 rfl (lt_h (N := 80) rfl (by decide)) (xset_same _ _ _) (Nat.le_of_ble_eq_true rfl) rfl rfl rfl dX8_init_15 ?_
  refine AX.vret (pc := 18) dX8_init_18 rfl (by decide) (by decide) ?_
  exact ⟨rfl, rfl, (fun k hk ha => (xset_ne (show k ≠ 78 by omega)).trans ((xset_ne (show k ≠ 78 by omega)).trans ((xnew_ne (show k ≠ 79 by omega)).trans (rfl)))), (xset_same _ _ _), ((xset_ne (by decide)).trans ((xset_ne (by decide)).trans (xnew_same _ _ _)))⟩
theorem c_iRack80 (w : XW) (h : XH)  (hn : h.1 = 81) (e0 : h.2 80 = .inr (7, [.null, .int (nI 0), .int (nI 0)])) : CA w M_X8_init [.ref 80] h (fun v' h' => v' = none ∧ h'.1 = 82 ∧ Old 81 80 h h' ∧ h'.2 80 = .inr (7, [.ref 81, .int (nI 0), .int (-11)]) ∧ h'.2 81 = .inl (0, 20, .inl (fun _ => nI 0))) := by
  refine CA.of (by decide) rfl (fun _ => Nat.le_of_ble_eq_true rfl) ?_
  show AX w M_X8_init 0 0 0 [.ref 80] [] h _
  refine AX.aload_n (pc := 0) dX8_init_0 rfl ?_
  refine AX.objInit (pc := 1) (by decide +kernel) (by decide +kernel) (by decide +kernel) (by decide) (by decide) dX8_init_1 ?_
  refine AX.aload_n (pc := 4) dX8_init_4 rfl ?_
  refine AX.bipush (pc := 5) (v := nI 20) dX8_init_5 (by decide) ?_
  refine AX.newI (pc := 7) (S := 81) (N := 20) hn (by decide +kernel) (by decide) (by decide) (by decide) dX8_init_7 ?_
  refine AX.putF (pc := 9) (h := xnew h 81 (.inl (0, 20, .inl (fun _ => nI 0)))) (a := 80) (fs' := [.ref 81, .int (nI 0), .int (nI 0)]) fX8_init_9 rfl rfl rfl (lt_h (N := 82) rfl (by decide)) ((xnew_ne (by decide)).trans e0) (Nat.le_of_ble_eq_true rfl) rfl rfl rfl dX8_init_9 ?_
  refine AX.aload_n (pc := 12) dX8_init_12 rfl ?_
  refine AX.bipush (pc := 13) (v := (-11)) dX8_init_13 (by decide) ?_
  refine AX.putf (pc := 15) (h := xset (xnew h 81 (.inl (0, 20, .inl (fun _ => nI 0)))) 80 (.inr (7, [.ref 81, .int (nI 0), .int (nI 0)]))) (a := 80) (fs' := [.ref 81, .int (nI 0), .int (-11)]) fX8_init_15 rfl (lt_h (N := 82) rfl (by decide)) (xset_same _ _ _) (Nat.le_of_ble_eq_true rfl) rfl rfl rfl dX8_init_15 ?_
  refine AX.vret (pc := 18) dX8_init_18 rfl (by decide) (by decide) ?_
  exact ⟨rfl, rfl, (fun k hk ha => (xset_ne (show k ≠ 80 by omega)).trans ((xset_ne (show k ≠ 80 by omega)).trans ((xnew_ne (show k ≠ 81 by omega)).trans (rfl)))), (xset_same _ _ _), ((xset_ne (by decide)).trans ((xset_ne (by decide)).trans (xnew_same _ _ _)))⟩
theorem c_iRack82 (w : XW) (h : XH)  (hn : h.1 = 83) (e0 : h.2 82 = .inr (7, [.null, .int (nI 0), .int (nI 0)])) : CA w M_X8_init [.ref 82] h (fun v' h' => v' = none ∧ h'.1 = 84 ∧ Old 83 82 h h' ∧ h'.2 82 = .inr (7, [.ref 83, .int (nI 0), .int (-11)]) ∧ h'.2 83 = .inl (0, 20, .inl (fun _ => nI 0))) := by
  refine CA.of (by decide) rfl (fun _ => Nat.le_of_ble_eq_true rfl) ?_
  show AX w M_X8_init 0 0 0 [.ref 82] [] h _
  refine AX.aload_n (pc := 0) dX8_init_0 rfl ?_
  refine AX.objInit (pc := 1) (by decide +kernel) (by decide +kernel) (by decide +kernel) (by decide) (by decide) dX8_init_1 ?_
  refine AX.aload_n (pc := 4) dX8_init_4 rfl ?_
  refine AX.bipush (pc := 5) (v := nI 20) dX8_init_5 (by decide) ?_
  refine AX.newI (pc := 7) (S := 83) (N := 20) hn (by decide +kernel) (by decide) (by decide) (by decide) dX8_init_7 ?_
  refine AX.putF (pc := 9) (h := xnew h 83 (.inl (0, 20, .inl (fun _ => nI 0)))) (a := 82) (fs' := [.ref 83, .int (nI 0), .int (nI 0)]) fX8_init_9 rfl rfl rfl (lt_h (N := 84) rfl (by decide)) ((xnew_ne (by decide)).trans e0) (Nat.le_of_ble_eq_true rfl) rfl rfl rfl dX8_init_9 ?_
  refine AX.aload_n (pc := 12) dX8_init_12 rfl ?_
  refine AX.bipush (pc := 13) (v := (-11)) dX8_init_13 (by decide) ?_
  refine AX.putf (pc := 15) (h := xset (xnew h 83 (.inl (0, 20, .inl (fun _ => nI 0)))) 82 (.inr (7, [.ref 83, .int (nI 0), .int (nI 0)]))) (a := 82) (fs' := [.ref 83, .int (nI 0), .int (-11)]) fX8_init_15 rfl (lt_h (N := 84) rfl (by decide)) (xset_same _ _ _) (Nat.le_of_ble_eq_true rfl) rfl rfl rfl dX8_init_15 ?_
  refine AX.vret (pc := 18) dX8_init_18 rfl (by decide) (by decide) ?_
  exact ⟨rfl, rfl, (fun k hk ha => (xset_ne (show k ≠ 82 by omega)).trans ((xset_ne (show k ≠ 82 by omega)).trans ((xnew_ne (show k ≠ 83 by omega)).trans (rfl)))), (xset_same _ _ _), ((xset_ne (by decide)).trans ((xset_ne (by decide)).trans (xnew_same _ _ _)))⟩
theorem c_iRack84 (w : XW) (h : XH)  (hn : h.1 = 85) (e0 : h.2 84 = .inr (7, [.null, .int (nI 0), .int (nI 0)])) : CA w M_X8_init [.ref 84] h (fun v' h' => v' = none ∧ h'.1 = 86 ∧ Old 85 84 h h' ∧ h'.2 84 = .inr (7, [.ref 85, .int (nI 0), .int (-11)]) ∧ h'.2 85 = .inl (0, 20, .inl (fun _ => nI 0))) := by
  refine CA.of (by decide) rfl (fun _ => Nat.le_of_ble_eq_true rfl) ?_
  show AX w M_X8_init 0 0 0 [.ref 84] [] h _
  refine AX.aload_n (pc := 0) dX8_init_0 rfl ?_
  refine AX.objInit (pc := 1) (by decide +kernel) (by decide +kernel) (by decide +kernel) (by decide) (by decide) dX8_init_1 ?_
  refine AX.aload_n (pc := 4) dX8_init_4 rfl ?_
  refine AX.bipush (pc := 5) (v := nI 20) dX8_init_5 (by decide) ?_
  refine AX.newI (pc := 7) (S := 85) (N := 20) hn (by decide +kernel) (by decide) (by decide) (by decide) dX8_init_7 ?_
  refine AX.putF (pc := 9) (h := xnew h 85 (.inl (0, 20, .inl (fun _ => nI 0)))) (a := 84) (fs' := [.ref 85, .int (nI 0), .int (nI 0)]) fX8_init_9 rfl rfl rfl (lt_h (N := 86) rfl (by decide)) ((xnew_ne (by decide)).trans e0) (Nat.le_of_ble_eq_true rfl) rfl rfl rfl dX8_init_9 ?_
  refine AX.aload_n (pc := 12) dX8_init_12 rfl ?_
  refine AX.bipush (pc := 13) (v := (-11)) dX8_init_13 (by decide) ?_
  refine AX.putf (pc := 15) (h := xset (xnew h 85 (.inl (0, 20, .inl (fun _ => nI 0)))) 84 (.inr (7, [.ref 85, .int (nI 0), .int (nI 0)]))) (a := 84) (fs' := [.ref 85, .int (nI 0), .int (-11)]) fX8_init_15 rfl (lt_h (N := 86) rfl (by decide)) (xset_same _ _ _) (Nat.le_of_ble_eq_true rfl) rfl rfl rfl dX8_init_15 ?_
  refine AX.vret (pc := 18) dX8_init_18 rfl (by decide) (by decide) ?_
  exact ⟨rfl, rfl, (fun k hk ha => (xset_ne (show k ≠ 84 by omega)).trans ((xset_ne (show k ≠ 84 by omega)).trans ((xnew_ne (show k ≠ 85 by omega)).trans (rfl)))), (xset_same _ _ _), ((xset_ne (by decide)).trans ((xset_ne (by decide)).trans (xnew_same _ _ _)))⟩
theorem c_iTape (w : XW) (h : XH)  (hn : h.1 = 73) (e0 : h.2 72 = .inr (9, [.null, .int (nI 0), .null, .int (nI 0), .int (nI 0)])) : CA w M_X10_init [.ref 72] h (fun v' h' => v' = none ∧ h'.1 = 75 ∧ Old 73 72 h h' ∧ h'.2 72 = .inr (9, [.ref 73, .int (nI 0), .ref 74, .int (nI 0), .int (nI 0)]) ∧ h'.2 73 = .inl (0, 60, .inl (fun _ => nI 0)) ∧ h'.2 74 = .inl (0, 12, .inl (fun _ => nI 0))) := by
  refine CA.of (by decide) rfl (fun _ => Nat.le_of_ble_eq_true rfl) ?_
  show AX w M_X10_init 0 0 0 [.ref 72] [] h _
  refine AX.aload_n (pc := 0) dX10_init_0 rfl ?_
  refine AX.objInit (pc := 1) (by decide +kernel) (by decide +kernel) (by decide +kernel) (by decide) (by decide) dX10_init_1 ?_
  refine AX.aload_n (pc := 4) dX10_init_4 rfl ?_
  refine AX.bipush (pc := 5) (v := nI 60) dX10_init_5 (by decide) ?_
  refine AX.newI (pc := 7) (S := 73) (N := 60) hn (by decide +kernel) (by decide) (by decide) (by decide) dX10_init_7 ?_
  refine AX.putF (pc := 9) (h := xnew h 73 (.inl (0, 60, .inl (fun _ => nI 0)))) (a := 72) (fs' := [.ref 73, .int (nI 0), .null, .int (nI 0), .int (nI 0)]) fX10_init_11 rfl rfl rfl (lt_h (N := 74) rfl (by decide)) ((xnew_ne (by decide)).trans e0) (Nat.le_of_ble_eq_true rfl) rfl rfl rfl dX10_init_9 ?_
  refine AX.aload_n (pc := 12) dX10_init_12 rfl ?_
  refine AX.bipush (pc := 13) (v := nI 12) dX10_init_13 (by decide) ?_
  refine AX.newI (pc := 15) (S := 74) (N := 12) rfl (by decide +kernel) (by decide) (by decide) (by decide) dX10_init_15 ?_
  refine AX.putF (pc := 17) (h := xnew (xset (xnew h 73 (.inl (0, 60, .inl (fun _ => nI 0)))) 72 (.inr (9, [.ref 73, .int (nI 0), .null, .int (nI 0), .int (nI 0)]))) 74 (.inl (0, 12, .inl (fun _ => nI 0)))) (a := 72) (fs' := [.ref 73, .int (nI 0), .ref 74, .int (nI 0), .int (nI 0)]) fX10_init_15 rfl rfl rfl (lt_h (N := 75) rfl (by decide)) ((xnew_ne (by decide)).trans (xset_same _ _ _)) (Nat.le_of_ble_eq_true rfl) rfl rfl rfl dX10_init_17 ?_
  refine AX.vret (pc := 20) dX10_init_20 rfl (by decide) (by decide) ?_
  exact ⟨rfl, rfl, (fun k hk ha => (xset_ne (show k ≠ 72 by omega)).trans ((xnew_ne (show k ≠ 74 by omega)).trans ((xset_ne (show k ≠ 72 by omega)).trans ((xnew_ne (show k ≠ 73 by omega)).trans (rfl))))), (xset_same _ _ _), ((xset_ne (by decide)).trans ((xnew_ne (by decide)).trans ((xset_ne (by decide)).trans (xnew_same _ _ _)))), ((xset_ne (by decide)).trans (xnew_same _ _ _))⟩
theorem c_iPaper (w : XW) (h : XH)  (hn : h.1 = 76) (e0 : h.2 75 = .inr (4, [.null, .int (nI 0)])) : CA w M_X5_init [.ref 75] h (fun v' h' => v' = none ∧ h'.1 = 77 ∧ Old 76 75 h h' ∧ h'.2 75 = .inr (4, [.ref 76, .int (nI 0)]) ∧ h'.2 76 = .inl (0, 12, .inl (fun _ => nI 0))) := by
  refine CA.of (by decide) rfl (fun _ => Nat.le_of_ble_eq_true rfl) ?_
  show AX w M_X5_init 0 0 0 [.ref 75] [] h _
  refine AX.aload_n (pc := 0) dX5_init_0 rfl ?_
  refine AX.objInit (pc := 1) (by decide +kernel) (by decide +kernel) (by decide +kernel) (by decide) (by decide) dX5_init_1 ?_
  refine AX.aload_n (pc := 4) dX5_init_4 rfl ?_
  refine AX.bipush (pc := 5) (v := nI 12) dX5_init_5 (by decide) ?_
  refine AX.newI (pc := 7) (S := 76) (N := 12) hn (by decide +kernel) (by decide) (by decide) (by decide) dX5_init_7 ?_
  refine AX.putF (pc := 9) (h := xnew h 76 (.inl (0, 12, .inl (fun _ => nI 0)))) (a := 75) (fs' := [.ref 76, .int (nI 0)]) fX5_init_11 rfl rfl rfl (lt_h (N := 77) rfl (by decide)) ((xnew_ne (by decide)).trans e0) (Nat.le_of_ble_eq_true rfl) rfl rfl rfl dX5_init_9 ?_
  refine AX.vret (pc := 12) dX5_init_12 rfl (by decide) (by decide) ?_
  exact ⟨rfl, rfl, (fun k hk ha => (xset_ne (show k ≠ 75 by omega)).trans ((xnew_ne (show k ≠ 76 by omega)).trans (rfl))), (xset_same _ _ _), ((xset_ne (by decide)).trans (xnew_same _ _ _))⟩
theorem l_iRules (w : XW) (P : Option Value → XH → Prop) (h0 : XH) (hn0 : h0.1 = 4) (e1 : h0.2 1 = .inr (8, [.ref 2, .ref 3, .int (nI 1)])) (kk : ∀ h', Same [2] h0 h' → iA h' 2 63 (fun s => nI (scN s)) → AX w M_X9_init 2 126 49 [.ref 1, .int (nI 63)] [] h' P) : ∀ (g j : Nat) (h : XH) (f : Nat → Int32), j + g = 63 → Same [2] h0 h → h.2 2 = .inl (0, 63, .inl f) → (∀ i, i < j → f i = nI (scN i)) → AX w M_X9_init 2 126 27 [.ref 1, .int (nI j)] [] h P
  | 0, j, h, f, hg, hS, e2, a1 => by
    have e : j = 63 := by omega
    subst e
    refine AX.iload_n (pc := 27) dX9_init_27 rfl ?_
    refine AX.bipush (pc := 28) (v := nI 63) dX9_init_28 (by decide) ?_
    refine AX.icmp_geN (pc := 30) (tgt := 49) dX9_init_30 (by decide) (by decide) (by decide) (fun hc30 => ?_) (fun q => absurd q (by decide))
    exact kk h hS ⟨f, e2, a1⟩
  | g + 1, j, h, f, hg, hS, e2, a1 => by
    have hj : j < 63 := by omega
    refine AX.iload_n (pc := 27) dX9_init_27 rfl ?_
    refine AX.bipush (pc := 28) (v := nI 63) dX9_init_28 (by decide) ?_
    refine AX.icmp_geN (pc := 30) (tgt := 49) dX9_init_30 (by decide) (by omega) (by decide) (fun q => absurd q (by omega)) (fun hc30 => ?_)
    refine AX.aload_n (pc := 33) dX9_init_33 rfl ?_
    refine AX.getf (pc := 34) fX9_init_9 (lt_h (N := 4) (hS.1.trans hn0) (by decide)) (hS.at (by simp) e1) rfl dX9_init_34 ?_
    refine AX.iload_n (pc := 37) dX9_init_37 rfl ?_
    refine AX.iload_n (pc := 38) dX9_init_38 rfl ?_
    refine AX.callS (pc := 39) (M2 := M_X0_scoreOf) (As := [.int (nI j)]) (rest := [.int (nI j), .ref 2]) (c_scoreOf w h j hj) ⟨xc_X9_init__X0_scoreOf.1, xc_X9_init__X0_scoreOf.2.1, xc_X9_init__X0_scoreOf.2.2.1, by decide, by decide⟩ gX9_init_X0_scoreOf rfl (Nat.le_of_ble_eq_true rfl) dX9_init_39 ?_
    rintro _ h9 ⟨rfl, e9⟩
    have e9 := e9.symm
    subst e9
    show AX w M_X9_init 2 126 42 [.ref 1, .int (nI j)] [.int (nI (scN j)), .int (nI j), .ref 2] _ _
    refine AX.iastN (pc := 42) (i := j) (g := upd f j (nI (scN j))) (lt_h (N := 4) (hS.1.trans hn0) (by decide)) e2 (by decide) hj rfl dX9_init_42 ?_
    refine AX.iincN (c := j + 1) (pc := 43) (L' := [.ref 1, .int (nI (j + 1))]) dX9_init_43 rfl (inc1 _) (by decide) rfl ?_
    refine AX.goto (pc := 46) (tgt := 27) dX9_init_46 (by decide) ?_
    exact l_iRules w P h0 hn0 e1 kk g (j + 1) _ _ (by omega) (hS.trans Same.rest) (xset_same _ _ _) (fun i hi => if e : i = j then (by subst e; exact upd_at _ _ _) else (by rw [upd_off e]; exact a1 i (by omega)))
theorem c_iRules (w : XW) (h : XH) (hn : h.1 = 2) (e0 : h.2 1 = .inr (8, [.null, .null, .int (nI 0)])) : CA w M_X9_init [.ref 1] h (fun v' h' => v' = none ∧ h'.1 = 4 ∧ Old 2 1 h h' ∧ RU h' 1) := by
  refine CA.of (by decide) rfl (fun _ => Nat.le_of_ble_eq_true rfl) ?_
  show AX w M_X9_init 0 0 0 [.ref 1, .null] [] h _
  refine AX.aload_n (pc := 0) dX9_init_0 rfl ?_
  refine AX.objInit (pc := 1) (by decide +kernel) (by decide +kernel) (by decide +kernel) (by decide) (by decide) dX9_init_1 ?_
  refine AX.aload_n (pc := 4) dX9_init_4 rfl ?_
  refine AX.bipush (pc := 5) (v := nI 63) dX9_init_5 (by decide) ?_
  refine AX.newI (pc := 7) (S := 2) (N := 63) hn (by decide +kernel) (by decide) (by decide) (by decide) dX9_init_7 ?_
  refine AX.putF (pc := 9) (h := xnew h 2 (.inl (0, 63, .inl (fun _ => nI 0)))) (a := 1) (fs' := [.ref 2, .null, .int (nI 0)]) fX9_init_9 rfl rfl rfl (lt_h (N := 3) rfl (by decide)) ((xnew_ne (by decide)).trans e0) (Nat.le_of_ble_eq_true rfl) rfl rfl rfl dX9_init_9 ?_
  refine AX.aload_n (pc := 12) dX9_init_12 rfl ?_
  refine AX.bipush (pc := 13) (v := nI 63) dX9_init_13 (by decide) ?_
  refine AX.newZ (pc := 15) (S := 3) (N := 63) rfl (by decide +kernel) (by decide) (by decide) (by decide) dX9_init_15 ?_
  refine AX.putF (pc := 17) (h := xnew (xset (xnew h 2 (.inl (0, 63, .inl (fun _ => nI 0)))) 1 (.inr (8, [.ref 2, .null, .int (nI 0)]))) 3 (.inl (1, 63, .inl (fun _ => nI 0)))) (a := 1) (fs' := [.ref 2, .ref 3, .int (nI 0)]) fX9_init_15 rfl rfl rfl (lt_h (N := 4) rfl (by decide)) ((xnew_ne (by decide)).trans (xset_same _ _ _)) (Nat.le_of_ble_eq_true rfl) rfl rfl rfl dX9_init_17 ?_
  refine AX.aload_n (pc := 20) dX9_init_20 rfl ?_
  refine AX.iconst (pc := 21) (v := nI 1) dX9_init_21 (by decide) ?_
  refine AX.putf (pc := 22) (h := xset (xnew (xset (xnew h 2 (.inl (0, 63, .inl (fun _ => nI 0)))) 1 (.inr (8, [.ref 2, .null, .int (nI 0)]))) 3 (.inl (1, 63, .inl (fun _ => nI 0)))) 1 (.inr (8, [.ref 2, .ref 3, .int (nI 0)]))) (a := 1) (fs' := [.ref 2, .ref 3, .int (nI 1)]) fX9_init_19 rfl (lt_h (N := 4) rfl (by decide)) (xset_same _ _ _) (Nat.le_of_ble_eq_true rfl) rfl rfl rfl dX9_init_22 ?_
  refine AX.iconst (pc := 25) (v := nI 0) dX9_init_25 (by decide) ?_
  refine AX.istore_n (pc := 26) (L' := [.ref 1, .int (nI 0)]) dX9_init_26 (by decide) rfl ?_
  have ox : Old 2 1 h (xset (xset (xnew (xset (xnew h 2 (.inl (0, 63, .inl (fun _ => nI 0)))) 1 (.inr (8, [.ref 2, .null, .int (nI 0)]))) 3 (.inl (1, 63, .inl (fun _ => nI 0)))) 1 (.inr (8, [.ref 2, .ref 3, .int (nI 0)]))) 1 (.inr (8, [.ref 2, .ref 3, .int (nI 1)]))) := (fun k hk ha => (xset_ne (show k ≠ 1 by omega)).trans ((xset_ne (show k ≠ 1 by omega)).trans ((xnew_ne (show k ≠ 3 by omega)).trans ((xset_ne (show k ≠ 1 by omega)).trans ((xnew_ne (show k ≠ 2 by omega)).trans (rfl))))))
  have e3x : (xset (xset (xnew (xset (xnew h 2 (.inl (0, 63, .inl (fun _ => nI 0)))) 1 (.inr (8, [.ref 2, .null, .int (nI 0)]))) 3 (.inl (1, 63, .inl (fun _ => nI 0)))) 1 (.inr (8, [.ref 2, .ref 3, .int (nI 0)]))) 1 (.inr (8, [.ref 2, .ref 3, .int (nI 1)]))).2 3 = .inl (1, 63, .inl (fun _ => nI 0)) := ((xset_ne (by decide)).trans ((xset_ne (by decide)).trans (xnew_same _ _ _)))
  refine l_iRules w _ (xset (xset (xnew (xset (xnew h 2 (.inl (0, 63, .inl (fun _ => nI 0)))) 1 (.inr (8, [.ref 2, .null, .int (nI 0)]))) 3 (.inl (1, 63, .inl (fun _ => nI 0)))) 1 (.inr (8, [.ref 2, .ref 3, .int (nI 0)]))) 1 (.inr (8, [.ref 2, .ref 3, .int (nI 1)]))) rfl (xset_same _ _ _) (fun h2 s2 a2 => ?_) 63 0 _ (fun _ => nI 0) (Nat.zero_add _) Same.rf ((xset_ne (by decide)).trans ((xset_ne (by decide)).trans ((xnew_ne (by decide)).trans ((xset_ne (by decide)).trans (xnew_same _ _ _))))) (fun i hi => absurd hi (Nat.not_lt_zero _))
  have hn2 : h2.1 = 4 := s2.1.trans rfl
  have e12 := s2.at (by simp) (xset_same _ _ _)
  have e32 := s2.at (by simp) e3x
  refine AX.aload_n (pc := 49) dX9_init_49 rfl ?_
  refine AX.callV (pc := 50) (M2 := M_X9_markEnding) (As := []) (rest := []) (c_markEnding w h2 (o := 1) (by decide) (by omega) e12 e32) ⟨xc_X9_init__X9_markEnding.1, xc_X9_init__X9_markEnding.2.1, xc_X9_init__X9_markEnding.2.2.1, by decide, by decide⟩ gX9_init_X9_markEnding (ci := 8) rfl (lt_h hn2 (by decide)) e12 rfl (Nat.le_of_ble_eq_true rfl) dX9_init_50 ?_
  rintro _ h3 ⟨rfl, s3, a3⟩
  show AX w M_X9_init 2 126 53 [.ref 1, .int (nI 63)] [] _ _
  refine AX.vret (pc := 53) dX9_init_53 rfl (by decide) (by decide) ?_
  exact ⟨rfl, s3.1.trans hn2, fun k hk ha => (s3.2 k (by simp; omega)).trans ((s2.2 k (by simp; omega)).trans (ox k hk ha)), by decide, s3.at (by simp) e12, a2.same s3 (by simp), a3⟩
/-- FALLS of the numbers up to k are laid -/
def mF (k a : Nat) : Nat := if 1 ≤ a ∧ a ≤ 60 ∧ (a - 1) % 20 < k then fC a else 0
theorem mF_step {k : Nat} (hk : k < 20) : ∀ a, a < 63 → updN (updN (updN (updN (updN (updN (updN (updN (mF k) (k + 1) 3) (k + 1) (3 + 1)) (k + 1) (4 + 1)) (k + 1 + 20) 3) (k + 1 + 20) (3 + 1)) (k + 1 + 20) (4 + 1)) (k + 1 + 40) 3) (k + 1 + 40) (3 + 1) a = mF (k + 1) a := by
  intro a ha
  have z : ∀ k, k < 20 → ∀ a, a < 63 → updN (updN (updN (updN (updN (updN (updN (updN (mF k) (k + 1) 3) (k + 1) (3 + 1)) (k + 1) (4 + 1)) (k + 1 + 20) 3) (k + 1 + 20) (3 + 1)) (k + 1 + 20) (4 + 1)) (k + 1 + 40) 3) (k + 1 + 40) (3 + 1) a = mF (k + 1) a := by decide +kernel
  exact z k hk a ha
theorem fN (n : Nat) (h1 : 1 ≤ n) (h2 : n ≤ 20) : (fS (5 * n + 3) = n + 40 ∧ fTS (5 * n + 3) = 0 ∧ fTR (5 * n + 3) = 1 ∧ fS (5 * n + 4) = n + 20 ∧ fTS (5 * n + 4) = 0 ∧ fTR (5 * n + 4) = 1) ∧ (fS (5 * (n + 20) + 3) = n ∧ fTS (5 * (n + 20) + 3) = 0 ∧ fTR (5 * (n + 20) + 3) = 1 ∧ fS (5 * (n + 20) + 4) = 0 ∧ fTS (5 * (n + 20) + 4) = 0 ∧ fTR (5 * (n + 20) + 4) = 1) ∧ fS (5 * (n + 40) + 3) = n ∧ fTS (5 * (n + 40) + 3) = 0 ∧ fTR (5 * (n + 40) + 3) = 2 := by
  have z : ∀ n, n < 21 → 1 ≤ n → (fS (5 * n + 3) = n + 40 ∧ fTS (5 * n + 3) = 0 ∧ fTR (5 * n + 3) = 1 ∧ fS (5 * n + 4) = n + 20 ∧ fTS (5 * n + 4) = 0 ∧ fTR (5 * n + 4) = 1) ∧ (fS (5 * (n + 20) + 3) = n ∧ fTS (5 * (n + 20) + 3) = 0 ∧ fTR (5 * (n + 20) + 3) = 1 ∧ fS (5 * (n + 20) + 4) = 0 ∧ fTS (5 * (n + 20) + 4) = 0 ∧ fTR (5 * (n + 20) + 4) = 1) ∧ fS (5 * (n + 40) + 3) = n ∧ fTS (5 * (n + 40) + 3) = 0 ∧ fTR (5 * (n + 40) + 3) = 2 := by decide +kernel
  exact z n (by omega) h1
theorem mF_z {k : Nat} (hk : k < 20) : mF k (k + 1) = 0 ∧ mF k (k + 1 + 20) = 0 ∧ mF k (k + 1 + 40) = 0 := by
  have z : ∀ k, k < 20 → mF k (k + 1) = 0 ∧ mF k (k + 1 + 20) = 0 ∧ mF k (k + 1 + 40) = 0 := by decide +kernel
  exact z k hk
theorem mF_end : ∀ a, a < 63 → updN (updN (updN (updN (updN (updN (updN (mF 20) 61 (0 + 1)) 61 (1 + 1)) 61 (2 + 1)) 61 (3 + 1)) 61 (4 + 1)) 62 (0 + 1)) 62 (1 + 1) a = fC a := by decide +kernel
theorem FM.all {h : XH} (H : FM h fC) : FA h := by
  obtain ⟨h0, h1, h2, h3, h4⟩ := H
  have z2 : ∀ q, q < 315 → FMw fC fS q = nI (fS q) := fun q hq => by
    have : ∀ q, q < 315 → (if q % 5 < fC (q / 5) then fS q else 0) = fS q := by decide +kernel
    unfold FMw; rw [this q hq]
  have z3 : ∀ q, q < 315 → FMw fC fTS q = nI (fTS q) := fun q hq => by
    have : ∀ q, q < 315 → (if q % 5 < fC (q / 5) then fTS q else 0) = fTS q := by decide +kernel
    unfold FMw; rw [this q hq]
  have z4 : ∀ q, q < 315 → FMw fC fTR q = nI (fTR q) := fun q hq => by
    have : ∀ q, q < 315 → (if q % 5 < fC (q / 5) then fTR q else 0) = fTR q := by decide +kernel
    unfold FMw; rw [this q hq]
  exact ⟨h0, h1, h2.imp (fun _ x => ⟨x.1, fun j hj => (x.2 j hj).trans (z2 j hj)⟩), h3.imp (fun _ x => ⟨x.1, fun j hj => (x.2 j hj).trans (z3 j hj)⟩), h4.imp (fun _ x => ⟨x.1, fun j hj => (x.2 j hj).trans (z4 j hj)⟩)⟩
theorem l_iFalls (w : XW) (P : Option Value → XH → Prop) (h0 : XH) (hn0 : h0.1 = 9) (kk : ∀ h', Same [5, 6, 7, 8] h0 h' → FM h' (mF 20) → AX w M_X1_init 4 1008 128 [.ref 4, .int (nI 21)] [] h' P) : ∀ (g k : Nat) (h : XH), k + g = 20 → Same [5, 6, 7, 8] h0 h → FM h (mF k) → AX w M_X1_init 4 1008 41 [.ref 4, .int (nI (k + 1))] [] h P
  | 0, k, h, hg, hS, hF => by
    have e : k = 20 := by omega
    subst e
    have hn := hS.1.trans hn0
    refine AX.atL (L' := [.ref 4, .int (nI 21)]) rfl ?_
    refine AX.iload_n (pc := 41) dX1_init_41 rfl ?_
    refine AX.bipush (pc := 42) (v := nI 20) dX1_init_42 (by decide) ?_
    refine AX.icmp_gtN (pc := 44) (tgt := 128) dX1_init_44 (by decide) (by decide) (by decide) (fun hc44 => ?_) (fun q => absurd q (by decide))
    exact kk h hS hF
  | g + 1, k, h, hg, hS, hF => by
    have hn := hS.1.trans hn0
    have hk : k < 20 := by omega
    obtain ⟨⟨y1, y2, y3, y4, y5, y6⟩, ⟨y7, y8, y9, ya, yb, yc⟩, yd, ye, yf⟩ := fN (k + 1) (by omega) (by omega)
    obtain ⟨w1, w2, w3⟩ := mF_z hk
    refine AX.iload_n (pc := 41) dX1_init_41 rfl ?_
    refine AX.bipush (pc := 42) (v := nI 20) dX1_init_42 (by decide) ?_
    refine AX.icmp_gtN (pc := 44) (tgt := 128) dX1_init_44 (by decide) (by omega) (by decide) (fun q => absurd q (by omega)) (fun hc44 => ?_)
    refine AX.aload_n (pc := 47) dX1_init_47 rfl ?_
    refine AX.iload_n (pc := 48) dX1_init_48 rfl ?_
    refine AX.iconst (pc := 49) (v := nI 0) dX1_init_49 (by decide) ?_
    refine AX.callV (pc := 50) (M2 := M_X1_addBesides) (As := [.int (nI (k + 1)), .int (nI 0)]) (rest := []) (c_fBesides w h (by have := hn; omega) hF (n := k + 1) (b := 0) (by omega) (by omega) (by decide) (by exact w1)) ⟨xc_X1_init__X1_addBesides.1, xc_X1_init__X1_addBesides.2.1, xc_X1_init__X1_addBesides.2.2.1, by decide, by decide⟩ gX1_init_X1_addBesides (ci := 0) rfl (lt_h (N := 9) hn (by decide)) hF.1 rfl (Nat.le_of_ble_eq_true rfl) dX1_init_50 ?_
    rintro _ h1 ⟨rfl, s1, F1⟩
    have n1 := s1.1.trans hn
    show AX w M_X1_init 4 1008 53 [.ref 4, .int (nI (k + 1))] [] _ _
    refine AX.aload_n (pc := 53) dX1_init_53 rfl ?_
    refine AX.iload_n (pc := 54) dX1_init_54 rfl ?_
    refine AX.iload_n (pc := 55) dX1_init_55 rfl ?_
    refine AX.bipush (pc := 56) (v := nI 40) dX1_init_56 (by decide) ?_
    refine AX.iaddN (pc := 58) (c := k + 41) dX1_init_58 rfl ?_
    refine AX.iconst (pc := 59) (v := nI 0) dX1_init_59 (by decide) ?_
    refine AX.iconst (pc := 60) (v := nI 1) dX1_init_60 (by decide) ?_
    refine AX.callV (pc := 61) (M2 := M_X1_add) (As := [.int (nI (k + 1)), .int (nI (k + 41)), .int (nI 0), .int (nI 1)]) (rest := []) (c_fAdd w h1 (by have := n1; omega) F1 (a := k + 1) (i := 3) (by omega) (updN_at _ _ _) (by decide) y1 y2 y3) ⟨xc_X1_init__X1_add.1, xc_X1_init__X1_add.2.1, xc_X1_init__X1_add.2.2.1, by decide, by decide⟩ gX1_init_X1_add (ci := 0) rfl (lt_h (N := 9) n1 (by decide)) F1.1 rfl (Nat.le_of_ble_eq_true rfl) dX1_init_61 ?_
    rintro _ h2 ⟨rfl, s2, F2⟩
    have n2 := s2.1.trans n1
    show AX w M_X1_init 4 1008 64 [.ref 4, .int (nI (k + 1))] [] _ _
    refine AX.aload_n (pc := 64) dX1_init_64 rfl ?_
    refine AX.iload_n (pc := 65) dX1_init_65 rfl ?_
    refine AX.iload_n (pc := 66) dX1_init_66 rfl ?_
    refine AX.bipush (pc := 67) (v := nI 20) dX1_init_67 (by decide) ?_
    refine AX.iaddN (pc := 69) (c := k + 21) dX1_init_69 rfl ?_
    refine AX.iconst (pc := 70) (v := nI 0) dX1_init_70 (by decide) ?_
    refine AX.iconst (pc := 71) (v := nI 1) dX1_init_71 (by decide) ?_
    refine AX.callV (pc := 72) (M2 := M_X1_add) (As := [.int (nI (k + 1)), .int (nI (k + 21)), .int (nI 0), .int (nI 1)]) (rest := []) (c_fAdd w h2 (by have := n2; omega) F2 (a := k + 1) (i := 4) (by omega) (updN_at _ _ _) (by decide) y4 y5 y6) ⟨xc_X1_init__X1_add.1, xc_X1_init__X1_add.2.1, xc_X1_init__X1_add.2.2.1, by decide, by decide⟩ gX1_init_X1_add (ci := 0) rfl (lt_h (N := 9) n2 (by decide)) F2.1 rfl (Nat.le_of_ble_eq_true rfl) dX1_init_72 ?_
    rintro _ h3 ⟨rfl, s3, F3⟩
    have n3 := s3.1.trans n2
    show AX w M_X1_init 4 1008 75 [.ref 4, .int (nI (k + 1))] [] _ _
    refine AX.aload_n (pc := 75) dX1_init_75 rfl ?_
    refine AX.iload_n (pc := 76) dX1_init_76 rfl ?_
    refine AX.bipush (pc := 77) (v := nI 20) dX1_init_77 (by decide) ?_
    refine AX.callV (pc := 79) (M2 := M_X1_addBesides) (As := [.int (nI (k + 1)), .int (nI 20)]) (rest := []) (c_fBesides w h3 (by have := n3; omega) F3 (n := k + 1) (b := 20) (by omega) (by omega) (by decide) (by rw [updN_off (by omega), updN_off (by omega), updN_off (by omega)]; exact w2)) ⟨xc_X1_init__X1_addBesides.1, xc_X1_init__X1_addBesides.2.1, xc_X1_init__X1_addBesides.2.2.1, by decide, by decide⟩ gX1_init_X1_addBesides (ci := 0) rfl (lt_h (N := 9) n3 (by decide)) F3.1 rfl (Nat.le_of_ble_eq_true rfl) dX1_init_79 ?_
    rintro _ h4 ⟨rfl, s4, F4⟩
    have n4 := s4.1.trans n3
    show AX w M_X1_init 4 1008 82 [.ref 4, .int (nI (k + 1))] [] _ _
    refine AX.aload_n (pc := 82) dX1_init_82 rfl ?_
    refine AX.iload_n (pc := 83) dX1_init_83 rfl ?_
    refine AX.bipush (pc := 84) (v := nI 20) dX1_init_84 (by decide) ?_
    refine AX.iaddN (pc := 86) (c := k + 21) dX1_init_86 rfl ?_
    refine AX.iload_n (pc := 87) dX1_init_87 rfl ?_
    refine AX.iconst (pc := 88) (v := nI 0) dX1_init_88 (by decide) ?_
    refine AX.iconst (pc := 89) (v := nI 1) dX1_init_89 (by decide) ?_
    refine AX.callV (pc := 90) (M2 := M_X1_add) (As := [.int (nI (k + 21)), .int (nI (k + 1)), .int (nI 0), .int (nI 1)]) (rest := []) (c_fAdd w h4 (by have := n4; omega) F4 (a := k + 1 + 20) (i := 3) (by omega) (updN_at _ _ _) (by decide) y7 y8 y9) ⟨xc_X1_init__X1_add.1, xc_X1_init__X1_add.2.1, xc_X1_init__X1_add.2.2.1, by decide, by decide⟩ gX1_init_X1_add (ci := 0) rfl (lt_h (N := 9) n4 (by decide)) F4.1 rfl (Nat.le_of_ble_eq_true rfl) dX1_init_90 ?_
    rintro _ h5 ⟨rfl, s5, F5⟩
    have n5 := s5.1.trans n4
    show AX w M_X1_init 4 1008 93 [.ref 4, .int (nI (k + 1))] [] _ _
    refine AX.aload_n (pc := 93) dX1_init_93 rfl ?_
    refine AX.iload_n (pc := 94) dX1_init_94 rfl ?_
    refine AX.bipush (pc := 95) (v := nI 20) dX1_init_95 (by decide) ?_
    refine AX.iaddN (pc := 97) (c := k + 21) dX1_init_97 rfl ?_
    refine AX.iconst (pc := 98) (v := nI 0) dX1_init_98 (by decide) ?_
    refine AX.iconst (pc := 99) (v := nI 0) dX1_init_99 (by decide) ?_
    refine AX.iconst (pc := 100) (v := nI 1) dX1_init_100 (by decide) ?_
    refine AX.callV (pc := 101) (M2 := M_X1_add) (As := [.int (nI (k + 21)), .int (nI 0), .int (nI 0), .int (nI 1)]) (rest := []) (c_fAdd w h5 (by have := n5; omega) F5 (a := k + 1 + 20) (i := 4) (by omega) (updN_at _ _ _) (by decide) ya yb yc) ⟨xc_X1_init__X1_add.1, xc_X1_init__X1_add.2.1, xc_X1_init__X1_add.2.2.1, by decide, by decide⟩ gX1_init_X1_add (ci := 0) rfl (lt_h (N := 9) n5 (by decide)) F5.1 rfl (Nat.le_of_ble_eq_true rfl) dX1_init_101 ?_
    rintro _ h6 ⟨rfl, s6, F6⟩
    have n6 := s6.1.trans n5
    show AX w M_X1_init 4 1008 104 [.ref 4, .int (nI (k + 1))] [] _ _
    refine AX.aload_n (pc := 104) dX1_init_104 rfl ?_
    refine AX.iload_n (pc := 105) dX1_init_105 rfl ?_
    refine AX.bipush (pc := 106) (v := nI 40) dX1_init_106 (by decide) ?_
    refine AX.callV (pc := 108) (M2 := M_X1_addBesides) (As := [.int (nI (k + 1)), .int (nI 40)]) (rest := []) (c_fBesides w h6 (by have := n6; omega) F6 (n := k + 1) (b := 40) (by omega) (by omega) (by decide) (by rw [updN_off (by omega), updN_off (by omega), updN_off (by omega), updN_off (by omega), updN_off (by omega), updN_off (by omega)]; exact w3)) ⟨xc_X1_init__X1_addBesides.1, xc_X1_init__X1_addBesides.2.1, xc_X1_init__X1_addBesides.2.2.1, by decide, by decide⟩ gX1_init_X1_addBesides (ci := 0) rfl (lt_h (N := 9) n6 (by decide)) F6.1 rfl (Nat.le_of_ble_eq_true rfl) dX1_init_108 ?_
    rintro _ h7 ⟨rfl, s7, F7⟩
    have n7 := s7.1.trans n6
    show AX w M_X1_init 4 1008 111 [.ref 4, .int (nI (k + 1))] [] _ _
    refine AX.aload_n (pc := 111) dX1_init_111 rfl ?_
    refine AX.iload_n (pc := 112) dX1_init_112 rfl ?_
    refine AX.bipush (pc := 113) (v := nI 40) dX1_init_113 (by decide) ?_
    refine AX.iaddN (pc := 115) (c := k + 41) dX1_init_115 rfl ?_
    refine AX.iload_n (pc := 116) dX1_init_116 rfl ?_
    refine AX.iconst (pc := 117) (v := nI 0) dX1_init_117 (by decide) ?_
    refine AX.iconst (pc := 118) (v := nI 2) dX1_init_118 (by decide) ?_
    refine AX.callV (pc := 119) (M2 := M_X1_add) (As := [.int (nI (k + 41)), .int (nI (k + 1)), .int (nI 0), .int (nI 2)]) (rest := []) (c_fAdd w h7 (by have := n7; omega) F7 (a := k + 1 + 40) (i := 3) (by omega) (updN_at _ _ _) (by decide) yd ye yf) ⟨xc_X1_init__X1_add.1, xc_X1_init__X1_add.2.1, xc_X1_init__X1_add.2.2.1, by decide, by decide⟩ gX1_init_X1_add (ci := 0) rfl (lt_h (N := 9) n7 (by decide)) F7.1 rfl (Nat.le_of_ble_eq_true rfl) dX1_init_119 ?_
    rintro _ h8 ⟨rfl, s8, F8⟩
    have n8 := s8.1.trans n7
    show AX w M_X1_init 4 1008 122 [.ref 4, .int (nI (k + 1))] [] _ _
    refine AX.iincN (c := k + 2) (pc := 122) (L' := [.ref 4, .int (nI (k + 2))]) dX1_init_122 rfl (inc1 _) (by decide) rfl ?_
    refine AX.goto (pc := 125) (tgt := 41) dX1_init_125 (by decide) ?_
    refine AX.atL (L' := [.ref 4, .int (nI (k + 1 + 1))]) rfl ?_
    exact l_iFalls w P h0 hn0 kk g (k + 1) h8 (by omega) (hS.trans (s1.trans (s2.trans (s3.trans (s4.trans (s5.trans (s6.trans (s7.trans s8)))))))) (F8.congr (mF_step hk))
theorem c_iFalls (w : XW) (h : XH) (hn : h.1 = 5) (e0 : h.2 4 = .inr (0, [.null, .null, .null, .null])) : CA w M_X1_init [.ref 4] h (fun v' h' => v' = none ∧ h'.1 = 9 ∧ Old 5 4 h h' ∧ FA h') := by
  refine CA.of (by decide) rfl (fun _ => Nat.le_of_ble_eq_true rfl) ?_
  show AX w M_X1_init 0 0 0 [.ref 4, .null] [] h _
  refine AX.aload_n (pc := 0) dX1_init_0 rfl ?_
  refine AX.objInit (pc := 1) (by decide +kernel) (by decide +kernel) (by decide +kernel) (by decide) (by decide) dX1_init_1 ?_
  refine AX.aload_n (pc := 4) dX1_init_4 rfl ?_
  refine AX.bipush (pc := 5) (v := nI 63) dX1_init_5 (by decide) ?_
  refine AX.newI (pc := 7) (S := 5) (N := 63) hn (by decide +kernel) (by decide) (by decide) (by decide) dX1_init_7 ?_
  refine AX.putF (pc := 9) (h := xnew h 5 (.inl (0, 63, .inl (fun _ => nI 0)))) (a := 4) (fs' := [.ref 5, .null, .null, .null]) fX1_init_9 rfl rfl rfl (lt_h (N := 6) rfl (by decide)) ((xnew_ne (by decide)).trans e0) (Nat.le_of_ble_eq_true rfl) rfl rfl rfl dX1_init_9 ?_
  refine AX.aload_n (pc := 12) dX1_init_12 rfl ?_
  refine AX.sipush (pc := 13) (v := nI 315) dX1_init_13 (by decide) ?_
  refine AX.newI (pc := 16) (S := 6) (N := 315) rfl (by decide +kernel) (by decide) (by decide) (by decide) dX1_init_16 ?_
  refine AX.putF (pc := 18) (h := xnew (xset (xnew h 5 (.inl (0, 63, .inl (fun _ => nI 0)))) 4 (.inr (0, [.ref 5, .null, .null, .null]))) 6 (.inl (0, 315, .inl (fun _ => nI 0)))) (a := 4) (fs' := [.ref 5, .ref 6, .null, .null]) fX1_init_15 rfl rfl rfl (lt_h (N := 7) rfl (by decide)) ((xnew_ne (by decide)).trans (xset_same _ _ _)) (Nat.le_of_ble_eq_true rfl) rfl rfl rfl dX1_init_18 ?_
  refine AX.aload_n (pc := 21) dX1_init_21 rfl ?_
  refine AX.sipush (pc := 22) (v := nI 315) dX1_init_22 (by decide) ?_
  refine AX.newI (pc := 25) (S := 7) (N := 315) rfl (by decide +kernel) (by decide) (by decide) (by decide) dX1_init_25 ?_
  refine AX.putF (pc := 27) (h := xnew (xset (xnew (xset (xnew h 5 (.inl (0, 63, .inl (fun _ => nI 0)))) 4 (.inr (0, [.ref 5, .null, .null, .null]))) 6 (.inl (0, 315, .inl (fun _ => nI 0)))) 4 (.inr (0, [.ref 5, .ref 6, .null, .null]))) 7 (.inl (0, 315, .inl (fun _ => nI 0)))) (a := 4) (fs' := [.ref 5, .ref 6, .ref 7, .null]) fX1_init_18 rfl rfl rfl (lt_h (N := 8) rfl (by decide)) ((xnew_ne (by decide)).trans (xset_same _ _ _)) (Nat.le_of_ble_eq_true rfl) rfl rfl rfl dX1_init_27 ?_
  refine AX.aload_n (pc := 30) dX1_init_30 rfl ?_
  refine AX.sipush (pc := 31) (v := nI 315) dX1_init_31 (by decide) ?_
  refine AX.newI (pc := 34) (S := 8) (N := 315) rfl (by decide +kernel) (by decide) (by decide) (by decide) dX1_init_34 ?_
  refine AX.putF (pc := 36) (h := xnew (xset (xnew (xset (xnew (xset (xnew h 5 (.inl (0, 63, .inl (fun _ => nI 0)))) 4 (.inr (0, [.ref 5, .null, .null, .null]))) 6 (.inl (0, 315, .inl (fun _ => nI 0)))) 4 (.inr (0, [.ref 5, .ref 6, .null, .null]))) 7 (.inl (0, 315, .inl (fun _ => nI 0)))) 4 (.inr (0, [.ref 5, .ref 6, .ref 7, .null]))) 8 (.inl (0, 315, .inl (fun _ => nI 0)))) (a := 4) (fs' := [.ref 5, .ref 6, .ref 7, .ref 8]) fX1_init_21 rfl rfl rfl (lt_h (N := 9) rfl (by decide)) ((xnew_ne (by decide)).trans (xset_same _ _ _)) (Nat.le_of_ble_eq_true rfl) rfl rfl rfl dX1_init_36 ?_
  refine AX.iconst (pc := 39) (v := nI 1) dX1_init_39 (by decide) ?_
  refine AX.istore_n (pc := 40) (L' := [.ref 4, .int (nI 1)]) dX1_init_40 (by decide) rfl ?_
  have ox : Old 5 4 h (xset (xnew (xset (xnew (xset (xnew (xset (xnew h 5 (.inl (0, 63, .inl (fun _ => nI 0)))) 4 (.inr (0, [.ref 5, .null, .null, .null]))) 6 (.inl (0, 315, .inl (fun _ => nI 0)))) 4 (.inr (0, [.ref 5, .ref 6, .null, .null]))) 7 (.inl (0, 315, .inl (fun _ => nI 0)))) 4 (.inr (0, [.ref 5, .ref 6, .ref 7, .null]))) 8 (.inl (0, 315, .inl (fun _ => nI 0)))) 4 (.inr (0, [.ref 5, .ref 6, .ref 7, .ref 8]))) := (fun k hk ha => (xset_ne (show k ≠ 4 by omega)).trans ((xnew_ne (show k ≠ 8 by omega)).trans ((xset_ne (show k ≠ 4 by omega)).trans ((xnew_ne (show k ≠ 7 by omega)).trans ((xset_ne (show k ≠ 4 by omega)).trans ((xnew_ne (show k ≠ 6 by omega)).trans ((xset_ne (show k ≠ 4 by omega)).trans ((xnew_ne (show k ≠ 5 by omega)).trans (rfl)))))))))
  have F0 : FM (xset (xnew (xset (xnew (xset (xnew (xset (xnew h 5 (.inl (0, 63, .inl (fun _ => nI 0)))) 4 (.inr (0, [.ref 5, .null, .null, .null]))) 6 (.inl (0, 315, .inl (fun _ => nI 0)))) 4 (.inr (0, [.ref 5, .ref 6, .null, .null]))) 7 (.inl (0, 315, .inl (fun _ => nI 0)))) 4 (.inr (0, [.ref 5, .ref 6, .ref 7, .null]))) 8 (.inl (0, 315, .inl (fun _ => nI 0)))) 4 (.inr (0, [.ref 5, .ref 6, .ref 7, .ref 8]))) (mF 0) := (show FM _ (fun _ => 0) from ⟨(xset_same _ _ _), ⟨_, ((xset_ne (by decide)).trans ((xnew_ne (by decide)).trans ((xset_ne (by decide)).trans ((xnew_ne (by decide)).trans ((xset_ne (by decide)).trans ((xnew_ne (by decide)).trans ((xset_ne (by decide)).trans (xnew_same _ _ _)))))))), fun _ _ => rfl⟩, ⟨_, ((xset_ne (by decide)).trans ((xnew_ne (by decide)).trans ((xset_ne (by decide)).trans ((xnew_ne (by decide)).trans ((xset_ne (by decide)).trans (xnew_same _ _ _)))))), fun q _ => (congrArg nI (if_neg (Nat.not_lt_zero _))).symm⟩, ⟨_, ((xset_ne (by decide)).trans ((xnew_ne (by decide)).trans ((xset_ne (by decide)).trans (xnew_same _ _ _)))), fun q _ => (congrArg nI (if_neg (Nat.not_lt_zero _))).symm⟩, ⟨_, ((xset_ne (by decide)).trans (xnew_same _ _ _)), fun q _ => (congrArg nI (if_neg (Nat.not_lt_zero _))).symm⟩⟩).congr (by decide +kernel)
  refine l_iFalls w _ (xset (xnew (xset (xnew (xset (xnew (xset (xnew h 5 (.inl (0, 63, .inl (fun _ => nI 0)))) 4 (.inr (0, [.ref 5, .null, .null, .null]))) 6 (.inl (0, 315, .inl (fun _ => nI 0)))) 4 (.inr (0, [.ref 5, .ref 6, .null, .null]))) 7 (.inl (0, 315, .inl (fun _ => nI 0)))) 4 (.inr (0, [.ref 5, .ref 6, .ref 7, .null]))) 8 (.inl (0, 315, .inl (fun _ => nI 0)))) 4 (.inr (0, [.ref 5, .ref 6, .ref 7, .ref 8]))) rfl (fun h1 s1 F1 => ?_) 20 0 _ rfl Same.rf F0
  have n1 : h1.1 = 9 := s1.1.trans rfl
  refine AX.aload_n (pc := 128) dX1_init_128 rfl ?_
  refine AX.bipush (pc := 129) (v := nI 61) dX1_init_129 (by decide) ?_
  refine AX.bipush (pc := 131) (v := nI 61) dX1_init_131 (by decide) ?_
  refine AX.iconst (pc := 133) (v := nI 0) dX1_init_133 (by decide) ?_
  refine AX.iconst (pc := 134) (v := nI 0) dX1_init_134 (by decide) ?_
  refine AX.callV (pc := 135) (M2 := M_X1_add) (As := [.int (nI 61), .int (nI 61), .int (nI 0), .int (nI 0)]) (rest := []) (c_fAdd w h1 (by have := n1; omega) F1 (a := 61) (i := 0) (by decide) (by decide) (by decide) (by decide +kernel) (by decide +kernel) (by decide +kernel)) ⟨xc_X1_init__X1_add.1, xc_X1_init__X1_add.2.1, xc_X1_init__X1_add.2.2.1, by decide, by decide⟩ gX1_init_X1_add (ci := 0) rfl (lt_h (N := 9) n1 (by decide)) F1.1 rfl (Nat.le_of_ble_eq_true rfl) dX1_init_135 ?_
  rintro _ h2 ⟨rfl, s2, F2⟩
  have n2 := s2.1.trans n1
  show AX w M_X1_init 4 1008 138 [.ref 4, .int (nI 21)] [] _ _
  refine AX.aload_n (pc := 138) dX1_init_138 rfl ?_
  refine AX.bipush (pc := 139) (v := nI 61) dX1_init_139 (by decide) ?_
  refine AX.bipush (pc := 141) (v := nI 62) dX1_init_141 (by decide) ?_
  refine AX.iconst (pc := 143) (v := nI 0) dX1_init_143 (by decide) ?_
  refine AX.iconst (pc := 144) (v := nI 1) dX1_init_144 (by decide) ?_
  refine AX.callV (pc := 145) (M2 := M_X1_add) (As := [.int (nI 61), .int (nI 62), .int (nI 0), .int (nI 1)]) (rest := []) (c_fAdd w h2 (by have := n2; omega) F2 (a := 61) (i := 1) (by decide) (updN_at _ _ _) (by decide) (by decide +kernel) (by decide +kernel) (by decide +kernel)) ⟨xc_X1_init__X1_add.1, xc_X1_init__X1_add.2.1, xc_X1_init__X1_add.2.2.1, by decide, by decide⟩ gX1_init_X1_add (ci := 0) rfl (lt_h (N := 9) n2 (by decide)) F2.1 rfl (Nat.le_of_ble_eq_true rfl) dX1_init_145 ?_
  rintro _ h3 ⟨rfl, s3, F3⟩
  have n3 := s3.1.trans n2
  show AX w M_X1_init 4 1008 148 [.ref 4, .int (nI 21)] [] _ _
  refine AX.aload_n (pc := 148) dX1_init_148 rfl ?_
  refine AX.bipush (pc := 149) (v := nI 61) dX1_init_149 (by decide) ?_
  refine AX.bipush (pc := 151) (v := nI 6) dX1_init_151 (by decide) ?_
  refine AX.iconst (pc := 153) (v := nI 1) dX1_init_153 (by decide) ?_
  refine AX.iconst (pc := 154) (v := nI 0) dX1_init_154 (by decide) ?_
  refine AX.callV (pc := 155) (M2 := M_X1_add) (As := [.int (nI 61), .int (nI 6), .int (nI 1), .int (nI 0)]) (rest := []) (c_fAdd w h3 (by have := n3; omega) F3 (a := 61) (i := 2) (by decide) (updN_at _ _ _) (by decide) (by decide +kernel) (by decide +kernel) (by decide +kernel)) ⟨xc_X1_init__X1_add.1, xc_X1_init__X1_add.2.1, xc_X1_init__X1_add.2.2.1, by decide, by decide⟩ gX1_init_X1_add (ci := 0) rfl (lt_h (N := 9) n3 (by decide)) F3.1 rfl (Nat.le_of_ble_eq_true rfl) dX1_init_155 ?_
  rintro _ h4 ⟨rfl, s4, F4⟩
  have n4 := s4.1.trans n3
  show AX w M_X1_init 4 1008 158 [.ref 4, .int (nI 21)] [] _ _
  refine AX.aload_n (pc := 158) dX1_init_158 rfl ?_
  refine AX.bipush (pc := 159) (v := nI 61) dX1_init_159 (by decide) ?_
  refine AX.bipush (pc := 161) (v := nI 11) dX1_init_161 (by decide) ?_
  refine AX.iconst (pc := 163) (v := nI 1) dX1_init_163 (by decide) ?_
  refine AX.iconst (pc := 164) (v := nI 0) dX1_init_164 (by decide) ?_
  refine AX.callV (pc := 165) (M2 := M_X1_add) (As := [.int (nI 61), .int (nI 11), .int (nI 1), .int (nI 0)]) (rest := []) (c_fAdd w h4 (by have := n4; omega) F4 (a := 61) (i := 3) (by decide) (updN_at _ _ _) (by decide) (by decide +kernel) (by decide +kernel) (by decide +kernel)) ⟨xc_X1_init__X1_add.1, xc_X1_init__X1_add.2.1, xc_X1_init__X1_add.2.2.1, by decide, by decide⟩ gX1_init_X1_add (ci := 0) rfl (lt_h (N := 9) n4 (by decide)) F4.1 rfl (Nat.le_of_ble_eq_true rfl) dX1_init_165 ?_
  rintro _ h5 ⟨rfl, s5, F5⟩
  have n5 := s5.1.trans n4
  show AX w M_X1_init 4 1008 168 [.ref 4, .int (nI 21)] [] _ _
  refine AX.aload_n (pc := 168) dX1_init_168 rfl ?_
  refine AX.bipush (pc := 169) (v := nI 61) dX1_init_169 (by decide) ?_
  refine AX.bipush (pc := 171) (v := nI 20) dX1_init_171 (by decide) ?_
  refine AX.iconst (pc := 173) (v := nI 0) dX1_init_173 (by decide) ?_
  refine AX.iconst (pc := 174) (v := nI 1) dX1_init_174 (by decide) ?_
  refine AX.callV (pc := 175) (M2 := M_X1_add) (As := [.int (nI 61), .int (nI 20), .int (nI 0), .int (nI 1)]) (rest := []) (c_fAdd w h5 (by have := n5; omega) F5 (a := 61) (i := 4) (by decide) (updN_at _ _ _) (by decide) (by decide +kernel) (by decide +kernel) (by decide +kernel)) ⟨xc_X1_init__X1_add.1, xc_X1_init__X1_add.2.1, xc_X1_init__X1_add.2.2.1, by decide, by decide⟩ gX1_init_X1_add (ci := 0) rfl (lt_h (N := 9) n5 (by decide)) F5.1 rfl (Nat.le_of_ble_eq_true rfl) dX1_init_175 ?_
  rintro _ h6 ⟨rfl, s6, F6⟩
  have n6 := s6.1.trans n5
  show AX w M_X1_init 4 1008 178 [.ref 4, .int (nI 21)] [] _ _
  refine AX.aload_n (pc := 178) dX1_init_178 rfl ?_
  refine AX.bipush (pc := 179) (v := nI 62) dX1_init_179 (by decide) ?_
  refine AX.bipush (pc := 181) (v := nI 62) dX1_init_181 (by decide) ?_
  refine AX.iconst (pc := 183) (v := nI 0) dX1_init_183 (by decide) ?_
  refine AX.iconst (pc := 184) (v := nI 0) dX1_init_184 (by decide) ?_
  refine AX.callV (pc := 185) (M2 := M_X1_add) (As := [.int (nI 62), .int (nI 62), .int (nI 0), .int (nI 0)]) (rest := []) (c_fAdd w h6 (by have := n6; omega) F6 (a := 62) (i := 0) (by decide) (by rw [updN_off (by decide), updN_off (by decide), updN_off (by decide), updN_off (by decide), updN_off (by decide)]; decide) (by decide) (by decide +kernel) (by decide +kernel) (by decide +kernel)) ⟨xc_X1_init__X1_add.1, xc_X1_init__X1_add.2.1, xc_X1_init__X1_add.2.2.1, by decide, by decide⟩ gX1_init_X1_add (ci := 0) rfl (lt_h (N := 9) n6 (by decide)) F6.1 rfl (Nat.le_of_ble_eq_true rfl) dX1_init_185 ?_
  rintro _ h7 ⟨rfl, s7, F7⟩
  have n7 := s7.1.trans n6
  show AX w M_X1_init 4 1008 188 [.ref 4, .int (nI 21)] [] _ _
  refine AX.aload_n (pc := 188) dX1_init_188 rfl ?_
  refine AX.bipush (pc := 189) (v := nI 62) dX1_init_189 (by decide) ?_
  refine AX.bipush (pc := 191) (v := nI 61) dX1_init_191 (by decide) ?_
  refine AX.iconst (pc := 193) (v := nI 2) dX1_init_193 (by decide) ?_
  refine AX.iconst (pc := 194) (v := nI 2) dX1_init_194 (by decide) ?_
  refine AX.callV (pc := 195) (M2 := M_X1_add) (As := [.int (nI 62), .int (nI 61), .int (nI 2), .int (nI 2)]) (rest := []) (c_fAdd w h7 (by have := n7; omega) F7 (a := 62) (i := 1) (by decide) (updN_at _ _ _) (by decide) (by decide +kernel) (by decide +kernel) (by decide +kernel)) ⟨xc_X1_init__X1_add.1, xc_X1_init__X1_add.2.1, xc_X1_init__X1_add.2.2.1, by decide, by decide⟩ gX1_init_X1_add (ci := 0) rfl (lt_h (N := 9) n7 (by decide)) F7.1 rfl (Nat.le_of_ble_eq_true rfl) dX1_init_195 ?_
  rintro _ h8 ⟨rfl, s8, F8⟩
  have n8 := s8.1.trans n7
  show AX w M_X1_init 4 1008 198 [.ref 4, .int (nI 21)] [] _ _
  refine AX.vret (pc := 198) dX1_init_198 rfl (by decide) (by decide) ?_
  have st : Same [5, 6, 7, 8] h1 h8 := s2.trans (s3.trans (s4.trans (s5.trans (s6.trans (s7.trans s8)))))
  exact ⟨rfl, n8, fun k hk ha => (st.2 k (by simp; omega)).trans ((s1.2 k (by simp; omega)).trans (ox k hk ha)), (F8.congr mF_end).all⟩
