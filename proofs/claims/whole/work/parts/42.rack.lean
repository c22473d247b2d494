/-! ===== THE IMAGE; RACKS ===== -/
theorem c_lBecome64 (w : XW) (h : XH) {q r : Nat → Int32} (hn : 72 ≤ h.1) (hL : LG h 64 q) (hM : LG h 68 r) : CA w M_X3_become [.ref 64, .ref 68] h (fun v h' => v = none ∧ Same [64, 66, 67] h h' ∧ LG h' 64 r) := by
  refine CA.of (by decide) rfl (fun _ => Nat.le_of_ble_eq_true rfl) ?_
  obtain ⟨fb, eb_, qb⟩ := id hL.2.1
  obtain ⟨fc, ec_, qc⟩ := id hM.2.1
  obtain ⟨eb, -, e2, e3⟩ := id hL
  obtain ⟨ec, -, g2, g3⟩ := id hM
  show AX w M_X3_become 0 0 0 [.ref 64, .ref 68] [] h _
  refine AX.aload_n (pc := 0) dX3_become_0 rfl ?_
  refine AX.getf (pc := 1) fX3_become_12 (lt_k hn (by omega)) eb rfl dX3_become_1 ?_
  refine AX.iconst (pc := 4) (v := nI 0) dX3_become_4 (by decide) ?_
  refine AX.aaldN (pc := 5) (i := 0) (b := 66) (by decide) (lt_k hn (by omega)) eb_ (by decide) (by decide) (qb _ (by decide)) dX3_become_5 ?_
  refine AX.aload_n (pc := 6) dX3_become_6 rfl ?_
  refine AX.getf (pc := 7) fX3_become_12 (lt_k hn (by omega)) ec rfl dX3_become_7 ?_
  refine AX.iconst (pc := 10) (v := nI 0) dX3_become_10 (by decide) ?_
  refine AX.aaldN (pc := 11) (i := 0) (b := 70) (by decide) (lt_k hn (by omega)) ec_ (by decide) (by decide) (qc _ (by decide)) dX3_become_11 ?_
  refine AX.callV (pc := 12) (M2 := M_X6_become) (As := [.ref 70]) (rest := []) (c_pBecome w h (lt_k hn (by decide)) (lt_k hn (by decide)) (by decide) e2 g2) xc_X3_become__X6_become gX3_become_X6_become (ci := 5) rfl (lt_k hn (by omega)) e2 rfl (Nat.le_of_ble_eq_true rfl) dX3_become_12 ?_
  rintro _ h1 ⟨rfl, s1, x1⟩
  show AX w M_X3_become 0 0 15 [.ref 64, .ref 68] [] _ _
  refine AX.aload_n (pc := 15) dX3_become_15 rfl ?_
  refine AX.getf (pc := 16) fX3_become_12 (lt_k (s1.le hn) (by omega)) (s1.at (by simp) eb) rfl dX3_become_16 ?_
  refine AX.iconst (pc := 19) (v := nI 1) dX3_become_19 (by decide) ?_
  refine AX.aaldN (pc := 20) (i := 1) (b := 67) (by decide) (lt_k (s1.le hn) (by omega)) (s1.at (by simp) eb_) (by decide) (by decide) (qb _ (by decide)) dX3_become_20 ?_
  refine AX.aload_n (pc := 21) dX3_become_21 rfl ?_
  refine AX.getf (pc := 22) fX3_become_12 (lt_k (s1.le hn) (by omega)) (s1.at (by simp) ec) rfl dX3_become_22 ?_
  refine AX.iconst (pc := 25) (v := nI 1) dX3_become_25 (by decide) ?_
  refine AX.aaldN (pc := 26) (i := 1) (b := 71) (by decide) (lt_k (s1.le hn) (by omega)) (s1.at (by simp) ec_) (by decide) (by decide) (qc _ (by decide)) dX3_become_26 ?_
  refine AX.callV (pc := 27) (M2 := M_X6_become) (As := [.ref 71]) (rest := []) (c_pBecome w h1 (lt_k (s1.le hn) (by decide)) (lt_k (s1.le hn) (by decide)) (by decide) (s1.at (by simp) e3) (s1.at (by simp) g3)) xc_X3_become__X6_become gX3_become_X6_become (ci := 5) rfl (lt_k (s1.le hn) (by omega)) (s1.at (by simp) e3) rfl (Nat.le_of_ble_eq_true rfl) dX3_become_27 ?_
  rintro _ h2 ⟨rfl, s2, x2⟩
  have z2 : Same [66, 67] h h2 := (s1.wide (by simp)).trans (s2.wide (by simp))
  show AX w M_X3_become 0 0 30 [.ref 64, .ref 68] [] _ _
  refine AX.aload_n (pc := 30) dX3_become_30 rfl ?_
  refine AX.aload_n (pc := 31) dX3_become_31 rfl ?_
  refine AX.getf (pc := 32) fX3_become_18 (lt_k (z2.le hn) (by omega)) (z2.at (by simp) ec) rfl dX3_become_32 ?_
  refine AX.putf (pc := 35) (fs' := [.ref 65, .int (r 12), .int (q 13), .int (q 14), .int (q 15), .int (q 16), .int (q 17), .int (q 18)]) fX3_become_18 rfl (lt_k (z2.le hn) (by omega)) (z2.at (by simp) eb) (Nat.le_of_ble_eq_true rfl) rfl rfl rfl dX3_become_35 ?_
  refine AX.aload_n (pc := 38) dX3_become_38 rfl ?_
  refine AX.aload_n (pc := 39) dX3_become_39 rfl ?_
  refine AX.getf (pc := 40) fX3_become_22 (lt_k (z2.le hn) (by omega)) ((xset_ne (by decide)).trans (z2.at (by simp) ec)) rfl dX3_become_40 ?_
  refine AX.putf (pc := 43) (h := xset h2 64 (.inr (2, [.ref 65, .int (r 12), .int (q 13), .int (q 14), .int (q 15), .int (q 16), .int (q 17), .int (q 18)]))) (a := 64) (fs' := [.ref 65, .int (r 12), .int (r 13), .int (q 14), .int (q 15), .int (q 16), .int (q 17), .int (q 18)]) fX3_become_22 rfl (lt_k (z2.le hn) (by omega)) (xset_same _ _ _) (Nat.le_of_ble_eq_true rfl) rfl rfl rfl dX3_become_43 ?_
  refine AX.aload_n (pc := 46) dX3_become_46 rfl ?_
  refine AX.aload_n (pc := 47) dX3_become_47 rfl ?_
  refine AX.getf (pc := 48) fX3_become_35 (lt_k (z2.le hn) (by omega)) ((xset_ne (by decide)).trans ((xset_ne (by decide)).trans (z2.at (by simp) ec))) rfl dX3_become_48 ?_
  refine AX.putf (pc := 51) (h := xset (xset h2 64 (.inr (2, [.ref 65, .int (r 12), .int (q 13), .int (q 14), .int (q 15), .int (q 16), .int (q 17), .int (q 18)]))) 64 (.inr (2, [.ref 65, .int (r 12), .int (r 13), .int (q 14), .int (q 15), .int (q 16), .int (q 17), .int (q 18)]))) (a := 64) (fs' := [.ref 65, .int (r 12), .int (r 13), .int (r 14), .int (q 15), .int (q 16), .int (q 17), .int (q 18)]) fX3_become_35 rfl (lt_k (z2.le hn) (by omega)) (xset_same _ _ _) (Nat.le_of_ble_eq_true rfl) rfl rfl rfl dX3_become_51 ?_
  refine AX.aload_n (pc := 54) dX3_become_54 rfl ?_
  refine AX.aload_n (pc := 55) dX3_become_55 rfl ?_
  refine AX.getf (pc := 56) fX3_become_38 (lt_k (z2.le hn) (by omega)) ((xset_ne (by decide)).trans ((xset_ne (by decide)).trans ((xset_ne (by decide)).trans (z2.at (by simp) ec)))) rfl dX3_become_56 ?_
  refine AX.putf (pc := 59) (h := xset (xset (xset h2 64 (.inr (2, [.ref 65, .int (r 12), .int (q 13), .int (q 14), .int (q 15), .int (q 16), .int (q 17), .int (q 18)]))) 64 (.inr (2, [.ref 65, .int (r 12), .int (r 13), .int (q 14), .int (q 15), .int (q 16), .int (q 17), .int (q 18)]))) 64 (.inr (2, [.ref 65, .int (r 12), .int (r 13), .int (r 14), .int (q 15), .int (q 16), .int (q 17), .int (q 18)]))) (a := 64) (fs' := [.ref 65, .int (r 12), .int (r 13), .int (r 14), .int (r 15), .int (q 16), .int (q 17), .int (q 18)]) fX3_become_38 rfl (lt_k (z2.le hn) (by omega)) (xset_same _ _ _) (Nat.le_of_ble_eq_true rfl) rfl rfl rfl dX3_become_59 ?_
  refine AX.aload_n (pc := 62) dX3_become_62 rfl ?_
  refine AX.aload_n (pc := 63) dX3_become_63 rfl ?_
  refine AX.getf (pc := 64) fX3_become_41 (lt_k (z2.le hn) (by omega)) ((xset_ne (by decide)).trans ((xset_ne (by decide)).trans ((xset_ne (by decide)).trans ((xset_ne (by decide)).trans (z2.at (by simp) ec))))) rfl dX3_become_64 ?_
  refine AX.putf (pc := 67) (h := xset (xset (xset (xset h2 64 (.inr (2, [.ref 65, .int (r 12), .int (q 13), .int (q 14), .int (q 15), .int (q 16), .int (q 17), .int (q 18)]))) 64 (.inr (2, [.ref 65, .int (r 12), .int (r 13), .int (q 14), .int (q 15), .int (q 16), .int (q 17), .int (q 18)]))) 64 (.inr (2, [.ref 65, .int (r 12), .int (r 13), .int (r 14), .int (q 15), .int (q 16), .int (q 17), .int (q 18)]))) 64 (.inr (2, [.ref 65, .int (r 12), .int (r 13), .int (r 14), .int (r 15), .int (q 16), .int (q 17), .int (q 18)]))) (a := 64) (fs' := [.ref 65, .int (r 12), .int (r 13), .int (r 14), .int (r 15), .int (r 16), .int (q 17), .int (q 18)]) fX3_become_41 rfl (lt_k (z2.le hn) (by omega)) (xset_same _ _ _) (Nat.le_of_ble_eq_true rfl) rfl rfl rfl dX3_become_67 ?_
  refine AX.aload_n (pc := 70) dX3_become_70 rfl ?_
  refine AX.aload_n (pc := 71) dX3_become_71 rfl ?_
  refine AX.getf (pc := 72) fX3_become_44 (lt_k (z2.le hn) (by omega)) ((xset_ne (by decide)).trans ((xset_ne (by decide)).trans ((xset_ne (by decide)).trans ((xset_ne (by decide)).trans ((xset_ne (by decide)).trans (z2.at (by simp) ec)))))) rfl dX3_become_72 ?_
  refine AX.putf (pc := 75) (h := xset (xset (xset (xset (xset h2 64 (.inr (2, [.ref 65, .int (r 12), .int (q 13), .int (q 14), .int (q 15), .int (q 16), .int (q 17), .int (q 18)]))) 64 (.inr (2, [.ref 65, .int (r 12), .int (r 13), .int (q 14), .int (q 15), .int (q 16), .int (q 17), .int (q 18)]))) 64 (.inr (2, [.ref 65, .int (r 12), .int (r 13), .int (r 14), .int (q 15), .int (q 16), .int (q 17), .int (q 18)]))) 64 (.inr (2, [.ref 65, .int (r 12), .int (r 13), .int (r 14), .int (r 15), .int (q 16), .int (q 17), .int (q 18)]))) 64 (.inr (2, [.ref 65, .int (r 12), .int (r 13), .int (r 14), .int (r 15), .int (r 16), .int (q 17), .int (q 18)]))) (a := 64) (fs' := [.ref 65, .int (r 12), .int (r 13), .int (r 14), .int (r 15), .int (r 16), .int (r 17), .int (q 18)]) fX3_become_44 rfl (lt_k (z2.le hn) (by omega)) (xset_same _ _ _) (Nat.le_of_ble_eq_true rfl) rfl rfl rfl dX3_become_75 ?_
  refine AX.aload_n (pc := 78) dX3_become_78 rfl ?_
  refine AX.aload_n (pc := 79) dX3_become_79 rfl ?_
  refine AX.getf (pc := 80) fX3_become_25 (lt_k (z2.le hn) (by omega)) ((xset_ne (by decide)).trans ((xset_ne (by decide)).trans ((xset_ne (by decide)).trans ((xset_ne (by decide)).trans ((xset_ne (by decide)).trans ((xset_ne (by decide)).trans (z2.at (by simp) ec))))))) rfl dX3_become_80 ?_
  refine AX.putf (pc := 83) (h := xset (xset (xset (xset (xset (xset h2 64 (.inr (2, [.ref 65, .int (r 12), .int (q 13), .int (q 14), .int (q 15), .int (q 16), .int (q 17), .int (q 18)]))) 64 (.inr (2, [.ref 65, .int (r 12), .int (r 13), .int (q 14), .int (q 15), .int (q 16), .int (q 17), .int (q 18)]))) 64 (.inr (2, [.ref 65, .int (r 12), .int (r 13), .int (r 14), .int (q 15), .int (q 16), .int (q 17), .int (q 18)]))) 64 (.inr (2, [.ref 65, .int (r 12), .int (r 13), .int (r 14), .int (r 15), .int (q 16), .int (q 17), .int (q 18)]))) 64 (.inr (2, [.ref 65, .int (r 12), .int (r 13), .int (r 14), .int (r 15), .int (r 16), .int (q 17), .int (q 18)]))) 64 (.inr (2, [.ref 65, .int (r 12), .int (r 13), .int (r 14), .int (r 15), .int (r 16), .int (r 17), .int (q 18)]))) (a := 64) (fs' := [.ref 65, .int (r 12), .int (r 13), .int (r 14), .int (r 15), .int (r 16), .int (r 17), .int (r 18)]) fX3_become_25 rfl (lt_k (z2.le hn) (by omega)) (xset_same _ _ _) (Nat.le_of_ble_eq_true rfl) rfl rfl rfl dX3_become_83 ?_
  refine AX.vret (pc := 86) dX3_become_86 rfl (by decide) (by decide) ?_
  have sy : Same [64] h2 (xset (xset (xset (xset (xset (xset (xset h2 64 (.inr (2, [.ref 65, .int (r 12), .int (q 13), .int (q 14), .int (q 15), .int (q 16), .int (q 17), .int (q 18)]))) 64 (.inr (2, [.ref 65, .int (r 12), .int (r 13), .int (q 14), .int (q 15), .int (q 16), .int (q 17), .int (q 18)]))) 64 (.inr (2, [.ref 65, .int (r 12), .int (r 13), .int (r 14), .int (q 15), .int (q 16), .int (q 17), .int (q 18)]))) 64 (.inr (2, [.ref 65, .int (r 12), .int (r 13), .int (r 14), .int (r 15), .int (q 16), .int (q 17), .int (q 18)]))) 64 (.inr (2, [.ref 65, .int (r 12), .int (r 13), .int (r 14), .int (r 15), .int (r 16), .int (q 17), .int (q 18)]))) 64 (.inr (2, [.ref 65, .int (r 12), .int (r 13), .int (r 14), .int (r 15), .int (r 16), .int (r 17), .int (q 18)]))) 64 (.inr (2, [.ref 65, .int (r 12), .int (r 13), .int (r 14), .int (r 15), .int (r 16), .int (r 17), .int (r 18)]))) := (Same.set (Same.set (Same.set (Same.set (Same.set (Same.set (Same.set Same.rf (by simp)) (by simp)) (by simp)) (by simp)) (by simp)) (by simp)) (by simp))
  have sx : Same [64, 66, 67] h _ := (z2.wide (by simp)).trans (sy.wide (by simp))
  exact ⟨rfl, sx, (xset_same _ _ _), hL.2.1.same sx (by simp), sy.at (by simp) (s2.at (by simp) x1), sy.at (by simp) x2⟩
theorem c_lBecome68 (w : XW) (h : XH) {q r : Nat → Int32} (hn : 72 ≤ h.1) (hL : LG h 68 q) (hM : LG h 64 r) : CA w M_X3_become [.ref 68, .ref 64] h (fun v h' => v = none ∧ Same [68, 70, 71] h h' ∧ LG h' 68 r) := by
  refine CA.of (by decide) rfl (fun _ => Nat.le_of_ble_eq_true rfl) ?_
  obtain ⟨fb, eb_, qb⟩ := id hL.2.1
  obtain ⟨fc, ec_, qc⟩ := id hM.2.1
  obtain ⟨eb, -, e2, e3⟩ := id hL
  obtain ⟨ec, -, g2, g3⟩ := id hM
  show AX w M_X3_become 0 0 0 [.ref 68, .ref 64] [] h _
  refine AX.aload_n (pc := 0) dX3_become_0 rfl ?_
  refine AX.getf (pc := 1) fX3_become_12 (lt_k hn (by omega)) eb rfl dX3_become_1 ?_
  refine AX.iconst (pc := 4) (v := nI 0) dX3_become_4 (by decide) ?_
  refine AX.aaldN (pc := 5) (i := 0) (b := 70) (by decide) (lt_k hn (by omega)) eb_ (by decide) (by decide) (qb _ (by decide)) dX3_become_5 ?_
  refine AX.aload_n (pc := 6) dX3_become_6 rfl ?_
  refine AX.getf (pc := 7) fX3_become_12 (lt_k hn (by omega)) ec rfl dX3_become_7 ?_
  refine AX.iconst (pc := 10) (v := nI 0) dX3_become_10 (by decide) ?_
  refine AX.aaldN (pc := 11) (i := 0) (b := 66) (by decide) (lt_k hn (by omega)) ec_ (by decide) (by decide) (qc _ (by decide)) dX3_become_11 ?_
  refine AX.callV (pc := 12) (M2 := M_X6_become) (As := [.ref 66]) (rest := []) (c_pBecome w h (lt_k hn (by decide)) (lt_k hn (by decide)) (by decide) e2 g2) xc_X3_become__X6_become gX3_become_X6_become (ci := 5) rfl (lt_k hn (by omega)) e2 rfl (Nat.le_of_ble_eq_true rfl) dX3_become_12 ?_
  rintro _ h1 ⟨rfl, s1, x1⟩
  show AX w M_X3_become 0 0 15 [.ref 68, .ref 64] [] _ _
  refine AX.aload_n (pc := 15) dX3_become_15 rfl ?_
  refine AX.getf (pc := 16) fX3_become_12 (lt_k (s1.le hn) (by omega)) (s1.at (by simp) eb) rfl dX3_become_16 ?_
  refine AX.iconst (pc := 19) (v := nI 1) dX3_become_19 (by decide) ?_
  refine AX.aaldN (pc := 20) (i := 1) (b := 71) (by decide) (lt_k (s1.le hn) (by omega)) (s1.at (by simp) eb_) (by decide) (by decide) (qb _ (by decide)) dX3_become_20 ?_
  refine AX.aload_n (pc := 21) dX3_become_21 rfl ?_
  refine AX.getf (pc := 22) fX3_become_12 (lt_k (s1.le hn) (by omega)) (s1.at (by simp) ec) rfl dX3_become_22 ?_
  refine AX.iconst (pc := 25) (v := nI 1) dX3_become_25 (by decide) ?_
  refine AX.aaldN (pc := 26) (i := 1) (b := 67) (by decide) (lt_k (s1.le hn) (by omega)) (s1.at (by simp) ec_) (by decide) (by decide) (qc _ (by decide)) dX3_become_26 ?_
  refine AX.callV (pc := 27) (M2 := M_X6_become) (As := [.ref 67]) (rest := []) (c_pBecome w h1 (lt_k (s1.le hn) (by decide)) (lt_k (s1.le hn) (by decide)) (by decide) (s1.at (by simp) e3) (s1.at (by simp) g3)) xc_X3_become__X6_become gX3_become_X6_become (ci := 5) rfl (lt_k (s1.le hn) (by omega)) (s1.at (by simp) e3) rfl (Nat.le_of_ble_eq_true rfl) dX3_become_27 ?_
  rintro _ h2 ⟨rfl, s2, x2⟩
  have z2 : Same [70, 71] h h2 := (s1.wide (by simp)).trans (s2.wide (by simp))
  show AX w M_X3_become 0 0 30 [.ref 68, .ref 64] [] _ _
  refine AX.aload_n (pc := 30) dX3_become_30 rfl ?_
  refine AX.aload_n (pc := 31) dX3_become_31 rfl ?_
  refine AX.getf (pc := 32) fX3_become_18 (lt_k (z2.le hn) (by omega)) (z2.at (by simp) ec) rfl dX3_become_32 ?_
  refine AX.putf (pc := 35) (fs' := [.ref 69, .int (r 12), .int (q 13), .int (q 14), .int (q 15), .int (q 16), .int (q 17), .int (q 18)]) fX3_become_18 rfl (lt_k (z2.le hn) (by omega)) (z2.at (by simp) eb) (Nat.le_of_ble_eq_true rfl) rfl rfl rfl dX3_become_35 ?_
  refine AX.aload_n (pc := 38) dX3_become_38 rfl ?_
  refine AX.aload_n (pc := 39) dX3_become_39 rfl ?_
  refine AX.getf (pc := 40) fX3_become_22 (lt_k (z2.le hn) (by omega)) ((xset_ne (by decide)).trans (z2.at (by simp) ec)) rfl dX3_become_40 ?_
  refine AX.putf (pc := 43) (h := xset h2 68 (.inr (2, [.ref 69, .int (r 12), .int (q 13), .int (q 14), .int (q 15), .int (q 16), .int (q 17), .int (q 18)]))) (a := 68) (fs' := [.ref 69, .int (r 12), .int (r 13), .int (q 14), .int (q 15), .int (q 16), .int (q 17), .int (q 18)]) fX3_become_22 rfl (lt_k (z2.le hn) (by omega)) (xset_same _ _ _) (Nat.le_of_ble_eq_true rfl) rfl rfl rfl dX3_become_43 ?_
  refine AX.aload_n (pc := 46) dX3_become_46 rfl ?_
  refine AX.aload_n (pc := 47) dX3_become_47 rfl ?_
  refine AX.getf (pc := 48) fX3_become_35 (lt_k (z2.le hn) (by omega)) ((xset_ne (by decide)).trans ((xset_ne (by decide)).trans (z2.at (by simp) ec))) rfl dX3_become_48 ?_
  refine AX.putf (pc := 51) (h := xset (xset h2 68 (.inr (2, [.ref 69, .int (r 12), .int (q 13), .int (q 14), .int (q 15), .int (q 16), .int (q 17), .int (q 18)]))) 68 (.inr (2, [.ref 69, .int (r 12), .int (r 13), .int (q 14), .int (q 15), .int (q 16), .int (q 17), .int (q 18)]))) (a := 68) (fs' := [.ref 69, .int (r 12), .int (r 13), .int (r 14), .int (q 15), .int (q 16), .int (q 17), .int (q 18)]) fX3_become_35 rfl (lt_k (z2.le hn) (by omega)) (xset_same _ _ _) (Nat.le_of_ble_eq_true rfl) rfl rfl rfl dX3_become_51 ?_
  refine AX.aload_n (pc := 54) dX3_become_54 rfl ?_
  refine AX.aload_n (pc := 55) dX3_become_55 rfl ?_
  refine AX.getf (pc := 56) fX3_become_38 (lt_k (z2.le hn) (by omega)) ((xset_ne (by decide)).trans ((xset_ne (by decide)).trans ((xset_ne (by decide)).trans (z2.at (by simp) ec)))) rfl dX3_become_56 ?_
  refine AX.putf (pc := 59) (h := xset (xset (xset h2 68 (.inr (2, [.ref 69, .int (r 12), .int (q 13), .int (q 14), .int (q 15), .int (q 16), .int (q 17), .int (q 18)]))) 68 (.inr (2, [.ref 69, .int (r 12), .int (r 13), .int (q 14), .int (q 15), .int (q 16), .int (q 17), .int (q 18)]))) 68 (.inr (2, [.ref 69, .int (r 12), .int (r 13), .int (r 14), .int (q 15), .int (q 16), .int (q 17), .int (q 18)]))) (a := 68) (fs' := [.ref 69, .int (r 12), .int (r 13), .int (r 14), .int (r 15), .int (q 16), .int (q 17), .int (q 18)]) fX3_become_38 rfl (lt_k (z2.le hn) (by omega)) (xset_same _ _ _) (Nat.le_of_ble_eq_true rfl) rfl rfl rfl dX3_become_59 ?_
  refine AX.aload_n (pc := 62) dX3_become_62 rfl ?_
  refine AX.aload_n (pc := 63) dX3_become_63 rfl ?_
  refine AX.getf (pc := 64) fX3_become_41 (lt_k (z2.le hn) (by omega)) ((xset_ne (by decide)).trans ((xset_ne (by decide)).trans ((xset_ne (by decide)).trans ((xset_ne (by decide)).trans (z2.at (by simp) ec))))) rfl dX3_become_64 ?_
  refine AX.putf (pc := 67) (h := xset (xset (xset (xset h2 68 (.inr (2, [.ref 69, .int (r 12), .int (q 13), .int (q 14), .int (q 15), .int (q 16), .int (q 17), .int (q 18)]))) 68 (.inr (2, [.ref 69, .int (r 12), .int (r 13), .int (q 14), .int (q 15), .int (q 16), .int (q 17), .int (q 18)]))) 68 (.inr (2, [.ref 69, .int (r 12), .int (r 13), .int (r 14), .int (q 15), .int (q 16), .int (q 17), .int (q 18)]))) 68 (.inr (2, [.ref 69, .int (r 12), .int (r 13), .int (r 14), .int (r 15), .int (q 16), .int (q 17), .int (q 18)]))) (a := 68) (fs' := [.ref 69, .int (r 12), .int (r 13), .int (r 14), .int (r 15), .int (r 16), .int (q 17), .int (q 18)]) fX3_become_41 rfl (lt_k (z2.le hn) (by omega)) (xset_same _ _ _) (Nat.le_of_ble_eq_true rfl) rfl rfl rfl dX3_become_67 ?_
  refine AX.aload_n (pc := 70) dX3_become_70 rfl ?_
  refine AX.aload_n (pc := 71) dX3_become_71 rfl ?_
  refine AX.getf (pc := 72) fX3_become_44 (lt_k (z2.le hn) (by omega)) ((xset_ne (by decide)).trans ((xset_ne (by decide)).trans ((xset_ne (by decide)).trans ((xset_ne (by decide)).trans ((xset_ne (by decide)).trans (z2.at (by simp) ec)))))) rfl dX3_become_72 ?_
  refine AX.putf (pc := 75) (h := xset (xset (xset (xset (xset h2 68 (.inr (2, [.ref 69, .int (r 12), .int (q 13), .int (q 14), .int (q 15), .int (q 16), .int (q 17), .int (q 18)]))) 68 (.inr (2, [.ref 69, .int (r 12), .int (r 13), .int (q 14), .int (q 15), .int (q 16), .int (q 17), .int (q 18)]))) 68 (.inr (2, [.ref 69, .int (r 12), .int (r 13), .int (r 14), .int (q 15), .int (q 16), .int (q 17), .int (q 18)]))) 68 (.inr (2, [.ref 69, .int (r 12), .int (r 13), .int (r 14), .int (r 15), .int (q 16), .int (q 17), .int (q 18)]))) 68 (.inr (2, [.ref 69, .int (r 12), .int (r 13), .int (r 14), .int (r 15), .int (r 16), .int (q 17), .int (q 18)]))) (a := 68) (fs' := [.ref 69, .int (r 12), .int (r 13), .int (r 14), .int (r 15), .int (r 16), .int (r 17), .int (q 18)]) fX3_become_44 rfl (lt_k (z2.le hn) (by omega)) (xset_same _ _ _) (Nat.le_of_ble_eq_true rfl) rfl rfl rfl dX3_become_75 ?_
  refine AX.aload_n (pc := 78) dX3_become_78 rfl ?_
  refine AX.aload_n (pc := 79) dX3_become_79 rfl ?_
  refine AX.getf (pc := 80) fX3_become_25 (lt_k (z2.le hn) (by omega)) ((xset_ne (by decide)).trans ((xset_ne (by decide)).trans ((xset_ne (by decide)).trans ((xset_ne (by decide)).trans ((xset_ne (by decide)).trans ((xset_ne (by decide)).trans (z2.at (by simp) ec))))))) rfl dX3_become_80 ?_
  refine AX.putf (pc := 83) (h := xset (xset (xset (xset (xset (xset h2 68 (.inr (2, [.ref 69, .int (r 12), .int (q 13), .int (q 14), .int (q 15), .int (q 16), .int (q 17), .int (q 18)]))) 68 (.inr (2, [.ref 69, .int (r 12), .int (r 13), .int (q 14), .int (q 15), .int (q 16), .int (q 17), .int (q 18)]))) 68 (.inr (2, [.ref 69, .int (r 12), .int (r 13), .int (r 14), .int (q 15), .int (q 16), .int (q 17), .int (q 18)]))) 68 (.inr (2, [.ref 69, .int (r 12), .int (r 13), .int (r 14), .int (r 15), .int (q 16), .int (q 17), .int (q 18)]))) 68 (.inr (2, [.ref 69, .int (r 12), .int (r 13), .int (r 14), .int (r 15), .int (r 16), .int (q 17), .int (q 18)]))) 68 (.inr (2, [.ref 69, .int (r 12), .int (r 13), .int (r 14), .int (r 15), .int (r 16), .int (r 17), .int (q 18)]))) (a := 68) (fs' := [.ref 69, .int (r 12), .int (r 13), .int (r 14), .int (r 15), .int (r 16), .int (r 17), .int (r 18)]) fX3_become_25 rfl (lt_k (z2.le hn) (by omega)) (xset_same _ _ _) (Nat.le_of_ble_eq_true rfl) rfl rfl rfl dX3_become_83 ?_
  refine AX.vret (pc := 86) dX3_become_86 rfl (by decide) (by decide) ?_
  have sy : Same [68] h2 (xset (xset (xset (xset (xset (xset (xset h2 68 (.inr (2, [.ref 69, .int (r 12), .int (q 13), .int (q 14), .int (q 15), .int (q 16), .int (q 17), .int (q 18)]))) 68 (.inr (2, [.ref 69, .int (r 12), .int (r 13), .int (q 14), .int (q 15), .int (q 16), .int (q 17), .int (q 18)]))) 68 (.inr (2, [.ref 69, .int (r 12), .int (r 13), .int (r 14), .int (q 15), .int (q 16), .int (q 17), .int (q 18)]))) 68 (.inr (2, [.ref 69, .int (r 12), .int (r 13), .int (r 14), .int (r 15), .int (q 16), .int (q 17), .int (q 18)]))) 68 (.inr (2, [.ref 69, .int (r 12), .int (r 13), .int (r 14), .int (r 15), .int (r 16), .int (q 17), .int (q 18)]))) 68 (.inr (2, [.ref 69, .int (r 12), .int (r 13), .int (r 14), .int (r 15), .int (r 16), .int (r 17), .int (q 18)]))) 68 (.inr (2, [.ref 69, .int (r 12), .int (r 13), .int (r 14), .int (r 15), .int (r 16), .int (r 17), .int (r 18)]))) := (Same.set (Same.set (Same.set (Same.set (Same.set (Same.set (Same.set Same.rf (by simp)) (by simp)) (by simp)) (by simp)) (by simp)) (by simp)) (by simp))
  have sx : Same [68, 70, 71] h _ := (z2.wide (by simp)).trans (sy.wide (by simp))
  exact ⟨rfl, sx, (xset_same _ _ _), hL.2.1.same sx (by simp), sy.at (by simp) (s2.at (by simp) x1), sy.at (by simp) x2⟩
/-- a RACK at cell b: KIND, size (-11: it is missing), what lies at its places (-5: nothing) -/
def RK_ (h : XH) (b : Nat) (kd sz : Int32) (f : Nat → Int32) : Prop := h.2 b = .inr (7, [.ref (b + 1), .int kd, .int sz]) ∧ h.2 (b + 1) = .inl (0, 20, .inl f)
theorem RK_.same {S : List Nat} {h h' : XH} {b : Nat} {kd sz : Int32} {f : Nat → Int32} (H : RK_ h b kd sz f) (hs : Same S h h') (h1 : b ∉ S) (h2 : b + 1 ∉ S) : RK_ h' b kd sz f := ⟨hs.at h1 H.1, hs.at h2 H.2⟩
theorem c_isMissing (w : XW) (h : XH) {b K : Nat} {kd sz : Int32} {f : Nat → Int32} (hb : b < K) (hn : K ≤ h.1) (hK : RK_ h b kd sz f) : CA w M_X8_isMissing [.ref b] h (fun v' h'' => v' = some (.int (bI (decide (sz = (-11))))) ∧ h'' = h) := by
  refine CA.of (by decide) rfl (fun _ => Nat.le_of_ble_eq_true rfl) ?_
  show AX w M_X8_isMissing 0 0 0 [.ref b] [] h _
  refine AX.aload_n (pc := 0) dX8_isMissing_0 rfl ?_
  refine AX.getf (pc := 1) fX8_isMissing_15 (lt_k hn (by omega)) hK.1 rfl dX8_isMissing_1 ?_
  refine AX.bipush (pc := 4) (v := (-11)) dX8_isMissing_4 (by decide) ?_
  refine AX.icmp_ne (pc := 6) (tgt := 13) dX8_isMissing_6 (by decide) (fun hc6 => ?_) (fun hc6 => ?_)
  · refine AX.iconst (pc := 13) (v := nI 0) dX8_isMissing_13 (by decide) ?_
    refine AX.iret (pc := 14) dX8_isMissing_14 rfl rfl (by decide) (by decide) ?_
    exact ⟨s0 (decide_eq_false (by first | exact hc6 | (intro q; exact hc6 q))), rfl⟩
  · refine AX.iconst (pc := 9) (v := nI 1) dX8_isMissing_9 (by decide) ?_
    refine AX.goto (pc := 10) (tgt := 14) dX8_isMissing_10 (by decide) ?_
    refine AX.iret (pc := 14) dX8_isMissing_14 rfl rfl (by decide) (by decide) ?_
    exact ⟨s1 (decide_eq_true (by first | exact hc6 | exact Decidable.of_not_not hc6)), rfl⟩
/-- the SPOTS of places i .. n - 1, empty ones left out -/
def gaN (f : Nat → Int32) : Nat → Nat → List Int32
  | 0, _ => []
  | g + 1, i => if f i = (-5) then gaN f g (i + 1) else f i :: gaN f g (i + 1)
theorem gaN_le (f : Nat → Int32) : ∀ g i, (gaN f g i).length ≤ g
  | 0, _ => Nat.le_refl _
  | g + 1, i => by
    have := gaN_le f g (i + 1)
    simp only [gaN]
    split
    · omega
    · simp only [List.length_cons]; omega
theorem l_gather (w : XW) (P : Option Value → XH → Prop) (h0 : XH) {b n i0 : Nat} {kd : Int32} {f : Nat → Int32} (X : List Int32) (hb : 78 ≤ b) (hb2 : b + 1 < 86) (hn20 : n ≤ 20) (hP : ∀ h', Same [86] h0 h' → (∃ fr : Nat → Int32, h'.2 86 = .inl (0, 20, .inl fr) ∧ ∀ j, j < X.length → fr j = X.getD j 0) → P (some (.int (nI X.length))) h') : ∀ (g i c : Nat) (h : XH) (fr : Nat → Int32), i + g = n → c ≤ i → 87 ≤ h.1 → RK_ h b kd (nI n) f → h.2 86 = .inl (0, 20, .inl fr) → c + (gaN f g i).length = X.length → (∀ j, j < c → fr j = X.getD j 0) → (∀ j, X.getD (c + j) 0 = (gaN f g i).getD j 0) → Same [86] h0 h → AX w M_X8_gather 0 0 5 [.ref b, .int (nI i0), .ref 86, .int (nI c), .int (nI i)] [] h P
  | 0, i, c, h, fr, hg, hc, hn, hK, er, hl, q, hX, hS => by
    have e : i = n := by omega
    subst e
    have hl : c = X.length := hl
    subst hl
    refine AX.iload (pc := 5) dX8_gather_5 rfl ?_
    refine AX.aload_n (pc := 7) dX8_gather_7 rfl ?_
    refine AX.getf (pc := 8) fX8_gather_15 (lt_k hn (by omega)) hK.1 rfl dX8_gather_8 ?_
    refine AX.icmp_geN (pc := 11) (tgt := 45) dX8_gather_11 (by decide) (by omega) (by omega) (fun hc11 => ?_) (fun q => absurd q (by omega))
    refine AX.iload_n (pc := 45) dX8_gather_45 rfl ?_
    refine AX.iret (pc := 46) dX8_gather_46 rfl rfl (by decide) (by decide) ?_
    exact hP h hS ⟨fr, er, q⟩
  | g + 1, i, c, h, fr, hg, hc, hn, hK, er, hl, q, hX, hS => by
    by_cases hz : f i = (-5)
    · have hga : gaN f (g + 1) i = gaN f g (i + 1) := if_pos hz
      rw [hga] at hl hX
      refine AX.iload (pc := 5) dX8_gather_5 rfl ?_
      refine AX.aload_n (pc := 7) dX8_gather_7 rfl ?_
      refine AX.getf (pc := 8) fX8_gather_15 (lt_k hn (by omega)) hK.1 rfl dX8_gather_8 ?_
      refine AX.icmp_geN (pc := 11) (tgt := 45) dX8_gather_11 (by decide) (by omega) (by omega) (fun q => absurd q (by omega)) (fun hc11 => ?_)
      refine AX.aload_n (pc := 14) dX8_gather_14 rfl ?_
      refine AX.getf (pc := 15) fX8_gather_9 (lt_k hn (by omega)) hK.1 rfl dX8_gather_15 ?_
      refine AX.iload (pc := 18) dX8_gather_18 rfl ?_
      refine AX.ialdN (pc := 20) (i := i) (v := (f i)) (lt_k hn (by omega)) hK.2 (by decide) (by omega) rfl dX8_gather_20 ?_
      refine AX.bipush (pc := 21) (v := (-5)) dX8_gather_21 (by decide) ?_
      refine AX.icmp_eq (pc := 23) (tgt := 39) dX8_gather_23 (by decide) (fun hc23 => ?_) (fun q => absurd hz q)
      refine AX.iincN (c := i + 1) (pc := 39) (L' := [.ref b, .int (nI i0), .ref 86, .int (nI c), .int (nI (i + 1))]) dX8_gather_39 rfl (inc1 _) (by decide) rfl ?_
      refine AX.goto (pc := 42) (tgt := 5) dX8_gather_42 (by decide) ?_
      exact l_gather w P h0 X hb hb2 hn20 hP g (i + 1) c h fr (by omega) (by omega) hn hK er hl q hX hS
    · have hga : gaN f (g + 1) i = f i :: gaN f g (i + 1) := if_neg hz
      rw [hga] at hl hX
      have hlen : c + 1 + (gaN f g (i + 1)).length = X.length := by rw [← hl, List.length_cons]; omega
      refine AX.iload (pc := 5) dX8_gather_5 rfl ?_
      refine AX.aload_n (pc := 7) dX8_gather_7 rfl ?_
      refine AX.getf (pc := 8) fX8_gather_15 (lt_k hn (by omega)) hK.1 rfl dX8_gather_8 ?_
      refine AX.icmp_geN (pc := 11) (tgt := 45) dX8_gather_11 (by decide) (by omega) (by omega) (fun q => absurd q (by omega)) (fun hc11 => ?_)
      refine AX.aload_n (pc := 14) dX8_gather_14 rfl ?_
      refine AX.getf (pc := 15) fX8_gather_9 (lt_k hn (by omega)) hK.1 rfl dX8_gather_15 ?_
      refine AX.iload (pc := 18) dX8_gather_18 rfl ?_
      refine AX.ialdN (pc := 20) (i := i) (v := (f i)) (lt_k hn (by omega)) hK.2 (by decide) (by omega) rfl dX8_gather_20 ?_
      refine AX.bipush (pc := 21) (v := (-5)) dX8_gather_21 (by decide) ?_
      refine AX.icmp_eq (pc := 23) (tgt := 39) dX8_gather_23 (by decide) (fun q => absurd q hz) (fun hc23 => ?_)
      refine AX.aload_n (pc := 26) dX8_gather_26 rfl ?_
      refine AX.iload_n (pc := 27) dX8_gather_27 rfl ?_
      refine AX.aload_n (pc := 28) dX8_gather_28 rfl ?_
      refine AX.getf (pc := 29) fX8_gather_9 (lt_k hn (by omega)) hK.1 rfl dX8_gather_29 ?_
      refine AX.iload (pc := 32) dX8_gather_32 rfl ?_
      refine AX.ialdN (pc := 34) (i := i) (v := (f i)) (lt_k hn (by omega)) hK.2 (by decide) (by omega) rfl dX8_gather_34 ?_
      refine AX.iastN (pc := 35) (i := c) (g := upd fr c (f i)) (lt_k hn (by omega)) er (by decide) (by omega) rfl dX8_gather_35 ?_
      refine AX.iincN (c := c + 1) (pc := 36) (L' := [.ref b, .int (nI i0), .ref 86, .int (nI (c + 1)), .int (nI i)]) dX8_gather_36 rfl (inc1 _) (by decide) rfl ?_
      refine AX.iincN (c := i + 1) (pc := 39) (L' := [.ref b, .int (nI i0), .ref 86, .int (nI (c + 1)), .int (nI (i + 1))]) dX8_gather_39 rfl (inc1 _) (by decide) rfl ?_
      refine AX.goto (pc := 42) (tgt := 5) dX8_gather_42 (by decide) ?_
      have sx : Same [86] h (xset h 86 (.inl (0, 20, .inl (upd fr c (f i))))) := Same.rest
      refine l_gather w P h0 X hb hb2 hn20 hP g (i + 1) (c + 1) _ _ (by omega) (by omega) (sx.le hn) (hK.same sx (by simp; omega) (by simp; omega)) (xset_same _ _ _) hlen (upd_ext q ?_) (fun j => ?_) (hS.trans sx)
      · have := hX 0
        rw [Nat.add_zero] at this
        rw [this]
        rfl
      · have := hX (j + 1)
        rw [show c + (j + 1) = c + 1 + j by omega] at this
        rw [this]
        rfl
theorem c_gather (w : XW) (h : XH) {b n i : Nat} {kd : Int32} {f fr : Nat → Int32} (hb : 78 ≤ b) (hb2 : b + 1 < 86) (hn20 : n ≤ 20) (hi : i ≤ n) (hn : 87 ≤ h.1) (hK : RK_ h b kd (nI n) f) (er : h.2 86 = .inl (0, 20, .inl fr)) : CA w M_X8_gather [.ref b, .int (nI i), .ref 86] h (fun v h' => v = some (.int (nI (gaN f (n - i) i).length)) ∧ Same [86] h h' ∧ (∃ fr : Nat → Int32, h'.2 86 = .inl (0, 20, .inl fr) ∧ ∀ j, j < (gaN f (n - i) i).length → fr j = (gaN f (n - i) i).getD j 0)) := by
  refine CA.of (by decide) rfl (fun _ => Nat.le_of_ble_eq_true rfl) ?_
  show AX w M_X8_gather 0 0 0 [.ref b, .int (nI i), .ref 86, .null, .null] [] h _
  refine AX.iconst (pc := 0) (v := nI 0) dX8_gather_0 (by decide) ?_
  refine AX.istore_n (pc := 1) (L' := [.ref b, .int (nI i), .ref 86, .int (nI 0), .null]) dX8_gather_1 (by decide) rfl ?_
  refine AX.iload_n (pc := 2) dX8_gather_2 rfl ?_
  refine AX.istore (pc := 3) (L' := [.ref b, .int (nI i), .ref 86, .int (nI 0), .int (nI i)]) dX8_gather_3 (by decide) rfl ?_
  exact l_gather w _ h (gaN f (n - i) i) hb hb2 hn20 (fun h' p q => ⟨rfl, p, q⟩) (n - i) i 0 h fr (by omega) (Nat.zero_le _) hn hK er (Nat.zero_add _) (fun j hj => absurd hj (Nat.not_lt_zero _)) (fun j => by rw [Nat.zero_add]) Same.rf
