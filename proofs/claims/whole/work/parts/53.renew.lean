/-! ===== THE FACE: minds brought in line ===== -/
theorem cN_edge {o o' sd sd' rg rg' k r : Nat} (e : r = 0 ∨ k = 0) : cN o sd rg k r = cN o' sd' rg' k r := by
  unfold cN
  cases k with
  | zero => simp only [cT]
  | succ k =>
    have e : r = 0 := by omega
    subst e
    simp only [cT, if_true]
theorem leN_pos (o : Nat) : 1 ≤ leN o := by unfold leN; split <;> omega
theorem leN_le (o : Nat) : leN o ≤ 2 := by unfold leN; split <;> omega
theorem MK.fresh {S : List Nat} {h h' : XH} {b o o' sd sd' rg rg' dk : Nat} (H : MK h b o sd rg dk) (hs : Same S h h') (h4 : b + 4 ∉ S) (h5 : b + 5 ∉ S) : MK h' b o' sd' rg' (leN o' - 1) := by
  obtain ⟨-, -, fd, fa, e4, e5, q3, -⟩ := H
  have := leN_pos o'
  have := leN_le o'
  exact ⟨by omega, by omega, fd, fa, hs.at h4 e4, hs.at h5 e5, q3, fun r h1 h2 => by omega⟩
theorem MC.fresh {S : List Nat} {h h' : XH} {b o o' sd sd' rg rg' ck : Nat} (H : MC h b o sd rg ck 1) (hs : Same S h h') (h6 : b + 6 ∉ S) (h11 : b + 11 ∉ S) (hk : ∀ k, k ≤ 3 → b + 7 + k ∉ S ∧ b + 12 + k ∉ S) : MC h' b o' sd' rg' (leN o' - 1) 1 := by
  obtain ⟨-, -, q3, q4, q5⟩ := H
  have := leN_pos o'
  have := leN_le o'
  refine ⟨by omega, by omega, q3.same hs h6, q4.same hs h11, fun k hk' => ?_⟩
  obtain ⟨fc, fa, e1, e2, e3⟩ := q5 k hk'
  refine ⟨fc, fa, hs.at (hk k hk').1 e1, hs.at (hk k hk').2 e2, fun r hr hd => ?_⟩
  have z : r = 0 ∨ k = 0 := by omega
  exact ⟨((e3 r hr (by omega)).1).trans (cN_edge z), fun a1 a2 => by omega⟩
theorem c_renew_T (w : XW) (h : XH) {s : SS} {n o o' : Nat} {a b a' b' : Nat × Nat} (c : CSo h s o a b) (l : LV (sq s) n o' a' b') (hO : o' ≠ o) : CA w M_X11_renewMinds [.ref 0] h (fun v h' => v = none ∧ Same [1, 3, 10, 11, 12, 26, 27, 28, 49, 57] h h' ∧ CSo h' s o' a' b') := by
  refine CA.of (by decide) rfl (fun _ => Nat.le_of_ble_eq_true rfl) ?_
  obtain ⟨dk0, ck0, fn0, m0a, m0b, m0c, m0d⟩ := id c.m0
  obtain ⟨dk1, ck1, fn1, m1a, m1b, m1c, m1d⟩ := id c.m1
  obtain ⟨z, fi⟩ := id c.fi
  obtain ⟨f9, e9_, q9⟩ := id c.rs.2.1
  obtain ⟨f65, e65, q65⟩ := id c.lg.2.1
  have eb := c.lg.1
  rw [l.q12] at eb
  have e66 := c.lg.2.2.1
  rw [l.q0, l.q2] at e66
  have e67 := c.lg.2.2.2
  rw [l.q1, l.q3] at e67
  show AX w M_X11_renewMinds 0 0 0 [.ref 0, .null, .null, .null] [] h _
  refine AX.aload_n (pc := 0) dX11_renewMinds_0 rfl ?_
  refine AX.getf (pc := 1) fX11_renewMinds_18 (lt_k c.hn (by omega)) c.dm rfl dX11_renewMinds_1 ?_
  refine AX.aload_n (pc := 4) dX11_renewMinds_4 rfl ?_
  refine AX.getf (pc := 5) fX11_renewMinds_53 (lt_k c.hn (by omega)) c.dm rfl dX11_renewMinds_5 ?_
  refine AX.getf (pc := 8) fX11_renewMinds_147 (lt_k c.hn (by omega)) eb rfl dX11_renewMinds_8 ?_
  refine AX.callV (pc := 11) (M2 := M_X9_become) (As := [.int (nI o')]) (rest := []) (c_Rules_become w h (by have := c.hn; omega) c.ru o' l.ho) xc_X11_renewMinds__X9_become gX11_renewMinds_X9_become (ci := 8) rfl (lt_k c.hn (by omega)) c.ru.2.1 rfl (Nat.le_of_ble_eq_true rfl) dX11_renewMinds_11 ?_
  rintro _ h1 ⟨rfl, s1, R1⟩
  have u1 : Same [1, 3] h h1 := s1
  rw [decide_eq_true hO]
  show AX w M_X11_renewMinds 0 0 14 [.ref 0, .null, .null, .null] [.int (bI true)] _ _
  refine AX.istore_n (pc := 14) (L' := [.ref 0, .int (bI true), .null, .null]) dX11_renewMinds_14 (by decide) rfl ?_
  refine AX.aload_n (pc := 15) dX11_renewMinds_15 rfl ?_
  refine AX.getf (pc := 16) fX11_renewMinds_28 (lt_k (u1.le c.hn) (by omega)) (u1.at (by simp) c.dm) rfl dX11_renewMinds_16 ?_
  refine AX.iconst (pc := 19) (v := nI 0) dX11_renewMinds_19 (by decide) ?_
  refine AX.aaldN (pc := 20) (i := 0) (b := 10) (by decide) (lt_k (u1.le c.hn) (by omega)) (u1.at (by simp) e9_) (by decide) (by decide) (q9 _ (by decide)) dX11_renewMinds_20 ?_
  refine AX.aload_n (pc := 21) dX11_renewMinds_21 rfl ?_
  refine AX.getf (pc := 22) fX11_renewMinds_53 (lt_k (u1.le c.hn) (by omega)) (u1.at (by simp) c.dm) rfl dX11_renewMinds_22 ?_
  refine AX.getf (pc := 25) fX11_renewMinds_115 (lt_k (u1.le c.hn) (by omega)) (u1.at (by simp) eb) rfl dX11_renewMinds_25 ?_
  refine AX.iconst (pc := 28) (v := nI 0) dX11_renewMinds_28 (by decide) ?_
  refine AX.aaldN (pc := 29) (i := 0) (b := 66) (by decide) (lt_k (u1.le c.hn) (by omega)) (u1.at (by simp) e65) (by decide) (by decide) (q65 _ (by decide)) dX11_renewMinds_29 ?_
  refine AX.getf (pc := 30) fX11_renewMinds_119 (lt_k (u1.le c.hn) (by omega)) (u1.at (by simp) e66) rfl dX11_renewMinds_30 ?_
  refine AX.aload_n (pc := 33) dX11_renewMinds_33 rfl ?_
  refine AX.getf (pc := 34) fX11_renewMinds_53 (lt_k (u1.le c.hn) (by omega)) (u1.at (by simp) c.dm) rfl dX11_renewMinds_34 ?_
  refine AX.getf (pc := 37) fX11_renewMinds_115 (lt_k (u1.le c.hn) (by omega)) (u1.at (by simp) eb) rfl dX11_renewMinds_37 ?_
  refine AX.iconst (pc := 40) (v := nI 0) dX11_renewMinds_40 (by decide) ?_
  refine AX.aaldN (pc := 41) (i := 0) (b := 66) (by decide) (lt_k (u1.le c.hn) (by omega)) (u1.at (by simp) e65) (by decide) (by decide) (q65 _ (by decide)) dX11_renewMinds_41 ?_
  refine AX.getf (pc := 42) fX11_renewMinds_125 (lt_k (u1.le c.hn) (by omega)) (u1.at (by simp) e66) rfl dX11_renewMinds_42 ?_
  refine AX.callV (pc := 45) (M2 := M_X4_become) (As := [.int (nI a'.1), .int (nI a'.2)]) (rest := []) (c_Mind_become w h1 a'.1 a'.2 l.ha.1 l.ha.2 (show 42 ≤ h1.1 by have := c.hn; have := u1.1; omega) (c.fa.same u1 (by simp) (by simp) (by simp) (by simp) (by simp)) (m0a.same u1 (by simp) (by simp) (by simp))) xc_X11_renewMinds__X4_become gX11_renewMinds_X4_become (ci := 3) rfl (lt_k (u1.le c.hn) (by omega)) (u1.at (by simp) m0a.2.2.2.1) rfl (Nat.le_of_ble_eq_true rfl) dX11_renewMinds_45 ?_
  rintro _ h2 ⟨rfl, s2, N0⟩
  have u2 : Same [1, 3, 10, 11, 12] h h2 := (u1.wide (by decide)).trans (s2.wide (by decide))
  have R2 := R1.same s2 (by simp) (by simp) (by simp)
  show AX w M_X11_renewMinds 0 0 48 [.ref 0, .int (bI true), .null, .null] [.int (bI (decide (¬ (a'.1 = a.1 ∧ a'.2 = a.2))))] _ _
  refine AX.istore_n (pc := 48) (L' := [.ref 0, .int (bI true), .int (bI (decide (¬ (a'.1 = a.1 ∧ a'.2 = a.2)))), .null]) dX11_renewMinds_48 (by decide) rfl ?_
  refine AX.aload_n (pc := 49) dX11_renewMinds_49 rfl ?_
  refine AX.getf (pc := 50) fX11_renewMinds_28 (lt_k (u2.le c.hn) (by omega)) (u2.at (by simp) c.dm) rfl dX11_renewMinds_50 ?_
  refine AX.iconst (pc := 53) (v := nI 1) dX11_renewMinds_53 (by decide) ?_
  refine AX.aaldN (pc := 54) (i := 1) (b := 26) (by decide) (lt_k (u2.le c.hn) (by omega)) (u2.at (by simp) e9_) (by decide) (by decide) (q9 _ (by decide)) dX11_renewMinds_54 ?_
  refine AX.aload_n (pc := 55) dX11_renewMinds_55 rfl ?_
  refine AX.getf (pc := 56) fX11_renewMinds_53 (lt_k (u2.le c.hn) (by omega)) (u2.at (by simp) c.dm) rfl dX11_renewMinds_56 ?_
  refine AX.getf (pc := 59) fX11_renewMinds_115 (lt_k (u2.le c.hn) (by omega)) (u2.at (by simp) eb) rfl dX11_renewMinds_59 ?_
  refine AX.iconst (pc := 62) (v := nI 1) dX11_renewMinds_62 (by decide) ?_
  refine AX.aaldN (pc := 63) (i := 1) (b := 67) (by decide) (lt_k (u2.le c.hn) (by omega)) (u2.at (by simp) e65) (by decide) (by decide) (q65 _ (by decide)) dX11_renewMinds_63 ?_
  refine AX.getf (pc := 64) fX11_renewMinds_119 (lt_k (u2.le c.hn) (by omega)) (u2.at (by simp) e67) rfl dX11_renewMinds_64 ?_
  refine AX.aload_n (pc := 67) dX11_renewMinds_67 rfl ?_
  refine AX.getf (pc := 68) fX11_renewMinds_53 (lt_k (u2.le c.hn) (by omega)) (u2.at (by simp) c.dm) rfl dX11_renewMinds_68 ?_
  refine AX.getf (pc := 71) fX11_renewMinds_115 (lt_k (u2.le c.hn) (by omega)) (u2.at (by simp) eb) rfl dX11_renewMinds_71 ?_
  refine AX.iconst (pc := 74) (v := nI 1) dX11_renewMinds_74 (by decide) ?_
  refine AX.aaldN (pc := 75) (i := 1) (b := 67) (by decide) (lt_k (u2.le c.hn) (by omega)) (u2.at (by simp) e65) (by decide) (by decide) (q65 _ (by decide)) dX11_renewMinds_75 ?_
  refine AX.getf (pc := 76) fX11_renewMinds_125 (lt_k (u2.le c.hn) (by omega)) (u2.at (by simp) e67) rfl dX11_renewMinds_76 ?_
  refine AX.callV (pc := 79) (M2 := M_X4_become) (As := [.int (nI b'.1), .int (nI b'.2)]) (rest := []) (c_Mind_become w h2 b'.1 b'.2 l.hb.1 l.hb.2 (show 42 ≤ h2.1 by have := c.hn; have := u2.1; omega) (c.fa.same u2 (by simp) (by simp) (by simp) (by simp) (by simp)) (m1a.same u2 (by simp) (by simp) (by simp))) xc_X11_renewMinds__X4_become gX11_renewMinds_X4_become (ci := 3) rfl (lt_k (u2.le c.hn) (by omega)) (u2.at (by simp) m1a.2.2.2.1) rfl (Nat.le_of_ble_eq_true rfl) dX11_renewMinds_79 ?_
  rintro _ h3 ⟨rfl, s3, N1⟩
  have u3 : Same [1, 3, 10, 11, 12, 26, 27, 28] h h3 := (u2.wide (by decide)).trans (s3.wide (by decide))
  have R3 := R2.same s3 (by simp) (by simp) (by simp)
  have N0 := N0.same s3 (by simp) (by simp) (by simp)
  obtain ⟨kn, ek, tk⟩ := id fi
  show AX w M_X11_renewMinds 0 0 82 [.ref 0, .int (bI true), .int (bI (decide (¬ (a'.1 = a.1 ∧ a'.2 = a.2)))), .null] [.int (bI (decide (¬ (b'.1 = b.1 ∧ b'.2 = b.2))))] _ _
  refine AX.istore_n (pc := 82) (L' := [.ref 0, .int (bI true), .int (bI (decide (¬ (a'.1 = a.1 ∧ a'.2 = a.2)))), .int (bI (decide (¬ (b'.1 = b.1 ∧ b'.2 = b.2))))]) dX11_renewMinds_82 (by decide) rfl ?_
  refine AX.iload_n (pc := 83) dX11_renewMinds_83 rfl ?_
  refine AX.if_eqB (pc := 84) (tgt := 94) dX11_renewMinds_84 (by decide) (fun q => absurd q (by decide)) (fun hc84 => ?_)
  refine AX.aload_n (pc := 87) dX11_renewMinds_87 rfl ?_
  refine AX.getf (pc := 88) fX11_renewMinds_46 (lt_k (u3.le c.hn) (by omega)) (u3.at (by simp) c.dm) rfl dX11_renewMinds_88 ?_
  refine AX.callV (pc := 91) (M2 := M_X2_forget) (As := []) (rest := []) (c_fForget w h3 (o := o) (o' := o') (show 64 ≤ h3.1 by have := c.hn; have := u3.1; omega) (fi.same u3 (by simp) (by simp) (by simp <;> omega))) xc_X11_renewMinds__X2_forget gX11_renewMinds_X2_forget (ci := 1) rfl (lt_k (u3.le c.hn) (by omega)) (u3.at (by simp) ek) rfl (Nat.le_of_ble_eq_true rfl) dX11_renewMinds_91 ?_
  rintro _ h4 ⟨rfl, s4, I4⟩
  have u4 : Same [1, 3, 10, 11, 12, 26, 27, 28, 57] h h4 := (u3.wide (by decide)).trans (s4.wide (by decide))
  have R4 := R3.same s4 (by simp) (by simp) (by simp)
  have N0 := N0.same s4 (by simp) (by simp) (by simp)
  have N1 := N1.same s4 (by simp) (by simp) (by simp)
  show AX w M_X11_renewMinds 0 0 94 [.ref 0, .int (bI true), .int (bI (decide (¬ (a'.1 = a.1 ∧ a'.2 = a.2)))), .int (bI (decide (¬ (b'.1 = b.1 ∧ b'.2 = b.2))))] [] _ _
  refine AX.iload_n (pc := 94) dX11_renewMinds_94 rfl ?_
  refine AX.if_neB (pc := 95) (tgt := 102) dX11_renewMinds_95 (by decide) (fun hc95 => ?_) (fun q => absurd q (by decide))
  refine AX.aload_n (pc := 102) dX11_renewMinds_102 rfl ?_
  refine AX.getf (pc := 103) fX11_renewMinds_28 (lt_k (u4.le c.hn) (by omega)) (u4.at (by simp) c.dm) rfl dX11_renewMinds_103 ?_
  refine AX.iconst (pc := 106) (v := nI 0) dX11_renewMinds_106 (by decide) ?_
  refine AX.aaldN (pc := 107) (i := 0) (b := 10) (by decide) (lt_k (u4.le c.hn) (by omega)) (u4.at (by simp) e9_) (by decide) (by decide) (q9 _ (by decide)) dX11_renewMinds_107 ?_
  refine AX.callV (pc := 108) (M2 := M_X4_forget) (As := []) (rest := []) (c_Mind_forget w h4 (show 10 + 3 ≤ h4.1 by have := c.hn; have := u4.1; omega) R4 N0) xc_X11_renewMinds__X4_forget gX11_renewMinds_X4_forget (ci := 3) rfl (lt_k (u4.le c.hn) (by omega)) N0.2.2.2.1 rfl (Nat.le_of_ble_eq_true rfl) dX11_renewMinds_108 ?_
  rintro _ h5 ⟨rfl, s5, N0⟩
  have u5 : Same [1, 3, 10, 11, 12, 26, 27, 28, 57] h h5 := (u4.wide (by decide)).trans (s5.wide (by decide))
  have R5 := R4.same s5 (by simp) (by simp) (by simp)
  have N1 := N1.same s5 (by simp) (by simp) (by simp)
  have I4 := I4.same s5 (by simp) (by simp) (by simp <;> omega)
  show AX w M_X11_renewMinds 0 0 111 [.ref 0, .int (bI true), .int (bI (decide (¬ (a'.1 = a.1 ∧ a'.2 = a.2)))), .int (bI (decide (¬ (b'.1 = b.1 ∧ b'.2 = b.2))))] [] _ _
  refine AX.iload_n (pc := 111) dX11_renewMinds_111 rfl ?_
  refine AX.if_neB (pc := 112) (tgt := 119) dX11_renewMinds_112 (by decide) (fun hc112 => ?_) (fun q => absurd q (by decide))
  refine AX.aload_n (pc := 119) dX11_renewMinds_119 rfl ?_
  refine AX.getf (pc := 120) fX11_renewMinds_28 (lt_k (u5.le c.hn) (by omega)) (u5.at (by simp) c.dm) rfl dX11_renewMinds_120 ?_
  refine AX.iconst (pc := 123) (v := nI 1) dX11_renewMinds_123 (by decide) ?_
  refine AX.aaldN (pc := 124) (i := 1) (b := 26) (by decide) (lt_k (u5.le c.hn) (by omega)) (u5.at (by simp) e9_) (by decide) (by decide) (q9 _ (by decide)) dX11_renewMinds_124 ?_
  refine AX.callV (pc := 125) (M2 := M_X4_forget) (As := []) (rest := []) (c_Mind_forget w h5 (show 26 + 3 ≤ h5.1 by have := c.hn; have := u5.1; omega) R5 N1) xc_X11_renewMinds__X4_forget gX11_renewMinds_X4_forget (ci := 3) rfl (lt_k (u5.le c.hn) (by omega)) N1.2.2.2.1 rfl (Nat.le_of_ble_eq_true rfl) dX11_renewMinds_125 ?_
  rintro _ h6 ⟨rfl, s6, N1⟩
  have u6 : Same [1, 3, 10, 11, 12, 26, 27, 28, 57] h h6 := (u5.wide (by decide)).trans (s6.wide (by decide))
  have R6 := R5.same s6 (by simp) (by simp) (by simp)
  have N0 := N0.same s6 (by simp) (by simp) (by simp)
  have I4 := I4.same s6 (by simp) (by simp) (by simp <;> omega)
  show AX w M_X11_renewMinds 0 0 128 [.ref 0, .int (bI true), .int (bI (decide (¬ (a'.1 = a.1 ∧ a'.2 = a.2)))), .int (bI (decide (¬ (b'.1 = b.1 ∧ b'.2 = b.2))))] [] _ _
  refine AX.iload_n (pc := 128) dX11_renewMinds_128 rfl ?_
  refine AX.if_neB (pc := 129) (tgt := 140) dX11_renewMinds_129 (by decide) (fun hc129 => ?_) (fun q => absurd q (by decide))
  refine AX.aload_n (pc := 140) dX11_renewMinds_140 rfl ?_
  refine AX.getf (pc := 141) fX11_renewMinds_37 (lt_k (u6.le c.hn) (by omega)) (u6.at (by simp) c.dm) rfl dX11_renewMinds_141 ?_
  refine AX.callV (pc := 144) (M2 := M_X7_forget) (As := []) (rest := []) (c_rForget w h6 (o' := o') (H' := hh a' b') (show 57 ≤ h6.1 by have := c.hn; have := u6.1; omega) (c.rs.same u6 (by simp) (by simp) (by simp) (by simp) (by simp) (by simp)) (c.rk.same u6 (by simp) (by simp) (by simp) (by simp) (by simp))) xc_X11_renewMinds__X7_forget gX11_renewMinds_X7_forget (ci := 6) rfl (lt_k (u6.le c.hn) (by omega)) (u6.at (by simp) c.rs.1) rfl (Nat.le_of_ble_eq_true rfl) dX11_renewMinds_144 ?_
  rintro _ h7 ⟨rfl, s7, K⟩
  have u7 : Same [1, 3, 10, 11, 12, 26, 27, 28, 57, 49] h h7 := (u6.wide (by decide)).trans (s7.wide (by decide))
  have R7 := R6.same s7 (by simp) (by simp) (by simp)
  have N0 := N0.same s7 (by simp) (by simp) (by simp)
  have N1 := N1.same s7 (by simp) (by simp) (by simp)
  have I4 := I4.same s7 (by simp) (by simp) (by simp <;> omega)
  show AX w M_X11_renewMinds 0 0 147 [.ref 0, .int (bI true), .int (bI (decide (¬ (a'.1 = a.1 ∧ a'.2 = a.2)))), .int (bI (decide (¬ (b'.1 = b.1 ∧ b'.2 = b.2))))] [] _ _
  refine AX.vret (pc := 147) dX11_renewMinds_147 rfl (by decide) (by decide) ?_
  have hs := u7
  have x_hn := hs.le c.hn
  have x_dm := c.dm.same hs (by simp)
  have x_ru : _ := R7
  have x_fa := c.fa.same hs (by simp) (by simp) (by simp) (by simp) (by simp)
  have x_rs := c.rs.same hs (by simp) (by simp) (by simp) (by simp) (by simp) (by simp)
  have x_rw := c.rw.same hs (by simp) (by simp) (by simp) (by simp) (by simp)
  have x_rk : _ := K
  have x_row := c.row.imp (fun z e => hs.at (by simp) e)
  have x_lg := c.lg.same hs (by simp) (by simp) (by simp) (by simp)
  have x_pi := c.pi.same hs (by simp) (by simp) (by simp) (by simp)
  have x_tp := c.tp.same hs (by simp) (by simp) (by simp)
  have x_pt := c.pt.same hs (by simp) (by simp)
  have x_rr := c.rr.same hs (by simp)
  have x_rq := fun k hk => (c.rq k hk).same hs (by simp <;> omega) (by simp <;> omega)
  have x_ro := c.ro.imp (fun z e => hs.at (by simp) e)
  exact ⟨rfl, u7.wide (by decide), ⟨x_hn, x_dm, R7, x_fa, ⟨_, _, fn0, N0, m0b.fresh hs (by simp) (by simp), m0c.fresh hs (by simp) (by simp) (by simp <;> omega), hs.at (by simp) m0d⟩, ⟨_, _, fn1, N1, m1b.fresh hs (by simp) (by simp), m1c.fresh hs (by simp) (by simp) (by simp <;> omega), hs.at (by simp) m1d⟩, x_rs, x_rw, K, ⟨_, I4⟩, x_row, x_lg, x_pi, x_tp, x_pt, x_rr, x_rq, x_ro⟩⟩
theorem c_renew_F00 (w : XW) (h : XH) {s : SS} {n o : Nat} {a b : Nat × Nat} (c : CSo h s o a b) (l : LV (sq s) n o a b) : CA w M_X11_renewMinds [.ref 0] h (fun v h' => v = none ∧ Same [1, 3, 10, 11, 12, 26, 27, 28, 49, 57] h h' ∧ CSo h' s o a b) := by
  refine CA.of (by decide) rfl (fun _ => Nat.le_of_ble_eq_true rfl) ?_
  obtain ⟨dk0, ck0, fn0, m0a, m0b, m0c, m0d⟩ := id c.m0
  obtain ⟨dk1, ck1, fn1, m1a, m1b, m1c, m1d⟩ := id c.m1
  obtain ⟨z, fi⟩ := id c.fi
  obtain ⟨f9, e9_, q9⟩ := id c.rs.2.1
  obtain ⟨f65, e65, q65⟩ := id c.lg.2.1
  have eb := c.lg.1
  rw [l.q12] at eb
  have e66 := c.lg.2.2.1
  rw [l.q0, l.q2] at e66
  have e67 := c.lg.2.2.2
  rw [l.q1, l.q3] at e67
  show AX w M_X11_renewMinds 0 0 0 [.ref 0, .null, .null, .null] [] h _
  refine AX.aload_n (pc := 0) dX11_renewMinds_0 rfl ?_
  refine AX.getf (pc := 1) fX11_renewMinds_18 (lt_k c.hn (by omega)) c.dm rfl dX11_renewMinds_1 ?_
  refine AX.aload_n (pc := 4) dX11_renewMinds_4 rfl ?_
  refine AX.getf (pc := 5) fX11_renewMinds_53 (lt_k c.hn (by omega)) c.dm rfl dX11_renewMinds_5 ?_
  refine AX.getf (pc := 8) fX11_renewMinds_147 (lt_k c.hn (by omega)) eb rfl dX11_renewMinds_8 ?_
  refine AX.callV (pc := 11) (M2 := M_X9_become) (As := [.int (nI o)]) (rest := []) (c_Rules_become w h (by have := c.hn; omega) c.ru o l.ho) xc_X11_renewMinds__X9_become gX11_renewMinds_X9_become (ci := 8) rfl (lt_k c.hn (by omega)) c.ru.2.1 rfl (Nat.le_of_ble_eq_true rfl) dX11_renewMinds_11 ?_
  rintro _ h1 ⟨rfl, s1, R1⟩
  have u1 : Same [1, 3] h h1 := s1
  rw [decide_eq_false (fun q => q rfl)]
  show AX w M_X11_renewMinds 0 0 14 [.ref 0, .null, .null, .null] [.int (bI false)] _ _
  refine AX.istore_n (pc := 14) (L' := [.ref 0, .int (bI false), .null, .null]) dX11_renewMinds_14 (by decide) rfl ?_
  refine AX.aload_n (pc := 15) dX11_renewMinds_15 rfl ?_
  refine AX.getf (pc := 16) fX11_renewMinds_28 (lt_k (u1.le c.hn) (by omega)) (u1.at (by simp) c.dm) rfl dX11_renewMinds_16 ?_
  refine AX.iconst (pc := 19) (v := nI 0) dX11_renewMinds_19 (by decide) ?_
  refine AX.aaldN (pc := 20) (i := 0) (b := 10) (by decide) (lt_k (u1.le c.hn) (by omega)) (u1.at (by simp) e9_) (by decide) (by decide) (q9 _ (by decide)) dX11_renewMinds_20 ?_
  refine AX.aload_n (pc := 21) dX11_renewMinds_21 rfl ?_
  refine AX.getf (pc := 22) fX11_renewMinds_53 (lt_k (u1.le c.hn) (by omega)) (u1.at (by simp) c.dm) rfl dX11_renewMinds_22 ?_
  refine AX.getf (pc := 25) fX11_renewMinds_115 (lt_k (u1.le c.hn) (by omega)) (u1.at (by simp) eb) rfl dX11_renewMinds_25 ?_
  refine AX.iconst (pc := 28) (v := nI 0) dX11_renewMinds_28 (by decide) ?_
  refine AX.aaldN (pc := 29) (i := 0) (b := 66) (by decide) (lt_k (u1.le c.hn) (by omega)) (u1.at (by simp) e65) (by decide) (by decide) (q65 _ (by decide)) dX11_renewMinds_29 ?_
  refine AX.getf (pc := 30) fX11_renewMinds_119 (lt_k (u1.le c.hn) (by omega)) (u1.at (by simp) e66) rfl dX11_renewMinds_30 ?_
  refine AX.aload_n (pc := 33) dX11_renewMinds_33 rfl ?_
  refine AX.getf (pc := 34) fX11_renewMinds_53 (lt_k (u1.le c.hn) (by omega)) (u1.at (by simp) c.dm) rfl dX11_renewMinds_34 ?_
  refine AX.getf (pc := 37) fX11_renewMinds_115 (lt_k (u1.le c.hn) (by omega)) (u1.at (by simp) eb) rfl dX11_renewMinds_37 ?_
  refine AX.iconst (pc := 40) (v := nI 0) dX11_renewMinds_40 (by decide) ?_
  refine AX.aaldN (pc := 41) (i := 0) (b := 66) (by decide) (lt_k (u1.le c.hn) (by omega)) (u1.at (by simp) e65) (by decide) (by decide) (q65 _ (by decide)) dX11_renewMinds_41 ?_
  refine AX.getf (pc := 42) fX11_renewMinds_125 (lt_k (u1.le c.hn) (by omega)) (u1.at (by simp) e66) rfl dX11_renewMinds_42 ?_
  refine AX.callV (pc := 45) (M2 := M_X4_become) (As := [.int (nI a.1), .int (nI a.2)]) (rest := []) (c_Mind_become w h1 a.1 a.2 l.ha.1 l.ha.2 (show 42 ≤ h1.1 by have := c.hn; have := u1.1; omega) (c.fa.same u1 (by simp) (by simp) (by simp) (by simp) (by simp)) (m0a.same u1 (by simp) (by simp) (by simp))) xc_X11_renewMinds__X4_become gX11_renewMinds_X4_become (ci := 3) rfl (lt_k (u1.le c.hn) (by omega)) (u1.at (by simp) m0a.2.2.2.1) rfl (Nat.le_of_ble_eq_true rfl) dX11_renewMinds_45 ?_
  rintro _ h2 ⟨rfl, s2, N0⟩
  have u2 : Same [1, 3, 10, 11, 12] h h2 := (u1.wide (by decide)).trans (s2.wide (by decide))
  rw [decide_eq_false (fun q => q ⟨rfl, rfl⟩)]
  have R2 := R1.same s2 (by simp) (by simp) (by simp)
  show AX w M_X11_renewMinds 0 0 48 [.ref 0, .int (bI false), .null, .null] [.int (bI false)] _ _
  refine AX.istore_n (pc := 48) (L' := [.ref 0, .int (bI false), .int (bI false), .null]) dX11_renewMinds_48 (by decide) rfl ?_
  refine AX.aload_n (pc := 49) dX11_renewMinds_49 rfl ?_
  refine AX.getf (pc := 50) fX11_renewMinds_28 (lt_k (u2.le c.hn) (by omega)) (u2.at (by simp) c.dm) rfl dX11_renewMinds_50 ?_
  refine AX.iconst (pc := 53) (v := nI 1) dX11_renewMinds_53 (by decide) ?_
  refine AX.aaldN (pc := 54) (i := 1) (b := 26) (by decide) (lt_k (u2.le c.hn) (by omega)) (u2.at (by simp) e9_) (by decide) (by decide) (q9 _ (by decide)) dX11_renewMinds_54 ?_
  refine AX.aload_n (pc := 55) dX11_renewMinds_55 rfl ?_
  refine AX.getf (pc := 56) fX11_renewMinds_53 (lt_k (u2.le c.hn) (by omega)) (u2.at (by simp) c.dm) rfl dX11_renewMinds_56 ?_
  refine AX.getf (pc := 59) fX11_renewMinds_115 (lt_k (u2.le c.hn) (by omega)) (u2.at (by simp) eb) rfl dX11_renewMinds_59 ?_
  refine AX.iconst (pc := 62) (v := nI 1) dX11_renewMinds_62 (by decide) ?_
  refine AX.aaldN (pc := 63) (i := 1) (b := 67) (by decide) (lt_k (u2.le c.hn) (by omega)) (u2.at (by simp) e65) (by decide) (by decide) (q65 _ (by decide)) dX11_renewMinds_63 ?_
  refine AX.getf (pc := 64) fX11_renewMinds_119 (lt_k (u2.le c.hn) (by omega)) (u2.at (by simp) e67) rfl dX11_renewMinds_64 ?_
  refine AX.aload_n (pc := 67) dX11_renewMinds_67 rfl ?_
  refine AX.getf (pc := 68) fX11_renewMinds_53 (lt_k (u2.le c.hn) (by omega)) (u2.at (by simp) c.dm) rfl dX11_renewMinds_68 ?_
  refine AX.getf (pc := 71) fX11_renewMinds_115 (lt_k (u2.le c.hn) (by omega)) (u2.at (by simp) eb) rfl dX11_renewMinds_71 ?_
  refine AX.iconst (pc := 74) (v := nI 1) dX11_renewMinds_74 (by decide) ?_
  refine AX.aaldN (pc := 75) (i := 1) (b := 67) (by decide) (lt_k (u2.le c.hn) (by omega)) (u2.at (by simp) e65) (by decide) (by decide) (q65 _ (by decide)) dX11_renewMinds_75 ?_
  refine AX.getf (pc := 76) fX11_renewMinds_125 (lt_k (u2.le c.hn) (by omega)) (u2.at (by simp) e67) rfl dX11_renewMinds_76 ?_
  refine AX.callV (pc := 79) (M2 := M_X4_become) (As := [.int (nI b.1), .int (nI b.2)]) (rest := []) (c_Mind_become w h2 b.1 b.2 l.hb.1 l.hb.2 (show 42 ≤ h2.1 by have := c.hn; have := u2.1; omega) (c.fa.same u2 (by simp) (by simp) (by simp) (by simp) (by simp)) (m1a.same u2 (by simp) (by simp) (by simp))) xc_X11_renewMinds__X4_become gX11_renewMinds_X4_become (ci := 3) rfl (lt_k (u2.le c.hn) (by omega)) (u2.at (by simp) m1a.2.2.2.1) rfl (Nat.le_of_ble_eq_true rfl) dX11_renewMinds_79 ?_
  rintro _ h3 ⟨rfl, s3, N1⟩
  have u3 : Same [1, 3, 10, 11, 12, 26, 27, 28] h h3 := (u2.wide (by decide)).trans (s3.wide (by decide))
  rw [decide_eq_false (fun q => q ⟨rfl, rfl⟩)]
  have R3 := R2.same s3 (by simp) (by simp) (by simp)
  have N0 := N0.same s3 (by simp) (by simp) (by simp)
  show AX w M_X11_renewMinds 0 0 82 [.ref 0, .int (bI false), .int (bI false), .null] [.int (bI false)] _ _
  refine AX.istore_n (pc := 82) (L' := [.ref 0, .int (bI false), .int (bI false), .int (bI false)]) dX11_renewMinds_82 (by decide) rfl ?_
  refine AX.iload_n (pc := 83) dX11_renewMinds_83 rfl ?_
  refine AX.if_eqB (pc := 84) (tgt := 94) dX11_renewMinds_84 (by decide) (fun hc84 => ?_) (fun q => absurd q (by decide))
  refine AX.iload_n (pc := 94) dX11_renewMinds_94 rfl ?_
  refine AX.if_neB (pc := 95) (tgt := 102) dX11_renewMinds_95 (by decide) (fun q => absurd q (by decide)) (fun hc95 => ?_)
  refine AX.iload_n (pc := 98) dX11_renewMinds_98 rfl ?_
  refine AX.if_eqB (pc := 99) (tgt := 111) dX11_renewMinds_99 (by decide) (fun hc99 => ?_) (fun q => absurd q (by decide))
  refine AX.iload_n (pc := 111) dX11_renewMinds_111 rfl ?_
  refine AX.if_neB (pc := 112) (tgt := 119) dX11_renewMinds_112 (by decide) (fun q => absurd q (by decide)) (fun hc112 => ?_)
  refine AX.iload_n (pc := 115) dX11_renewMinds_115 rfl ?_
  refine AX.if_eqB (pc := 116) (tgt := 128) dX11_renewMinds_116 (by decide) (fun hc116 => ?_) (fun q => absurd q (by decide))
  refine AX.iload_n (pc := 128) dX11_renewMinds_128 rfl ?_
  refine AX.if_neB (pc := 129) (tgt := 140) dX11_renewMinds_129 (by decide) (fun q => absurd q (by decide)) (fun hc129 => ?_)
  refine AX.iload_n (pc := 132) dX11_renewMinds_132 rfl ?_
  refine AX.if_neB (pc := 133) (tgt := 140) dX11_renewMinds_133 (by decide) (fun q => absurd q (by decide)) (fun hc133 => ?_)
  refine AX.iload_n (pc := 136) dX11_renewMinds_136 rfl ?_
  refine AX.if_eqB (pc := 137) (tgt := 147) dX11_renewMinds_137 (by decide) (fun hc137 => ?_) (fun q => absurd q (by decide))
  refine AX.vret (pc := 147) dX11_renewMinds_147 rfl (by decide) (by decide) ?_
  have hs := u3
  have x_hn := hs.le c.hn
  have x_dm := c.dm.same hs (by simp)
  have x_ru : _ := R3
  have x_fa := c.fa.same hs (by simp) (by simp) (by simp) (by simp) (by simp)
  have x_rs := c.rs.same hs (by simp) (by simp) (by simp) (by simp) (by simp) (by simp)
  have x_rw := c.rw.same hs (by simp) (by simp) (by simp) (by simp) (by simp)
  have x_rk := c.rk.same hs (by simp) (by simp) (by simp) (by simp) (by simp)
  have x_fi := c.fi.imp (fun z f => f.same hs (by simp) (by simp) (fun k _ => by simp <;> omega))
  have x_row := c.row.imp (fun z e => hs.at (by simp) e)
  have x_lg := c.lg.same hs (by simp) (by simp) (by simp) (by simp)
  have x_pi := c.pi.same hs (by simp) (by simp) (by simp) (by simp)
  have x_tp := c.tp.same hs (by simp) (by simp) (by simp)
  have x_pt := c.pt.same hs (by simp) (by simp)
  have x_rr := c.rr.same hs (by simp)
  have x_rq := fun k hk => (c.rq k hk).same hs (by simp <;> omega) (by simp <;> omega)
  have x_ro := c.ro.imp (fun z e => hs.at (by simp) e)
  exact ⟨rfl, u3.wide (by decide), ⟨x_hn, x_dm, R3, x_fa, ⟨dk0, ck0, fn0, N0, m0b.same hs (by simp) (by simp), m0c.same hs (by simp) (by simp) (by simp <;> omega), hs.at (by simp) m0d⟩, ⟨dk1, ck1, fn1, N1, m1b.same hs (by simp) (by simp), m1c.same hs (by simp) (by simp) (by simp <;> omega), hs.at (by simp) m1d⟩, x_rs, x_rw, x_rk, x_fi, x_row, x_lg, x_pi, x_tp, x_pt, x_rr, x_rq, x_ro⟩⟩
theorem c_renew_F01 (w : XW) (h : XH) {s : SS} {n o : Nat} {a b b' : Nat × Nat} (c : CSo h s o a b) (l : LV (sq s) n o a b') (hB : ¬ b' = b) : CA w M_X11_renewMinds [.ref 0] h (fun v h' => v = none ∧ Same [1, 3, 10, 11, 12, 26, 27, 28, 49, 57] h h' ∧ CSo h' s o a b') := by
  refine CA.of (by decide) rfl (fun _ => Nat.le_of_ble_eq_true rfl) ?_
  obtain ⟨dk0, ck0, fn0, m0a, m0b, m0c, m0d⟩ := id c.m0
  obtain ⟨dk1, ck1, fn1, m1a, m1b, m1c, m1d⟩ := id c.m1
  obtain ⟨z, fi⟩ := id c.fi
  obtain ⟨f9, e9_, q9⟩ := id c.rs.2.1
  obtain ⟨f65, e65, q65⟩ := id c.lg.2.1
  have eb := c.lg.1
  rw [l.q12] at eb
  have e66 := c.lg.2.2.1
  rw [l.q0, l.q2] at e66
  have e67 := c.lg.2.2.2
  rw [l.q1, l.q3] at e67
  show AX w M_X11_renewMinds 0 0 0 [.ref 0, .null, .null, .null] [] h _
  refine AX.aload_n (pc := 0) dX11_renewMinds_0 rfl ?_
  refine AX.getf (pc := 1) fX11_renewMinds_18 (lt_k c.hn (by omega)) c.dm rfl dX11_renewMinds_1 ?_
  refine AX.aload_n (pc := 4) dX11_renewMinds_4 rfl ?_
  refine AX.getf (pc := 5) fX11_renewMinds_53 (lt_k c.hn (by omega)) c.dm rfl dX11_renewMinds_5 ?_
  refine AX.getf (pc := 8) fX11_renewMinds_147 (lt_k c.hn (by omega)) eb rfl dX11_renewMinds_8 ?_
  refine AX.callV (pc := 11) (M2 := M_X9_become) (As := [.int (nI o)]) (rest := []) (c_Rules_become w h (by have := c.hn; omega) c.ru o l.ho) xc_X11_renewMinds__X9_become gX11_renewMinds_X9_become (ci := 8) rfl (lt_k c.hn (by omega)) c.ru.2.1 rfl (Nat.le_of_ble_eq_true rfl) dX11_renewMinds_11 ?_
  rintro _ h1 ⟨rfl, s1, R1⟩
  have u1 : Same [1, 3] h h1 := s1
  rw [decide_eq_false (fun q => q rfl)]
  show AX w M_X11_renewMinds 0 0 14 [.ref 0, .null, .null, .null] [.int (bI false)] _ _
  refine AX.istore_n (pc := 14) (L' := [.ref 0, .int (bI false), .null, .null]) dX11_renewMinds_14 (by decide) rfl ?_
  refine AX.aload_n (pc := 15) dX11_renewMinds_15 rfl ?_
  refine AX.getf (pc := 16) fX11_renewMinds_28 (lt_k (u1.le c.hn) (by omega)) (u1.at (by simp) c.dm) rfl dX11_renewMinds_16 ?_
  refine AX.iconst (pc := 19) (v := nI 0) dX11_renewMinds_19 (by decide) ?_
  refine AX.aaldN (pc := 20) (i := 0) (b := 10) (by decide) (lt_k (u1.le c.hn) (by omega)) (u1.at (by simp) e9_) (by decide) (by decide) (q9 _ (by decide)) dX11_renewMinds_20 ?_
  refine AX.aload_n (pc := 21) dX11_renewMinds_21 rfl ?_
  refine AX.getf (pc := 22) fX11_renewMinds_53 (lt_k (u1.le c.hn) (by omega)) (u1.at (by simp) c.dm) rfl dX11_renewMinds_22 ?_
  refine AX.getf (pc := 25) fX11_renewMinds_115 (lt_k (u1.le c.hn) (by omega)) (u1.at (by simp) eb) rfl dX11_renewMinds_25 ?_
  refine AX.iconst (pc := 28) (v := nI 0) dX11_renewMinds_28 (by decide) ?_
  refine AX.aaldN (pc := 29) (i := 0) (b := 66) (by decide) (lt_k (u1.le c.hn) (by omega)) (u1.at (by simp) e65) (by decide) (by decide) (q65 _ (by decide)) dX11_renewMinds_29 ?_
  refine AX.getf (pc := 30) fX11_renewMinds_119 (lt_k (u1.le c.hn) (by omega)) (u1.at (by simp) e66) rfl dX11_renewMinds_30 ?_
  refine AX.aload_n (pc := 33) dX11_renewMinds_33 rfl ?_
  refine AX.getf (pc := 34) fX11_renewMinds_53 (lt_k (u1.le c.hn) (by omega)) (u1.at (by simp) c.dm) rfl dX11_renewMinds_34 ?_
  refine AX.getf (pc := 37) fX11_renewMinds_115 (lt_k (u1.le c.hn) (by omega)) (u1.at (by simp) eb) rfl dX11_renewMinds_37 ?_
  refine AX.iconst (pc := 40) (v := nI 0) dX11_renewMinds_40 (by decide) ?_
  refine AX.aaldN (pc := 41) (i := 0) (b := 66) (by decide) (lt_k (u1.le c.hn) (by omega)) (u1.at (by simp) e65) (by decide) (by decide) (q65 _ (by decide)) dX11_renewMinds_41 ?_
  refine AX.getf (pc := 42) fX11_renewMinds_125 (lt_k (u1.le c.hn) (by omega)) (u1.at (by simp) e66) rfl dX11_renewMinds_42 ?_
  refine AX.callV (pc := 45) (M2 := M_X4_become) (As := [.int (nI a.1), .int (nI a.2)]) (rest := []) (c_Mind_become w h1 a.1 a.2 l.ha.1 l.ha.2 (show 42 ≤ h1.1 by have := c.hn; have := u1.1; omega) (c.fa.same u1 (by simp) (by simp) (by simp) (by simp) (by simp)) (m0a.same u1 (by simp) (by simp) (by simp))) xc_X11_renewMinds__X4_become gX11_renewMinds_X4_become (ci := 3) rfl (lt_k (u1.le c.hn) (by omega)) (u1.at (by simp) m0a.2.2.2.1) rfl (Nat.le_of_ble_eq_true rfl) dX11_renewMinds_45 ?_
  rintro _ h2 ⟨rfl, s2, N0⟩
  have u2 : Same [1, 3, 10, 11, 12] h h2 := (u1.wide (by decide)).trans (s2.wide (by decide))
  rw [decide_eq_false (fun q => q ⟨rfl, rfl⟩)]
  have R2 := R1.same s2 (by simp) (by simp) (by simp)
  show AX w M_X11_renewMinds 0 0 48 [.ref 0, .int (bI false), .null, .null] [.int (bI false)] _ _
  refine AX.istore_n (pc := 48) (L' := [.ref 0, .int (bI false), .int (bI false), .null]) dX11_renewMinds_48 (by decide) rfl ?_
  refine AX.aload_n (pc := 49) dX11_renewMinds_49 rfl ?_
  refine AX.getf (pc := 50) fX11_renewMinds_28 (lt_k (u2.le c.hn) (by omega)) (u2.at (by simp) c.dm) rfl dX11_renewMinds_50 ?_
  refine AX.iconst (pc := 53) (v := nI 1) dX11_renewMinds_53 (by decide) ?_
  refine AX.aaldN (pc := 54) (i := 1) (b := 26) (by decide) (lt_k (u2.le c.hn) (by omega)) (u2.at (by simp) e9_) (by decide) (by decide) (q9 _ (by decide)) dX11_renewMinds_54 ?_
  refine AX.aload_n (pc := 55) dX11_renewMinds_55 rfl ?_
  refine AX.getf (pc := 56) fX11_renewMinds_53 (lt_k (u2.le c.hn) (by omega)) (u2.at (by simp) c.dm) rfl dX11_renewMinds_56 ?_
  refine AX.getf (pc := 59) fX11_renewMinds_115 (lt_k (u2.le c.hn) (by omega)) (u2.at (by simp) eb) rfl dX11_renewMinds_59 ?_
  refine AX.iconst (pc := 62) (v := nI 1) dX11_renewMinds_62 (by decide) ?_
  refine AX.aaldN (pc := 63) (i := 1) (b := 67) (by decide) (lt_k (u2.le c.hn) (by omega)) (u2.at (by simp) e65) (by decide) (by decide) (q65 _ (by decide)) dX11_renewMinds_63 ?_
  refine AX.getf (pc := 64) fX11_renewMinds_119 (lt_k (u2.le c.hn) (by omega)) (u2.at (by simp) e67) rfl dX11_renewMinds_64 ?_
  refine AX.aload_n (pc := 67) dX11_renewMinds_67 rfl ?_
  refine AX.getf (pc := 68) fX11_renewMinds_53 (lt_k (u2.le c.hn) (by omega)) (u2.at (by simp) c.dm) rfl dX11_renewMinds_68 ?_
  refine AX.getf (pc := 71) fX11_renewMinds_115 (lt_k (u2.le c.hn) (by omega)) (u2.at (by simp) eb) rfl dX11_renewMinds_71 ?_
  refine AX.iconst (pc := 74) (v := nI 1) dX11_renewMinds_74 (by decide) ?_
  refine AX.aaldN (pc := 75) (i := 1) (b := 67) (by decide) (lt_k (u2.le c.hn) (by omega)) (u2.at (by simp) e65) (by decide) (by decide) (q65 _ (by decide)) dX11_renewMinds_75 ?_
  refine AX.getf (pc := 76) fX11_renewMinds_125 (lt_k (u2.le c.hn) (by omega)) (u2.at (by simp) e67) rfl dX11_renewMinds_76 ?_
  refine AX.callV (pc := 79) (M2 := M_X4_become) (As := [.int (nI b'.1), .int (nI b'.2)]) (rest := []) (c_Mind_become w h2 b'.1 b'.2 l.hb.1 l.hb.2 (show 42 ≤ h2.1 by have := c.hn; have := u2.1; omega) (c.fa.same u2 (by simp) (by simp) (by simp) (by simp) (by simp)) (m1a.same u2 (by simp) (by simp) (by simp))) xc_X11_renewMinds__X4_become gX11_renewMinds_X4_become (ci := 3) rfl (lt_k (u2.le c.hn) (by omega)) (u2.at (by simp) m1a.2.2.2.1) rfl (Nat.le_of_ble_eq_true rfl) dX11_renewMinds_79 ?_
  rintro _ h3 ⟨rfl, s3, N1⟩
  have u3 : Same [1, 3, 10, 11, 12, 26, 27, 28] h h3 := (u2.wide (by decide)).trans (s3.wide (by decide))
  rw [decide_eq_true (show ¬ (b'.1 = b.1 ∧ b'.2 = b.2) from fun q => hB (Prod.ext q.1 q.2))]
  have R3 := R2.same s3 (by simp) (by simp) (by simp)
  have N0 := N0.same s3 (by simp) (by simp) (by simp)
  show AX w M_X11_renewMinds 0 0 82 [.ref 0, .int (bI false), .int (bI false), .null] [.int (bI true)] _ _
  refine AX.istore_n (pc := 82) (L' := [.ref 0, .int (bI false), .int (bI false), .int (bI true)]) dX11_renewMinds_82 (by decide) rfl ?_
  refine AX.iload_n (pc := 83) dX11_renewMinds_83 rfl ?_
  refine AX.if_eqB (pc := 84) (tgt := 94) dX11_renewMinds_84 (by decide) (fun hc84 => ?_) (fun q => absurd q (by decide))
  refine AX.iload_n (pc := 94) dX11_renewMinds_94 rfl ?_
  refine AX.if_neB (pc := 95) (tgt := 102) dX11_renewMinds_95 (by decide) (fun q => absurd q (by decide)) (fun hc95 => ?_)
  refine AX.iload_n (pc := 98) dX11_renewMinds_98 rfl ?_
  refine AX.if_eqB (pc := 99) (tgt := 111) dX11_renewMinds_99 (by decide) (fun hc99 => ?_) (fun q => absurd q (by decide))
  refine AX.iload_n (pc := 111) dX11_renewMinds_111 rfl ?_
  refine AX.if_neB (pc := 112) (tgt := 119) dX11_renewMinds_112 (by decide) (fun q => absurd q (by decide)) (fun hc112 => ?_)
  refine AX.iload_n (pc := 115) dX11_renewMinds_115 rfl ?_
  refine AX.if_eqB (pc := 116) (tgt := 128) dX11_renewMinds_116 (by decide) (fun q => absurd q (by decide)) (fun hc116 => ?_)
  refine AX.aload_n (pc := 119) dX11_renewMinds_119 rfl ?_
  refine AX.getf (pc := 120) fX11_renewMinds_28 (lt_k (u3.le c.hn) (by omega)) (u3.at (by simp) c.dm) rfl dX11_renewMinds_120 ?_
  refine AX.iconst (pc := 123) (v := nI 1) dX11_renewMinds_123 (by decide) ?_
  refine AX.aaldN (pc := 124) (i := 1) (b := 26) (by decide) (lt_k (u3.le c.hn) (by omega)) (u3.at (by simp) e9_) (by decide) (by decide) (q9 _ (by decide)) dX11_renewMinds_124 ?_
  refine AX.callV (pc := 125) (M2 := M_X4_forget) (As := []) (rest := []) (c_Mind_forget w h3 (show 26 + 3 ≤ h3.1 by have := c.hn; have := u3.1; omega) R3 N1) xc_X11_renewMinds__X4_forget gX11_renewMinds_X4_forget (ci := 3) rfl (lt_k (u3.le c.hn) (by omega)) N1.2.2.2.1 rfl (Nat.le_of_ble_eq_true rfl) dX11_renewMinds_125 ?_
  rintro _ h4 ⟨rfl, s4, N1⟩
  have u4 : Same [1, 3, 10, 11, 12, 26, 27, 28] h h4 := (u3.wide (by decide)).trans (s4.wide (by decide))
  have R4 := R3.same s4 (by simp) (by simp) (by simp)
  have N0 := N0.same s4 (by simp) (by simp) (by simp)
  show AX w M_X11_renewMinds 0 0 128 [.ref 0, .int (bI false), .int (bI false), .int (bI true)] [] _ _
  refine AX.iload_n (pc := 128) dX11_renewMinds_128 rfl ?_
  refine AX.if_neB (pc := 129) (tgt := 140) dX11_renewMinds_129 (by decide) (fun q => absurd q (by decide)) (fun hc129 => ?_)
  refine AX.iload_n (pc := 132) dX11_renewMinds_132 rfl ?_
  refine AX.if_neB (pc := 133) (tgt := 140) dX11_renewMinds_133 (by decide) (fun q => absurd q (by decide)) (fun hc133 => ?_)
  refine AX.iload_n (pc := 136) dX11_renewMinds_136 rfl ?_
  refine AX.if_eqB (pc := 137) (tgt := 147) dX11_renewMinds_137 (by decide) (fun q => absurd q (by decide)) (fun hc137 => ?_)
  refine AX.aload_n (pc := 140) dX11_renewMinds_140 rfl ?_
  refine AX.getf (pc := 141) fX11_renewMinds_37 (lt_k (u4.le c.hn) (by omega)) (u4.at (by simp) c.dm) rfl dX11_renewMinds_141 ?_
  refine AX.callV (pc := 144) (M2 := M_X7_forget) (As := []) (rest := []) (c_rForget w h4 (o' := o) (H' := hh a b') (show 57 ≤ h4.1 by have := c.hn; have := u4.1; omega) (c.rs.same u4 (by simp) (by simp) (by simp) (by simp) (by simp) (by simp)) (c.rk.same u4 (by simp) (by simp) (by simp) (by simp) (by simp))) xc_X11_renewMinds__X7_forget gX11_renewMinds_X7_forget (ci := 6) rfl (lt_k (u4.le c.hn) (by omega)) (u4.at (by simp) c.rs.1) rfl (Nat.le_of_ble_eq_true rfl) dX11_renewMinds_144 ?_
  rintro _ h5 ⟨rfl, s5, K⟩
  have u5 : Same [1, 3, 10, 11, 12, 26, 27, 28, 49] h h5 := (u4.wide (by decide)).trans (s5.wide (by decide))
  have R5 := R4.same s5 (by simp) (by simp) (by simp)
  have N0 := N0.same s5 (by simp) (by simp) (by simp)
  have N1 := N1.same s5 (by simp) (by simp) (by simp)
  show AX w M_X11_renewMinds 0 0 147 [.ref 0, .int (bI false), .int (bI false), .int (bI true)] [] _ _
  refine AX.vret (pc := 147) dX11_renewMinds_147 rfl (by decide) (by decide) ?_
  have hs := u5
  have x_hn := hs.le c.hn
  have x_dm := c.dm.same hs (by simp)
  have x_ru : _ := R5
  have x_fa := c.fa.same hs (by simp) (by simp) (by simp) (by simp) (by simp)
  have x_rs := c.rs.same hs (by simp) (by simp) (by simp) (by simp) (by simp) (by simp)
  have x_rw := c.rw.same hs (by simp) (by simp) (by simp) (by simp) (by simp)
  have x_rk : _ := K
  have x_fi := c.fi.imp (fun z f => f.same hs (by simp) (by simp) (fun k _ => by simp <;> omega))
  have x_row := c.row.imp (fun z e => hs.at (by simp) e)
  have x_lg := c.lg.same hs (by simp) (by simp) (by simp) (by simp)
  have x_pi := c.pi.same hs (by simp) (by simp) (by simp) (by simp)
  have x_tp := c.tp.same hs (by simp) (by simp) (by simp)
  have x_pt := c.pt.same hs (by simp) (by simp)
  have x_rr := c.rr.same hs (by simp)
  have x_rq := fun k hk => (c.rq k hk).same hs (by simp <;> omega) (by simp <;> omega)
  have x_ro := c.ro.imp (fun z e => hs.at (by simp) e)
  exact ⟨rfl, u5.wide (by decide), ⟨x_hn, x_dm, R5, x_fa, ⟨dk0, ck0, fn0, N0, m0b.same hs (by simp) (by simp), m0c.same hs (by simp) (by simp) (by simp <;> omega), hs.at (by simp) m0d⟩, ⟨_, _, fn1, N1, m1b.fresh hs (by simp) (by simp), m1c.fresh hs (by simp) (by simp) (by simp <;> omega), hs.at (by simp) m1d⟩, x_rs, x_rw, K, x_fi, x_row, x_lg, x_pi, x_tp, x_pt, x_rr, x_rq, x_ro⟩⟩
theorem c_renew_F10 (w : XW) (h : XH) {s : SS} {n o : Nat} {a b a' : Nat × Nat} (c : CSo h s o a b) (l : LV (sq s) n o a' b) (hA : ¬ a' = a) : CA w M_X11_renewMinds [.ref 0] h (fun v h' => v = none ∧ Same [1, 3, 10, 11, 12, 26, 27, 28, 49, 57] h h' ∧ CSo h' s o a' b) := by
  refine CA.of (by decide) rfl (fun _ => Nat.le_of_ble_eq_true rfl) ?_
  obtain ⟨dk0, ck0, fn0, m0a, m0b, m0c, m0d⟩ := id c.m0
  obtain ⟨dk1, ck1, fn1, m1a, m1b, m1c, m1d⟩ := id c.m1
  obtain ⟨z, fi⟩ := id c.fi
  obtain ⟨f9, e9_, q9⟩ := id c.rs.2.1
  obtain ⟨f65, e65, q65⟩ := id c.lg.2.1
  have eb := c.lg.1
  rw [l.q12] at eb
  have e66 := c.lg.2.2.1
  rw [l.q0, l.q2] at e66
  have e67 := c.lg.2.2.2
  rw [l.q1, l.q3] at e67
  show AX w M_X11_renewMinds 0 0 0 [.ref 0, .null, .null, .null] [] h _
  refine AX.aload_n (pc := 0) dX11_renewMinds_0 rfl ?_
  refine AX.getf (pc := 1) fX11_renewMinds_18 (lt_k c.hn (by omega)) c.dm rfl dX11_renewMinds_1 ?_
  refine AX.aload_n (pc := 4) dX11_renewMinds_4 rfl ?_
  refine AX.getf (pc := 5) fX11_renewMinds_53 (lt_k c.hn (by omega)) c.dm rfl dX11_renewMinds_5 ?_
  refine AX.getf (pc := 8) fX11_renewMinds_147 (lt_k c.hn (by omega)) eb rfl dX11_renewMinds_8 ?_
  refine AX.callV (pc := 11) (M2 := M_X9_become) (As := [.int (nI o)]) (rest := []) (c_Rules_become w h (by have := c.hn; omega) c.ru o l.ho) xc_X11_renewMinds__X9_become gX11_renewMinds_X9_become (ci := 8) rfl (lt_k c.hn (by omega)) c.ru.2.1 rfl (Nat.le_of_ble_eq_true rfl) dX11_renewMinds_11 ?_
  rintro _ h1 ⟨rfl, s1, R1⟩
  have u1 : Same [1, 3] h h1 := s1
  rw [decide_eq_false (fun q => q rfl)]
  show AX w M_X11_renewMinds 0 0 14 [.ref 0, .null, .null, .null] [.int (bI false)] _ _
  refine AX.istore_n (pc := 14) (L' := [.ref 0, .int (bI false), .null, .null]) dX11_renewMinds_14 (by decide) rfl ?_
  refine AX.aload_n (pc := 15) dX11_renewMinds_15 rfl ?_
  refine AX.getf (pc := 16) fX11_renewMinds_28 (lt_k (u1.le c.hn) (by omega)) (u1.at (by simp) c.dm) rfl dX11_renewMinds_16 ?_
  refine AX.iconst (pc := 19) (v := nI 0) dX11_renewMinds_19 (by decide) ?_
  refine AX.aaldN (pc := 20) (i := 0) (b := 10) (by decide) (lt_k (u1.le c.hn) (by omega)) (u1.at (by simp) e9_) (by decide) (by decide) (q9 _ (by decide)) dX11_renewMinds_20 ?_
  refine AX.aload_n (pc := 21) dX11_renewMinds_21 rfl ?_
  refine AX.getf (pc := 22) fX11_renewMinds_53 (lt_k (u1.le c.hn) (by omega)) (u1.at (by simp) c.dm) rfl dX11_renewMinds_22 ?_
  refine AX.getf (pc := 25) fX11_renewMinds_115 (lt_k (u1.le c.hn) (by omega)) (u1.at (by simp) eb) rfl dX11_renewMinds_25 ?_
  refine AX.iconst (pc := 28) (v := nI 0) dX11_renewMinds_28 (by decide) ?_
  refine AX.aaldN (pc := 29) (i := 0) (b := 66) (by decide) (lt_k (u1.le c.hn) (by omega)) (u1.at (by simp) e65) (by decide) (by decide) (q65 _ (by decide)) dX11_renewMinds_29 ?_
  refine AX.getf (pc := 30) fX11_renewMinds_119 (lt_k (u1.le c.hn) (by omega)) (u1.at (by simp) e66) rfl dX11_renewMinds_30 ?_
  refine AX.aload_n (pc := 33) dX11_renewMinds_33 rfl ?_
  refine AX.getf (pc := 34) fX11_renewMinds_53 (lt_k (u1.le c.hn) (by omega)) (u1.at (by simp) c.dm) rfl dX11_renewMinds_34 ?_
  refine AX.getf (pc := 37) fX11_renewMinds_115 (lt_k (u1.le c.hn) (by omega)) (u1.at (by simp) eb) rfl dX11_renewMinds_37 ?_
  refine AX.iconst (pc := 40) (v := nI 0) dX11_renewMinds_40 (by decide) ?_
  refine AX.aaldN (pc := 41) (i := 0) (b := 66) (by decide) (lt_k (u1.le c.hn) (by omega)) (u1.at (by simp) e65) (by decide) (by decide) (q65 _ (by decide)) dX11_renewMinds_41 ?_
  refine AX.getf (pc := 42) fX11_renewMinds_125 (lt_k (u1.le c.hn) (by omega)) (u1.at (by simp) e66) rfl dX11_renewMinds_42 ?_
  refine AX.callV (pc := 45) (M2 := M_X4_become) (As := [.int (nI a'.1), .int (nI a'.2)]) (rest := []) (c_Mind_become w h1 a'.1 a'.2 l.ha.1 l.ha.2 (show 42 ≤ h1.1 by have := c.hn; have := u1.1; omega) (c.fa.same u1 (by simp) (by simp) (by simp) (by simp) (by simp)) (m0a.same u1 (by simp) (by simp) (by simp))) xc_X11_renewMinds__X4_become gX11_renewMinds_X4_become (ci := 3) rfl (lt_k (u1.le c.hn) (by omega)) (u1.at (by simp) m0a.2.2.2.1) rfl (Nat.le_of_ble_eq_true rfl) dX11_renewMinds_45 ?_
  rintro _ h2 ⟨rfl, s2, N0⟩
  have u2 : Same [1, 3, 10, 11, 12] h h2 := (u1.wide (by decide)).trans (s2.wide (by decide))
  rw [decide_eq_true (show ¬ (a'.1 = a.1 ∧ a'.2 = a.2) from fun q => hA (Prod.ext q.1 q.2))]
  have R2 := R1.same s2 (by simp) (by simp) (by simp)
  show AX w M_X11_renewMinds 0 0 48 [.ref 0, .int (bI false), .null, .null] [.int (bI true)] _ _
  refine AX.istore_n (pc := 48) (L' := [.ref 0, .int (bI false), .int (bI true), .null]) dX11_renewMinds_48 (by decide) rfl ?_
  refine AX.aload_n (pc := 49) dX11_renewMinds_49 rfl ?_
  refine AX.getf (pc := 50) fX11_renewMinds_28 (lt_k (u2.le c.hn) (by omega)) (u2.at (by simp) c.dm) rfl dX11_renewMinds_50 ?_
  refine AX.iconst (pc := 53) (v := nI 1) dX11_renewMinds_53 (by decide) ?_
  refine AX.aaldN (pc := 54) (i := 1) (b := 26) (by decide) (lt_k (u2.le c.hn) (by omega)) (u2.at (by simp) e9_) (by decide) (by decide) (q9 _ (by decide)) dX11_renewMinds_54 ?_
  refine AX.aload_n (pc := 55) dX11_renewMinds_55 rfl ?_
  refine AX.getf (pc := 56) fX11_renewMinds_53 (lt_k (u2.le c.hn) (by omega)) (u2.at (by simp) c.dm) rfl dX11_renewMinds_56 ?_
  refine AX.getf (pc := 59) fX11_renewMinds_115 (lt_k (u2.le c.hn) (by omega)) (u2.at (by simp) eb) rfl dX11_renewMinds_59 ?_
  refine AX.iconst (pc := 62) (v := nI 1) dX11_renewMinds_62 (by decide) ?_
  refine AX.aaldN (pc := 63) (i := 1) (b := 67) (by decide) (lt_k (u2.le c.hn) (by omega)) (u2.at (by simp) e65) (by decide) (by decide) (q65 _ (by decide)) dX11_renewMinds_63 ?_
  refine AX.getf (pc := 64) fX11_renewMinds_119 (lt_k (u2.le c.hn) (by omega)) (u2.at (by simp) e67) rfl dX11_renewMinds_64 ?_
  refine AX.aload_n (pc := 67) dX11_renewMinds_67 rfl ?_
  refine AX.getf (pc := 68) fX11_renewMinds_53 (lt_k (u2.le c.hn) (by omega)) (u2.at (by simp) c.dm) rfl dX11_renewMinds_68 ?_
  refine AX.getf (pc := 71) fX11_renewMinds_115 (lt_k (u2.le c.hn) (by omega)) (u2.at (by simp) eb) rfl dX11_renewMinds_71 ?_
  refine AX.iconst (pc := 74) (v := nI 1) dX11_renewMinds_74 (by decide) ?_
  refine AX.aaldN (pc := 75) (i := 1) (b := 67) (by decide) (lt_k (u2.le c.hn) (by omega)) (u2.at (by simp) e65) (by decide) (by decide) (q65 _ (by decide)) dX11_renewMinds_75 ?_
  refine AX.getf (pc := 76) fX11_renewMinds_125 (lt_k (u2.le c.hn) (by omega)) (u2.at (by simp) e67) rfl dX11_renewMinds_76 ?_
  refine AX.callV (pc := 79) (M2 := M_X4_become) (As := [.int (nI b.1), .int (nI b.2)]) (rest := []) (c_Mind_become w h2 b.1 b.2 l.hb.1 l.hb.2 (show 42 ≤ h2.1 by have := c.hn; have := u2.1; omega) (c.fa.same u2 (by simp) (by simp) (by simp) (by simp) (by simp)) (m1a.same u2 (by simp) (by simp) (by simp))) xc_X11_renewMinds__X4_become gX11_renewMinds_X4_become (ci := 3) rfl (lt_k (u2.le c.hn) (by omega)) (u2.at (by simp) m1a.2.2.2.1) rfl (Nat.le_of_ble_eq_true rfl) dX11_renewMinds_79 ?_
  rintro _ h3 ⟨rfl, s3, N1⟩
  have u3 : Same [1, 3, 10, 11, 12, 26, 27, 28] h h3 := (u2.wide (by decide)).trans (s3.wide (by decide))
  rw [decide_eq_false (fun q => q ⟨rfl, rfl⟩)]
  have R3 := R2.same s3 (by simp) (by simp) (by simp)
  have N0 := N0.same s3 (by simp) (by simp) (by simp)
  show AX w M_X11_renewMinds 0 0 82 [.ref 0, .int (bI false), .int (bI true), .null] [.int (bI false)] _ _
  refine AX.istore_n (pc := 82) (L' := [.ref 0, .int (bI false), .int (bI true), .int (bI false)]) dX11_renewMinds_82 (by decide) rfl ?_
  refine AX.iload_n (pc := 83) dX11_renewMinds_83 rfl ?_
  refine AX.if_eqB (pc := 84) (tgt := 94) dX11_renewMinds_84 (by decide) (fun hc84 => ?_) (fun q => absurd q (by decide))
  refine AX.iload_n (pc := 94) dX11_renewMinds_94 rfl ?_
  refine AX.if_neB (pc := 95) (tgt := 102) dX11_renewMinds_95 (by decide) (fun q => absurd q (by decide)) (fun hc95 => ?_)
  refine AX.iload_n (pc := 98) dX11_renewMinds_98 rfl ?_
  refine AX.if_eqB (pc := 99) (tgt := 111) dX11_renewMinds_99 (by decide) (fun q => absurd q (by decide)) (fun hc99 => ?_)
  refine AX.aload_n (pc := 102) dX11_renewMinds_102 rfl ?_
  refine AX.getf (pc := 103) fX11_renewMinds_28 (lt_k (u3.le c.hn) (by omega)) (u3.at (by simp) c.dm) rfl dX11_renewMinds_103 ?_
  refine AX.iconst (pc := 106) (v := nI 0) dX11_renewMinds_106 (by decide) ?_
  refine AX.aaldN (pc := 107) (i := 0) (b := 10) (by decide) (lt_k (u3.le c.hn) (by omega)) (u3.at (by simp) e9_) (by decide) (by decide) (q9 _ (by decide)) dX11_renewMinds_107 ?_
  refine AX.callV (pc := 108) (M2 := M_X4_forget) (As := []) (rest := []) (c_Mind_forget w h3 (show 10 + 3 ≤ h3.1 by have := c.hn; have := u3.1; omega) R3 N0) xc_X11_renewMinds__X4_forget gX11_renewMinds_X4_forget (ci := 3) rfl (lt_k (u3.le c.hn) (by omega)) N0.2.2.2.1 rfl (Nat.le_of_ble_eq_true rfl) dX11_renewMinds_108 ?_
  rintro _ h4 ⟨rfl, s4, N0⟩
  have u4 : Same [1, 3, 10, 11, 12, 26, 27, 28] h h4 := (u3.wide (by decide)).trans (s4.wide (by decide))
  have R4 := R3.same s4 (by simp) (by simp) (by simp)
  have N1 := N1.same s4 (by simp) (by simp) (by simp)
  show AX w M_X11_renewMinds 0 0 111 [.ref 0, .int (bI false), .int (bI true), .int (bI false)] [] _ _
  refine AX.iload_n (pc := 111) dX11_renewMinds_111 rfl ?_
  refine AX.if_neB (pc := 112) (tgt := 119) dX11_renewMinds_112 (by decide) (fun q => absurd q (by decide)) (fun hc112 => ?_)
  refine AX.iload_n (pc := 115) dX11_renewMinds_115 rfl ?_
  refine AX.if_eqB (pc := 116) (tgt := 128) dX11_renewMinds_116 (by decide) (fun hc116 => ?_) (fun q => absurd q (by decide))
  refine AX.iload_n (pc := 128) dX11_renewMinds_128 rfl ?_
  refine AX.if_neB (pc := 129) (tgt := 140) dX11_renewMinds_129 (by decide) (fun q => absurd q (by decide)) (fun hc129 => ?_)
  refine AX.iload_n (pc := 132) dX11_renewMinds_132 rfl ?_
  refine AX.if_neB (pc := 133) (tgt := 140) dX11_renewMinds_133 (by decide) (fun hc133 => ?_) (fun q => absurd q (by decide))
  refine AX.aload_n (pc := 140) dX11_renewMinds_140 rfl ?_
  refine AX.getf (pc := 141) fX11_renewMinds_37 (lt_k (u4.le c.hn) (by omega)) (u4.at (by simp) c.dm) rfl dX11_renewMinds_141 ?_
  refine AX.callV (pc := 144) (M2 := M_X7_forget) (As := []) (rest := []) (c_rForget w h4 (o' := o) (H' := hh a' b) (show 57 ≤ h4.1 by have := c.hn; have := u4.1; omega) (c.rs.same u4 (by simp) (by simp) (by simp) (by simp) (by simp) (by simp)) (c.rk.same u4 (by simp) (by simp) (by simp) (by simp) (by simp))) xc_X11_renewMinds__X7_forget gX11_renewMinds_X7_forget (ci := 6) rfl (lt_k (u4.le c.hn) (by omega)) (u4.at (by simp) c.rs.1) rfl (Nat.le_of_ble_eq_true rfl) dX11_renewMinds_144 ?_
  rintro _ h5 ⟨rfl, s5, K⟩
  have u5 : Same [1, 3, 10, 11, 12, 26, 27, 28, 49] h h5 := (u4.wide (by decide)).trans (s5.wide (by decide))
  have R5 := R4.same s5 (by simp) (by simp) (by simp)
  have N0 := N0.same s5 (by simp) (by simp) (by simp)
  have N1 := N1.same s5 (by simp) (by simp) (by simp)
  show AX w M_X11_renewMinds 0 0 147 [.ref 0, .int (bI false), .int (bI true), .int (bI false)] [] _ _
  refine AX.vret (pc := 147) dX11_renewMinds_147 rfl (by decide) (by decide) ?_
  have hs := u5
  have x_hn := hs.le c.hn
  have x_dm := c.dm.same hs (by simp)
  have x_ru : _ := R5
  have x_fa := c.fa.same hs (by simp) (by simp) (by simp) (by simp) (by simp)
  have x_rs := c.rs.same hs (by simp) (by simp) (by simp) (by simp) (by simp) (by simp)
  have x_rw := c.rw.same hs (by simp) (by simp) (by simp) (by simp) (by simp)
  have x_rk : _ := K
  have x_fi := c.fi.imp (fun z f => f.same hs (by simp) (by simp) (fun k _ => by simp <;> omega))
  have x_row := c.row.imp (fun z e => hs.at (by simp) e)
  have x_lg := c.lg.same hs (by simp) (by simp) (by simp) (by simp)
  have x_pi := c.pi.same hs (by simp) (by simp) (by simp) (by simp)
  have x_tp := c.tp.same hs (by simp) (by simp) (by simp)
  have x_pt := c.pt.same hs (by simp) (by simp)
  have x_rr := c.rr.same hs (by simp)
  have x_rq := fun k hk => (c.rq k hk).same hs (by simp <;> omega) (by simp <;> omega)
  have x_ro := c.ro.imp (fun z e => hs.at (by simp) e)
  exact ⟨rfl, u5.wide (by decide), ⟨x_hn, x_dm, R5, x_fa, ⟨_, _, fn0, N0, m0b.fresh hs (by simp) (by simp), m0c.fresh hs (by simp) (by simp) (by simp <;> omega), hs.at (by simp) m0d⟩, ⟨dk1, ck1, fn1, N1, m1b.same hs (by simp) (by simp), m1c.same hs (by simp) (by simp) (by simp <;> omega), hs.at (by simp) m1d⟩, x_rs, x_rw, K, x_fi, x_row, x_lg, x_pi, x_tp, x_pt, x_rr, x_rq, x_ro⟩⟩
theorem c_renew_F11 (w : XW) (h : XH) {s : SS} {n o : Nat} {a b a' b' : Nat × Nat} (c : CSo h s o a b) (l : LV (sq s) n o a' b') (hA : ¬ a' = a) (hB : ¬ b' = b) : CA w M_X11_renewMinds [.ref 0] h (fun v h' => v = none ∧ Same [1, 3, 10, 11, 12, 26, 27, 28, 49, 57] h h' ∧ CSo h' s o a' b') := by
  refine CA.of (by decide) rfl (fun _ => Nat.le_of_ble_eq_true rfl) ?_
  obtain ⟨dk0, ck0, fn0, m0a, m0b, m0c, m0d⟩ := id c.m0
  obtain ⟨dk1, ck1, fn1, m1a, m1b, m1c, m1d⟩ := id c.m1
  obtain ⟨z, fi⟩ := id c.fi
  obtain ⟨f9, e9_, q9⟩ := id c.rs.2.1
  obtain ⟨f65, e65, q65⟩ := id c.lg.2.1
  have eb := c.lg.1
  rw [l.q12] at eb
  have e66 := c.lg.2.2.1
  rw [l.q0, l.q2] at e66
  have e67 := c.lg.2.2.2
  rw [l.q1, l.q3] at e67
  show AX w M_X11_renewMinds 0 0 0 [.ref 0, .null, .null, .null] [] h _
  refine AX.aload_n (pc := 0) dX11_renewMinds_0 rfl ?_
  refine AX.getf (pc := 1) fX11_renewMinds_18 (lt_k c.hn (by omega)) c.dm rfl dX11_renewMinds_1 ?_
  refine AX.aload_n (pc := 4) dX11_renewMinds_4 rfl ?_
  refine AX.getf (pc := 5) fX11_renewMinds_53 (lt_k c.hn (by omega)) c.dm rfl dX11_renewMinds_5 ?_
  refine AX.getf (pc := 8) fX11_renewMinds_147 (lt_k c.hn (by omega)) eb rfl dX11_renewMinds_8 ?_
  refine AX.callV (pc := 11) (M2 := M_X9_become) (As := [.int (nI o)]) (rest := []) (c_Rules_become w h (by have := c.hn; omega) c.ru o l.ho) xc_X11_renewMinds__X9_become gX11_renewMinds_X9_become (ci := 8) rfl (lt_k c.hn (by omega)) c.ru.2.1 rfl (Nat.le_of_ble_eq_true rfl) dX11_renewMinds_11 ?_
  rintro _ h1 ⟨rfl, s1, R1⟩
  have u1 : Same [1, 3] h h1 := s1
  rw [decide_eq_false (fun q => q rfl)]
  show AX w M_X11_renewMinds 0 0 14 [.ref 0, .null, .null, .null] [.int (bI false)] _ _
  refine AX.istore_n (pc := 14) (L' := [.ref 0, .int (bI false), .null, .null]) dX11_renewMinds_14 (by decide) rfl ?_
  refine AX.aload_n (pc := 15) dX11_renewMinds_15 rfl ?_
  refine AX.getf (pc := 16) fX11_renewMinds_28 (lt_k (u1.le c.hn) (by omega)) (u1.at (by simp) c.dm) rfl dX11_renewMinds_16 ?_
  refine AX.iconst (pc := 19) (v := nI 0) dX11_renewMinds_19 (by decide) ?_
  refine AX.aaldN (pc := 20) (i := 0) (b := 10) (by decide) (lt_k (u1.le c.hn) (by omega)) (u1.at (by simp) e9_) (by decide) (by decide) (q9 _ (by decide)) dX11_renewMinds_20 ?_
  refine AX.aload_n (pc := 21) dX11_renewMinds_21 rfl ?_
  refine AX.getf (pc := 22) fX11_renewMinds_53 (lt_k (u1.le c.hn) (by omega)) (u1.at (by simp) c.dm) rfl dX11_renewMinds_22 ?_
  refine AX.getf (pc := 25) fX11_renewMinds_115 (lt_k (u1.le c.hn) (by omega)) (u1.at (by simp) eb) rfl dX11_renewMinds_25 ?_
  refine AX.iconst (pc := 28) (v := nI 0) dX11_renewMinds_28 (by decide) ?_
  refine AX.aaldN (pc := 29) (i := 0) (b := 66) (by decide) (lt_k (u1.le c.hn) (by omega)) (u1.at (by simp) e65) (by decide) (by decide) (q65 _ (by decide)) dX11_renewMinds_29 ?_
  refine AX.getf (pc := 30) fX11_renewMinds_119 (lt_k (u1.le c.hn) (by omega)) (u1.at (by simp) e66) rfl dX11_renewMinds_30 ?_
  refine AX.aload_n (pc := 33) dX11_renewMinds_33 rfl ?_
  refine AX.getf (pc := 34) fX11_renewMinds_53 (lt_k (u1.le c.hn) (by omega)) (u1.at (by simp) c.dm) rfl dX11_renewMinds_34 ?_
  refine AX.getf (pc := 37) fX11_renewMinds_115 (lt_k (u1.le c.hn) (by omega)) (u1.at (by simp) eb) rfl dX11_renewMinds_37 ?_
  refine AX.iconst (pc := 40) (v := nI 0) dX11_renewMinds_40 (by decide) ?_
  refine AX.aaldN (pc := 41) (i := 0) (b := 66) (by decide) (lt_k (u1.le c.hn) (by omega)) (u1.at (by simp) e65) (by decide) (by decide) (q65 _ (by decide)) dX11_renewMinds_41 ?_
  refine AX.getf (pc := 42) fX11_renewMinds_125 (lt_k (u1.le c.hn) (by omega)) (u1.at (by simp) e66) rfl dX11_renewMinds_42 ?_
  refine AX.callV (pc := 45) (M2 := M_X4_become) (As := [.int (nI a'.1), .int (nI a'.2)]) (rest := []) (c_Mind_become w h1 a'.1 a'.2 l.ha.1 l.ha.2 (show 42 ≤ h1.1 by have := c.hn; have := u1.1; omega) (c.fa.same u1 (by simp) (by simp) (by simp) (by simp) (by simp)) (m0a.same u1 (by simp) (by simp) (by simp))) xc_X11_renewMinds__X4_become gX11_renewMinds_X4_become (ci := 3) rfl (lt_k (u1.le c.hn) (by omega)) (u1.at (by simp) m0a.2.2.2.1) rfl (Nat.le_of_ble_eq_true rfl) dX11_renewMinds_45 ?_
  rintro _ h2 ⟨rfl, s2, N0⟩
  have u2 : Same [1, 3, 10, 11, 12] h h2 := (u1.wide (by decide)).trans (s2.wide (by decide))
  rw [decide_eq_true (show ¬ (a'.1 = a.1 ∧ a'.2 = a.2) from fun q => hA (Prod.ext q.1 q.2))]
  have R2 := R1.same s2 (by simp) (by simp) (by simp)
  show AX w M_X11_renewMinds 0 0 48 [.ref 0, .int (bI false), .null, .null] [.int (bI true)] _ _
  refine AX.istore_n (pc := 48) (L' := [.ref 0, .int (bI false), .int (bI true), .null]) dX11_renewMinds_48 (by decide) rfl ?_
  refine AX.aload_n (pc := 49) dX11_renewMinds_49 rfl ?_
  refine AX.getf (pc := 50) fX11_renewMinds_28 (lt_k (u2.le c.hn) (by omega)) (u2.at (by simp) c.dm) rfl dX11_renewMinds_50 ?_
  refine AX.iconst (pc := 53) (v := nI 1) dX11_renewMinds_53 (by decide) ?_
  refine AX.aaldN (pc := 54) (i := 1) (b := 26) (by decide) (lt_k (u2.le c.hn) (by omega)) (u2.at (by simp) e9_) (by decide) (by decide) (q9 _ (by decide)) dX11_renewMinds_54 ?_
  refine AX.aload_n (pc := 55) dX11_renewMinds_55 rfl ?_
  refine AX.getf (pc := 56) fX11_renewMinds_53 (lt_k (u2.le c.hn) (by omega)) (u2.at (by simp) c.dm) rfl dX11_renewMinds_56 ?_
  refine AX.getf (pc := 59) fX11_renewMinds_115 (lt_k (u2.le c.hn) (by omega)) (u2.at (by simp) eb) rfl dX11_renewMinds_59 ?_
  refine AX.iconst (pc := 62) (v := nI 1) dX11_renewMinds_62 (by decide) ?_
  refine AX.aaldN (pc := 63) (i := 1) (b := 67) (by decide) (lt_k (u2.le c.hn) (by omega)) (u2.at (by simp) e65) (by decide) (by decide) (q65 _ (by decide)) dX11_renewMinds_63 ?_
  refine AX.getf (pc := 64) fX11_renewMinds_119 (lt_k (u2.le c.hn) (by omega)) (u2.at (by simp) e67) rfl dX11_renewMinds_64 ?_
  refine AX.aload_n (pc := 67) dX11_renewMinds_67 rfl ?_
  refine AX.getf (pc := 68) fX11_renewMinds_53 (lt_k (u2.le c.hn) (by omega)) (u2.at (by simp) c.dm) rfl dX11_renewMinds_68 ?_
  refine AX.getf (pc := 71) fX11_renewMinds_115 (lt_k (u2.le c.hn) (by omega)) (u2.at (by simp) eb) rfl dX11_renewMinds_71 ?_
  refine AX.iconst (pc := 74) (v := nI 1) dX11_renewMinds_74 (by decide) ?_
  refine AX.aaldN (pc := 75) (i := 1) (b := 67) (by decide) (lt_k (u2.le c.hn) (by omega)) (u2.at (by simp) e65) (by decide) (by decide) (q65 _ (by decide)) dX11_renewMinds_75 ?_
  refine AX.getf (pc := 76) fX11_renewMinds_125 (lt_k (u2.le c.hn) (by omega)) (u2.at (by simp) e67) rfl dX11_renewMinds_76 ?_
  refine AX.callV (pc := 79) (M2 := M_X4_become) (As := [.int (nI b'.1), .int (nI b'.2)]) (rest := []) (c_Mind_become w h2 b'.1 b'.2 l.hb.1 l.hb.2 (show 42 ≤ h2.1 by have := c.hn; have := u2.1; omega) (c.fa.same u2 (by simp) (by simp) (by simp) (by simp) (by simp)) (m1a.same u2 (by simp) (by simp) (by simp))) xc_X11_renewMinds__X4_become gX11_renewMinds_X4_become (ci := 3) rfl (lt_k (u2.le c.hn) (by omega)) (u2.at (by simp) m1a.2.2.2.1) rfl (Nat.le_of_ble_eq_true rfl) dX11_renewMinds_79 ?_
  rintro _ h3 ⟨rfl, s3, N1⟩
  have u3 : Same [1, 3, 10, 11, 12, 26, 27, 28] h h3 := (u2.wide (by decide)).trans (s3.wide (by decide))
  rw [decide_eq_true (show ¬ (b'.1 = b.1 ∧ b'.2 = b.2) from fun q => hB (Prod.ext q.1 q.2))]
  have R3 := R2.same s3 (by simp) (by simp) (by simp)
  have N0 := N0.same s3 (by simp) (by simp) (by simp)
  show AX w M_X11_renewMinds 0 0 82 [.ref 0, .int (bI false), .int (bI true), .null] [.int (bI true)] _ _
  refine AX.istore_n (pc := 82) (L' := [.ref 0, .int (bI false), .int (bI true), .int (bI true)]) dX11_renewMinds_82 (by decide) rfl ?_
  refine AX.iload_n (pc := 83) dX11_renewMinds_83 rfl ?_
  refine AX.if_eqB (pc := 84) (tgt := 94) dX11_renewMinds_84 (by decide) (fun hc84 => ?_) (fun q => absurd q (by decide))
  refine AX.iload_n (pc := 94) dX11_renewMinds_94 rfl ?_
  refine AX.if_neB (pc := 95) (tgt := 102) dX11_renewMinds_95 (by decide) (fun q => absurd q (by decide)) (fun hc95 => ?_)
  refine AX.iload_n (pc := 98) dX11_renewMinds_98 rfl ?_
  refine AX.if_eqB (pc := 99) (tgt := 111) dX11_renewMinds_99 (by decide) (fun q => absurd q (by decide)) (fun hc99 => ?_)
  refine AX.aload_n (pc := 102) dX11_renewMinds_102 rfl ?_
  refine AX.getf (pc := 103) fX11_renewMinds_28 (lt_k (u3.le c.hn) (by omega)) (u3.at (by simp) c.dm) rfl dX11_renewMinds_103 ?_
  refine AX.iconst (pc := 106) (v := nI 0) dX11_renewMinds_106 (by decide) ?_
  refine AX.aaldN (pc := 107) (i := 0) (b := 10) (by decide) (lt_k (u3.le c.hn) (by omega)) (u3.at (by simp) e9_) (by decide) (by decide) (q9 _ (by decide)) dX11_renewMinds_107 ?_
  refine AX.callV (pc := 108) (M2 := M_X4_forget) (As := []) (rest := []) (c_Mind_forget w h3 (show 10 + 3 ≤ h3.1 by have := c.hn; have := u3.1; omega) R3 N0) xc_X11_renewMinds__X4_forget gX11_renewMinds_X4_forget (ci := 3) rfl (lt_k (u3.le c.hn) (by omega)) N0.2.2.2.1 rfl (Nat.le_of_ble_eq_true rfl) dX11_renewMinds_108 ?_
  rintro _ h4 ⟨rfl, s4, N0⟩
  have u4 : Same [1, 3, 10, 11, 12, 26, 27, 28] h h4 := (u3.wide (by decide)).trans (s4.wide (by decide))
  have R4 := R3.same s4 (by simp) (by simp) (by simp)
  have N1 := N1.same s4 (by simp) (by simp) (by simp)
  show AX w M_X11_renewMinds 0 0 111 [.ref 0, .int (bI false), .int (bI true), .int (bI true)] [] _ _
  refine AX.iload_n (pc := 111) dX11_renewMinds_111 rfl ?_
  refine AX.if_neB (pc := 112) (tgt := 119) dX11_renewMinds_112 (by decide) (fun q => absurd q (by decide)) (fun hc112 => ?_)
  refine AX.iload_n (pc := 115) dX11_renewMinds_115 rfl ?_
  refine AX.if_eqB (pc := 116) (tgt := 128) dX11_renewMinds_116 (by decide) (fun q => absurd q (by decide)) (fun hc116 => ?_)
  refine AX.aload_n (pc := 119) dX11_renewMinds_119 rfl ?_
  refine AX.getf (pc := 120) fX11_renewMinds_28 (lt_k (u4.le c.hn) (by omega)) (u4.at (by simp) c.dm) rfl dX11_renewMinds_120 ?_
  refine AX.iconst (pc := 123) (v := nI 1) dX11_renewMinds_123 (by decide) ?_
  refine AX.aaldN (pc := 124) (i := 1) (b := 26) (by decide) (lt_k (u4.le c.hn) (by omega)) (u4.at (by simp) e9_) (by decide) (by decide) (q9 _ (by decide)) dX11_renewMinds_124 ?_
  refine AX.callV (pc := 125) (M2 := M_X4_forget) (As := []) (rest := []) (c_Mind_forget w h4 (show 26 + 3 ≤ h4.1 by have := c.hn; have := u4.1; omega) R4 N1) xc_X11_renewMinds__X4_forget gX11_renewMinds_X4_forget (ci := 3) rfl (lt_k (u4.le c.hn) (by omega)) N1.2.2.2.1 rfl (Nat.le_of_ble_eq_true rfl) dX11_renewMinds_125 ?_
  rintro _ h5 ⟨rfl, s5, N1⟩
  have u5 : Same [1, 3, 10, 11, 12, 26, 27, 28] h h5 := (u4.wide (by decide)).trans (s5.wide (by decide))
  have R5 := R4.same s5 (by simp) (by simp) (by simp)
  have N0 := N0.same s5 (by simp) (by simp) (by simp)
  show AX w M_X11_renewMinds 0 0 128 [.ref 0, .int (bI false), .int (bI true), .int (bI true)] [] _ _
  refine AX.iload_n (pc := 128) dX11_renewMinds_128 rfl ?_
  refine AX.if_neB (pc := 129) (tgt := 140) dX11_renewMinds_129 (by decide) (fun q => absurd q (by decide)) (fun hc129 => ?_)
  refine AX.iload_n (pc := 132) dX11_renewMinds_132 rfl ?_
  refine AX.if_neB (pc := 133) (tgt := 140) dX11_renewMinds_133 (by decide) (fun hc133 => ?_) (fun q => absurd q (by decide))
  refine AX.aload_n (pc := 140) dX11_renewMinds_140 rfl ?_
  refine AX.getf (pc := 141) fX11_renewMinds_37 (lt_k (u5.le c.hn) (by omega)) (u5.at (by simp) c.dm) rfl dX11_renewMinds_141 ?_
  refine AX.callV (pc := 144) (M2 := M_X7_forget) (As := []) (rest := []) (c_rForget w h5 (o' := o) (H' := hh a' b') (show 57 ≤ h5.1 by have := c.hn; have := u5.1; omega) (c.rs.same u5 (by simp) (by simp) (by simp) (by simp) (by simp) (by simp)) (c.rk.same u5 (by simp) (by simp) (by simp) (by simp) (by simp))) xc_X11_renewMinds__X7_forget gX11_renewMinds_X7_forget (ci := 6) rfl (lt_k (u5.le c.hn) (by omega)) (u5.at (by simp) c.rs.1) rfl (Nat.le_of_ble_eq_true rfl) dX11_renewMinds_144 ?_
  rintro _ h6 ⟨rfl, s6, K⟩
  have u6 : Same [1, 3, 10, 11, 12, 26, 27, 28, 49] h h6 := (u5.wide (by decide)).trans (s6.wide (by decide))
  have R6 := R5.same s6 (by simp) (by simp) (by simp)
  have N0 := N0.same s6 (by simp) (by simp) (by simp)
  have N1 := N1.same s6 (by simp) (by simp) (by simp)
  show AX w M_X11_renewMinds 0 0 147 [.ref 0, .int (bI false), .int (bI true), .int (bI true)] [] _ _
  refine AX.vret (pc := 147) dX11_renewMinds_147 rfl (by decide) (by decide) ?_
  have hs := u6
  have x_hn := hs.le c.hn
  have x_dm := c.dm.same hs (by simp)
  have x_ru : _ := R6
  have x_fa := c.fa.same hs (by simp) (by simp) (by simp) (by simp) (by simp)
  have x_rs := c.rs.same hs (by simp) (by simp) (by simp) (by simp) (by simp) (by simp)
  have x_rw := c.rw.same hs (by simp) (by simp) (by simp) (by simp) (by simp)
  have x_rk : _ := K
  have x_fi := c.fi.imp (fun z f => f.same hs (by simp) (by simp) (fun k _ => by simp <;> omega))
  have x_row := c.row.imp (fun z e => hs.at (by simp) e)
  have x_lg := c.lg.same hs (by simp) (by simp) (by simp) (by simp)
  have x_pi := c.pi.same hs (by simp) (by simp) (by simp) (by simp)
  have x_tp := c.tp.same hs (by simp) (by simp) (by simp)
  have x_pt := c.pt.same hs (by simp) (by simp)
  have x_rr := c.rr.same hs (by simp)
  have x_rq := fun k hk => (c.rq k hk).same hs (by simp <;> omega) (by simp <;> omega)
  have x_ro := c.ro.imp (fun z e => hs.at (by simp) e)
  exact ⟨rfl, u6.wide (by decide), ⟨x_hn, x_dm, R6, x_fa, ⟨_, _, fn0, N0, m0b.fresh hs (by simp) (by simp), m0c.fresh hs (by simp) (by simp) (by simp <;> omega), hs.at (by simp) m0d⟩, ⟨_, _, fn1, N1, m1b.fresh hs (by simp) (by simp), m1c.fresh hs (by simp) (by simp) (by simp <;> omega), hs.at (by simp) m1d⟩, x_rs, x_rw, K, x_fi, x_row, x_lg, x_pi, x_tp, x_pt, x_rr, x_rq, x_ro⟩⟩
theorem c_renewMinds (w : XW) (h : XH) {s : SS} {n o o' : Nat} {a b a' b' : Nat × Nat} (c : CSo h s o a b) (l : LV (sq s) n o' a' b') : CA w M_X11_renewMinds [.ref 0] h (fun v h' => v = none ∧ Same [1, 3, 10, 11, 12, 26, 27, 28, 49, 57] h h' ∧ CSo h' s o' a' b') := by
  by_cases hO : o' = o
  · subst hO
    by_cases hA : a' = a
    · subst hA
      by_cases hB : b' = b
      · subst hB
        exact c_renew_F00 w h c l
      · exact c_renew_F01 w h c l hB
    · by_cases hB : b' = b
      · subst hB
        exact c_renew_F10 w h c l hA
      · exact c_renew_F11 w h c l hA hB
  · exact c_renew_T w h c l hO
