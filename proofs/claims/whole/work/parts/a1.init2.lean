/-! ===== CONSTRUCTORS: THE CLASS ===== -/
theorem iA.tr {h h' : XH} {k N : Nat} {g : Nat → Int32} (he : iA h k N g) (H : h'.2 k = h.2 k) : iA h' k N g := he.imp (fun _ z => ⟨H.trans z.1, z.2⟩)
theorem zA.tr {h h' : XH} {k N : Nat} {g : Nat → Int32} (he : zA h k N g) (H : h'.2 k = h.2 k) : zA h' k N g := he.imp (fun _ z => ⟨H.trans z.1, z.2⟩)
theorem dA.tr {h h' : XH} {k N : Nat} {g : Nat → UInt64} (he : dA h k N g) (H : h'.2 k = h.2 k) : dA h' k N g := he.imp (fun _ z => ⟨H.trans z.1, z.2⟩)
theorem rA.tr {h h' : XH} {k t N : Nat} {g : Nat → Option Nat} (he : rA h k t N g) (H : h'.2 k = h.2 k) : rA h' k t N g := he.imp (fun _ z => ⟨H.trans z.1, z.2⟩)
theorem RU.tr {h h' : XH} {o : Nat} (he : RU h o) (H : ∀ k, 1 ≤ k → k < 4 → h'.2 k = h.2 k) : RU h' o := ⟨he.1, (H 1 (by omega) (by omega)).trans he.2.1, he.2.2.1.tr (H 2 (by omega) (by omega)), he.2.2.2.tr (H 3 (by omega) (by omega))⟩
theorem FA.tr {h h' : XH} (he : FA h) (H : ∀ k, 4 ≤ k → k < 9 → h'.2 k = h.2 k) : FA h' := ⟨(H 4 (by omega) (by omega)).trans he.1, he.2.1.tr (H 5 (by omega) (by omega)), he.2.2.1.tr (H 6 (by omega) (by omega)), he.2.2.2.1.tr (H 7 (by omega) (by omega)), he.2.2.2.2.tr (H 8 (by omega) (by omega))⟩
theorem LG.tr {h h' : XH} {b : Nat} {q : Nat → Int32} (he : LG h b q) (H : ∀ k, b ≤ k → k < b + 4 → h'.2 k = h.2 k) : LG h' b q := ⟨(H b (by omega) (by omega)).trans he.1, he.2.1.tr (H _ (by omega) (by omega)), (H _ (by omega) (by omega)).trans he.2.2.1, (H _ (by omega) (by omega)).trans he.2.2.2⟩
theorem MM.tr {h h' : XH} {b o : Nat} {x : Nat × Nat} (m : MM h b o x) (H : ∀ k, b ≤ k → k < b + 16 → h'.2 k = h.2 k) : MM h' b o x := by
  obtain ⟨dk, ck, fn, ⟨a1, a2, a3, a4, a5, a6⟩, ⟨b1, b2, fd, fa, b3, b4, b5, b6⟩, ⟨c1, c2, c3, c4, c5⟩, m4⟩ := m
  refine ⟨dk, ck, fn, ⟨a1, a2, a3, (H _ (by omega) (by omega)).trans a4, a5.tr (H _ (by omega) (by omega)), a6.tr (H _ (by omega) (by omega))⟩, ⟨b1, b2, fd, fa, (H _ (by omega) (by omega)).trans b3, (H _ (by omega) (by omega)).trans b4, b5, b6⟩, ⟨c1, c2, c3.tr (H _ (by omega) (by omega)), c4.tr (H _ (by omega) (by omega)), fun k hk => ?_⟩, (H _ (by omega) (by omega)).trans m4⟩
  obtain ⟨fc, fa, y1, y2, y3⟩ := c5 k hk
  exact ⟨fc, fa, (H _ (by omega) (by omega)).trans y1, (H _ (by omega) (by omega)).trans y2, y3⟩
theorem RC0.tr {h h' : XH} (he : RC0 h) (H : ∀ k, 42 ≤ k → k < 57 → h'.2 k = h.2 k) : RC0 h' := by
  obtain ⟨e42, e43, e44, e45, e46, e47, e48, e49, e50, e51, e52, e53, e54, e55, e56⟩ := he
  exact ⟨(H 42 (by omega) (by omega)).trans e42, (H 43 (by omega) (by omega)).trans e43, (H 44 (by omega) (by omega)).trans e44, (H 45 (by omega) (by omega)).trans e45, (H 46 (by omega) (by omega)).trans e46, (H 47 (by omega) (by omega)).trans e47, (H 48 (by omega) (by omega)).trans e48, (H 49 (by omega) (by omega)).trans e49, (H 50 (by omega) (by omega)).trans e50, (H 51 (by omega) (by omega)).trans e51, (H 52 (by omega) (by omega)).trans e52, (H 53 (by omega) (by omega)).trans e53, (H 54 (by omega) (by omega)).trans e54, (H 55 (by omega) (by omega)).trans e55, (H 56 (by omega) (by omega)).trans e56⟩
theorem FC0.tr {h h' : XH} (he : FC0 h) (H : ∀ k, 57 ≤ k → k < 64 → h'.2 k = h.2 k) : FC0 h' := by
  obtain ⟨e57, e58, e59, e60, e61, e62, e63⟩ := he
  exact ⟨(H 57 (by omega) (by omega)).trans e57, (H 58 (by omega) (by omega)).trans e58, (H 59 (by omega) (by omega)).trans e59, (H 60 (by omega) (by omega)).trans e60, (H 61 (by omega) (by omega)).trans e61, (H 62 (by omega) (by omega)).trans e62, (H 63 (by omega) (by omega)).trans e63⟩
def ss0 : SS := (q0, q0, false, [], [], fun _ => none)
theorem c_iClass (w : XW) (h : XH) (hn : h.1 = 1) (e0 : h.2 0 = .inr (10, [.null, .null, .null, .null, .null, .null, .null, .int (nI 0), .null, .null, .null, .null])) : CA w M_X11_init [.ref 0] h (fun v' h' => v' = none ∧ h'.1 = 87 ∧ CSo h' ss0 1 (60, 80) (60, 80)) := by
  refine CA.of (by decide) rfl (fun _ => Nat.le_of_ble_eq_true rfl) ?_
  show AX w M_X11_init 0 0 0 [.ref 0, .null, .null, .null] [] h _
  refine AX.aload_n (pc := 0) dX11_init_0 rfl ?_
  refine AX.objInit (pc := 1) (by decide +kernel) (by decide +kernel) (by decide +kernel) (by decide) (by decide) dX11_init_1 ?_
  refine AX.new (pc := 4) (S := 1) (ci := 8) (T := TX9) (ty := tyX9) (fs := [.null, .null, .int (nI 0)]) hn rfl (by decide +kernel) tyX9_ok (by decide +kernel) (by decide +kernel) (by decide +kernel) dfX9 (by decide) (by decide) dX11_init_4 ?_
  refine AX.dup (pc := 7) dX11_init_7 rfl ?_
  have u0 : ∀ k, k < 1 → k ≠ 0 → k ≠ 9 → k ≠ 77 → (xnew h 1 (.inr (8, [.null, .null, .int (nI 0)]))).2 k = h.2 k := (fun k hk n0 n9 n77 => (xnew_ne (show k ≠ 1 by omega)).trans (rfl))
  refine AX.callI (pc := 8) (M2 := M_X9_init) (As := []) (rest := [.ref 1]) (ws2 := (mW M_X9_init).tail) (c_iRules w (xnew h 1 (.inr (8, [.null, .null, .int (nI 0)]))) rfl (xnew_same _ _ _)) ⟨rfl, hd_X9_init, ⟨by decide, by decide⟩, by decide, by decide⟩ rfl rfl gX11_init_X9_init (by decide +kernel) (by decide +kernel) (by decide +kernel) rfl (Nat.le_of_ble_eq_true rfl) dX11_init_8 ?_
  rintro _ h1 ⟨rfl, n1, o1, RU_1⟩
  have t1 : ∀ k, k < 1 → k ≠ 0 → k ≠ 9 → k ≠ 77 → h1.2 k = h.2 k := fun k hk a b c => (o1 k (by omega) (by omega)).trans (u0 k hk a b c)
  show AX w M_X11_init 3 129 11 [.ref 0, .null, .null, .null] [.ref 1] _ _
  refine AX.astore_n (pc := 11) (L' := [.ref 0, .ref 1, .null, .null]) dX11_init_11 (by decide) rfl ?_
  refine AX.new (pc := 12) (S := 4) (ci := 0) (T := TX1) (ty := tyX1) (fs := [.null, .null, .null, .null]) n1 rfl (by decide +kernel) tyX1_ok (by decide +kernel) (by decide +kernel) (by decide +kernel) dfX1 (by decide) (by decide) dX11_init_12 ?_
  refine AX.dup (pc := 15) dX11_init_15 rfl ?_
  have u1 : ∀ k, k < 4 → k ≠ 0 → k ≠ 9 → k ≠ 77 → (xnew h1 4 (.inr (0, [.null, .null, .null, .null]))).2 k = h1.2 k := (fun k hk n0 n9 n77 => (xnew_ne (show k ≠ 4 by omega)).trans (rfl))
  refine AX.callI (pc := 16) (M2 := M_X1_init) (As := []) (rest := [.ref 4]) (ws2 := (mW M_X1_init).tail) (c_iFalls w (xnew h1 4 (.inr (0, [.null, .null, .null, .null]))) rfl (xnew_same _ _ _)) ⟨rfl, hd_X1_init, ⟨by decide, by decide⟩, by decide, by decide⟩ rfl rfl gX11_init_X1_init (by decide +kernel) (by decide +kernel) (by decide +kernel) rfl (Nat.le_of_ble_eq_true rfl) dX11_init_16 ?_
  rintro _ h2 ⟨rfl, n2, o2, FA_2⟩
  have t2 : ∀ k, k < 4 → k ≠ 0 → k ≠ 9 → k ≠ 77 → h2.2 k = h1.2 k := fun k hk a b c => (o2 k (by omega) (by omega)).trans (u1 k hk a b c)
  have RU_2 : RU h2 1 := RU_1.tr (fun k l1 l2 => t2 k (by omega) (by omega) (by omega) (by omega))
  show AX w M_X11_init 8 1141 19 [.ref 0, .ref 1, .null, .null] [.ref 4] _ _
  refine AX.astore_n (pc := 19) (L' := [.ref 0, .ref 1, .ref 4, .null]) dX11_init_19 (by decide) rfl ?_
  refine AX.iconst (pc := 20) (v := nI 2) dX11_init_20 (by decide) ?_
  refine AX.anew (pc := 21) (t := 5) (S := 9) (N := 2) n2 (fun _ => rfl) (by decide +kernel) (fun _ x => x.2.2.2.2.1) (by decide) (by decide) (by decide) dX11_init_21 ?_
  refine AX.dup (pc := 24) dX11_init_24 rfl ?_
  refine AX.iconst (pc := 25) (v := nI 0) dX11_init_25 (by decide) ?_
  refine AX.new (pc := 26) (S := 10) (ci := 3) (T := TX4) (ty := tyX4) (fs := [.null, .null, .int (nI 0), .int (nI 0), .null, .null, .null, .null, .null, .int (nI 0), .null, .null, .int (nI 0)]) rfl rfl (by decide +kernel) tyX4_ok (by decide +kernel) (by decide +kernel) (by decide +kernel) dfX4 (by decide) (by decide) dX11_init_26 ?_
  refine AX.dup (pc := 29) dX11_init_29 rfl ?_
  refine AX.aload_n (pc := 30) dX11_init_30 rfl ?_
  refine AX.aload_n (pc := 31) dX11_init_31 rfl ?_
  have u2 : ∀ k, k < 9 → k ≠ 0 → k ≠ 9 → k ≠ 77 → (xnew (xnew h2 9 (.inl (5, 2, .inr (.inr (.inr (.inr (fun _ => none))))))) 10 (.inr (3, [.null, .null, .int (nI 0), .int (nI 0), .null, .null, .null, .null, .null, .int (nI 0), .null, .null, .int (nI 0)]))).2 k = h2.2 k := (fun k hk n0 n9 n77 => (xnew_ne (show k ≠ 10 by omega)).trans ((xnew_ne (show k ≠ 9 by omega)).trans (rfl)))
  have RUx2 : RU (xnew (xnew h2 9 (.inl (5, 2, .inr (.inr (.inr (.inr (fun _ => none))))))) 10 (.inr (3, [.null, .null, .int (nI 0), .int (nI 0), .null, .null, .null, .null, .null, .int (nI 0), .null, .null, .int (nI 0)]))) 1 := RU_2.tr (fun k l1 l2 => u2 k (by omega) (by omega) (by omega) (by omega))
  have FAx2 : FA (xnew (xnew h2 9 (.inl (5, 2, .inr (.inr (.inr (.inr (fun _ => none))))))) 10 (.inr (3, [.null, .null, .int (nI 0), .int (nI 0), .null, .null, .null, .null, .null, .int (nI 0), .null, .null, .int (nI 0)]))) := FA_2.tr (fun k l1 l2 => u2 k (by omega) (by omega) (by omega) (by omega))
  refine AX.callI (pc := 32) (M2 := M_X4_init) (As := [.ref 1, .ref 4]) (rest := [.ref 10, .int (nI 0), .ref 9, .ref 9]) (ws2 := (mW M_X4_init).tail) (c_iMind10 w (xnew (xnew h2 9 (.inl (5, 2, .inr (.inr (.inr (.inr (fun _ => none))))))) 10 (.inr (3, [.null, .null, .int (nI 0), .int (nI 0), .null, .null, .null, .null, .null, .int (nI 0), .null, .null, .int (nI 0)]))) rfl (xnew_same _ _ _) RUx2 FAx2) ⟨rfl, hd_X4_init, ⟨by decide, by decide⟩, by decide, by decide⟩ rfl rfl gX11_init_X4_init (by decide +kernel) (by decide +kernel) (by decide +kernel) rfl (Nat.le_of_ble_eq_true rfl) dX11_init_32 ?_
  rintro _ h3 ⟨rfl, n3, o3, M0_3⟩
  have t3 : ∀ k, k < 9 → k ≠ 0 → k ≠ 9 → k ≠ 77 → h3.2 k = h2.2 k := fun k hk a b c => (o3 k (by omega) (by omega)).trans (u2 k hk a b c)
  have RU_3 : RU h3 1 := RU_2.tr (fun k l1 l2 => t3 k (by omega) (by omega) (by omega) (by omega))
  have FA_3 : FA h3 := FA_2.tr (fun k l1 l2 => t3 k (by omega) (by omega) (by omega) (by omega))
  obtain ⟨dk3, ck3, fn3, mi3, -⟩ := id M0_3
  show AX w M_X11_init 25 4309 35 [.ref 0, .ref 1, .ref 4, .null] [.ref 10, .int (nI 0), .ref 9, .ref 9] _ _
  refine AX.aast (pc := 35) (i := 0) (T := TX4) (N2 := 13) (fun _ => rfl) rfl (lt_h (N := 26) n3 (by decide)) (lt_h (N := 26) n3 (by decide)) (o3.at (by decide) (by decide) ((xnew_ne (by decide)).trans (xnew_same _ _ _))) mi3.2.2.2.1 (by decide) (by decide) dX11_init_35 ?_
  refine AX.dup (pc := 36) dX11_init_36 rfl ?_
  refine AX.iconst (pc := 37) (v := nI 1) dX11_init_37 (by decide) ?_
  refine AX.new (pc := 38) (S := 26) (ci := 3) (T := TX4) (ty := tyX4) (fs := [.null, .null, .int (nI 0), .int (nI 0), .null, .null, .null, .null, .null, .int (nI 0), .null, .null, .int (nI 0)]) n3 rfl (by decide +kernel) tyX4_ok (by decide +kernel) (by decide +kernel) (by decide +kernel) dfX4 (by decide) (by decide) dX11_init_38 ?_
  refine AX.dup (pc := 41) dX11_init_41 rfl ?_
  refine AX.aload_n (pc := 42) dX11_init_42 rfl ?_
  refine AX.aload_n (pc := 43) dX11_init_43 rfl ?_
  have u3 : ∀ k, k < 26 → k ≠ 0 → k ≠ 9 → k ≠ 77 → (xnew (xset h3 9 (.inl (5, 2, .inr (.inr (.inr (.inr (fun q => if q = 0 then some 10 else (fun _ => none) q))))))) 26 (.inr (3, [.null, .null, .int (nI 0), .int (nI 0), .null, .null, .null, .null, .null, .int (nI 0), .null, .null, .int (nI 0)]))).2 k = h3.2 k := (fun k hk n0 n9 n77 => (xnew_ne (show k ≠ 26 by omega)).trans ((xset_ne (show k ≠ 9 by omega)).trans (rfl)))
  have RUx3 : RU (xnew (xset h3 9 (.inl (5, 2, .inr (.inr (.inr (.inr (fun q => if q = 0 then some 10 else (fun _ => none) q))))))) 26 (.inr (3, [.null, .null, .int (nI 0), .int (nI 0), .null, .null, .null, .null, .null, .int (nI 0), .null, .null, .int (nI 0)]))) 1 := RU_3.tr (fun k l1 l2 => u3 k (by omega) (by omega) (by omega) (by omega))
  have FAx3 : FA (xnew (xset h3 9 (.inl (5, 2, .inr (.inr (.inr (.inr (fun q => if q = 0 then some 10 else (fun _ => none) q))))))) 26 (.inr (3, [.null, .null, .int (nI 0), .int (nI 0), .null, .null, .null, .null, .null, .int (nI 0), .null, .null, .int (nI 0)]))) := FA_3.tr (fun k l1 l2 => u3 k (by omega) (by omega) (by omega) (by omega))
  refine AX.callI (pc := 44) (M2 := M_X4_init) (As := [.ref 1, .ref 4]) (rest := [.ref 26, .int (nI 1), .ref 9, .ref 9]) (ws2 := (mW M_X4_init).tail) (c_iMind26 w (xnew (xset h3 9 (.inl (5, 2, .inr (.inr (.inr (.inr (fun q => if q = 0 then some 10 else (fun _ => none) q))))))) 26 (.inr (3, [.null, .null, .int (nI 0), .int (nI 0), .null, .null, .null, .null, .null, .int (nI 0), .null, .null, .int (nI 0)]))) rfl (xnew_same _ _ _) RUx3 FAx3) ⟨rfl, hd_X4_init, ⟨by decide, by decide⟩, by decide, by decide⟩ rfl rfl gX11_init_X4_init (by decide +kernel) (by decide +kernel) (by decide +kernel) rfl (Nat.le_of_ble_eq_true rfl) dX11_init_44 ?_
  rintro _ h4 ⟨rfl, n4, o4, M1_4⟩
  have t4 : ∀ k, k < 26 → k ≠ 0 → k ≠ 9 → k ≠ 77 → h4.2 k = h3.2 k := fun k hk a b c => (o4 k (by omega) (by omega)).trans (u3 k hk a b c)
  have RU_4 : RU h4 1 := RU_3.tr (fun k l1 l2 => t4 k (by omega) (by omega) (by omega) (by omega))
  have FA_4 : FA h4 := FA_3.tr (fun k l1 l2 => t4 k (by omega) (by omega) (by omega) (by omega))
  have M0_4 : MM h4 10 1 (60, 80) := M0_3.tr (fun k l1 l2 => t4 k (by omega) (by omega) (by omega) (by omega))
  obtain ⟨dk4, ck4, fn4, mi4, -⟩ := id M1_4
  show AX w M_X11_init 41 7475 47 [.ref 0, .ref 1, .ref 4, .null] [.ref 26, .int (nI 1), .ref 9, .ref 9] _ _
  refine AX.aast (pc := 47) (i := 1) (T := TX4) (N2 := 13) (fun _ => rfl) rfl (lt_h (N := 42) n4 (by decide)) (lt_h (N := 42) n4 (by decide)) (o4.at (by decide) (by decide) ((xnew_ne (by decide)).trans (xset_same _ _ _))) mi4.2.2.2.1 (by decide) (by decide) dX11_init_47 ?_
  refine AX.astore_n (pc := 48) (L' := [.ref 0, .ref 1, .ref 4, .ref 9]) dX11_init_48 (by decide) rfl ?_
  refine AX.aload_n (pc := 49) dX11_init_49 rfl ?_
  refine AX.aload_n (pc := 50) dX11_init_50 rfl ?_
  refine AX.putF (pc := 51) (h := xset h4 9 (.inl (5, 2, .inr (.inr (.inr (.inr (fun q => if q = 1 then some 26 else (fun q => if q = 0 then some 10 else (fun _ => none) q) q))))))) (a := 0) (fs' := [.ref 1, .null, .null, .null, .null, .null, .null, .int (nI 0), .null, .null, .null, .null]) fX11_init_18 rfl rfl rfl (lt_h (N := 42) n4 (by decide)) ((xset_ne (by decide)).trans (o4.at (by decide) (by decide) ((xnew_ne (by decide)).trans ((xset_ne (by decide)).trans (o3.at (by decide) (by decide) ((xnew_ne (by decide)).trans ((xnew_ne (by decide)).trans (o2.at (by decide) (by decide) ((xnew_ne (by decide)).trans (o1.at (by decide) (by decide) ((xnew_ne (by decide)).trans e0))))))))))) (Nat.le_of_ble_eq_true rfl) rfl rfl rfl dX11_init_51 ?_
  refine AX.aload_n (pc := 54) dX11_init_54 rfl ?_
  refine AX.aload_n (pc := 55) dX11_init_55 rfl ?_
  refine AX.putF (pc := 56) (h := xset (xset h4 9 (.inl (5, 2, .inr (.inr (.inr (.inr (fun q => if q = 1 then some 26 else (fun q => if q = 0 then some 10 else (fun _ => none) q) q))))))) 0 (.inr (10, [.ref 1, .null, .null, .null, .null, .null, .null, .int (nI 0), .null, .null, .null, .null]))) (a := 0) (fs' := [.ref 1, .ref 4, .null, .null, .null, .null, .null, .int (nI 0), .null, .null, .null, .null]) fX11_init_24 rfl rfl rfl (lt_h (N := 42) n4 (by decide)) (xset_same _ _ _) (Nat.le_of_ble_eq_true rfl) rfl rfl rfl dX11_init_56 ?_
  refine AX.aload_n (pc := 59) dX11_init_59 rfl ?_
  refine AX.aload_n (pc := 60) dX11_init_60 rfl ?_
  refine AX.putF (pc := 61) (h := xset (xset (xset h4 9 (.inl (5, 2, .inr (.inr (.inr (.inr (fun q => if q = 1 then some 26 else (fun q => if q = 0 then some 10 else (fun _ => none) q) q))))))) 0 (.inr (10, [.ref 1, .null, .null, .null, .null, .null, .null, .int (nI 0), .null, .null, .null, .null]))) 0 (.inr (10, [.ref 1, .ref 4, .null, .null, .null, .null, .null, .int (nI 0), .null, .null, .null, .null]))) (a := 0) (fs' := [.ref 1, .ref 4, .ref 9, .null, .null, .null, .null, .int (nI 0), .null, .null, .null, .null]) fX11_init_28 rfl rfl rfl (lt_h (N := 42) n4 (by decide)) (xset_same _ _ _) (Nat.le_of_ble_eq_true rfl) rfl rfl rfl dX11_init_61 ?_
  refine AX.aload_n (pc := 64) dX11_init_64 rfl ?_
  refine AX.new (pc := 65) (S := 42) (ci := 6) (T := TX7) (ty := tyX7) (fs := [.null, .null, .null, .null, .null, .null, .null, .null, .null]) n4 rfl (by decide +kernel) tyX7_ok (by decide +kernel) (by decide +kernel) (by decide +kernel) dfX7 (by decide) (by decide) dX11_init_65 ?_
  refine AX.dup (pc := 68) dX11_init_68 rfl ?_
  refine AX.aload_n (pc := 69) dX11_init_69 rfl ?_
  refine AX.aload_n (pc := 70) dX11_init_70 rfl ?_
  refine AX.aload_n (pc := 71) dX11_init_71 rfl ?_
  have u4 : ∀ k, k < 42 → k ≠ 0 → k ≠ 9 → k ≠ 77 → (xnew (xset (xset (xset (xset h4 9 (.inl (5, 2, .inr (.inr (.inr (.inr (fun q => if q = 1 then some 26 else (fun q => if q = 0 then some 10 else (fun _ => none) q) q))))))) 0 (.inr (10, [.ref 1, .null, .null, .null, .null, .null, .null, .int (nI 0), .null, .null, .null, .null]))) 0 (.inr (10, [.ref 1, .ref 4, .null, .null, .null, .null, .null, .int (nI 0), .null, .null, .null, .null]))) 0 (.inr (10, [.ref 1, .ref 4, .ref 9, .null, .null, .null, .null, .int (nI 0), .null, .null, .null, .null]))) 42 (.inr (6, [.null, .null, .null, .null, .null, .null, .null, .null, .null]))).2 k = h4.2 k := (fun k hk n0 n9 n77 => (xnew_ne (show k ≠ 42 by omega)).trans ((xset_ne (show k ≠ 0 by omega)).trans ((xset_ne (show k ≠ 0 by omega)).trans ((xset_ne (show k ≠ 0 by omega)).trans ((xset_ne (show k ≠ 9 by omega)).trans (rfl))))))
  refine AX.callI (pc := 72) (M2 := M_X7_init) (As := [.ref 1, .ref 4, .ref 9]) (rest := [.ref 42, .ref 0]) (ws2 := (mW M_X7_init).tail) (c_iRace w (xnew (xset (xset (xset (xset h4 9 (.inl (5, 2, .inr (.inr (.inr (.inr (fun q => if q = 1 then some 26 else (fun q => if q = 0 then some 10 else (fun _ => none) q) q))))))) 0 (.inr (10, [.ref 1, .null, .null, .null, .null, .null, .null, .int (nI 0), .null, .null, .null, .null]))) 0 (.inr (10, [.ref 1, .ref 4, .null, .null, .null, .null, .null, .int (nI 0), .null, .null, .null, .null]))) 0 (.inr (10, [.ref 1, .ref 4, .ref 9, .null, .null, .null, .null, .int (nI 0), .null, .null, .null, .null]))) 42 (.inr (6, [.null, .null, .null, .null, .null, .null, .null, .null, .null]))) rfl (xnew_same _ _ _)) ⟨rfl, hd_X7_init, ⟨by decide, by decide⟩, by decide, by decide⟩ rfl rfl gX11_init_X7_init (by decide +kernel) (by decide +kernel) (by decide +kernel) rfl (Nat.le_of_ble_eq_true rfl) dX11_init_72 ?_
  rintro _ h5 ⟨rfl, n5, o5, RC_5⟩
  have t5 : ∀ k, k < 42 → k ≠ 0 → k ≠ 9 → k ≠ 77 → h5.2 k = h4.2 k := fun k hk a b c => (o5 k (by omega) (by omega)).trans (u4 k hk a b c)
  have RU_5 : RU h5 1 := RU_4.tr (fun k l1 l2 => t5 k (by omega) (by omega) (by omega) (by omega))
  have FA_5 : FA h5 := FA_4.tr (fun k l1 l2 => t5 k (by omega) (by omega) (by omega) (by omega))
  have M0_5 : MM h5 10 1 (60, 80) := M0_4.tr (fun k l1 l2 => t5 k (by omega) (by omega) (by omega) (by omega))
  have M1_5 : MM h5 26 1 (60, 80) := M1_4.tr (fun k l1 l2 => t5 k (by omega) (by omega) (by omega) (by omega))
  show AX w M_X11_init 56 10932 75 [.ref 0, .ref 1, .ref 4, .ref 9] [.ref 42, .ref 0] _ _
  refine AX.putF (pc := 75) (fs' := [.ref 1, .ref 4, .ref 9, .ref 42, .null, .null, .null, .int (nI 0), .null, .null, .null, .null]) fX11_init_37 rfl rfl rfl (lt_h (N := 57) n5 (by decide)) (o5.at (by decide) (by decide) ((xnew_ne (by decide)).trans (xset_same _ _ _))) (Nat.le_of_ble_eq_true rfl) rfl rfl rfl dX11_init_75 ?_
  refine AX.aload_n (pc := 78) dX11_init_78 rfl ?_
  refine AX.new (pc := 79) (S := 57) (ci := 1) (T := TX2) (ty := tyX2) (fs := [.null, .null, .int (nI 0), .null, .int (nI 0)]) n5 rfl (by decide +kernel) tyX2_ok (by decide +kernel) (by decide +kernel) (by decide +kernel) dfX2 (by decide) (by decide) dX11_init_79 ?_
  refine AX.dup (pc := 82) dX11_init_82 rfl ?_
  refine AX.aload_n (pc := 83) dX11_init_83 rfl ?_
  have u5 : ∀ k, k < 57 → k ≠ 0 → k ≠ 9 → k ≠ 77 → (xnew (xset h5 0 (.inr (10, [.ref 1, .ref 4, .ref 9, .ref 42, .null, .null, .null, .int (nI 0), .null, .null, .null, .null]))) 57 (.inr (1, [.null, .null, .int (nI 0), .null, .int (nI 0)]))).2 k = h5.2 k := (fun k hk n0 n9 n77 => (xnew_ne (show k ≠ 57 by omega)).trans ((xset_ne (show k ≠ 0 by omega)).trans (rfl)))
  refine AX.callI (pc := 84) (M2 := M_X2_init) (As := [.ref 1]) (rest := [.ref 57, .ref 0]) (ws2 := (mW M_X2_init).tail) (c_iFin w (xnew (xset h5 0 (.inr (10, [.ref 1, .ref 4, .ref 9, .ref 42, .null, .null, .null, .int (nI 0), .null, .null, .null, .null]))) 57 (.inr (1, [.null, .null, .int (nI 0), .null, .int (nI 0)]))) rfl (xnew_same _ _ _)) ⟨rfl, hd_X2_init, ⟨by decide, by decide⟩, by decide, by decide⟩ rfl rfl gX11_init_X2_init (by decide +kernel) (by decide +kernel) (by decide +kernel) rfl (Nat.le_of_ble_eq_true rfl) dX11_init_84 ?_
  rintro _ h6 ⟨rfl, n6, o6, FC_6⟩
  have t6 : ∀ k, k < 57 → k ≠ 0 → k ≠ 9 → k ≠ 77 → h6.2 k = h5.2 k := fun k hk a b c => (o6 k (by omega) (by omega)).trans (u5 k hk a b c)
  have RU_6 : RU h6 1 := RU_5.tr (fun k l1 l2 => t6 k (by omega) (by omega) (by omega) (by omega))
  have FA_6 : FA h6 := FA_5.tr (fun k l1 l2 => t6 k (by omega) (by omega) (by omega) (by omega))
  have M0_6 : MM h6 10 1 (60, 80) := M0_5.tr (fun k l1 l2 => t6 k (by omega) (by omega) (by omega) (by omega))
  have M1_6 : MM h6 26 1 (60, 80) := M1_5.tr (fun k l1 l2 => t6 k (by omega) (by omega) (by omega) (by omega))
  have RC_6 : RC0 h6 := RC_5.tr (fun k l1 l2 => t6 k (by omega) (by omega) (by omega) (by omega))
  show AX w M_X11_init 63 11668 87 [.ref 0, .ref 1, .ref 4, .ref 9] [.ref 57, .ref 0] _ _
  refine AX.putF (pc := 87) (fs' := [.ref 1, .ref 4, .ref 9, .ref 42, .ref 57, .null, .null, .int (nI 0), .null, .null, .null, .null]) fX11_init_46 rfl rfl rfl (lt_h (N := 64) n6 (by decide)) (o6.at (by decide) (by decide) ((xnew_ne (by decide)).trans (xset_same _ _ _))) (Nat.le_of_ble_eq_true rfl) rfl rfl rfl dX11_init_87 ?_
  refine AX.aload_n (pc := 90) dX11_init_90 rfl ?_
  refine AX.new (pc := 91) (S := 64) (ci := 2) (T := TX3) (ty := tyX3) (fs := [.null, .int (nI 0), .int (nI 0), .int (nI 0), .int (nI 0), .int (nI 0), .int (nI 0), .int (nI 0)]) n6 rfl (by decide +kernel) tyX3_ok (by decide +kernel) (by decide +kernel) (by decide +kernel) dfX3 (by decide) (by decide) dX11_init_91 ?_
  refine AX.dup (pc := 94) dX11_init_94 rfl ?_
  have u6 : ∀ k, k < 64 → k ≠ 0 → k ≠ 9 → k ≠ 77 → (xnew (xset h6 0 (.inr (10, [.ref 1, .ref 4, .ref 9, .ref 42, .ref 57, .null, .null, .int (nI 0), .null, .null, .null, .null]))) 64 (.inr (2, [.null, .int (nI 0), .int (nI 0), .int (nI 0), .int (nI 0), .int (nI 0), .int (nI 0), .int (nI 0)]))).2 k = h6.2 k := (fun k hk n0 n9 n77 => (xnew_ne (show k ≠ 64 by omega)).trans ((xset_ne (show k ≠ 0 by omega)).trans (rfl)))
  refine AX.callI (pc := 95) (M2 := M_X3_init) (As := []) (rest := [.ref 64, .ref 0]) (ws2 := (mW M_X3_init).tail) (c_iLeg64 w (xnew (xset h6 0 (.inr (10, [.ref 1, .ref 4, .ref 9, .ref 42, .ref 57, .null, .null, .int (nI 0), .null, .null, .null, .null]))) 64 (.inr (2, [.null, .int (nI 0), .int (nI 0), .int (nI 0), .int (nI 0), .int (nI 0), .int (nI 0), .int (nI 0)]))) rfl (xnew_same _ _ _)) ⟨rfl, hd_X3_init, ⟨by decide, by decide⟩, by decide, by decide⟩ rfl rfl gX11_init_X3_init (by decide +kernel) (by decide +kernel) (by decide +kernel) rfl (Nat.le_of_ble_eq_true rfl) dX11_init_95 ?_
  rintro _ h7 ⟨rfl, n7, o7, LA_7⟩
  have t7 : ∀ k, k < 64 → k ≠ 0 → k ≠ 9 → k ≠ 77 → h7.2 k = h6.2 k := fun k hk a b c => (o7 k (by omega) (by omega)).trans (u6 k hk a b c)
  have RU_7 : RU h7 1 := RU_6.tr (fun k l1 l2 => t7 k (by omega) (by omega) (by omega) (by omega))
  have FA_7 : FA h7 := FA_6.tr (fun k l1 l2 => t7 k (by omega) (by omega) (by omega) (by omega))
  have M0_7 : MM h7 10 1 (60, 80) := M0_6.tr (fun k l1 l2 => t7 k (by omega) (by omega) (by omega) (by omega))
  have M1_7 : MM h7 26 1 (60, 80) := M1_6.tr (fun k l1 l2 => t7 k (by omega) (by omega) (by omega) (by omega))
  have RC_7 : RC0 h7 := RC_6.tr (fun k l1 l2 => t7 k (by omega) (by omega) (by omega) (by omega))
  have FC_7 : FC0 h7 := FC_6.tr (fun k l1 l2 => t7 k (by omega) (by omega) (by omega) (by omega))
  show AX w M_X11_init 67 11690 98 [.ref 0, .ref 1, .ref 4, .ref 9] [.ref 64, .ref 0] _ _
  refine AX.putF (pc := 98) (fs' := [.ref 1, .ref 4, .ref 9, .ref 42, .ref 57, .ref 64, .null, .int (nI 0), .null, .null, .null, .null]) fX11_init_53 rfl rfl rfl (lt_h (N := 68) n7 (by decide)) (o7.at (by decide) (by decide) ((xnew_ne (by decide)).trans (xset_same _ _ _))) (Nat.le_of_ble_eq_true rfl) rfl rfl rfl dX11_init_98 ?_
  refine AX.aload_n (pc := 101) dX11_init_101 rfl ?_
  refine AX.new (pc := 102) (S := 68) (ci := 2) (T := TX3) (ty := tyX3) (fs := [.null, .int (nI 0), .int (nI 0), .int (nI 0), .int (nI 0), .int (nI 0), .int (nI 0), .int (nI 0)]) n7 rfl (by decide +kernel) tyX3_ok (by decide +kernel) (by decide +kernel) (by decide +kernel) dfX3 (by decide) (by decide) dX11_init_102 ?_
  refine AX.dup (pc := 105) dX11_init_105 rfl ?_
  have u7 : ∀ k, k < 68 → k ≠ 0 → k ≠ 9 → k ≠ 77 → (xnew (xset h7 0 (.inr (10, [.ref 1, .ref 4, .ref 9, .ref 42, .ref 57, .ref 64, .null, .int (nI 0), .null, .null, .null, .null]))) 68 (.inr (2, [.null, .int (nI 0), .int (nI 0), .int (nI 0), .int (nI 0), .int (nI 0), .int (nI 0), .int (nI 0)]))).2 k = h7.2 k := (fun k hk n0 n9 n77 => (xnew_ne (show k ≠ 68 by omega)).trans ((xset_ne (show k ≠ 0 by omega)).trans (rfl)))
  refine AX.callI (pc := 106) (M2 := M_X3_init) (As := []) (rest := [.ref 68, .ref 0]) (ws2 := (mW M_X3_init).tail) (c_iLeg68 w (xnew (xset h7 0 (.inr (10, [.ref 1, .ref 4, .ref 9, .ref 42, .ref 57, .ref 64, .null, .int (nI 0), .null, .null, .null, .null]))) 68 (.inr (2, [.null, .int (nI 0), .int (nI 0), .int (nI 0), .int (nI 0), .int (nI 0), .int (nI 0), .int (nI 0)]))) rfl (xnew_same _ _ _)) ⟨rfl, hd_X3_init, ⟨by decide, by decide⟩, by decide, by decide⟩ rfl rfl gX11_init_X3_init (by decide +kernel) (by decide +kernel) (by decide +kernel) rfl (Nat.le_of_ble_eq_true rfl) dX11_init_106 ?_
  rintro _ h8 ⟨rfl, n8, o8, LB_8⟩
  have t8 : ∀ k, k < 68 → k ≠ 0 → k ≠ 9 → k ≠ 77 → h8.2 k = h7.2 k := fun k hk a b c => (o8 k (by omega) (by omega)).trans (u7 k hk a b c)
  have RU_8 : RU h8 1 := RU_7.tr (fun k l1 l2 => t8 k (by omega) (by omega) (by omega) (by omega))
  have FA_8 : FA h8 := FA_7.tr (fun k l1 l2 => t8 k (by omega) (by omega) (by omega) (by omega))
  have M0_8 : MM h8 10 1 (60, 80) := M0_7.tr (fun k l1 l2 => t8 k (by omega) (by omega) (by omega) (by omega))
  have M1_8 : MM h8 26 1 (60, 80) := M1_7.tr (fun k l1 l2 => t8 k (by omega) (by omega) (by omega) (by omega))
  have RC_8 : RC0 h8 := RC_7.tr (fun k l1 l2 => t8 k (by omega) (by omega) (by omega) (by omega))
  have FC_8 : FC0 h8 := FC_7.tr (fun k l1 l2 => t8 k (by omega) (by omega) (by omega) (by omega))
  have LA_8 : LG h8 64 q0 := LA_7.tr (fun k l1 l2 => t8 k (by omega) (by omega) (by omega) (by omega))
  show AX w M_X11_init 71 11712 109 [.ref 0, .ref 1, .ref 4, .ref 9] [.ref 68, .ref 0] _ _
  refine AX.putF (pc := 109) (fs' := [.ref 1, .ref 4, .ref 9, .ref 42, .ref 57, .ref 64, .ref 68, .int (nI 0), .null, .null, .null, .null]) fX11_init_57 rfl rfl rfl (lt_h (N := 72) n8 (by decide)) (o8.at (by decide) (by decide) ((xnew_ne (by decide)).trans (xset_same _ _ _))) (Nat.le_of_ble_eq_true rfl) rfl rfl rfl dX11_init_109 ?_
  refine AX.aload_n (pc := 112) dX11_init_112 rfl ?_
  refine AX.new (pc := 113) (S := 72) (ci := 9) (T := TX10) (ty := tyX10) (fs := [.null, .int (nI 0), .null, .int (nI 0), .int (nI 0)]) n8 rfl (by decide +kernel) tyX10_ok (by decide +kernel) (by decide +kernel) (by decide +kernel) dfX10 (by decide) (by decide) dX11_init_113 ?_
  refine AX.dup (pc := 116) dX11_init_116 rfl ?_
  have u8 : ∀ k, k < 72 → k ≠ 0 → k ≠ 9 → k ≠ 77 → (xnew (xset h8 0 (.inr (10, [.ref 1, .ref 4, .ref 9, .ref 42, .ref 57, .ref 64, .ref 68, .int (nI 0), .null, .null, .null, .null]))) 72 (.inr (9, [.null, .int (nI 0), .null, .int (nI 0), .int (nI 0)]))).2 k = h8.2 k := (fun k hk n0 n9 n77 => (xnew_ne (show k ≠ 72 by omega)).trans ((xset_ne (show k ≠ 0 by omega)).trans (rfl)))
  refine AX.callIN (pc := 117) (M2 := M_X10_init) (As := []) (rest := [.ref 72, .ref 0]) (ws2 := (mW M_X10_init).tail) (c_iTape w (xnew (xset h8 0 (.inr (10, [.ref 1, .ref 4, .ref 9, .ref 42, .ref 57, .ref 64, .ref 68, .int (nI 0), .null, .null, .null, .null]))) 72 (.inr (9, [.null, .int (nI 0), .null, .int (nI 0), .int (nI 0)]))) rfl (xnew_same _ _ _)) ⟨rfl, hd_X10_init, ⟨by decide, by decide⟩, by decide, by decide⟩ rfl rfl gX11_init_X10_init_n62 (fun _ x => x.2.1) (by decide +kernel) (by decide +kernel) rfl (Nat.le_of_ble_eq_true rfl) dX11_init_117 ?_
  rintro _ h9 ⟨rfl, n9, o9, ta_9, tb_9, tc_9⟩
  have t9 : ∀ k, k < 72 → k ≠ 0 → k ≠ 9 → k ≠ 77 → h9.2 k = h8.2 k := fun k hk a b c => (o9 k (by omega) (by omega)).trans (u8 k hk a b c)
  have RU_9 : RU h9 1 := RU_8.tr (fun k l1 l2 => t9 k (by omega) (by omega) (by omega) (by omega))
  have FA_9 : FA h9 := FA_8.tr (fun k l1 l2 => t9 k (by omega) (by omega) (by omega) (by omega))
  have M0_9 : MM h9 10 1 (60, 80) := M0_8.tr (fun k l1 l2 => t9 k (by omega) (by omega) (by omega) (by omega))
  have M1_9 : MM h9 26 1 (60, 80) := M1_8.tr (fun k l1 l2 => t9 k (by omega) (by omega) (by omega) (by omega))
  have RC_9 : RC0 h9 := RC_8.tr (fun k l1 l2 => t9 k (by omega) (by omega) (by omega) (by omega))
  have FC_9 : FC0 h9 := FC_8.tr (fun k l1 l2 => t9 k (by omega) (by omega) (by omega) (by omega))
  have LA_9 : LG h9 64 q0 := LA_8.tr (fun k l1 l2 => t9 k (by omega) (by omega) (by omega) (by omega))
  have LB_9 : LG h9 68 q0 := LB_8.tr (fun k l1 l2 => t9 k (by omega) (by omega) (by omega) (by omega))
  show AX w M_X11_init 74 11789 120 [.ref 0, .ref 1, .ref 4, .ref 9] [.ref 72, .ref 0] _ _
  refine AX.putF (pc := 120) (fs' := [.ref 1, .ref 4, .ref 9, .ref 42, .ref 57, .ref 64, .ref 68, .int (nI 0), .ref 72, .null, .null, .null]) fX11_init_63 rfl rfl rfl (lt_h (N := 75) n9 (by decide)) (o9.at (by decide) (by decide) ((xnew_ne (by decide)).trans (xset_same _ _ _))) (Nat.le_of_ble_eq_true rfl) rfl rfl rfl dX11_init_120 ?_
  refine AX.aload_n (pc := 123) dX11_init_123 rfl ?_
  refine AX.new (pc := 124) (S := 75) (ci := 4) (T := TX5) (ty := tyX5) (fs := [.null, .int (nI 0)]) n9 rfl (by decide +kernel) tyX5_ok (by decide +kernel) (by decide +kernel) (by decide +kernel) dfX5 (by decide) (by decide) dX11_init_124 ?_
  refine AX.dup (pc := 127) dX11_init_127 rfl ?_
  have u9 : ∀ k, k < 75 → k ≠ 0 → k ≠ 9 → k ≠ 77 → (xnew (xset h9 0 (.inr (10, [.ref 1, .ref 4, .ref 9, .ref 42, .ref 57, .ref 64, .ref 68, .int (nI 0), .ref 72, .null, .null, .null]))) 75 (.inr (4, [.null, .int (nI 0)]))).2 k = h9.2 k := (fun k hk n0 n9 n77 => (xnew_ne (show k ≠ 75 by omega)).trans ((xset_ne (show k ≠ 0 by omega)).trans (rfl)))
  refine AX.callIN (pc := 128) (M2 := M_X5_init) (As := []) (rest := [.ref 75, .ref 0]) (ws2 := (mW M_X5_init).tail) (c_iPaper w (xnew (xset h9 0 (.inr (10, [.ref 1, .ref 4, .ref 9, .ref 42, .ref 57, .ref 64, .ref 68, .int (nI 0), .ref 72, .null, .null, .null]))) 75 (.inr (4, [.null, .int (nI 0)]))) rfl (xnew_same _ _ _)) ⟨rfl, hd_X5_init, ⟨by decide, by decide⟩, by decide, by decide⟩ rfl rfl gX11_init_X5_init_n69 (fun _ x => x.2.2.1) (by decide +kernel) (by decide +kernel) rfl (Nat.le_of_ble_eq_true rfl) dX11_init_128 ?_
  rintro _ h10 ⟨rfl, n10, o10, pa_10, pb_10⟩
  have t10 : ∀ k, k < 75 → k ≠ 0 → k ≠ 9 → k ≠ 77 → h10.2 k = h9.2 k := fun k hk a b c => (o10 k (by omega) (by omega)).trans (u9 k hk a b c)
  have RU_10 : RU h10 1 := RU_9.tr (fun k l1 l2 => t10 k (by omega) (by omega) (by omega) (by omega))
  have FA_10 : FA h10 := FA_9.tr (fun k l1 l2 => t10 k (by omega) (by omega) (by omega) (by omega))
  have M0_10 : MM h10 10 1 (60, 80) := M0_9.tr (fun k l1 l2 => t10 k (by omega) (by omega) (by omega) (by omega))
  have M1_10 : MM h10 26 1 (60, 80) := M1_9.tr (fun k l1 l2 => t10 k (by omega) (by omega) (by omega) (by omega))
  have RC_10 : RC0 h10 := RC_9.tr (fun k l1 l2 => t10 k (by omega) (by omega) (by omega) (by omega))
  have FC_10 : FC0 h10 := FC_9.tr (fun k l1 l2 => t10 k (by omega) (by omega) (by omega) (by omega))
  have LA_10 : LG h10 64 q0 := LA_9.tr (fun k l1 l2 => t10 k (by omega) (by omega) (by omega) (by omega))
  have LB_10 : LG h10 68 q0 := LB_9.tr (fun k l1 l2 => t10 k (by omega) (by omega) (by omega) (by omega))
  have ta_10 : h10.2 72 = .inr (9, [.ref 73, .int (nI 0), .ref 74, .int (nI 0), .int (nI 0)]) := (t10 72 (by omega) (by omega) (by omega) (by omega)).trans ta_9
  have tb_10 : h10.2 73 = .inl (0, 60, .inl (fun _ => nI 0)) := (t10 73 (by omega) (by omega) (by omega) (by omega)).trans tb_9
  have tc_10 : h10.2 74 = .inl (0, 12, .inl (fun _ => nI 0)) := (t10 74 (by omega) (by omega) (by omega) (by omega)).trans tc_9
  show AX w M_X11_init 76 11803 131 [.ref 0, .ref 1, .ref 4, .ref 9] [.ref 75, .ref 0] _ _
  refine AX.putF (pc := 131) (fs' := [.ref 1, .ref 4, .ref 9, .ref 42, .ref 57, .ref 64, .ref 68, .int (nI 0), .ref 72, .ref 75, .null, .null]) fX11_init_70 rfl rfl rfl (lt_h (N := 77) n10 (by decide)) (o10.at (by decide) (by decide) ((xnew_ne (by decide)).trans (xset_same _ _ _))) (Nat.le_of_ble_eq_true rfl) rfl rfl rfl dX11_init_131 ?_
  refine AX.aload_n (pc := 134) dX11_init_134 rfl ?_
  refine AX.iconst (pc := 135) (v := nI 4) dX11_init_135 (by decide) ?_
  refine AX.anew (pc := 136) (t := 7) (S := 77) (N := 4) n10 (fun _ => rfl) (by decide +kernel) (fun _ x => x.2.2.2.2.2.2.1) (by decide) (by decide) (by decide) dX11_init_136 ?_
  refine AX.dup (pc := 139) dX11_init_139 rfl ?_
  refine AX.iconst (pc := 140) (v := nI 0) dX11_init_140 (by decide) ?_
  refine AX.new (pc := 141) (S := 78) (ci := 7) (T := TX8) (ty := tyX8) (fs := [.null, .int (nI 0), .int (nI 0)]) rfl rfl (by decide +kernel) tyX8_ok (by decide +kernel) (by decide +kernel) (by decide +kernel) dfX8 (by decide) (by decide) dX11_init_141 ?_
  refine AX.dup (pc := 144) dX11_init_144 rfl ?_
  have u10 : ∀ k, k < 77 → k ≠ 0 → k ≠ 9 → k ≠ 77 → (xnew (xnew (xset h10 0 (.inr (10, [.ref 1, .ref 4, .ref 9, .ref 42, .ref 57, .ref 64, .ref 68, .int (nI 0), .ref 72, .ref 75, .null, .null]))) 77 (.inl (7, 4, .inr (.inr (.inr (.inr (fun _ => none))))))) 78 (.inr (7, [.null, .int (nI 0), .int (nI 0)]))).2 k = h10.2 k := (fun k hk n0 n9 n77 => (xnew_ne (show k ≠ 78 by omega)).trans ((xnew_ne (show k ≠ 77 by omega)).trans ((xset_ne (show k ≠ 0 by omega)).trans (rfl))))
  refine AX.callIN (pc := 145) (M2 := M_X8_init) (As := []) (rest := [.ref 78, .int (nI 0), .ref 77, .ref 77, .ref 0]) (ws2 := (mW M_X8_init).tail) (c_iRack78 w (xnew (xnew (xset h10 0 (.inr (10, [.ref 1, .ref 4, .ref 9, .ref 42, .ref 57, .ref 64, .ref 68, .int (nI 0), .ref 72, .ref 75, .null, .null]))) 77 (.inl (7, 4, .inr (.inr (.inr (.inr (fun _ => none))))))) 78 (.inr (7, [.null, .int (nI 0), .int (nI 0)]))) rfl (xnew_same _ _ _)) ⟨rfl, hd_X8_init, ⟨by decide, by decide⟩, by decide, by decide⟩ rfl rfl gX11_init_X8_init_n76 (fun _ x => x.2.2.2.1) (by decide +kernel) (by decide +kernel) rfl (Nat.le_of_ble_eq_true rfl) dX11_init_145 ?_
  rintro _ h11 ⟨rfl, n11, o11, ra78_11, rb78_11⟩
  have t11 : ∀ k, k < 77 → k ≠ 0 → k ≠ 9 → k ≠ 77 → h11.2 k = h10.2 k := fun k hk a b c => (o11 k (by omega) (by omega)).trans (u10 k hk a b c)
  have RU_11 : RU h11 1 := RU_10.tr (fun k l1 l2 => t11 k (by omega) (by omega) (by omega) (by omega))
  have FA_11 : FA h11 := FA_10.tr (fun k l1 l2 => t11 k (by omega) (by omega) (by omega) (by omega))
  have M0_11 : MM h11 10 1 (60, 80) := M0_10.tr (fun k l1 l2 => t11 k (by omega) (by omega) (by omega) (by omega))
  have M1_11 : MM h11 26 1 (60, 80) := M1_10.tr (fun k l1 l2 => t11 k (by omega) (by omega) (by omega) (by omega))
  have RC_11 : RC0 h11 := RC_10.tr (fun k l1 l2 => t11 k (by omega) (by omega) (by omega) (by omega))
  have FC_11 : FC0 h11 := FC_10.tr (fun k l1 l2 => t11 k (by omega) (by omega) (by omega) (by omega))
  have LA_11 : LG h11 64 q0 := LA_10.tr (fun k l1 l2 => t11 k (by omega) (by omega) (by omega) (by omega))
  have LB_11 : LG h11 68 q0 := LB_10.tr (fun k l1 l2 => t11 k (by omega) (by omega) (by omega) (by omega))
  have ta_11 : h11.2 72 = .inr (9, [.ref 73, .int (nI 0), .ref 74, .int (nI 0), .int (nI 0)]) := (t11 72 (by omega) (by omega) (by omega) (by omega)).trans ta_10
  have tb_11 : h11.2 73 = .inl (0, 60, .inl (fun _ => nI 0)) := (t11 73 (by omega) (by omega) (by omega) (by omega)).trans tb_10
  have tc_11 : h11.2 74 = .inl (0, 12, .inl (fun _ => nI 0)) := (t11 74 (by omega) (by omega) (by omega) (by omega)).trans tc_10
  have pa_11 : h11.2 75 = .inr (4, [.ref 76, .int (nI 0)]) := (t11 75 (by omega) (by omega) (by omega) (by omega)).trans pa_10
  have pb_11 : h11.2 76 = .inl (0, 12, .inl (fun _ => nI 0)) := (t11 76 (by omega) (by omega) (by omega) (by omega)).trans pb_10
  show AX w M_X11_init 79 11830 148 [.ref 0, .ref 1, .ref 4, .ref 9] [.ref 78, .int (nI 0), .ref 77, .ref 77, .ref 0] _ _
  refine AX.aast (pc := 148) (i := 0) (T := TX8) (N2 := 3) (fun _ => rfl) rfl (lt_h (N := 80) n11 (by decide)) (lt_h (N := 80) n11 (by decide)) (o11.at (by decide) (by decide) ((xnew_ne (by decide)).trans (xnew_same _ _ _))) ra78_11 (by decide) (by decide) dX11_init_148 ?_
  refine AX.dup (pc := 149) dX11_init_149 rfl ?_
  refine AX.iconst (pc := 150) (v := nI 1) dX11_init_150 (by decide) ?_
  refine AX.new (pc := 151) (S := 80) (ci := 7) (T := TX8) (ty := tyX8) (fs := [.null, .int (nI 0), .int (nI 0)]) n11 rfl (by decide +kernel) tyX8_ok (by decide +kernel) (by decide +kernel) (by decide +kernel) dfX8 (by decide) (by decide) dX11_init_151 ?_
  refine AX.dup (pc := 154) dX11_init_154 rfl ?_
  have u11 : ∀ k, k < 80 → k ≠ 0 → k ≠ 9 → k ≠ 77 → (xnew (xset h11 77 (.inl (7, 4, .inr (.inr (.inr (.inr (fun q => if q = 0 then some 78 else (fun _ => none) q))))))) 80 (.inr (7, [.null, .int (nI 0), .int (nI 0)]))).2 k = h11.2 k := (fun k hk n0 n9 n77 => (xnew_ne (show k ≠ 80 by omega)).trans ((xset_ne (show k ≠ 77 by omega)).trans (rfl)))
  refine AX.callIN (pc := 155) (M2 := M_X8_init) (As := []) (rest := [.ref 80, .int (nI 1), .ref 77, .ref 77, .ref 0]) (ws2 := (mW M_X8_init).tail) (c_iRack80 w (xnew (xset h11 77 (.inl (7, 4, .inr (.inr (.inr (.inr (fun q => if q = 0 then some 78 else (fun _ => none) q))))))) 80 (.inr (7, [.null, .int (nI 0), .int (nI 0)]))) rfl (xnew_same _ _ _)) ⟨rfl, hd_X8_init, ⟨by decide, by decide⟩, by decide, by decide⟩ rfl rfl gX11_init_X8_init_n76 (fun _ x => x.2.2.2.1) (by decide +kernel) (by decide +kernel) rfl (Nat.le_of_ble_eq_true rfl) dX11_init_155 ?_
  rintro _ h12 ⟨rfl, n12, o12, ra80_12, rb80_12⟩
  have t12 : ∀ k, k < 80 → k ≠ 0 → k ≠ 9 → k ≠ 77 → h12.2 k = h11.2 k := fun k hk a b c => (o12 k (by omega) (by omega)).trans (u11 k hk a b c)
  have RU_12 : RU h12 1 := RU_11.tr (fun k l1 l2 => t12 k (by omega) (by omega) (by omega) (by omega))
  have FA_12 : FA h12 := FA_11.tr (fun k l1 l2 => t12 k (by omega) (by omega) (by omega) (by omega))
  have M0_12 : MM h12 10 1 (60, 80) := M0_11.tr (fun k l1 l2 => t12 k (by omega) (by omega) (by omega) (by omega))
  have M1_12 : MM h12 26 1 (60, 80) := M1_11.tr (fun k l1 l2 => t12 k (by omega) (by omega) (by omega) (by omega))
  have RC_12 : RC0 h12 := RC_11.tr (fun k l1 l2 => t12 k (by omega) (by omega) (by omega) (by omega))
  have FC_12 : FC0 h12 := FC_11.tr (fun k l1 l2 => t12 k (by omega) (by omega) (by omega) (by omega))
  have LA_12 : LG h12 64 q0 := LA_11.tr (fun k l1 l2 => t12 k (by omega) (by omega) (by omega) (by omega))
  have LB_12 : LG h12 68 q0 := LB_11.tr (fun k l1 l2 => t12 k (by omega) (by omega) (by omega) (by omega))
  have ta_12 : h12.2 72 = .inr (9, [.ref 73, .int (nI 0), .ref 74, .int (nI 0), .int (nI 0)]) := (t12 72 (by omega) (by omega) (by omega) (by omega)).trans ta_11
  have tb_12 : h12.2 73 = .inl (0, 60, .inl (fun _ => nI 0)) := (t12 73 (by omega) (by omega) (by omega) (by omega)).trans tb_11
  have tc_12 : h12.2 74 = .inl (0, 12, .inl (fun _ => nI 0)) := (t12 74 (by omega) (by omega) (by omega) (by omega)).trans tc_11
  have pa_12 : h12.2 75 = .inr (4, [.ref 76, .int (nI 0)]) := (t12 75 (by omega) (by omega) (by omega) (by omega)).trans pa_11
  have pb_12 : h12.2 76 = .inl (0, 12, .inl (fun _ => nI 0)) := (t12 76 (by omega) (by omega) (by omega) (by omega)).trans pb_11
  have ra78_12 : h12.2 78 = .inr (7, [.ref 79, .int (nI 0), .int (-11)]) := (t12 78 (by omega) (by omega) (by omega) (by omega)).trans ra78_11
  have rb78_12 : h12.2 79 = .inl (0, 20, .inl (fun _ => nI 0)) := (t12 79 (by omega) (by omega) (by omega) (by omega)).trans rb78_11
  show AX w M_X11_init 81 11853 158 [.ref 0, .ref 1, .ref 4, .ref 9] [.ref 80, .int (nI 1), .ref 77, .ref 77, .ref 0] _ _
  refine AX.aast (pc := 158) (i := 1) (T := TX8) (N2 := 3) (fun _ => rfl) rfl (lt_h (N := 82) n12 (by decide)) (lt_h (N := 82) n12 (by decide)) (o12.at (by decide) (by decide) ((xnew_ne (by decide)).trans (xset_same _ _ _))) ra80_12 (by decide) (by decide) dX11_init_158 ?_
  refine AX.dup (pc := 159) dX11_init_159 rfl ?_
  refine AX.iconst (pc := 160) (v := nI 2) dX11_init_160 (by decide) ?_
  refine AX.new (pc := 161) (S := 82) (ci := 7) (T := TX8) (ty := tyX8) (fs := [.null, .int (nI 0), .int (nI 0)]) n12 rfl (by decide +kernel) tyX8_ok (by decide +kernel) (by decide +kernel) (by decide +kernel) dfX8 (by decide) (by decide) dX11_init_161 ?_
  refine AX.dup (pc := 164) dX11_init_164 rfl ?_
  have u12 : ∀ k, k < 82 → k ≠ 0 → k ≠ 9 → k ≠ 77 → (xnew (xset h12 77 (.inl (7, 4, .inr (.inr (.inr (.inr (fun q => if q = 1 then some 80 else (fun q => if q = 0 then some 78 else (fun _ => none) q) q))))))) 82 (.inr (7, [.null, .int (nI 0), .int (nI 0)]))).2 k = h12.2 k := (fun k hk n0 n9 n77 => (xnew_ne (show k ≠ 82 by omega)).trans ((xset_ne (show k ≠ 77 by omega)).trans (rfl)))
  refine AX.callIN (pc := 165) (M2 := M_X8_init) (As := []) (rest := [.ref 82, .int (nI 2), .ref 77, .ref 77, .ref 0]) (ws2 := (mW M_X8_init).tail) (c_iRack82 w (xnew (xset h12 77 (.inl (7, 4, .inr (.inr (.inr (.inr (fun q => if q = 1 then some 80 else (fun q => if q = 0 then some 78 else (fun _ => none) q) q))))))) 82 (.inr (7, [.null, .int (nI 0), .int (nI 0)]))) rfl (xnew_same _ _ _)) ⟨rfl, hd_X8_init, ⟨by decide, by decide⟩, by decide, by decide⟩ rfl rfl gX11_init_X8_init_n76 (fun _ x => x.2.2.2.1) (by decide +kernel) (by decide +kernel) rfl (Nat.le_of_ble_eq_true rfl) dX11_init_165 ?_
  rintro _ h13 ⟨rfl, n13, o13, ra82_13, rb82_13⟩
  have t13 : ∀ k, k < 82 → k ≠ 0 → k ≠ 9 → k ≠ 77 → h13.2 k = h12.2 k := fun k hk a b c => (o13 k (by omega) (by omega)).trans (u12 k hk a b c)
  have RU_13 : RU h13 1 := RU_12.tr (fun k l1 l2 => t13 k (by omega) (by omega) (by omega) (by omega))
  have FA_13 : FA h13 := FA_12.tr (fun k l1 l2 => t13 k (by omega) (by omega) (by omega) (by omega))
  have M0_13 : MM h13 10 1 (60, 80) := M0_12.tr (fun k l1 l2 => t13 k (by omega) (by omega) (by omega) (by omega))
  have M1_13 : MM h13 26 1 (60, 80) := M1_12.tr (fun k l1 l2 => t13 k (by omega) (by omega) (by omega) (by omega))
  have RC_13 : RC0 h13 := RC_12.tr (fun k l1 l2 => t13 k (by omega) (by omega) (by omega) (by omega))
  have FC_13 : FC0 h13 := FC_12.tr (fun k l1 l2 => t13 k (by omega) (by omega) (by omega) (by omega))
  have LA_13 : LG h13 64 q0 := LA_12.tr (fun k l1 l2 => t13 k (by omega) (by omega) (by omega) (by omega))
  have LB_13 : LG h13 68 q0 := LB_12.tr (fun k l1 l2 => t13 k (by omega) (by omega) (by omega) (by omega))
  have ta_13 : h13.2 72 = .inr (9, [.ref 73, .int (nI 0), .ref 74, .int (nI 0), .int (nI 0)]) := (t13 72 (by omega) (by omega) (by omega) (by omega)).trans ta_12
  have tb_13 : h13.2 73 = .inl (0, 60, .inl (fun _ => nI 0)) := (t13 73 (by omega) (by omega) (by omega) (by omega)).trans tb_12
  have tc_13 : h13.2 74 = .inl (0, 12, .inl (fun _ => nI 0)) := (t13 74 (by omega) (by omega) (by omega) (by omega)).trans tc_12
  have pa_13 : h13.2 75 = .inr (4, [.ref 76, .int (nI 0)]) := (t13 75 (by omega) (by omega) (by omega) (by omega)).trans pa_12
  have pb_13 : h13.2 76 = .inl (0, 12, .inl (fun _ => nI 0)) := (t13 76 (by omega) (by omega) (by omega) (by omega)).trans pb_12
  have ra78_13 : h13.2 78 = .inr (7, [.ref 79, .int (nI 0), .int (-11)]) := (t13 78 (by omega) (by omega) (by omega) (by omega)).trans ra78_12
  have rb78_13 : h13.2 79 = .inl (0, 20, .inl (fun _ => nI 0)) := (t13 79 (by omega) (by omega) (by omega) (by omega)).trans rb78_12
  have ra80_13 : h13.2 80 = .inr (7, [.ref 81, .int (nI 0), .int (-11)]) := (t13 80 (by omega) (by omega) (by omega) (by omega)).trans ra80_12
  have rb80_13 : h13.2 81 = .inl (0, 20, .inl (fun _ => nI 0)) := (t13 81 (by omega) (by omega) (by omega) (by omega)).trans rb80_12
  show AX w M_X11_init 83 11876 168 [.ref 0, .ref 1, .ref 4, .ref 9] [.ref 82, .int (nI 2), .ref 77, .ref 77, .ref 0] _ _
  refine AX.aast (pc := 168) (i := 2) (T := TX8) (N2 := 3) (fun _ => rfl) rfl (lt_h (N := 84) n13 (by decide)) (lt_h (N := 84) n13 (by decide)) (o13.at (by decide) (by decide) ((xnew_ne (by decide)).trans (xset_same _ _ _))) ra82_13 (by decide) (by decide) dX11_init_168 ?_
  refine AX.dup (pc := 169) dX11_init_169 rfl ?_
  refine AX.iconst (pc := 170) (v := nI 3) dX11_init_170 (by decide) ?_
  refine AX.new (pc := 171) (S := 84) (ci := 7) (T := TX8) (ty := tyX8) (fs := [.null, .int (nI 0), .int (nI 0)]) n13 rfl (by decide +kernel) tyX8_ok (by decide +kernel) (by decide +kernel) (by decide +kernel) dfX8 (by decide) (by decide) dX11_init_171 ?_
  refine AX.dup (pc := 174) dX11_init_174 rfl ?_
  have u13 : ∀ k, k < 84 → k ≠ 0 → k ≠ 9 → k ≠ 77 → (xnew (xset h13 77 (.inl (7, 4, .inr (.inr (.inr (.inr (fun q => if q = 2 then some 82 else (fun q => if q = 1 then some 80 else (fun q => if q = 0 then some 78 else (fun _ => none) q) q) q))))))) 84 (.inr (7, [.null, .int (nI 0), .int (nI 0)]))).2 k = h13.2 k := (fun k hk n0 n9 n77 => (xnew_ne (show k ≠ 84 by omega)).trans ((xset_ne (show k ≠ 77 by omega)).trans (rfl)))
  refine AX.callIN (pc := 175) (M2 := M_X8_init) (As := []) (rest := [.ref 84, .int (nI 3), .ref 77, .ref 77, .ref 0]) (ws2 := (mW M_X8_init).tail) (c_iRack84 w (xnew (xset h13 77 (.inl (7, 4, .inr (.inr (.inr (.inr (fun q => if q = 2 then some 82 else (fun q => if q = 1 then some 80 else (fun q => if q = 0 then some 78 else (fun _ => none) q) q) q))))))) 84 (.inr (7, [.null, .int (nI 0), .int (nI 0)]))) rfl (xnew_same _ _ _)) ⟨rfl, hd_X8_init, ⟨by decide, by decide⟩, by decide, by decide⟩ rfl rfl gX11_init_X8_init_n76 (fun _ x => x.2.2.2.1) (by decide +kernel) (by decide +kernel) rfl (Nat.le_of_ble_eq_true rfl) dX11_init_175 ?_
  rintro _ h14 ⟨rfl, n14, o14, ra84_14, rb84_14⟩
  have t14 : ∀ k, k < 84 → k ≠ 0 → k ≠ 9 → k ≠ 77 → h14.2 k = h13.2 k := fun k hk a b c => (o14 k (by omega) (by omega)).trans (u13 k hk a b c)
  have RU_14 : RU h14 1 := RU_13.tr (fun k l1 l2 => t14 k (by omega) (by omega) (by omega) (by omega))
  have FA_14 : FA h14 := FA_13.tr (fun k l1 l2 => t14 k (by omega) (by omega) (by omega) (by omega))
  have M0_14 : MM h14 10 1 (60, 80) := M0_13.tr (fun k l1 l2 => t14 k (by omega) (by omega) (by omega) (by omega))
  have M1_14 : MM h14 26 1 (60, 80) := M1_13.tr (fun k l1 l2 => t14 k (by omega) (by omega) (by omega) (by omega))
  have RC_14 : RC0 h14 := RC_13.tr (fun k l1 l2 => t14 k (by omega) (by omega) (by omega) (by omega))
  have FC_14 : FC0 h14 := FC_13.tr (fun k l1 l2 => t14 k (by omega) (by omega) (by omega) (by omega))
  have LA_14 : LG h14 64 q0 := LA_13.tr (fun k l1 l2 => t14 k (by omega) (by omega) (by omega) (by omega))
  have LB_14 : LG h14 68 q0 := LB_13.tr (fun k l1 l2 => t14 k (by omega) (by omega) (by omega) (by omega))
  have ta_14 : h14.2 72 = .inr (9, [.ref 73, .int (nI 0), .ref 74, .int (nI 0), .int (nI 0)]) := (t14 72 (by omega) (by omega) (by omega) (by omega)).trans ta_13
  have tb_14 : h14.2 73 = .inl (0, 60, .inl (fun _ => nI 0)) := (t14 73 (by omega) (by omega) (by omega) (by omega)).trans tb_13
  have tc_14 : h14.2 74 = .inl (0, 12, .inl (fun _ => nI 0)) := (t14 74 (by omega) (by omega) (by omega) (by omega)).trans tc_13
  have pa_14 : h14.2 75 = .inr (4, [.ref 76, .int (nI 0)]) := (t14 75 (by omega) (by omega) (by omega) (by omega)).trans pa_13
  have pb_14 : h14.2 76 = .inl (0, 12, .inl (fun _ => nI 0)) := (t14 76 (by omega) (by omega) (by omega) (by omega)).trans pb_13
  have ra78_14 : h14.2 78 = .inr (7, [.ref 79, .int (nI 0), .int (-11)]) := (t14 78 (by omega) (by omega) (by omega) (by omega)).trans ra78_13
  have rb78_14 : h14.2 79 = .inl (0, 20, .inl (fun _ => nI 0)) := (t14 79 (by omega) (by omega) (by omega) (by omega)).trans rb78_13
  have ra80_14 : h14.2 80 = .inr (7, [.ref 81, .int (nI 0), .int (-11)]) := (t14 80 (by omega) (by omega) (by omega) (by omega)).trans ra80_13
  have rb80_14 : h14.2 81 = .inl (0, 20, .inl (fun _ => nI 0)) := (t14 81 (by omega) (by omega) (by omega) (by omega)).trans rb80_13
  have ra82_14 : h14.2 82 = .inr (7, [.ref 83, .int (nI 0), .int (-11)]) := (t14 82 (by omega) (by omega) (by omega) (by omega)).trans ra82_13
  have rb82_14 : h14.2 83 = .inl (0, 20, .inl (fun _ => nI 0)) := (t14 83 (by omega) (by omega) (by omega) (by omega)).trans rb82_13
  show AX w M_X11_init 85 11899 178 [.ref 0, .ref 1, .ref 4, .ref 9] [.ref 84, .int (nI 3), .ref 77, .ref 77, .ref 0] _ _
  refine AX.aast (pc := 178) (i := 3) (T := TX8) (N2 := 3) (fun _ => rfl) rfl (lt_h (N := 86) n14 (by decide)) (lt_h (N := 86) n14 (by decide)) (o14.at (by decide) (by decide) ((xnew_ne (by decide)).trans (xset_same _ _ _))) ra84_14 (by decide) (by decide) dX11_init_178 ?_
  refine AX.putF (pc := 179) (h := xset h14 77 (.inl (7, 4, .inr (.inr (.inr (.inr (fun q => if q = 3 then some 84 else (fun q => if q = 2 then some 82 else (fun q => if q = 1 then some 80 else (fun q => if q = 0 then some 78 else (fun _ => none) q) q) q) q))))))) (a := 0) (fs' := [.ref 1, .ref 4, .ref 9, .ref 42, .ref 57, .ref 64, .ref 68, .int (nI 0), .ref 72, .ref 75, .ref 77, .null]) fX11_init_77 rfl rfl rfl (lt_h (N := 86) n14 (by decide)) ((xset_ne (by decide)).trans (o14.at (by decide) (by decide) ((xnew_ne (by decide)).trans ((xset_ne (by decide)).trans (o13.at (by decide) (by decide) ((xnew_ne (by decide)).trans ((xset_ne (by decide)).trans (o12.at (by decide) (by decide) ((xnew_ne (by decide)).trans ((xset_ne (by decide)).trans (o11.at (by decide) (by decide) ((xnew_ne (by decide)).trans ((xnew_ne (by decide)).trans (xset_same _ _ _)))))))))))))) (Nat.le_of_ble_eq_true rfl) rfl rfl rfl dX11_init_179 ?_
  refine AX.aload_n (pc := 182) dX11_init_182 rfl ?_
  refine AX.bipush (pc := 183) (v := nI 20) dX11_init_183 (by decide) ?_
  refine AX.newI (pc := 185) (S := 86) (N := 20) n14 (by decide +kernel) (by decide) (by decide) (by decide) dX11_init_185 ?_
  refine AX.putF (pc := 187) (h := xnew (xset (xset h14 77 (.inl (7, 4, .inr (.inr (.inr (.inr (fun q => if q = 3 then some 84 else (fun q => if q = 2 then some 82 else (fun q => if q = 1 then some 80 else (fun q => if q = 0 then some 78 else (fun _ => none) q) q) q) q))))))) 0 (.inr (10, [.ref 1, .ref 4, .ref 9, .ref 42, .ref 57, .ref 64, .ref 68, .int (nI 0), .ref 72, .ref 75, .ref 77, .null]))) 86 (.inl (0, 20, .inl (fun _ => nI 0)))) (a := 0) (fs' := [.ref 1, .ref 4, .ref 9, .ref 42, .ref 57, .ref 64, .ref 68, .int (nI 0), .ref 72, .ref 75, .ref 77, .ref 86]) fX11_init_81 rfl rfl rfl (lt_h (N := 87) rfl (by decide)) ((xnew_ne (by decide)).trans (xset_same _ _ _)) (Nat.le_of_ble_eq_true rfl) rfl rfl rfl dX11_init_187 ?_
  refine AX.vret (pc := 190) dX11_init_190 rfl (by decide) (by decide) ?_
  have uF : ∀ k, k < 86 → k ≠ 0 → k ≠ 9 → k ≠ 77 → (xset (xnew (xset (xset h14 77 (.inl (7, 4, .inr (.inr (.inr (.inr (fun q => if q = 3 then some 84 else (fun q => if q = 2 then some 82 else (fun q => if q = 1 then some 80 else (fun q => if q = 0 then some 78 else (fun _ => none) q) q) q) q))))))) 0 (.inr (10, [.ref 1, .ref 4, .ref 9, .ref 42, .ref 57, .ref 64, .ref 68, .int (nI 0), .ref 72, .ref 75, .ref 77, .null]))) 86 (.inl (0, 20, .inl (fun _ => nI 0)))) 0 (.inr (10, [.ref 1, .ref 4, .ref 9, .ref 42, .ref 57, .ref 64, .ref 68, .int (nI 0), .ref 72, .ref 75, .ref 77, .ref 86]))).2 k = h14.2 k := (fun k hk n0 n9 n77 => (xset_ne (show k ≠ 0 by omega)).trans ((xnew_ne (show k ≠ 86 by omega)).trans ((xset_ne (show k ≠ 0 by omega)).trans ((xset_ne (show k ≠ 77 by omega)).trans (rfl)))))
  have e0F := (show (xset (xnew (xset (xset h14 77 (.inl (7, 4, .inr (.inr (.inr (.inr (fun q => if q = 3 then some 84 else (fun q => if q = 2 then some 82 else (fun q => if q = 1 then some 80 else (fun q => if q = 0 then some 78 else (fun _ => none) q) q) q) q))))))) 0 (.inr (10, [.ref 1, .ref 4, .ref 9, .ref 42, .ref 57, .ref 64, .ref 68, .int (nI 0), .ref 72, .ref 75, .ref 77, .null]))) 86 (.inl (0, 20, .inl (fun _ => nI 0)))) 0 (.inr (10, [.ref 1, .ref 4, .ref 9, .ref 42, .ref 57, .ref 64, .ref 68, .int (nI 0), .ref 72, .ref 75, .ref 77, .ref 86]))).2 0 = .inr (10, [.ref 1, .ref 4, .ref 9, .ref 42, .ref 57, .ref 64, .ref 68, .int (nI 0), .ref 72, .ref 75, .ref 77, .ref 86]) from (xset_same _ _ _))
  have e9F := (show (xset (xnew (xset (xset h14 77 (.inl (7, 4, .inr (.inr (.inr (.inr (fun q => if q = 3 then some 84 else (fun q => if q = 2 then some 82 else (fun q => if q = 1 then some 80 else (fun q => if q = 0 then some 78 else (fun _ => none) q) q) q) q))))))) 0 (.inr (10, [.ref 1, .ref 4, .ref 9, .ref 42, .ref 57, .ref 64, .ref 68, .int (nI 0), .ref 72, .ref 75, .ref 77, .null]))) 86 (.inl (0, 20, .inl (fun _ => nI 0)))) 0 (.inr (10, [.ref 1, .ref 4, .ref 9, .ref 42, .ref 57, .ref 64, .ref 68, .int (nI 0), .ref 72, .ref 75, .ref 77, .ref 86]))).2 9 = .inl (5, 2, .inr (.inr (.inr (.inr (fun q => if q = 1 then some 26 else (fun q => if q = 0 then some 10 else (fun _ => none) q) q))))) from ((xset_ne (by decide)).trans ((xnew_ne (by decide)).trans ((xset_ne (by decide)).trans ((xset_ne (by decide)).trans (o14.at (by decide) (by decide) ((xnew_ne (by decide)).trans ((xset_ne (by decide)).trans (o13.at (by decide) (by decide) ((xnew_ne (by decide)).trans ((xset_ne (by decide)).trans (o12.at (by decide) (by decide) ((xnew_ne (by decide)).trans ((xset_ne (by decide)).trans (o11.at (by decide) (by decide) ((xnew_ne (by decide)).trans ((xnew_ne (by decide)).trans ((xset_ne (by decide)).trans (o10.at (by decide) (by decide) ((xnew_ne (by decide)).trans ((xset_ne (by decide)).trans (o9.at (by decide) (by decide) ((xnew_ne (by decide)).trans ((xset_ne (by decide)).trans (o8.at (by decide) (by decide) ((xnew_ne (by decide)).trans ((xset_ne (by decide)).trans (o7.at (by decide) (by decide) ((xnew_ne (by decide)).trans ((xset_ne (by decide)).trans (o6.at (by decide) (by decide) ((xnew_ne (by decide)).trans ((xset_ne (by decide)).trans (o5.at (by decide) (by decide) ((xnew_ne (by decide)).trans ((xset_ne (by decide)).trans ((xset_ne (by decide)).trans ((xset_ne (by decide)).trans (xset_same _ _ _)))))))))))))))))))))))))))))))))))))))
  have e77F := (show (xset (xnew (xset (xset h14 77 (.inl (7, 4, .inr (.inr (.inr (.inr (fun q => if q = 3 then some 84 else (fun q => if q = 2 then some 82 else (fun q => if q = 1 then some 80 else (fun q => if q = 0 then some 78 else (fun _ => none) q) q) q) q))))))) 0 (.inr (10, [.ref 1, .ref 4, .ref 9, .ref 42, .ref 57, .ref 64, .ref 68, .int (nI 0), .ref 72, .ref 75, .ref 77, .null]))) 86 (.inl (0, 20, .inl (fun _ => nI 0)))) 0 (.inr (10, [.ref 1, .ref 4, .ref 9, .ref 42, .ref 57, .ref 64, .ref 68, .int (nI 0), .ref 72, .ref 75, .ref 77, .ref 86]))).2 77 = .inl (7, 4, .inr (.inr (.inr (.inr (fun q => if q = 3 then some 84 else (fun q => if q = 2 then some 82 else (fun q => if q = 1 then some 80 else (fun q => if q = 0 then some 78 else (fun _ => none) q) q) q) q))))) from ((xset_ne (by decide)).trans ((xnew_ne (by decide)).trans ((xset_ne (by decide)).trans (xset_same _ _ _)))))
  have e86F := (show (xset (xnew (xset (xset h14 77 (.inl (7, 4, .inr (.inr (.inr (.inr (fun q => if q = 3 then some 84 else (fun q => if q = 2 then some 82 else (fun q => if q = 1 then some 80 else (fun q => if q = 0 then some 78 else (fun _ => none) q) q) q) q))))))) 0 (.inr (10, [.ref 1, .ref 4, .ref 9, .ref 42, .ref 57, .ref 64, .ref 68, .int (nI 0), .ref 72, .ref 75, .ref 77, .null]))) 86 (.inl (0, 20, .inl (fun _ => nI 0)))) 0 (.inr (10, [.ref 1, .ref 4, .ref 9, .ref 42, .ref 57, .ref 64, .ref 68, .int (nI 0), .ref 72, .ref 75, .ref 77, .ref 86]))).2 86 = .inl (0, 20, .inl (fun _ => nI 0)) from ((xset_ne (by decide)).trans (xnew_same _ _ _)))
  have szF : (xset (xnew (xset (xset h14 77 (.inl (7, 4, .inr (.inr (.inr (.inr (fun q => if q = 3 then some 84 else (fun q => if q = 2 then some 82 else (fun q => if q = 1 then some 80 else (fun q => if q = 0 then some 78 else (fun _ => none) q) q) q) q))))))) 0 (.inr (10, [.ref 1, .ref 4, .ref 9, .ref 42, .ref 57, .ref 64, .ref 68, .int (nI 0), .ref 72, .ref 75, .ref 77, .null]))) 86 (.inl (0, 20, .inl (fun _ => nI 0)))) 0 (.inr (10, [.ref 1, .ref 4, .ref 9, .ref 42, .ref 57, .ref 64, .ref 68, .int (nI 0), .ref 72, .ref 75, .ref 77, .ref 86]))).1 = 87 := rfl
  generalize (xset (xnew (xset (xset h14 77 (.inl (7, 4, .inr (.inr (.inr (.inr (fun q => if q = 3 then some 84 else (fun q => if q = 2 then some 82 else (fun q => if q = 1 then some 80 else (fun q => if q = 0 then some 78 else (fun _ => none) q) q) q) q))))))) 0 (.inr (10, [.ref 1, .ref 4, .ref 9, .ref 42, .ref 57, .ref 64, .ref 68, .int (nI 0), .ref 72, .ref 75, .ref 77, .null]))) 86 (.inl (0, 20, .inl (fun _ => nI 0)))) 0 (.inr (10, [.ref 1, .ref 4, .ref 9, .ref 42, .ref 57, .ref 64, .ref 68, .int (nI 0), .ref 72, .ref 75, .ref 77, .ref 86]))) = hF at uF e0F e9F e77F e86F szF ⊢
  have RU_F : RU hF 1 := RU_14.tr (fun k l1 l2 => uF k (by omega) (by omega) (by omega) (by omega))
  have FA_F : FA hF := FA_14.tr (fun k l1 l2 => uF k (by omega) (by omega) (by omega) (by omega))
  have M0_F : MM hF 10 1 (60, 80) := M0_14.tr (fun k l1 l2 => uF k (by omega) (by omega) (by omega) (by omega))
  have M1_F : MM hF 26 1 (60, 80) := M1_14.tr (fun k l1 l2 => uF k (by omega) (by omega) (by omega) (by omega))
  have RC_F : RC0 hF := RC_14.tr (fun k l1 l2 => uF k (by omega) (by omega) (by omega) (by omega))
  have FC_F : FC0 hF := FC_14.tr (fun k l1 l2 => uF k (by omega) (by omega) (by omega) (by omega))
  have LA_F : LG hF 64 q0 := LA_14.tr (fun k l1 l2 => uF k (by omega) (by omega) (by omega) (by omega))
  have LB_F : LG hF 68 q0 := LB_14.tr (fun k l1 l2 => uF k (by omega) (by omega) (by omega) (by omega))
  have ta_F : hF.2 72 = .inr (9, [.ref 73, .int (nI 0), .ref 74, .int (nI 0), .int (nI 0)]) := (uF 72 (by omega) (by omega) (by omega) (by omega)).trans ta_14
  have tb_F : hF.2 73 = .inl (0, 60, .inl (fun _ => nI 0)) := (uF 73 (by omega) (by omega) (by omega) (by omega)).trans tb_14
  have tc_F : hF.2 74 = .inl (0, 12, .inl (fun _ => nI 0)) := (uF 74 (by omega) (by omega) (by omega) (by omega)).trans tc_14
  have pa_F : hF.2 75 = .inr (4, [.ref 76, .int (nI 0)]) := (uF 75 (by omega) (by omega) (by omega) (by omega)).trans pa_14
  have pb_F : hF.2 76 = .inl (0, 12, .inl (fun _ => nI 0)) := (uF 76 (by omega) (by omega) (by omega) (by omega)).trans pb_14
  have ra78_F : hF.2 78 = .inr (7, [.ref 79, .int (nI 0), .int (-11)]) := (uF 78 (by omega) (by omega) (by omega) (by omega)).trans ra78_14
  have rb78_F : hF.2 79 = .inl (0, 20, .inl (fun _ => nI 0)) := (uF 79 (by omega) (by omega) (by omega) (by omega)).trans rb78_14
  have ra80_F : hF.2 80 = .inr (7, [.ref 81, .int (nI 0), .int (-11)]) := (uF 80 (by omega) (by omega) (by omega) (by omega)).trans ra80_14
  have rb80_F : hF.2 81 = .inl (0, 20, .inl (fun _ => nI 0)) := (uF 81 (by omega) (by omega) (by omega) (by omega)).trans rb80_14
  have ra82_F : hF.2 82 = .inr (7, [.ref 83, .int (nI 0), .int (-11)]) := (uF 82 (by omega) (by omega) (by omega) (by omega)).trans ra82_14
  have rb82_F : hF.2 83 = .inl (0, 20, .inl (fun _ => nI 0)) := (uF 83 (by omega) (by omega) (by omega) (by omega)).trans rb82_14
  have ra84_F : hF.2 84 = .inr (7, [.ref 85, .int (nI 0), .int (-11)]) := (uF 84 (by omega) (by omega) (by omega) (by omega)).trans ra84_14
  have rb84_F : hF.2 85 = .inl (0, 20, .inl (fun _ => nI 0)) := (uF 85 (by omega) (by omega) (by omega) (by omega)).trans rb84_14
  obtain ⟨v42, v43, v44, v45, v46, v47, v48, v49, v50, v51, v52, v53, v54, v55, v56⟩ := RC_F
  obtain ⟨v57, v58, v59, v60, v61, v62, v63⟩ := FC_F
  have RSF : RS hF := ⟨v42, ⟨_, e9F, fun j hj => by rcases (show j = 0 ∨ j = 1 by omega) with rfl | rfl <;> rfl⟩, ⟨_, v43, fun k hk => by rw [if_pos hk]⟩, ⟨_, v46, fun k hk => by rw [if_pos hk]⟩, ⟨_, v50, fun k hk => by rw [if_pos hk]⟩, ⟨_, v53, fun k hk => by rw [if_pos hk]⟩⟩
  have RWF : RW hF := ⟨⟨_, v56⟩, fun u hu => by
    rcases (show u = 0 ∨ u = 1 by omega) with rfl | rfl
    · exact ⟨_, _, v51, v54⟩
    · exact ⟨_, _, v52, v55⟩⟩
  have RKF : RK hF 1 (hh (60, 80) (60, 80)) (fun _ _ => False) := ⟨_, _, _, _, _, v44, v45, v47, v48, v49, fun r q _ _ _ _ => Or.inl ⟨rfl, fun z => z⟩⟩
  have FIF : FI hF 1 0 := ⟨false, v57, ⟨_, v58, fun k hk => by rw [if_pos hk]⟩, fun k hk => by
    rcases (show k = 0 ∨ k = 1 ∨ k = 2 ∨ k = 3 by omega) with rfl | rfl | rfl | rfl
    · refine ⟨_, v59, fun r _ _ => ?_⟩
      by_cases r0 : r = 0
      · subst r0; rfl
      · rw [upd_off r0, show wyN 1 0 r = 0 from if_neg r0]
    · exact ⟨_, v60, fun r _ hc => by rcases hc with hc | hc | hc | hc; subst hc; rw [wyN_00]; exact absurd hc (by decide); exact absurd hc (by decide); exact absurd hc.1 (by decide)⟩
    · exact ⟨_, v61, fun r _ hc => by rcases hc with hc | hc | hc | hc; subst hc; rw [wyN_00]; exact absurd hc (by decide); exact absurd hc (by decide); exact absurd hc.1 (by decide)⟩
    · exact ⟨_, v62, fun r _ hc => by rcases hc with hc | hc | hc | hc; subst hc; rw [wyN_00]; exact absurd hc (by decide); exact absurd hc (by decide); exact absurd hc.1 (by decide)⟩⟩
  have TQF : TQ hF [] := ⟨fun _ => 0, 0, [], ⟨ta_F, by decide, by decide, ⟨_, tb_F, fun j hj => absurd hj (Nat.not_lt_zero _)⟩, ⟨_, tc_F, fun j hj => absurd hj (Nat.not_lt_zero _)⟩⟩, fun j hj => absurd hj (Nat.not_lt_zero _)⟩
  have PTF : PT hF [] := ⟨pa_F, by decide, _, pb_F, fun j hj => absurd hj (Nat.not_lt_zero _)⟩
  refine ⟨rfl, szF, by omega, e0F, RU_F, FA_F, M0_F, M1_F, RSF, RWF, RKF, ⟨0, FIF⟩, ⟨_, v63⟩, LA_F, LB_F, TQF, PTF, ⟨_, e77F, fun j hj => by rcases (show j = 0 ∨ j = 1 ∨ j = 2 ∨ j = 3 by omega) with rfl | rfl | rfl | rfl <;> rfl⟩, fun k hk => ?_, ⟨_, e86F⟩⟩
  rcases (show k = 0 ∨ k = 1 ∨ k = 2 ∨ k = 3 by omega) with rfl | rfl | rfl | rfl
  · exact ⟨_, _, _, ⟨ra78_F, rb78_F⟩, rfl⟩
  · exact ⟨_, _, _, ⟨ra80_F, rb80_F⟩, rfl⟩
  · exact ⟨_, _, _, ⟨ra82_F, rb82_F⟩, rfl⟩
  · exact ⟨_, _, _, ⟨ra84_F, rb84_F⟩, rfl⟩
