/-! ===== java/util/Arrays.fill; a race forgotten, a rack made ===== -/
theorem l_fill (w : XW) (P : Option Value → XH → Prop) (h0 : XH) {a m : Nat} (x : Int32) (hm : m < 1000000) (hP : ∀ h', Same [a] h0 h' → iA h' a m (fun _ => x) → P none h') : ∀ (g i : Nat) (h : XH) (f : Nat → Int32), i + g = m → a < h.1 → h.2 a = .inl (0, m, .inl f) → (∀ j, j < i → f j = x) → Same [a] h0 h → AX w M_J7_fill_53178 0 0 5 [.ref a, .int x, .int (nI i), .int (nI m)] [] h P
  | 0, i, h, f, hg, ha, ea, q, hS => by
    have e : i = m := by omega
    subst e
    refine AX.iload_n (pc := 5) dJ7_fill_53178_5 rfl ?_
    refine AX.iload_n (pc := 6) dJ7_fill_53178_6 rfl ?_
    refine AX.icmp_geN (pc := 7) (tgt := 20) dJ7_fill_53178_7 (by decide) (by omega) (by omega) (fun hc7 => ?_) (fun q => absurd q (by omega))
    refine AX.vret (pc := 20) dJ7_fill_53178_20 rfl (by decide) (by decide) ?_
    exact hP h hS ⟨f, ea, q⟩
  | g + 1, i, h, f, hg, ha, ea, q, hS => by
    refine AX.iload_n (pc := 5) dJ7_fill_53178_5 rfl ?_
    refine AX.iload_n (pc := 6) dJ7_fill_53178_6 rfl ?_
    refine AX.icmp_geN (pc := 7) (tgt := 20) dJ7_fill_53178_7 (by decide) (by omega) (by omega) (fun q => absurd q (by omega)) (fun hc7 => ?_)
    refine AX.aload_n (pc := 10) dJ7_fill_53178_10 rfl ?_
    refine AX.iload_n (pc := 11) dJ7_fill_53178_11 rfl ?_
    refine AX.iload_n (pc := 12) dJ7_fill_53178_12 rfl ?_
    refine AX.iastN (pc := 13) (i := i) (g := upd f i x) ha ea (by omega) (by omega) rfl dJ7_fill_53178_13 ?_
    refine AX.iincN (c := i + 1) (pc := 14) (L' := [.ref a, .int x, .int (nI (i + 1)), .int (nI m)]) dJ7_fill_53178_14 rfl (inc1 _) (by decide) rfl ?_
    refine AX.goto (pc := 17) (tgt := 5) dJ7_fill_53178_17 (by decide) ?_
    have sx : Same [a] h (xset h a (.inl (0, m, .inl (upd f i x)))) := Same.rest
    exact l_fill w P h0 x hm hP g (i + 1) _ _ (by omega) (sx.le ha) (xset_same _ _ _) (upd_ext (g := fun _ => x) q rfl) (hS.trans sx)
theorem c_fill (w : XW) (h : XH) {a m : Nat} {f : Nat → Int32} (x : Int32) (hm : m < 1000000) (ha : a < h.1) (ea : h.2 a = .inl (0, m, .inl f)) : CA w M_J7_fill_53178 [.ref a, .int x] h (fun v h' => v = none ∧ Same [a] h h' ∧ iA h' a m (fun _ => x)) := by
  refine CA.ofJ (by decide +kernel) rfl (fun _ => Nat.le_of_ble_eq_true rfl) ?_
  show AX w M_J7_fill_53178 0 0 0 [.ref a, .int x, .null, .null] [] h _
  refine AX.iconst (pc := 0) (v := nI 0) dJ7_fill_53178_0 (by decide) ?_
  refine AX.istore_n (pc := 1) (L' := [.ref a, .int x, .int (nI 0), .null]) dJ7_fill_53178_1 (by decide) rfl ?_
  refine AX.aload_n (pc := 2) dJ7_fill_53178_2 rfl ?_
  refine AX.alen (pc := 3) (v := nI m) (by decide) ha ea rfl dJ7_fill_53178_3 ?_
  refine AX.istore_n (pc := 4) (L' := [.ref a, .int x, .int (nI 0), .int (nI m)]) dJ7_fill_53178_4 (by decide) rfl ?_
  exact l_fill w _ h x hm (fun h' p q => ⟨rfl, p, q⟩) m 0 h f (by omega) ha ea (fun j hj => absurd hj (Nat.not_lt_zero _)) Same.rf
theorem RK.forgotten {h h' : XH} {o o' : Nat} {H H' : Nat → Nat × Nat} {D : Nat → Nat → Prop} (X : RK h o H D) (hs : Same [49] h h') (e : iA h' 49 625 (fun _ => 0)) : RK h' o' H' (fun _ _ => False) := by
  obtain ⟨f0, f1, a0, a1, fs, e44, e45, e47, e48, e49, -⟩ := X
  obtain ⟨g, eg, qg⟩ := e
  exact ⟨f0, f1, a0, a1, g, hs.at (by simp) e44, hs.at (by simp) e45, hs.at (by simp) e47, hs.at (by simp) e48, eg, fun r q _ _ r2 q2 => Or.inl ⟨qg _ (by omega), id⟩⟩
theorem c_rForget (w : XW) (h : XH) {o o' : Nat} {H H' : Nat → Nat × Nat} {D : Nat → Nat → Prop} (hn : 57 ≤ h.1) (hS : RS h) (hK : RK h o H D) : CA w M_X7_forget [.ref 42] h (fun v h' => v = none ∧ Same [49] h h' ∧ RK h' o' H' (fun _ _ => False)) := by
  refine CA.of (by decide) rfl (fun _ => Nat.le_of_ble_eq_true rfl) ?_
  obtain ⟨f0, f1, a0, a1, fs, e44, e45, e47, e48, e49, e6⟩ := id hK
  show AX w M_X7_forget 0 0 0 [.ref 42] [] h _
  refine AX.aload_n (pc := 0) dX7_forget_0 rfl ?_
  refine AX.getf (pc := 1) fX7_forget_21 (lt_k hn (by omega)) hS.1 rfl dX7_forget_1 ?_
  refine AX.iconst (pc := 4) (v := nI 0) dX7_forget_4 (by decide) ?_
  refine AX.callS (pc := 5) (M2 := M_J7_fill_53178) (As := [.ref 49, .int (nI 0)]) (rest := []) (c_fill w h 0 (by decide) (lt_k hn (by decide)) e49) xc_X7_forget__J7_fill_53178 gX7_forget_J7_fill_53178 rfl (Nat.le_of_ble_eq_true rfl) dX7_forget_5 ?_
  rintro _ h1 ⟨rfl, s1, i1⟩
  show AX w M_X7_forget 0 0 8 [.ref 42] [] _ _
  refine AX.vret (pc := 8) dX7_forget_8 rfl (by decide) (by decide) ?_
  exact ⟨rfl, s1, hK.forgotten s1 i1⟩
theorem c_make (w : XW) (h : XH) {b : Nat} {kd sz : Int32} {f : Nat → Int32} (k s : Int32) (hn : b + 2 ≤ h.1) (hK : RK_ h b kd sz f) : CA w M_X8_make [.ref b, .int k, .int s] h (fun v h' => v = none ∧ Same [b, b + 1] h h' ∧ ∃ g : Nat → Int32, RK_ h' b k s g ∧ ∀ j, j < 20 → g j = (-5)) := by
  refine CA.of (by decide) rfl (fun _ => Nat.le_of_ble_eq_true rfl) ?_
  show AX w M_X8_make 0 0 0 [.ref b, .int k, .int s] [] h _
  refine AX.aload_n (pc := 0) dX8_make_0 rfl ?_
  refine AX.iload_n (pc := 1) dX8_make_1 rfl ?_
  refine AX.putf (pc := 2) (fs' := [.ref (b + 1), .int k, .int sz]) fX8_make_19 rfl (lt_k hn (by omega)) hK.1 (Nat.le_of_ble_eq_true rfl) rfl rfl rfl dX8_make_2 ?_
  refine AX.aload_n (pc := 5) dX8_make_5 rfl ?_
  refine AX.iload_n (pc := 6) dX8_make_6 rfl ?_
  refine AX.putf (pc := 7) (h := xset h b (.inr (7, [.ref (b + 1), .int k, .int sz]))) (a := b) (fs' := [.ref (b + 1), .int k, .int s]) fX8_make_15 rfl (lt_k hn (by omega)) (xset_same _ _ _) (Nat.le_of_ble_eq_true rfl) rfl rfl rfl dX8_make_7 ?_
  have sx : Same [b] h (xset (xset h b (.inr (7, [.ref (b + 1), .int k, .int sz]))) b (.inr (7, [.ref (b + 1), .int k, .int s]))) := Same.set (Same.set Same.rf (by simp)) (by simp)
  refine AX.aload_n (pc := 10) dX8_make_10 rfl ?_
  refine AX.getf (pc := 11) fX8_make_9 (lt_k hn (by omega)) (xset_same _ _ _) rfl dX8_make_11 ?_
  refine AX.bipush (pc := 14) (v := (-5)) dX8_make_14 (by decide) ?_
  refine AX.callS (pc := 16) (M2 := M_J7_fill_53178) (As := [.ref (b + 1), .int (-5)]) (rest := []) (c_fill w (xset (xset h b (.inr (7, [.ref (b + 1), .int k, .int sz]))) b (.inr (7, [.ref (b + 1), .int k, .int s]))) (-5) (by decide) (sx.le (show b + 1 < h.1 by omega)) ((xset_ne (by omega)).trans ((xset_ne (by omega)).trans hK.2))) xc_X8_make__J7_fill_53178 gX8_make_J7_fill_53178 rfl (Nat.le_of_ble_eq_true rfl) dX8_make_16 ?_
  rintro _ h1 ⟨rfl, s1, g, eg, qg⟩
  show AX w M_X8_make 0 0 19 [.ref b, .int k, .int s] [] _ _
  refine AX.vret (pc := 19) dX8_make_19 rfl (by decide) (by decide) ?_
  exact ⟨rfl, (sx.wide (by simp)).trans (s1.wide (by simp)), g, ⟨s1.at (by simp) (xset_same _ _ _), eg⟩, qg⟩
