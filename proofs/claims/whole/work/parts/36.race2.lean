/-! ===== THE RACE: a pair weighed, swept ===== -/
theorem cmpl_e0 {o : Option Ordering} (h : Op.cmpValue o .l = 0) : o = some .eq := by
  match o, h with
  | none, h => exact absurd h (by decide)
  | some .lt, h => exact absurd h (by decide)
  | some .eq, _ => rfl
  | some .gt, h => exact absurd h (by decide)
theorem cmpl_e1 {o : Option Ordering} (h : Op.cmpValue o .l ≠ 0) : o ≠ some .eq := by
  intro q; subst q; exact absurd rfl h
theorem WG.next {h' : XH} {u k : Nat} {Z : Nat → UInt64 × Nat} {fs ft : Nat → UInt64} (H : ∀ a, 1 ≤ a → a < k → fs a = (Z a).1 ∧ ft a = odW (Z a).2)
    (x1 : h'.2 (51 + u) = .inl (2, 63, .inr (.inr (.inr (.inl (vf_upd fs k (Z k).1)))))) (x2 : h'.2 (54 + u) = .inl (2, 63, .inr (.inr (.inr (.inl (vf_upd ft k (odW (Z k).2))))))) : WG h' u (k + 1) Z := by
  refine ⟨_, _, x1, x2, fun a a1 a2 => ?_⟩
  by_cases z : a = k
  · subst z; rw [vupd_at, vupd_at]; exact ⟨rfl, rfl⟩
  · rw [vupd_off z, vupd_off z]; exact H a a1 (by omega)
theorem l_weigh (w : XW) (P : Option Value → XH → Prop) (h0 : XH) {o sd rg dk ck r q rr u v b n base step : Nat} {fo : Nat → UInt64} (hu : v + u = 1) (hb : b = 10 + 16 * u) (hb5 : ∀ d, d < rr → base + d * step < 625) (hn1 : n ≤ 10000) (hV : ∀ d, d < rr → leN o ≤ d → rB n (fo (base + d * step))) (hr0 : 0 < rr) (hr : rr ≤ 24) (hP : ∀ h', Same [51 + u, 54 + u] h0 h' → WG h' u 63 (fun a => rcS o sd rg (fun d => fo (base + d * step)) rr a (fC a)) → P none h') : ∀ (g k : Nat) (h : XH), k + g = 62 → 57 ≤ h.1 → RS h → FA h → MI h b sd rg dk ck → iA h 56 63 (fun s => oI (nxN o rr s)) → h.2 (44 + v) = .inl (2, 625, .inr (.inr (.inr (.inl fo)))) → WG h u (k + 1) (fun a => rcS o sd rg (fun d => fo (base + d * step)) rr a (fC a)) → Same [51 + u, 54 + u] h0 h → AX w M_X7_weigh 0 0 49 [.ref 42, .int (nI u), .int (nI r), .int (nI q), .int (nI base), .int (nI step), .int (nI (k + 1))] [] h P
  | 0, k, h, hg, hn, hRS, hF, hM, hN, eo, hW, hS => by
    have e : k = 62 := by omega
    subst e
    refine AX.iload (pc := 49) dX7_weigh_49 rfl ?_
    refine AX.bipush (pc := 51) (v := nI 63) dX7_weigh_51 (by decide) ?_
    refine AX.icmp_geN (pc := 53) (tgt := 73) dX7_weigh_53 (by decide) (by decide) (by decide) (fun hc53 => ?_) (fun q => absurd q (by decide))
    refine AX.vret (pc := 73) dX7_weigh_73 rfl (by decide) (by decide) ?_
    exact hP h hS hW
  | g + 1, k, h, hg, hn, hRS, hF, hM, hN, eo, hW, hS => by
    obtain ⟨fs, ft, e1, e2, e3⟩ := hW
    refine AX.iload (pc := 49) dX7_weigh_49 rfl ?_
    refine AX.bipush (pc := 51) (v := nI 63) dX7_weigh_51 (by decide) ?_
    refine AX.icmp_geN (pc := 53) (tgt := 73) dX7_weigh_53 (by decide) (by omega) (by decide) (fun q => absurd q (by omega)) (fun hc53 => ?_)
    refine AX.aload_n (pc := 56) dX7_weigh_56 rfl ?_
    refine AX.iload_n (pc := 57) dX7_weigh_57 rfl ?_
    refine AX.iload (pc := 58) dX7_weigh_58 rfl ?_
    refine AX.iload (pc := 60) dX7_weigh_60 rfl ?_
    refine AX.iload (pc := 62) dX7_weigh_62 rfl ?_
    refine AX.callV (pc := 64) (M2 := M_X7_weighAim) (As := [.int (nI u), .int (nI (k + 1)), .int (nI base), .int (nI step)]) (rest := []) (c_weighAim w h hn hRS hF hu hb hM hN eo hb5 hn1 hV e1 e2 hr0 hr (a := k + 1) (by omega) (by omega)) xc_X7_weigh__X7_weighAim gX7_weigh_X7_weighAim (ci := 6) rfl (lt_k hn (by omega)) hRS.1 rfl (Nat.le_of_ble_eq_true rfl) dX7_weigh_64 ?_
    rintro _ h1 ⟨rfl, s1, x1, x2⟩
    show AX w M_X7_weigh 0 0 67 [.ref 42, .int (nI u), .int (nI r), .int (nI q), .int (nI base), .int (nI step), .int (nI (k + 1))] [] _ _
    refine AX.iincN (c := k + 2) (pc := 67) (L' := [.ref 42, .int (nI u), .int (nI r), .int (nI q), .int (nI base), .int (nI step), .int (nI (k + 2))]) dX7_weigh_67 rfl (inc1 _) (by decide) rfl ?_
    refine AX.goto (pc := 70) (tgt := 49) dX7_weigh_70 (by decide) ?_
    exact l_weigh w P h0 hu hb hb5 hn1 hV hr0 hr hP g (k + 1) h1 (by omega) (s1.le hn) (hRS.same s1 (by simp; omega) (by simp; omega) (by simp; omega) (by simp; omega) (by simp; omega) (by simp; omega)) (hF.same s1 (by simp; omega) (by simp; omega) (by simp; omega) (by simp; omega) (by simp; omega)) (hM.same s1 (by simp; omega) (by simp; omega) (by simp; omega)) (hN.same s1 (by simp; omega)) (s1.at (by simp; omega) eo) (WG.next e3 x1 x2) (hS.trans s1)
theorem c_weigh0 (w : XW) (h : XH) {o sd rg dk ck r q n : Nat} {fo fs ft : Nat → UInt64} {cn : Nat → Int32} (hn : 57 ≤ h.1) (hR : RU h o) (hRS : RS h) (hF : FA h) (hM : MI h 10 sd rg dk ck) (en : h.2 56 = .inl (0, 63, .inl cn)) (eo : h.2 45 = .inl (2, 625, .inr (.inr (.inr (.inl fo))))) (hr0 : 0 < r) (hr1 : r ≤ 24) (hrr : r ≤ 24) (hqq : q ≤ 24) (hn1 : n ≤ 10000) (hV : ∀ d, d < r → leN o ≤ d → rB n (fo (q + d * 25))) (e1 : h.2 (51 + 0) = .inl (2, 63, .inr (.inr (.inr (.inl fs))))) (e2 : h.2 (54 + 0) = .inl (2, 63, .inr (.inr (.inr (.inl ft))))) : CA w M_X7_weigh [.ref 42, .int (nI 0), .int (nI r), .int (nI q)] h (fun v' h' => v' = none ∧ Same [56, 51 + 0, 54 + 0] h h' ∧ iA h' 56 63 (fun s => oI (nxN o r s)) ∧ WG h' 0 63 (fun a => rcS o sd rg (fun d => fo (q + d * 25)) r a (fC a))) := by
  refine CA.of (by decide) rfl (fun _ => Nat.le_of_ble_eq_true rfl) ?_
  show AX w M_X7_weigh 0 0 0 [.ref 42, .int (nI 0), .int (nI r), .int (nI q), .null, .null, .null] [] h _
  refine AX.aload_n (pc := 0) dX7_weigh_0 rfl ?_
  refine AX.getf (pc := 1) fX7_weigh_34 (lt_k hn (by omega)) hRS.1 rfl dX7_weigh_1 ?_
  refine AX.iload_n (pc := 4) dX7_weigh_4 rfl ?_
  refine AX.if_neN (pc := 5) (tgt := 12) dX7_weigh_5 (by decide) (by decide) (fun q => absurd q (by decide)) (fun hc5 => ?_)
  refine AX.iload_n (pc := 8) dX7_weigh_8 rfl ?_
  refine AX.goto (pc := 9) (tgt := 13) dX7_weigh_9 (by decide) ?_
  refine AX.aload_n (pc := 13) dX7_weigh_13 rfl ?_
  refine AX.getf (pc := 14) fX7_weigh_31 (lt_k hn (by omega)) hRS.1 rfl dX7_weigh_14 ?_
  refine AX.callV (pc := 17) (M2 := M_X9_restsBehind) (As := [.int (nI r), .ref 56]) (rest := []) (c_restsBehind w h hR r 56 (by omega) (by omega) (by omega) en) xc_X7_weigh__X9_restsBehind gX7_weigh_X9_restsBehind (ci := 8) rfl (lt_k hn (by omega)) hR.2.1 rfl (Nat.le_of_ble_eq_true rfl) dX7_weigh_17 ?_
  rintro _ h1 ⟨rfl, s1, n1⟩
  show AX w M_X7_weigh 0 0 20 [.ref 42, .int (nI 0), .int (nI r), .int (nI q), .null, .null, .null] [] _ _
  refine AX.iload_n (pc := 20) dX7_weigh_20 rfl ?_
  refine AX.if_neN (pc := 21) (tgt := 28) dX7_weigh_21 (by decide) (by decide) (fun q => absurd q (by decide)) (fun hc21 => ?_)
  refine AX.iload_n (pc := 24) dX7_weigh_24 rfl ?_
  refine AX.goto (pc := 25) (tgt := 32) dX7_weigh_25 (by decide) ?_
  refine AX.istore (pc := 32) (L' := [.ref 42, .int (nI 0), .int (nI r), .int (nI q), .int (nI q), .null, .null]) dX7_weigh_32 (by decide) rfl ?_
  refine AX.iload_n (pc := 34) dX7_weigh_34 rfl ?_
  refine AX.if_neN (pc := 35) (tgt := 43) dX7_weigh_35 (by decide) (by decide) (fun q => absurd q (by decide)) (fun hc35 => ?_)
  refine AX.bipush (pc := 38) (v := nI 25) dX7_weigh_38 (by decide) ?_
  refine AX.goto (pc := 40) (tgt := 44) dX7_weigh_40 (by decide) ?_
  refine AX.istore (pc := 44) (L' := [.ref 42, .int (nI 0), .int (nI r), .int (nI q), .int (nI q), .int (nI 25), .null]) dX7_weigh_44 (by decide) rfl ?_
  refine AX.iconst (pc := 46) (v := nI 1) dX7_weigh_46 (by decide) ?_
  refine AX.istore (pc := 47) (L' := [.ref 42, .int (nI 0), .int (nI r), .int (nI q), .int (nI q), .int (nI 25), .int (nI 1)]) dX7_weigh_47 (by decide) rfl ?_
  exact l_weigh w _ h1 (u := 0) (v := 1) (n := n) (base := q) (step := 25) rfl rfl (fun d hd => by omega) hn1 hV hr0 hr1 (fun h' p q => ⟨rfl, (s1.wide (by simp)).trans (p.wide (by simp)), n1.same p (by simp), q⟩) 62 0 h1 (by omega) (s1.le hn) (hRS.same s1 (by simp) (by simp) (by simp) (by simp) (by simp) (by simp)) (hF.same s1 (by simp) (by simp) (by simp) (by simp) (by simp)) (hM.same s1 (by simp) (by simp) (by simp)) n1 (s1.at (by simp) eo) ⟨fs, ft, s1.at (by simp) e1, s1.at (by simp) e2, fun a a1 a2 => by omega⟩ Same.rf
theorem c_weigh1 (w : XW) (h : XH) {o sd rg dk ck r q n : Nat} {fo fs ft : Nat → UInt64} {cn : Nat → Int32} (hn : 57 ≤ h.1) (hR : RU h o) (hRS : RS h) (hF : FA h) (hM : MI h 26 sd rg dk ck) (en : h.2 56 = .inl (0, 63, .inl cn)) (eo : h.2 44 = .inl (2, 625, .inr (.inr (.inr (.inl fo))))) (hr0 : 0 < q) (hr1 : q ≤ 24) (hrr : r ≤ 24) (hqq : q ≤ 24) (hn1 : n ≤ 10000) (hV : ∀ d, d < q → leN o ≤ d → rB n (fo (r * 25 + d * 1))) (e1 : h.2 (51 + 1) = .inl (2, 63, .inr (.inr (.inr (.inl fs))))) (e2 : h.2 (54 + 1) = .inl (2, 63, .inr (.inr (.inr (.inl ft))))) : CA w M_X7_weigh [.ref 42, .int (nI 1), .int (nI r), .int (nI q)] h (fun v' h' => v' = none ∧ Same [56, 51 + 1, 54 + 1] h h' ∧ iA h' 56 63 (fun s => oI (nxN o q s)) ∧ WG h' 1 63 (fun a => rcS o sd rg (fun d => fo (r * 25 + d * 1)) q a (fC a))) := by
  refine CA.of (by decide) rfl (fun _ => Nat.le_of_ble_eq_true rfl) ?_
  show AX w M_X7_weigh 0 0 0 [.ref 42, .int (nI 1), .int (nI r), .int (nI q), .null, .null, .null] [] h _
  refine AX.aload_n (pc := 0) dX7_weigh_0 rfl ?_
  refine AX.getf (pc := 1) fX7_weigh_34 (lt_k hn (by omega)) hRS.1 rfl dX7_weigh_1 ?_
  refine AX.iload_n (pc := 4) dX7_weigh_4 rfl ?_
  refine AX.if_neN (pc := 5) (tgt := 12) dX7_weigh_5 (by decide) (by decide) (fun hc5 => ?_) (fun q => absurd q (by decide))
  refine AX.iload_n (pc := 12) dX7_weigh_12 rfl ?_
  refine AX.aload_n (pc := 13) dX7_weigh_13 rfl ?_
  refine AX.getf (pc := 14) fX7_weigh_31 (lt_k hn (by omega)) hRS.1 rfl dX7_weigh_14 ?_
  refine AX.callV (pc := 17) (M2 := M_X9_restsBehind) (As := [.int (nI q), .ref 56]) (rest := []) (c_restsBehind w h hR q 56 (by omega) (by omega) (by omega) en) xc_X7_weigh__X9_restsBehind gX7_weigh_X9_restsBehind (ci := 8) rfl (lt_k hn (by omega)) hR.2.1 rfl (Nat.le_of_ble_eq_true rfl) dX7_weigh_17 ?_
  rintro _ h1 ⟨rfl, s1, n1⟩
  show AX w M_X7_weigh 0 0 20 [.ref 42, .int (nI 1), .int (nI r), .int (nI q), .null, .null, .null] [] _ _
  refine AX.iload_n (pc := 20) dX7_weigh_20 rfl ?_
  refine AX.if_neN (pc := 21) (tgt := 28) dX7_weigh_21 (by decide) (by decide) (fun hc21 => ?_) (fun q => absurd q (by decide))
  refine AX.iload_n (pc := 28) dX7_weigh_28 rfl ?_
  refine AX.bipush (pc := 29) (v := nI 25) dX7_weigh_29 (by decide) ?_
  refine AX.imulN (pc := 31) (c := r * 25) dX7_weigh_31 rfl ?_
  refine AX.istore (pc := 32) (L' := [.ref 42, .int (nI 1), .int (nI r), .int (nI q), .int (nI (r * 25)), .null, .null]) dX7_weigh_32 (by decide) rfl ?_
  refine AX.iload_n (pc := 34) dX7_weigh_34 rfl ?_
  refine AX.if_neN (pc := 35) (tgt := 43) dX7_weigh_35 (by decide) (by decide) (fun hc35 => ?_) (fun q => absurd q (by decide))
  refine AX.iconst (pc := 43) (v := nI 1) dX7_weigh_43 (by decide) ?_
  refine AX.istore (pc := 44) (L' := [.ref 42, .int (nI 1), .int (nI r), .int (nI q), .int (nI (r * 25)), .int (nI 1), .null]) dX7_weigh_44 (by decide) rfl ?_
  refine AX.iconst (pc := 46) (v := nI 1) dX7_weigh_46 (by decide) ?_
  refine AX.istore (pc := 47) (L' := [.ref 42, .int (nI 1), .int (nI r), .int (nI q), .int (nI (r * 25)), .int (nI 1), .int (nI 1)]) dX7_weigh_47 (by decide) rfl ?_
  exact l_weigh w _ h1 (u := 1) (v := 0) (n := n) (base := r * 25) (step := 1) rfl rfl (fun d hd => by omega) hn1 hV hr0 hr1 (fun h' p q => ⟨rfl, (s1.wide (by simp)).trans (p.wide (by simp)), n1.same p (by simp), q⟩) 62 0 h1 (by omega) (s1.le hn) (hRS.same s1 (by simp) (by simp) (by simp) (by simp) (by simp) (by simp)) (hF.same s1 (by simp) (by simp) (by simp) (by simp) (by simp)) (hM.same s1 (by simp) (by simp) (by simp)) n1 (s1.at (by simp) eo) ⟨fs, ft, s1.at (by simp) e1, s1.at (by simp) e2, fun a a1 a2 => by omega⟩ Same.rf
/-- all that a pair's sweeps read -/
def ZZ (h : XH) (Z0 Z1 : Nat → UInt64 × Nat) : Prop := WG h 0 63 Z0 ∧ WG h 1 63 Z1
theorem ZZ.same {S : List Nat} {h h' : XH} {Z0 Z1 : Nat → UInt64 × Nat} (H : ZZ h Z0 Z1) (hs : Same S h h') (h1 : 51 ∉ S) (h2 : 52 ∉ S) (h3 : 54 ∉ S) (h4 : 55 ∉ S) : ZZ h' Z0 Z1 := ⟨H.1.same hs h1 h3, H.2.same hs h2 h4⟩
theorem swS_end {n : Nat} {Z0 Z1 : Nat → UInt64 × Nat} (h0 : zOK n Z0) (h1 : zOK n Z1) (hn : n ≤ 9000) {i : Nat} (hi : i < 12) (h : swS Z0 Z1 i = true) : swN Z0 Z1 (i + 1) = swN Z0 Z1 12 ∧ swS Z0 Z1 11 = true := by
  refine ⟨(swN_still h 12 (by omega)).symm, ?_⟩
  by_cases z : i = 11
  · subst z; exact h
  · have a := swN_still h 12 (by omega)
    have b := swN_still h 11 (by omega)
    obtain ⟨c1, c2⟩ := swN_ok h0 h1 hn (i + 1) (by omega)
    unfold swS
    rw [a, b, deq_rfl c1.1, deq_rfl c2.1]
    rfl
theorem rA_at {h : XH} {a t N : Nat} {g : Nat → Option Nat} {f : Nat → Option Nat} (H : rA h a t N g) (e : h.2 a = .inl (t, N, .inr (.inr (.inr (.inr f))))) {i : Nat} (hi : i < N) : f i = g i := by
  obtain ⟨f', e', q⟩ := H
  have := e'.symm.trans e
  cases this
  exact q i hi
theorem l_sweepEnd (w : XW) (h : XH) {r q n : Nat} {Z0 Z1 : Nat → UInt64 × Nat} {f0 f1 : Nat → UInt64} {a0 a1 fs : Nat → Int32} (hn : 57 ≤ h.1) (hRS : RS h) (hZ : ZZ h Z0 Z1) (z0 : zOK n Z0) (z1 : zOK n Z1) (hn1 : n ≤ 9000) (hr : r ≤ 24) (hq : q ≤ 24) (e44 : h.2 44 = .inl (2, 625, .inr (.inr (.inr (.inl f0))))) (e45 : h.2 45 = .inl (2, 625, .inr (.inr (.inr (.inl f1))))) (e47 : h.2 47 = .inl (0, 625, .inl a0)) (e48 : h.2 48 = .inl (0, 625, .inl a1)) (e49 : h.2 49 = .inl (0, 625, .inl fs)) (P : Option Value → XH → Prop) (hP : ∀ h', Same [44, 45, 47, 48, 49] h h' → h'.2 44 = .inl (2, 625, .inr (.inr (.inr (.inl (vf_upd f0 (r * 25 + q) (swN Z0 Z1 12).1))))) → h'.2 45 = .inl (2, 625, .inr (.inr (.inr (.inl (vf_upd f1 (r * 25 + q) (swN Z0 Z1 12).2))))) → h'.2 47 = .inl (0, 625, .inl (upd a0 (r * 25 + q) (nI (swA Z0 (swN Z0 Z1 12).2).1))) → h'.2 48 = .inl (0, 625, .inl (upd a1 (r * 25 + q) (nI (swA Z1 (swN Z0 Z1 12).1).1))) → h'.2 49 = .inl (0, 625, .inl (upd fs (r * 25 + q) (nI (if swS Z0 Z1 11 then 2 else 1)))) → P none h') (s : Nat) (hs : (s = 0 ∧ swS Z0 Z1 11 = false) ∨ (s = 1 ∧ swS Z0 Z1 11 = true)) : AX w M_X7_sweep 0 0 108 [.ref 42, .int (nI r), .int (nI q), .double ((swN Z0 Z1 12).1), .null, .double ((swN Z0 Z1 12).2), .null, .int (nI s), .null, .null, .null, .null, .null] [] h P := by
  obtain ⟨f43, e43, q43⟩ := id hRS.2.2.1
  obtain ⟨f46, e46, q46⟩ := id hRS.2.2.2.1
  obtain ⟨w1, w2⟩ := swN_ok z0 z1 hn1 12 (by decide)
  have a0_ := swA_in Z0 (swN Z0 Z1 12).2
  have a1_ := swA_in Z1 (swN Z0 Z1 12).1
  refine AX.iload_n (pc := 108) dX7_sweep_108 rfl ?_
  refine AX.bipush (pc := 109) (v := nI 25) dX7_sweep_109 (by decide) ?_
  refine AX.imulN (pc := 111) (c := r * 25) dX7_sweep_111 rfl ?_
  refine AX.iload_n (pc := 112) dX7_sweep_112 rfl ?_
  refine AX.iaddN (pc := 113) (c := r * 25 + q) dX7_sweep_113 rfl ?_
  refine AX.istore (pc := 114) (L' := [.ref 42, .int (nI r), .int (nI q), .double ((swN Z0 Z1 12).1), .null, .double ((swN Z0 Z1 12).2), .null, .int (nI s), .int (nI (r * 25 + q)), .null, .null, .null, .null]) dX7_sweep_114 (by decide) rfl ?_
  refine AX.aload_n (pc := 116) dX7_sweep_116 rfl ?_
  refine AX.getf (pc := 117) fX7_sweep_13 (lt_k hn (by omega)) hRS.1 rfl dX7_sweep_117 ?_
  refine AX.iconst (pc := 120) (v := nI 0) dX7_sweep_120 (by decide) ?_
  refine AX.aaldN (pc := 121) (i := 0) (b := 44) (by decide) (lt_k hn (by omega)) e43 (by decide) (by decide) (q43 _ (by omega)) dX7_sweep_121 ?_
  refine AX.iload (pc := 122) dX7_sweep_122 rfl ?_
  refine AX.dload_n (pc := 124) dX7_sweep_124 rfl ?_
  refine AX.dastN (pc := 125) (i := r * 25 + q) (g := vf_upd f0 (r * 25 + q) ((swN Z0 Z1 12).1)) (lt_k hn (by omega)) e44 (by decide) (by omega) rfl dX7_sweep_125 ?_
  refine AX.aload_n (pc := 126) dX7_sweep_126 rfl ?_
  refine AX.getf (pc := 127) fX7_sweep_13 (lt_k hn (by omega)) ((xset_ne (by decide)).trans hRS.1) rfl dX7_sweep_127 ?_
  refine AX.iconst (pc := 130) (v := nI 1) dX7_sweep_130 (by decide) ?_
  refine AX.aaldN (pc := 131) (i := 1) (b := 45) (by decide) (lt_k hn (by omega)) ((xset_ne (by decide)).trans e43) (by decide) (by decide) (q43 _ (by omega)) dX7_sweep_131 ?_
  refine AX.iload (pc := 132) dX7_sweep_132 rfl ?_
  refine AX.dload (pc := 134) dX7_sweep_134 rfl ?_
  refine AX.dastN (pc := 136) (i := r * 25 + q) (g := vf_upd f1 (r * 25 + q) ((swN Z0 Z1 12).2)) (lt_k hn (by omega)) ((xset_ne (by decide)).trans e45) (by decide) (by omega) rfl dX7_sweep_136 ?_
  refine AX.aload_n (pc := 137) dX7_sweep_137 rfl ?_
  refine AX.getf (pc := 138) fX7_sweep_18 (lt_k hn (by omega)) ((xset_ne (by decide)).trans ((xset_ne (by decide)).trans hRS.1)) rfl dX7_sweep_138 ?_
  refine AX.iconst (pc := 141) (v := nI 0) dX7_sweep_141 (by decide) ?_
  refine AX.aaldN (pc := 142) (i := 0) (b := 47) (by decide) (lt_k hn (by omega)) ((xset_ne (by decide)).trans ((xset_ne (by decide)).trans e46)) (by decide) (by decide) (q46 _ (by omega)) dX7_sweep_142 ?_
  refine AX.iload (pc := 143) dX7_sweep_143 rfl ?_
  have y2 : Same [44, 45, 47, 48, 49] h (xset (xset h 44 (.inl (2, 625, .inr (.inr (.inr (.inl (vf_upd f0 (r * 25 + q) ((swN Z0 Z1 12).1)))))))) 45 (.inl (2, 625, .inr (.inr (.inr (.inl (vf_upd f1 (r * 25 + q) ((swN Z0 Z1 12).2)))))))) := (Same.set (Same.set Same.rf (by simp)) (by simp))
  have t2 := y2.le hn
  refine AX.aload_n (pc := 145) dX7_sweep_145 rfl ?_
  refine AX.iconst (pc := 146) (v := nI 0) dX7_sweep_146 (by decide) ?_
  refine AX.dload (pc := 147) dX7_sweep_147 rfl ?_
  refine AX.callV (pc := 149) (M2 := M_X7_bestAim) (As := [.int (nI 0), .double ((swN Z0 Z1 12).2)]) (rest := [.int (nI (r * 25 + q)), .ref 47]) (c_bestAim w (xset (xset h 44 (.inl (2, 625, .inr (.inr (.inr (.inl (vf_upd f0 (r * 25 + q) ((swN Z0 Z1 12).1)))))))) 45 (.inl (2, 625, .inr (.inr (.inr (.inl (vf_upd f1 (r * 25 + q) ((swN Z0 Z1 12).2)))))))) (u := 0) (y := (swN Z0 Z1 12).2) (Z := Z0) t2 (hRS.same y2 (by simp) (by simp) (by simp) (by simp) (by simp) (by simp)) (by decide) (hZ.same y2 (by simp) (by simp) (by simp) (by simp)).1 (fun a p q => (z0 a _ _ p q (by omega) (by omega) w2).1)) xc_X7_sweep__X7_bestAim gX7_sweep_X7_bestAim (ci := 6) rfl (lt_k hn (by omega)) ((xset_ne (by decide)).trans ((xset_ne (by decide)).trans hRS.1)) rfl (Nat.le_of_ble_eq_true rfl) dX7_sweep_149 ?_
  rintro _ h9 ⟨rfl, e9⟩
  subst e9
  show AX w M_X7_sweep 0 0 152 [.ref 42, .int (nI r), .int (nI q), .double ((swN Z0 Z1 12).1), .null, .double ((swN Z0 Z1 12).2), .null, .int (nI s), .int (nI (r * 25 + q)), .null, .null, .null, .null] [.int (nI ((swA Z0 ((swN Z0 Z1 12).2)).1)), .int (nI (r * 25 + q)), .ref 47] _ _
  refine AX.iastN (pc := 152) (i := r * 25 + q) (g := upd a0 (r * 25 + q) (nI ((swA Z0 ((swN Z0 Z1 12).2)).1))) (lt_k hn (by omega)) ((xset_ne (by decide)).trans ((xset_ne (by decide)).trans e47)) (by decide) (by omega) rfl dX7_sweep_152 ?_
  refine AX.aload_n (pc := 153) dX7_sweep_153 rfl ?_
  refine AX.getf (pc := 154) fX7_sweep_18 (lt_k hn (by omega)) ((xset_ne (by decide)).trans ((xset_ne (by decide)).trans ((xset_ne (by decide)).trans hRS.1))) rfl dX7_sweep_154 ?_
  refine AX.iconst (pc := 157) (v := nI 1) dX7_sweep_157 (by decide) ?_
  refine AX.aaldN (pc := 158) (i := 1) (b := 48) (by decide) (lt_k hn (by omega)) ((xset_ne (by decide)).trans ((xset_ne (by decide)).trans ((xset_ne (by decide)).trans e46))) (by decide) (by decide) (q46 _ (by omega)) dX7_sweep_158 ?_
  refine AX.iload (pc := 159) dX7_sweep_159 rfl ?_
  have y3 : Same [44, 45, 47, 48, 49] h (xset (xset (xset h 44 (.inl (2, 625, .inr (.inr (.inr (.inl (vf_upd f0 (r * 25 + q) ((swN Z0 Z1 12).1)))))))) 45 (.inl (2, 625, .inr (.inr (.inr (.inl (vf_upd f1 (r * 25 + q) ((swN Z0 Z1 12).2)))))))) 47 (.inl (0, 625, .inl (upd a0 (r * 25 + q) (nI ((swA Z0 ((swN Z0 Z1 12).2)).1)))))) := (Same.set (Same.set (Same.set Same.rf (by simp)) (by simp)) (by simp))
  have t3 := y3.le hn
  refine AX.aload_n (pc := 161) dX7_sweep_161 rfl ?_
  refine AX.iconst (pc := 162) (v := nI 1) dX7_sweep_162 (by decide) ?_
  refine AX.dload_n (pc := 163) dX7_sweep_163 rfl ?_
  refine AX.callV (pc := 164) (M2 := M_X7_bestAim) (As := [.int (nI 1), .double ((swN Z0 Z1 12).1)]) (rest := [.int (nI (r * 25 + q)), .ref 48]) (c_bestAim w (xset (xset (xset h 44 (.inl (2, 625, .inr (.inr (.inr (.inl (vf_upd f0 (r * 25 + q) ((swN Z0 Z1 12).1)))))))) 45 (.inl (2, 625, .inr (.inr (.inr (.inl (vf_upd f1 (r * 25 + q) ((swN Z0 Z1 12).2)))))))) 47 (.inl (0, 625, .inl (upd a0 (r * 25 + q) (nI ((swA Z0 ((swN Z0 Z1 12).2)).1)))))) (u := 1) (y := (swN Z0 Z1 12).1) (Z := Z1) t3 (hRS.same y3 (by simp) (by simp) (by simp) (by simp) (by simp) (by simp)) (by decide) (hZ.same y3 (by simp) (by simp) (by simp) (by simp)).2 (fun a p q => (z1 a _ _ p q (by omega) (by omega) w1).1)) xc_X7_sweep__X7_bestAim gX7_sweep_X7_bestAim (ci := 6) rfl (lt_k hn (by omega)) ((xset_ne (by decide)).trans ((xset_ne (by decide)).trans ((xset_ne (by decide)).trans hRS.1))) rfl (Nat.le_of_ble_eq_true rfl) dX7_sweep_164 ?_
  rintro _ h9 ⟨rfl, e9⟩
  subst e9
  show AX w M_X7_sweep 0 0 167 [.ref 42, .int (nI r), .int (nI q), .double ((swN Z0 Z1 12).1), .null, .double ((swN Z0 Z1 12).2), .null, .int (nI s), .int (nI (r * 25 + q)), .null, .null, .null, .null] [.int (nI ((swA Z1 ((swN Z0 Z1 12).1)).1)), .int (nI (r * 25 + q)), .ref 48] _ _
  refine AX.iastN (pc := 167) (i := r * 25 + q) (g := upd a1 (r * 25 + q) (nI ((swA Z1 ((swN Z0 Z1 12).1)).1))) (lt_k hn (by omega)) ((xset_ne (by decide)).trans ((xset_ne (by decide)).trans ((xset_ne (by decide)).trans e48))) (by decide) (by omega) rfl dX7_sweep_167 ?_
  refine AX.aload_n (pc := 168) dX7_sweep_168 rfl ?_
  refine AX.getf (pc := 169) fX7_sweep_21 (lt_k hn (by omega)) ((xset_ne (by decide)).trans ((xset_ne (by decide)).trans ((xset_ne (by decide)).trans ((xset_ne (by decide)).trans hRS.1)))) rfl dX7_sweep_169 ?_
  refine AX.iload (pc := 172) dX7_sweep_172 rfl ?_
  refine AX.iload (pc := 174) dX7_sweep_174 rfl ?_
  refine AX.if_eqN (pc := 176) (tgt := 183) dX7_sweep_176 (by decide) (by omega) (fun hc176 => ?_) (fun hc176 => ?_)
  · refine AX.iconst (pc := 183) (v := nI 1) dX7_sweep_183 (by decide) ?_
    refine AX.iastN (pc := 184) (i := r * 25 + q) (g := upd fs (r * 25 + q) (nI 1)) (lt_k hn (by omega)) ((xset_ne (by decide)).trans ((xset_ne (by decide)).trans ((xset_ne (by decide)).trans ((xset_ne (by decide)).trans e49)))) (by decide) (by omega) rfl dX7_sweep_184 ?_
    refine AX.vret (pc := 185) dX7_sweep_185 rfl (by decide) (by decide) ?_
    have hz : swS Z0 Z1 11 = false := by rcases hs with ⟨p1, p2⟩ | ⟨p1, p2⟩ <;> first | exact p2 | omega
    exact hP _ (Same.set (Same.set (Same.set (Same.set (Same.set Same.rf (by simp)) (by simp)) (by simp)) (by simp)) (by simp)) ((xset_ne (by decide)).trans ((xset_ne (by decide)).trans ((xset_ne (by decide)).trans ((xset_ne (by decide)).trans ((xset_same _ _ _)))))) ((xset_ne (by decide)).trans ((xset_ne (by decide)).trans ((xset_ne (by decide)).trans ((xset_same _ _ _))))) ((xset_ne (by decide)).trans ((xset_ne (by decide)).trans ((xset_same _ _ _)))) ((xset_ne (by decide)).trans ((xset_same _ _ _))) (((xset_same _ _ _)).trans (by rw [hz]; rfl))
  · refine AX.iconst (pc := 179) (v := nI 2) dX7_sweep_179 (by decide) ?_
    refine AX.goto (pc := 180) (tgt := 184) dX7_sweep_180 (by decide) ?_
    refine AX.iastN (pc := 184) (i := r * 25 + q) (g := upd fs (r * 25 + q) (nI 2)) (lt_k hn (by omega)) ((xset_ne (by decide)).trans ((xset_ne (by decide)).trans ((xset_ne (by decide)).trans ((xset_ne (by decide)).trans e49)))) (by decide) (by omega) rfl dX7_sweep_184 ?_
    refine AX.vret (pc := 185) dX7_sweep_185 rfl (by decide) (by decide) ?_
    have hz : swS Z0 Z1 11 = true := by rcases hs with ⟨p1, p2⟩ | ⟨p1, p2⟩ <;> first | exact p2 | omega
    exact hP _ (Same.set (Same.set (Same.set (Same.set (Same.set Same.rf (by simp)) (by simp)) (by simp)) (by simp)) (by simp)) ((xset_ne (by decide)).trans ((xset_ne (by decide)).trans ((xset_ne (by decide)).trans ((xset_ne (by decide)).trans ((xset_same _ _ _)))))) ((xset_ne (by decide)).trans ((xset_ne (by decide)).trans ((xset_ne (by decide)).trans ((xset_same _ _ _))))) ((xset_ne (by decide)).trans ((xset_ne (by decide)).trans ((xset_same _ _ _)))) ((xset_ne (by decide)).trans ((xset_same _ _ _))) (((xset_same _ _ _)).trans (by rw [hz]; rfl))
theorem l_sweep (w : XW) (h : XH) {r q n : Nat} {Z0 Z1 : Nat → UInt64 × Nat} {f0 f1 : Nat → UInt64} {a0 a1 fs : Nat → Int32} (hn : 57 ≤ h.1) (hRS : RS h) (hZ : ZZ h Z0 Z1) (z0 : zOK n Z0) (z1 : zOK n Z1) (hn1 : n ≤ 9000) (hr : r ≤ 24) (hq : q ≤ 24) (e44 : h.2 44 = .inl (2, 625, .inr (.inr (.inr (.inl f0))))) (e45 : h.2 45 = .inl (2, 625, .inr (.inr (.inr (.inl f1))))) (e47 : h.2 47 = .inl (0, 625, .inl a0)) (e48 : h.2 48 = .inl (0, 625, .inl a1)) (e49 : h.2 49 = .inl (0, 625, .inl fs)) (P : Option Value → XH → Prop) (hP : ∀ h', Same [44, 45, 47, 48, 49] h h' → h'.2 44 = .inl (2, 625, .inr (.inr (.inr (.inl (vf_upd f0 (r * 25 + q) (swN Z0 Z1 12).1))))) → h'.2 45 = .inl (2, 625, .inr (.inr (.inr (.inl (vf_upd f1 (r * 25 + q) (swN Z0 Z1 12).2))))) → h'.2 47 = .inl (0, 625, .inl (upd a0 (r * 25 + q) (nI (swA Z0 (swN Z0 Z1 12).2).1))) → h'.2 48 = .inl (0, 625, .inl (upd a1 (r * 25 + q) (nI (swA Z1 (swN Z0 Z1 12).1).1))) → h'.2 49 = .inl (0, 625, .inl (upd fs (r * 25 + q) (nI (if swS Z0 Z1 11 then 2 else 1)))) → P none h') : ∀ (g i : Nat), i + g = 12 → (i = 12 → swS Z0 Z1 11 = false) → AX w M_X7_sweep 0 0 29 [.ref 42, .int (nI r), .int (nI q), .double ((swN Z0 Z1 i).1), .null, .double ((swN Z0 Z1 i).2), .null, .int (nI 0), .int (nI i), .null, .null, .null, .null] [] h P
  | 0, i, hg, hf => by
    have e : i = 12 := by omega
    subst e
    refine AX.iload (pc := 29) dX7_sweep_29 rfl ?_
    refine AX.bipush (pc := 31) (v := nI 12) dX7_sweep_31 (by decide) ?_
    refine AX.icmp_geN (pc := 33) (tgt := 108) dX7_sweep_33 (by decide) (by decide) (by decide) (fun hc33 => ?_) (fun q => absurd q (by decide))
    refine AX.sub (L' := [.ref 42, .int (nI r), .int (nI q), .double ((swN Z0 Z1 12).1), .null, .double ((swN Z0 Z1 12).2), .null, .int (nI 0), .null, .null, .null, .null, .null]) ⟨Or.inr rfl, Or.inr rfl, Or.inr rfl, Or.inr rfl, Or.inl rfl, Or.inr rfl, Or.inl rfl, Or.inr rfl, Or.inl rfl, Or.inl rfl, Or.inl rfl, Or.inl rfl, Or.inl rfl, trivial⟩ ?_
    exact l_sweepEnd w h hn hRS hZ z0 z1 hn1 hr hq e44 e45 e47 e48 e49 P hP 0 (Or.inl ⟨rfl, hf rfl⟩)
  | g + 1, i, hg, hf => by
    obtain ⟨f43, e43, q43⟩ := id hRS.2.2.1
    obtain ⟨f46, e46, q46⟩ := id hRS.2.2.2.1
    obtain ⟨w1, w2⟩ := swN_ok z0 z1 hn1 i (by omega)
    have w3 := swV_ok z0 (show n ≤ n + 2 * i by omega) (by omega) w2
    have w4 := swV_ok z1 (show n ≤ n + 2 * i + 1 by omega) (by omega) w3
    have a0_ := swA_in Z0 (swN Z0 Z1 i).2
    have a1_ := swA_in Z1 (swV Z0 (swN Z0 Z1 i).2)
    refine AX.iload (pc := 29) dX7_sweep_29 rfl ?_
    refine AX.bipush (pc := 31) (v := nI 12) dX7_sweep_31 (by decide) ?_
    refine AX.icmp_geN (pc := 33) (tgt := 108) dX7_sweep_33 (by decide) (by omega) (by decide) (fun q => absurd q (by omega)) (fun hc33 => ?_)
    refine AX.iload (pc := 36) dX7_sweep_36 rfl ?_
    refine AX.if_neN (pc := 38) (tgt := 108) dX7_sweep_38 (by decide) (by decide) (fun q => absurd q (by decide)) (fun hc38 => ?_)
    refine AX.aload_n (pc := 41) dX7_sweep_41 rfl ?_
    refine AX.iconst (pc := 42) (v := nI 0) dX7_sweep_42 (by decide) ?_
    refine AX.aload_n (pc := 43) dX7_sweep_43 rfl ?_
    refine AX.iconst (pc := 44) (v := nI 0) dX7_sweep_44 (by decide) ?_
    refine AX.dload (pc := 45) dX7_sweep_45 rfl ?_
    refine AX.callV (pc := 47) (M2 := M_X7_bestAim) (As := [.int (nI 0), .double ((swN Z0 Z1 i).2)]) (rest := [.int (nI 0), .ref 42]) (c_bestAim w h (u := 0) (y := (swN Z0 Z1 i).2) (Z := Z0) hn hRS (by decide) hZ.1 (fun a p q => (z0 a (n + 2 * i) _ p q (by omega) (by omega) w2).1)) xc_X7_sweep__X7_bestAim gX7_sweep_X7_bestAim (ci := 6) rfl (lt_k hn (by omega)) hRS.1 rfl (Nat.le_of_ble_eq_true rfl) dX7_sweep_47 ?_
    rintro _ h9 ⟨rfl, e9⟩
    have e9 := e9.symm
    subst e9
    show AX w M_X7_sweep 0 0 50 [.ref 42, .int (nI r), .int (nI q), .double ((swN Z0 Z1 i).1), .null, .double ((swN Z0 Z1 i).2), .null, .int (nI 0), .int (nI i), .null, .null, .null, .null] [.int (nI ((swA Z0 ((swN Z0 Z1 i).2)).1)), .int (nI 0), .ref 42] _ _
    refine AX.dload (pc := 50) dX7_sweep_50 rfl ?_
    refine AX.callV (pc := 52) (M2 := M_X7_valueOf) (As := [.int (nI 0), .int (nI ((swA Z0 ((swN Z0 Z1 i).2)).1)), .double ((swN Z0 Z1 i).2)]) (rest := []) (c_valueOf w h (u := 0) (y := (swN Z0 Z1 i).2) (Z := Z0) hn hRS (by decide) hZ.1 a0_.1 a0_.2 (z0 _ (n + 2 * i) _ a0_.1 a0_.2 (by omega) (by omega) w2).1) xc_X7_sweep__X7_valueOf gX7_sweep_X7_valueOf (ci := 6) rfl (lt_k hn (by omega)) hRS.1 rfl (Nat.le_of_ble_eq_true rfl) dX7_sweep_52 ?_
    rintro _ h9 ⟨rfl, e9⟩
    have e9 := e9.symm
    subst e9
    show AX w M_X7_sweep 0 0 55 [.ref 42, .int (nI r), .int (nI q), .double ((swN Z0 Z1 i).1), .null, .double ((swN Z0 Z1 i).2), .null, .int (nI 0), .int (nI i), .null, .null, .null, .null] [.double (swV Z0 (swN Z0 Z1 i).2)] _ _
    refine AX.dstore (pc := 55) (L' := [.ref 42, .int (nI r), .int (nI q), .double ((swN Z0 Z1 i).1), .null, .double ((swN Z0 Z1 i).2), .null, .int (nI 0), .int (nI i), .double (swV Z0 (swN Z0 Z1 i).2), .null, .null, .null]) dX7_sweep_55 (by decide) rfl ?_
    refine AX.aload_n (pc := 57) dX7_sweep_57 rfl ?_
    refine AX.iconst (pc := 58) (v := nI 1) dX7_sweep_58 (by decide) ?_
    refine AX.aload_n (pc := 59) dX7_sweep_59 rfl ?_
    refine AX.iconst (pc := 60) (v := nI 1) dX7_sweep_60 (by decide) ?_
    refine AX.dload (pc := 61) dX7_sweep_61 rfl ?_
    refine AX.callV (pc := 63) (M2 := M_X7_bestAim) (As := [.int (nI 1), .double (swV Z0 (swN Z0 Z1 i).2)]) (rest := [.int (nI 1), .ref 42]) (c_bestAim w h (u := 1) (y := swV Z0 (swN Z0 Z1 i).2) (Z := Z1) hn hRS (by decide) hZ.2 (fun a p q => (z1 a (n + 2 * i + 1) _ p q (by omega) (by omega) w3).1)) xc_X7_sweep__X7_bestAim gX7_sweep_X7_bestAim (ci := 6) rfl (lt_k hn (by omega)) hRS.1 rfl (Nat.le_of_ble_eq_true rfl) dX7_sweep_63 ?_
    rintro _ h9 ⟨rfl, e9⟩
    have e9 := e9.symm
    subst e9
    show AX w M_X7_sweep 0 0 66 [.ref 42, .int (nI r), .int (nI q), .double ((swN Z0 Z1 i).1), .null, .double ((swN Z0 Z1 i).2), .null, .int (nI 0), .int (nI i), .double (swV Z0 (swN Z0 Z1 i).2), .null, .null, .null] [.int (nI ((swA Z1 (swV Z0 (swN Z0 Z1 i).2)).1)), .int (nI 1), .ref 42] _ _
    refine AX.dload (pc := 66) dX7_sweep_66 rfl ?_
    refine AX.callV (pc := 68) (M2 := M_X7_valueOf) (As := [.int (nI 1), .int (nI ((swA Z1 (swV Z0 (swN Z0 Z1 i).2)).1)), .double (swV Z0 (swN Z0 Z1 i).2)]) (rest := []) (c_valueOf w h (u := 1) (y := swV Z0 (swN Z0 Z1 i).2) (Z := Z1) hn hRS (by decide) hZ.2 a1_.1 a1_.2 (z1 _ (n + 2 * i + 1) _ a1_.1 a1_.2 (by omega) (by omega) w3).1) xc_X7_sweep__X7_valueOf gX7_sweep_X7_valueOf (ci := 6) rfl (lt_k hn (by omega)) hRS.1 rfl (Nat.le_of_ble_eq_true rfl) dX7_sweep_68 ?_
    rintro _ h9 ⟨rfl, e9⟩
    have e9 := e9.symm
    subst e9
    show AX w M_X7_sweep 0 0 71 [.ref 42, .int (nI r), .int (nI q), .double ((swN Z0 Z1 i).1), .null, .double ((swN Z0 Z1 i).2), .null, .int (nI 0), .int (nI i), .double (swV Z0 (swN Z0 Z1 i).2), .null, .null, .null] [.double (swV Z1 (swV Z0 (swN Z0 Z1 i).2))] _ _
    refine AX.dstore (pc := 71) (L' := [.ref 42, .int (nI r), .int (nI q), .double ((swN Z0 Z1 i).1), .null, .double ((swN Z0 Z1 i).2), .null, .int (nI 0), .int (nI i), .double (swV Z0 (swN Z0 Z1 i).2), .null, .double (swV Z1 (swV Z0 (swN Z0 Z1 i).2)), .null]) dX7_sweep_71 (by decide) rfl ?_
    cases hst : swS Z0 Z1 i with
    | false =>
      have HF : swS Z0 Z1 i = false := hst
      refine AX.dload (pc := 73) dX7_sweep_73 rfl ?_
      refine AX.dload_n (pc := 75) dX7_sweep_75 rfl ?_
      refine AX.dcmp (pc := 76) dX7_sweep_76 ?_
      refine AX.if_ne (pc := 77) (tgt := 92) dX7_sweep_77 (by decide) (fun hc77 => ?_) (fun hc77 => ?_)
      · refine AX.iconst (pc := 92) (v := nI 0) dX7_sweep_92 (by decide) ?_
        refine AX.istore (pc := 93) (L' := [.ref 42, .int (nI r), .int (nI q), .double ((swN Z0 Z1 i).1), .null, .double ((swN Z0 Z1 i).2), .null, .int (nI 0), .int (nI i), .double (swV Z0 (swN Z0 Z1 i).2), .null, .double (swV Z1 (swV Z0 (swN Z0 Z1 i).2)), .null]) dX7_sweep_93 (by decide) rfl ?_
        refine AX.dload (pc := 95) dX7_sweep_95 rfl ?_
        refine AX.dstore_n (pc := 97) (L' := [.ref 42, .int (nI r), .int (nI q), .double (swV Z0 (swN Z0 Z1 i).2), .null, .double ((swN Z0 Z1 i).2), .null, .int (nI 0), .int (nI i), .double (swV Z0 (swN Z0 Z1 i).2), .null, .double (swV Z1 (swV Z0 (swN Z0 Z1 i).2)), .null]) dX7_sweep_97 (by decide) rfl ?_
        refine AX.dload (pc := 98) dX7_sweep_98 rfl ?_
        refine AX.dstore (pc := 100) (L' := [.ref 42, .int (nI r), .int (nI q), .double (swV Z0 (swN Z0 Z1 i).2), .null, .double (swV Z1 (swV Z0 (swN Z0 Z1 i).2)), .null, .int (nI 0), .int (nI i), .double (swV Z0 (swN Z0 Z1 i).2), .null, .double (swV Z1 (swV Z0 (swN Z0 Z1 i).2)), .null]) dX7_sweep_100 (by decide) rfl ?_
        refine AX.iincN (pc := 102) (c := i + 1) (L' := [.ref 42, .int (nI r), .int (nI q), .double (swV Z0 (swN Z0 Z1 i).2), .null, .double (swV Z1 (swV Z0 (swN Z0 Z1 i).2)), .null, .int (nI 0), .int (nI (i + 1)), .double (swV Z0 (swN Z0 Z1 i).2), .null, .double (swV Z1 (swV Z0 (swN Z0 Z1 i).2)), .null]) dX7_sweep_102 rfl (inc1 _) (by decide) rfl ?_
        refine AX.goto (pc := 105) (tgt := 29) dX7_sweep_105 (by decide) ?_
        refine AX.sub (L' := [.ref 42, .int (nI r), .int (nI q), .double (swV Z0 (swN Z0 Z1 i).2), .null, .double (swV Z1 (swV Z0 (swN Z0 Z1 i).2)), .null, .int (nI 0), .int (nI (i + 1)), .null, .null, .null, .null]) ⟨Or.inr rfl, Or.inr rfl, Or.inr rfl, Or.inr rfl, Or.inl rfl, Or.inr rfl, Or.inl rfl, Or.inr rfl, Or.inr rfl, Or.inl rfl, Or.inl rfl, Or.inl rfl, Or.inl rfl, trivial⟩ ?_
        exact l_sweep w h hn hRS hZ z0 z1 hn1 hr hq e44 e45 e47 e48 e49 P hP g (i + 1) (by omega) (fun hi => by rw [show 11 = i by omega]; exact HF)
      · refine AX.dload (pc := 80) dX7_sweep_80 rfl ?_
        refine AX.dload (pc := 82) dX7_sweep_82 rfl ?_
        refine AX.dcmp (pc := 84) dX7_sweep_84 ?_
        refine AX.if_ne (pc := 85) (tgt := 92) dX7_sweep_85 (by decide) (fun hc85 => ?_) (fun hc85 => ?_)
        · refine AX.iconst (pc := 92) (v := nI 0) dX7_sweep_92 (by decide) ?_
          refine AX.istore (pc := 93) (L' := [.ref 42, .int (nI r), .int (nI q), .double ((swN Z0 Z1 i).1), .null, .double ((swN Z0 Z1 i).2), .null, .int (nI 0), .int (nI i), .double (swV Z0 (swN Z0 Z1 i).2), .null, .double (swV Z1 (swV Z0 (swN Z0 Z1 i).2)), .null]) dX7_sweep_93 (by decide) rfl ?_
          refine AX.dload (pc := 95) dX7_sweep_95 rfl ?_
          refine AX.dstore_n (pc := 97) (L' := [.ref 42, .int (nI r), .int (nI q), .double (swV Z0 (swN Z0 Z1 i).2), .null, .double ((swN Z0 Z1 i).2), .null, .int (nI 0), .int (nI i), .double (swV Z0 (swN Z0 Z1 i).2), .null, .double (swV Z1 (swV Z0 (swN Z0 Z1 i).2)), .null]) dX7_sweep_97 (by decide) rfl ?_
          refine AX.dload (pc := 98) dX7_sweep_98 rfl ?_
          refine AX.dstore (pc := 100) (L' := [.ref 42, .int (nI r), .int (nI q), .double (swV Z0 (swN Z0 Z1 i).2), .null, .double (swV Z1 (swV Z0 (swN Z0 Z1 i).2)), .null, .int (nI 0), .int (nI i), .double (swV Z0 (swN Z0 Z1 i).2), .null, .double (swV Z1 (swV Z0 (swN Z0 Z1 i).2)), .null]) dX7_sweep_100 (by decide) rfl ?_
          refine AX.iincN (pc := 102) (c := i + 1) (L' := [.ref 42, .int (nI r), .int (nI q), .double (swV Z0 (swN Z0 Z1 i).2), .null, .double (swV Z1 (swV Z0 (swN Z0 Z1 i).2)), .null, .int (nI 0), .int (nI (i + 1)), .double (swV Z0 (swN Z0 Z1 i).2), .null, .double (swV Z1 (swV Z0 (swN Z0 Z1 i).2)), .null]) dX7_sweep_102 rfl (inc1 _) (by decide) rfl ?_
          refine AX.goto (pc := 105) (tgt := 29) dX7_sweep_105 (by decide) ?_
          refine AX.sub (L' := [.ref 42, .int (nI r), .int (nI q), .double (swV Z0 (swN Z0 Z1 i).2), .null, .double (swV Z1 (swV Z0 (swN Z0 Z1 i).2)), .null, .int (nI 0), .int (nI (i + 1)), .null, .null, .null, .null]) ⟨Or.inr rfl, Or.inr rfl, Or.inr rfl, Or.inr rfl, Or.inl rfl, Or.inr rfl, Or.inl rfl, Or.inr rfl, Or.inr rfl, Or.inl rfl, Or.inl rfl, Or.inl rfl, Or.inl rfl, trivial⟩ ?_
          exact l_sweep w h hn hRS hZ z0 z1 hn1 hr hq e44 e45 e47 e48 e49 P hP g (i + 1) (by omega) (fun hi => by rw [show 11 = i by omega]; exact HF)
        · have hq : swS Z0 Z1 i = true := Bool.and_eq_true_iff.mpr ⟨decide_eq_true (cmpl_e0 hc77), decide_eq_true (cmpl_e0 hc85)⟩
          rw [hst] at hq
          cases hq
    | true =>
      obtain ⟨en, es⟩ := swS_end z0 z1 hn1 (by omega) hst
      have ht := Bool.and_eq_true_iff.mp (show (deq (swN Z0 Z1 (i + 1)).1 (swN Z0 Z1 i).1 && deq (swN Z0 Z1 (i + 1)).2 (swN Z0 Z1 i).2) = true from hst)
      have ex : (swN Z0 Z1 12).1 = swV Z0 (swN Z0 Z1 i).2 := by rw [← en]; rfl
      have ey : (swN Z0 Z1 12).2 = swV Z1 (swV Z0 (swN Z0 Z1 i).2) := by rw [← en]; rfl
      have hend := l_sweepEnd w h hn hRS hZ z0 z1 hn1 hr hq e44 e45 e47 e48 e49 P hP 1 (Or.inr ⟨rfl, es⟩)
      rw [ex, ey] at hend
      refine AX.dload (pc := 73) dX7_sweep_73 rfl ?_
      refine AX.dload_n (pc := 75) dX7_sweep_75 rfl ?_
      refine AX.dcmp (pc := 76) dX7_sweep_76 ?_
      refine AX.if_ne (pc := 77) (tgt := 92) dX7_sweep_77 (by decide) (fun hc77 => ?_) (fun hc77 => ?_)
      · exact absurd (of_decide_eq_true ht.1) (cmpl_e1 hc77)
      · refine AX.dload (pc := 80) dX7_sweep_80 rfl ?_
        refine AX.dload (pc := 82) dX7_sweep_82 rfl ?_
        refine AX.dcmp (pc := 84) dX7_sweep_84 ?_
        refine AX.if_ne (pc := 85) (tgt := 92) dX7_sweep_85 (by decide) (fun hc85 => ?_) (fun hc85 => ?_)
        · exact absurd (of_decide_eq_true ht.2) (cmpl_e1 hc85)
        · refine AX.iconst (pc := 88) (v := nI 1) dX7_sweep_88 (by decide) ?_
          refine AX.goto (pc := 89) (tgt := 93) dX7_sweep_89 (by decide) ?_
          refine AX.istore (pc := 93) (L' := [.ref 42, .int (nI r), .int (nI q), .double ((swN Z0 Z1 i).1), .null, .double ((swN Z0 Z1 i).2), .null, .int (nI 1), .int (nI i), .double (swV Z0 (swN Z0 Z1 i).2), .null, .double (swV Z1 (swV Z0 (swN Z0 Z1 i).2)), .null]) dX7_sweep_93 (by decide) rfl ?_
          refine AX.dload (pc := 95) dX7_sweep_95 rfl ?_
          refine AX.dstore_n (pc := 97) (L' := [.ref 42, .int (nI r), .int (nI q), .double (swV Z0 (swN Z0 Z1 i).2), .null, .double ((swN Z0 Z1 i).2), .null, .int (nI 1), .int (nI i), .double (swV Z0 (swN Z0 Z1 i).2), .null, .double (swV Z1 (swV Z0 (swN Z0 Z1 i).2)), .null]) dX7_sweep_97 (by decide) rfl ?_
          refine AX.dload (pc := 98) dX7_sweep_98 rfl ?_
          refine AX.dstore (pc := 100) (L' := [.ref 42, .int (nI r), .int (nI q), .double (swV Z0 (swN Z0 Z1 i).2), .null, .double (swV Z1 (swV Z0 (swN Z0 Z1 i).2)), .null, .int (nI 1), .int (nI i), .double (swV Z0 (swN Z0 Z1 i).2), .null, .double (swV Z1 (swV Z0 (swN Z0 Z1 i).2)), .null]) dX7_sweep_100 (by decide) rfl ?_
          refine AX.iincN (pc := 102) (c := i + 1) (L' := [.ref 42, .int (nI r), .int (nI q), .double (swV Z0 (swN Z0 Z1 i).2), .null, .double (swV Z1 (swV Z0 (swN Z0 Z1 i).2)), .null, .int (nI 1), .int (nI (i + 1)), .double (swV Z0 (swN Z0 Z1 i).2), .null, .double (swV Z1 (swV Z0 (swN Z0 Z1 i).2)), .null]) dX7_sweep_102 rfl (inc1 _) (by decide) rfl ?_
          refine AX.goto (pc := 105) (tgt := 29) dX7_sweep_105 (by decide) ?_
          refine AX.sub (L' := [.ref 42, .int (nI r), .int (nI q), .double (swV Z0 (swN Z0 Z1 i).2), .null, .double (swV Z1 (swV Z0 (swN Z0 Z1 i).2)), .null, .int (nI 1), .int (nI (i + 1)), .null, .null, .null, .null]) ⟨Or.inr rfl, Or.inr rfl, Or.inr rfl, Or.inr rfl, Or.inl rfl, Or.inr rfl, Or.inl rfl, Or.inr rfl, Or.inr rfl, Or.inl rfl, Or.inl rfl, Or.inl rfl, Or.inl rfl, trivial⟩ ?_
          refine AX.iload (pc := 29) dX7_sweep_29 rfl ?_
          refine AX.bipush (pc := 31) (v := nI 12) dX7_sweep_31 (by decide) ?_
          refine AX.icmp_geN (pc := 33) (tgt := 108) dX7_sweep_33 (by decide) (by omega) (by decide) (fun hc33 => ?_) (fun hc33 => ?_)
          · refine AX.sub (L' := [.ref 42, .int (nI r), .int (nI q), .double (swV Z0 (swN Z0 Z1 i).2), .null, .double (swV Z1 (swV Z0 (swN Z0 Z1 i).2)), .null, .int (nI 1), .null, .null, .null, .null, .null]) ⟨Or.inr rfl, Or.inr rfl, Or.inr rfl, Or.inr rfl, Or.inl rfl, Or.inr rfl, Or.inl rfl, Or.inr rfl, Or.inl rfl, Or.inl rfl, Or.inl rfl, Or.inl rfl, Or.inl rfl, trivial⟩ ?_
            exact hend
          · refine AX.iload (pc := 36) dX7_sweep_36 rfl ?_
            refine AX.if_neN (pc := 38) (tgt := 108) dX7_sweep_38 (by decide) (by decide) (fun hc38 => ?_) (fun q => absurd q (by decide))
            refine AX.sub (L' := [.ref 42, .int (nI r), .int (nI q), .double (swV Z0 (swN Z0 Z1 i).2), .null, .double (swV Z1 (swV Z0 (swN Z0 Z1 i).2)), .null, .int (nI 1), .null, .null, .null, .null, .null]) ⟨Or.inr rfl, Or.inr rfl, Or.inr rfl, Or.inr rfl, Or.inl rfl, Or.inr rfl, Or.inl rfl, Or.inr rfl, Or.inl rfl, Or.inl rfl, Or.inl rfl, Or.inl rfl, Or.inl rfl, trivial⟩ ?_
            exact hend
