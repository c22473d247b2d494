/-! ===== THE REFERENCE: both players' FALLS kept ===== -/
def BB (H : Nat → Nat × Nat) (K : Nat) (m s x : Nat → Int32) : Prop := ∀ c, c < K → c % 63 ≠ 0 → m c = nI (fC (c % 63)) ∧ ∀ i, i < fC (c % 63) → s (5 * c + i) = nI (fS (5 * (c % 63) + i)) ∧ x (5 * c + i) = nI (wtN (H (c / 63)).1 (H (c / 63)).2 (5 * (c % 63) + i))
def BL (h : XH) (H : Nat → Nat × Nat) : Prop := ∃ m s x : Nat → Int32, h.2 106 = .inl (0, 126, .inl m) ∧ h.2 107 = .inl (0, 630, .inl s) ∧ h.2 108 = .inl (0, 630, .inl x) ∧ BB H 126 m s x
theorem BL.same {S : List Nat} {h h' : XH} {H : Nat → Nat × Nat} (X : BL h H) (hs : Same S h h') (h1 : 106 ∉ S) (h2 : 107 ∉ S) (h3 : 108 ∉ S) : BL h' H := by
  obtain ⟨m, s, x, e1, e2, e3, q⟩ := X
  exact ⟨m, s, x, hs.at h1 e1, hs.at h2 e2, hs.at h3 e3, q⟩
theorem BB.put {H : Nat → Nat × Nat} {c j : Nat} {m s x : Nat → Int32} {y z : Int32} (X : BB H c m s x) : BB H c m (upd s (5 * c + j) y) (upd x (5 * c + j) z) := fun d hd h0 => by
  obtain ⟨h1, h2⟩ := X d hd h0
  refine ⟨h1, fun i hi => ?_⟩
  have := fC_le (d % 63)
  rw [upd_off (by omega), upd_off (by omega)]
  exact h2 i hi
theorem BB.putm {H : Nat → Nat × Nat} {c : Nat} {m s x : Nat → Int32} {y : Int32} (X : BB H c m s x) : BB H c (upd m c y) s x := fun d hd h0 => by
  obtain ⟨h1, h2⟩ := X d hd h0
  exact ⟨(upd_off (by omega)).trans h1, h2⟩
theorem l_bothIn (w : XW) (P : Option Value → XH → Prop) (h0 : XH) {v : Nat → Int32} {H : Nat → Nat × Nat} {u a : Nat} (hn0 : 118 ≤ h0.1) (hO0 : MO h0 v) (hu : u ≤ 1) (ha1 : 1 ≤ a) (ha2 : a ≤ 62) (hA0 : AL h0 63 (H u).1 (H u).2) (hP : ∀ (h : XH) (m s x : Nat → Int32), Same [106, 107, 108] h0 h → h.2 106 = .inl (0, 126, .inl m) → h.2 107 = .inl (0, 630, .inl s) → h.2 108 = .inl (0, 630, .inl x) → BB H (63 * u + a + 1) m s x → AX w M_X12_keepBoth 0 0 105 [.ref 87, .int (nI u), .int (nI a), .null] [] h P) : ∀ (g j : Nat) (h : XH) (m s x : Nat → Int32), j + g = fC a → h.2 106 = .inl (0, 126, .inl m) → h.2 107 = .inl (0, 630, .inl s) → h.2 108 = .inl (0, 630, .inl x) → BB H (63 * u + a) m s x → m (63 * u + a) = nI (fC a) → (∀ i, i < j → s (5 * (63 * u + a) + i) = nI (fS (5 * a + i)) ∧ x (5 * (63 * u + a) + i) = nI (wtN (H u).1 (H u).2 (5 * a + i))) → Same [106, 107, 108] h0 h → AX w M_X12_keepBoth 0 0 39 [.ref 87, .int (nI u), .int (nI a), .int (nI j)] [] h P
  | 0, j, h, m, s, x, hg, e106, e107, e108, hB, hm, hq, hS => by
    have hfc := fC_le a
    obtain ⟨m9, s9, x9, e98, e99, e100, hk⟩ := hA0.same hS (by simp) (by simp) (by simp)
    have hK := hk a ha1 (by omega)
    have hn := hS.le hn0
    have hO := hO0.same hS (by simp)
    have e : j = fC a := by omega
    subst e
    refine AX.iload_n (pc := 39) dX12_keepBoth_39 rfl ?_
    refine AX.aload_n (pc := 40) dX12_keepBoth_40 rfl ?_
    refine AX.getf (pc := 41) fX12_keepBoth_41 (lt_k hn (by omega)) hO rfl dX12_keepBoth_41 ?_
    refine AX.iload_n (pc := 44) dX12_keepBoth_44 rfl ?_
    refine AX.ialdN (pc := 45) (i := a) (v := (nI (fC a))) (lt_k hn (by omega)) e98 (by decide) (by omega) hK.1 dX12_keepBoth_45 ?_
    refine AX.icmp_geN (pc := 46) (tgt := 105) dX12_keepBoth_46 (by decide) (by omega) (by omega) (fun hc46 => ?_) (fun q => absurd q (Nat.lt_irrefl _))
    refine AX.sub (L' := [.ref 87, .int (nI u), .int (nI a), .null]) ⟨Or.inr rfl, Or.inr rfl, Or.inr rfl, Or.inl rfl, trivial⟩ ?_
    refine hP h m s x hS e106 e107 e108 (fun c hc h0 => ?_)
    by_cases e : c = 63 * u + a
    · subst e
      rw [show (63 * u + a) % 63 = a by omega, show (63 * u + a) / 63 = u by omega]
      exact ⟨hm, hq⟩
    · exact hB c (by omega) h0
  | g + 1, j, h, m, s, x, hg, e106, e107, e108, hB, hm, hq, hS => by
    have hfc := fC_le a
    obtain ⟨m9, s9, x9, e98, e99, e100, hk⟩ := hA0.same hS (by simp) (by simp) (by simp)
    have hK := hk a ha1 (by omega)
    have hn := hS.le hn0
    have hO := hO0.same hS (by simp)
    refine AX.iload_n (pc := 39) dX12_keepBoth_39 rfl ?_
    refine AX.aload_n (pc := 40) dX12_keepBoth_40 rfl ?_
    refine AX.getf (pc := 41) fX12_keepBoth_41 (lt_k hn (by omega)) hO rfl dX12_keepBoth_41 ?_
    refine AX.iload_n (pc := 44) dX12_keepBoth_44 rfl ?_
    refine AX.ialdN (pc := 45) (i := a) (v := (nI (fC a))) (lt_k hn (by omega)) e98 (by decide) (by omega) hK.1 dX12_keepBoth_45 ?_
    refine AX.icmp_geN (pc := 46) (tgt := 105) dX12_keepBoth_46 (by decide) (by omega) (by omega) (fun q => absurd q (by omega)) (fun hc46 => ?_)
    refine AX.aload_n (pc := 49) dX12_keepBoth_49 rfl ?_
    refine AX.getf (pc := 50) fX12_keepBoth_69 (lt_k hn (by omega)) hO rfl dX12_keepBoth_50 ?_
    refine AX.iconst (pc := 53) (v := nI 5) dX12_keepBoth_53 (by decide) ?_
    refine AX.bipush (pc := 54) (v := nI 63) dX12_keepBoth_54 (by decide) ?_
    refine AX.iload_n (pc := 56) dX12_keepBoth_56 rfl ?_
    refine AX.imulN (pc := 57) (c := 63 * u) dX12_keepBoth_57 rfl ?_
    refine AX.iload_n (pc := 58) dX12_keepBoth_58 rfl ?_
    refine AX.iaddN (pc := 59) (c := 63 * u + a) dX12_keepBoth_59 rfl ?_
    refine AX.imulN (pc := 60) (c := 5 * (63 * u + a)) dX12_keepBoth_60 rfl ?_
    refine AX.iload_n (pc := 61) dX12_keepBoth_61 rfl ?_
    refine AX.iaddN (pc := 62) (c := 5 * (63 * u + a) + j) dX12_keepBoth_62 rfl ?_
    refine AX.aload_n (pc := 63) dX12_keepBoth_63 rfl ?_
    refine AX.getf (pc := 64) fX12_keepBoth_44 (lt_k hn (by omega)) hO rfl dX12_keepBoth_64 ?_
    refine AX.iconst (pc := 67) (v := nI 5) dX12_keepBoth_67 (by decide) ?_
    refine AX.iload_n (pc := 68) dX12_keepBoth_68 rfl ?_
    refine AX.imulN (pc := 69) (c := 5 * a) dX12_keepBoth_69 rfl ?_
    refine AX.iload_n (pc := 70) dX12_keepBoth_70 rfl ?_
    refine AX.iaddN (pc := 71) (c := 5 * a + j) dX12_keepBoth_71 rfl ?_
    refine AX.ialdN (pc := 72) (i := 5 * a + j) (v := (nI (fS (5 * a + j)))) (lt_k hn (by omega)) e99 (by decide) (by omega) ((hK.2 j (by omega)).1) dX12_keepBoth_72 ?_
    refine AX.iastN (pc := 73) (i := 5 * (63 * u + a) + j) (g := upd s (5 * (63 * u + a) + j) (nI (fS (5 * a + j)))) (lt_k hn (by omega)) e107 (by decide) (by omega) rfl dX12_keepBoth_73 ?_
    refine AX.aload_n (pc := 74) dX12_keepBoth_74 rfl ?_
    refine AX.getf (pc := 75) fX12_keepBoth_72 (lt_k hn (by omega)) ((xset_ne (by decide)).trans hO) rfl dX12_keepBoth_75 ?_
    refine AX.iconst (pc := 78) (v := nI 5) dX12_keepBoth_78 (by decide) ?_
    refine AX.bipush (pc := 79) (v := nI 63) dX12_keepBoth_79 (by decide) ?_
    refine AX.iload_n (pc := 81) dX12_keepBoth_81 rfl ?_
    refine AX.imulN (pc := 82) (c := 63 * u) dX12_keepBoth_82 rfl ?_
    refine AX.iload_n (pc := 83) dX12_keepBoth_83 rfl ?_
    refine AX.iaddN (pc := 84) (c := 63 * u + a) dX12_keepBoth_84 rfl ?_
    refine AX.imulN (pc := 85) (c := 5 * (63 * u + a)) dX12_keepBoth_85 rfl ?_
    refine AX.iload_n (pc := 86) dX12_keepBoth_86 rfl ?_
    refine AX.iaddN (pc := 87) (c := 5 * (63 * u + a) + j) dX12_keepBoth_87 rfl ?_
    refine AX.aload_n (pc := 88) dX12_keepBoth_88 rfl ?_
    refine AX.getf (pc := 89) fX12_keepBoth_47 (lt_k hn (by omega)) ((xset_ne (by decide)).trans hO) rfl dX12_keepBoth_89 ?_
    refine AX.iconst (pc := 92) (v := nI 5) dX12_keepBoth_92 (by decide) ?_
    refine AX.iload_n (pc := 93) dX12_keepBoth_93 rfl ?_
    refine AX.imulN (pc := 94) (c := 5 * a) dX12_keepBoth_94 rfl ?_
    refine AX.iload_n (pc := 95) dX12_keepBoth_95 rfl ?_
    refine AX.iaddN (pc := 96) (c := 5 * a + j) dX12_keepBoth_96 rfl ?_
    refine AX.ialdN (pc := 97) (i := 5 * a + j) (v := (nI (wtN (H u).1 (H u).2 (5 * a + j)))) (lt_k hn (by omega)) ((xset_ne (by decide)).trans e100) (by decide) (by omega) ((hK.2 j (by omega)).2) dX12_keepBoth_97 ?_
    refine AX.iastN (pc := 98) (i := 5 * (63 * u + a) + j) (g := upd x (5 * (63 * u + a) + j) (nI (wtN (H u).1 (H u).2 (5 * a + j)))) (lt_k hn (by omega)) ((xset_ne (by decide)).trans e108) (by decide) (by omega) rfl dX12_keepBoth_98 ?_
    refine AX.iincN (c := j + 1) (pc := 99) (L' := [.ref 87, .int (nI u), .int (nI a), .int (nI (j + 1))]) dX12_keepBoth_99 rfl (inc1 _) (by decide) rfl ?_
    refine AX.goto (pc := 102) (tgt := 39) dX12_keepBoth_102 (by decide) ?_
    have sx : Same [106, 107, 108] h (xset (xset h 107 (.inl (0, 630, .inl (upd s (5 * (63 * u + a) + j) (nI (fS (5 * a + j))))))) 108 (.inl (0, 630, .inl (upd x (5 * (63 * u + a) + j) (nI (wtN (H u).1 (H u).2 (5 * a + j))))))) := Same.set (Same.set Same.rf (by simp)) (by simp)
    refine l_bothIn w P h0 hn0 hO0 hu ha1 ha2 hA0 hP g (j + 1) _ m _ _ (by omega) ((xset_ne (by decide)).trans ((xset_ne (by decide)).trans e106)) ((xset_ne (by decide)).trans (xset_same _ _ _)) (xset_same _ _ _) hB.put hm (fun i hi => ?_) (hS.trans sx)
    by_cases e : i = j
    · subst e; exact ⟨upd_at _ _ _, upd_at _ _ _⟩
    · rw [upd_off (by omega), upd_off (by omega)]; exact hq i (by omega)
theorem l_bothMid (w : XW) (P : Option Value → XH → Prop) (h0 : XH) {v : Nat → Int32} {H : Nat → Nat × Nat} {u : Nat} (hn0 : 118 ≤ h0.1) (hO0 : MO h0 v) (hu : u ≤ 1) (hA0 : AL h0 63 (H u).1 (H u).2) (hP : ∀ (h : XH) (m s x : Nat → Int32), Same [106, 107, 108] h0 h → h.2 106 = .inl (0, 126, .inl m) → h.2 107 = .inl (0, 630, .inl s) → h.2 108 = .inl (0, 630, .inl x) → BB H (63 * u + 63) m s x → AX w M_X12_keepBoth 0 0 111 [.ref 87, .int (nI u), .null, .null] [] h P) : ∀ (g a : Nat) (h : XH) (m s x : Nat → Int32), a + g = 63 → 1 ≤ a → h.2 106 = .inl (0, 126, .inl m) → h.2 107 = .inl (0, 630, .inl s) → h.2 108 = .inl (0, 630, .inl x) → BB H (63 * u + a) m s x → Same [106, 107, 108] h0 h → AX w M_X12_keepBoth 0 0 14 [.ref 87, .int (nI u), .int (nI a), .null] [] h P
  | 0, a, h, m, s, x, hg, ha1, e106, e107, e108, hB, hS => by
    have hn := hS.le hn0
    have hO := hO0.same hS (by simp)
    have e : a = 63 := by omega
    subst e
    refine AX.iload_n (pc := 14) dX12_keepBoth_14 rfl ?_
    refine AX.bipush (pc := 15) (v := nI 62) dX12_keepBoth_15 (by decide) ?_
    refine AX.icmp_gtN (pc := 17) (tgt := 111) dX12_keepBoth_17 (by decide) (by decide) (by decide) (fun hc17 => ?_) (fun q => absurd q (by decide))
    refine AX.sub (L' := [.ref 87, .int (nI u), .null, .null]) ⟨Or.inr rfl, Or.inr rfl, Or.inl rfl, Or.inl rfl, trivial⟩ ?_
    exact hP h m s x hS e106 e107 e108 hB
  | g + 1, a, h, m, s, x, hg, ha1, e106, e107, e108, hB, hS => by
    have hn := hS.le hn0
    have hO := hO0.same hS (by simp)
    obtain ⟨m9, s9, x9, e98, e99, e100, hk⟩ := hA0.same hS (by simp) (by simp) (by simp)
    have hK := hk a ha1 (by omega)
    have hfc := fC_le a
    refine AX.iload_n (pc := 14) dX12_keepBoth_14 rfl ?_
    refine AX.bipush (pc := 15) (v := nI 62) dX12_keepBoth_15 (by decide) ?_
    refine AX.icmp_gtN (pc := 17) (tgt := 111) dX12_keepBoth_17 (by decide) (by omega) (by decide) (fun q => absurd q (by omega)) (fun hc17 => ?_)
    refine AX.aload_n (pc := 20) dX12_keepBoth_20 rfl ?_
    refine AX.getf (pc := 21) fX12_keepBoth_66 (lt_k hn (by omega)) hO rfl dX12_keepBoth_21 ?_
    refine AX.bipush (pc := 24) (v := nI 63) dX12_keepBoth_24 (by decide) ?_
    refine AX.iload_n (pc := 26) dX12_keepBoth_26 rfl ?_
    refine AX.imulN (pc := 27) (c := 63 * u) dX12_keepBoth_27 rfl ?_
    refine AX.iload_n (pc := 28) dX12_keepBoth_28 rfl ?_
    refine AX.iaddN (pc := 29) (c := 63 * u + a) dX12_keepBoth_29 rfl ?_
    refine AX.aload_n (pc := 30) dX12_keepBoth_30 rfl ?_
    refine AX.getf (pc := 31) fX12_keepBoth_41 (lt_k hn (by omega)) hO rfl dX12_keepBoth_31 ?_
    refine AX.iload_n (pc := 34) dX12_keepBoth_34 rfl ?_
    refine AX.ialdN (pc := 35) (i := a) (v := (nI (fC a))) (lt_k hn (by omega)) e98 (by decide) (by omega) hK.1 dX12_keepBoth_35 ?_
    refine AX.iastN (pc := 36) (i := 63 * u + a) (g := upd m (63 * u + a) (nI (fC a))) (lt_k hn (by omega)) e106 (by decide) (by omega) rfl dX12_keepBoth_36 ?_
    refine AX.iconst (pc := 37) (v := nI 0) dX12_keepBoth_37 (by decide) ?_
    refine AX.istore_n (pc := 38) (L' := [.ref 87, .int (nI u), .int (nI a), .int (nI 0)]) dX12_keepBoth_38 (by decide) rfl ?_
    have sx : Same [106, 107, 108] h (xset h 106 (.inl (0, 126, .inl (upd m (63 * u + a) (nI (fC a)))))) := Same.set Same.rf (by simp)
    refine l_bothIn w P h0 hn0 hO0 hu ha1 (show a ≤ 62 by omega) hA0 (fun h2 m2 s2 x2 t2 z106 z107 z108 B2 => ?_) (fC a) 0 _ _ s x (Nat.zero_add _) (xset_same _ _ _) ((xset_ne (by decide)).trans e107) ((xset_ne (by decide)).trans e108) hB.putm (upd_at _ _ _) (fun i hi => absurd hi (Nat.not_lt_zero _)) (hS.trans sx)
    refine AX.iincN (c := a + 1) (pc := 105) (L' := [.ref 87, .int (nI u), .int (nI (a + 1)), .null]) dX12_keepBoth_105 rfl (inc1 _) (by decide) rfl ?_
    refine AX.goto (pc := 108) (tgt := 14) dX12_keepBoth_108 (by decide) ?_
    exact l_bothMid w P h0 hn0 hO0 hu hA0 hP g (a + 1) h2 m2 s2 x2 (by omega) (by omega) z106 z107 z108 B2 t2
theorem l_both (w : XW) (P : Option Value → XH → Prop) (h0 : XH) {v q : Nat → Int32} {H : Nat → Nat × Nat} (hn0 : 118 ≤ h0.1) (hN0 : iA h0 89 19 q) (hR0 : iA h0 88 20 (fun k => nI (rgN k))) (hh_ : ∀ u, u ≤ 1 → q u = nI (H u).1 ∧ q (2 + u) = nI (H u).2 ∧ (H u).1 ≤ 200 ∧ (H u).2 ≤ 200) (hP : ∀ (h : XH), Same [87, 91, 92, 98, 99, 100, 106, 107, 108] h0 h → (∃ y, MO h (upd v 1 y)) → FX h → BL h H → P none h) : ∀ (g u : Nat) (h : XH) (y : Int32) (m s x : Nat → Int32), u + g = 2 → MO h (upd v 1 y) → FX h → h.2 106 = .inl (0, 126, .inl m) → h.2 107 = .inl (0, 630, .inl s) → h.2 108 = .inl (0, 630, .inl x) → BB H (63 * u) m s x → Same [87, 91, 92, 98, 99, 100, 106, 107, 108] h0 h → AX w M_X12_keepBoth 0 0 2 [.ref 87, .int (nI u), .null, .null] [] h P
  | 0, u, h, y, m, s, x, hg, hO, hF, e106, e107, e108, hB, hS => by
    have hn := hS.le hn0
    have e : u = 2 := by omega
    subst e
    refine AX.iload_n (pc := 2) dX12_keepBoth_2 rfl ?_
    refine AX.iconst (pc := 3) (v := nI 2) dX12_keepBoth_3 (by decide) ?_
    refine AX.icmp_geN (pc := 4) (tgt := 117) dX12_keepBoth_4 (by decide) (by decide) (by decide) (fun hc4 => ?_) (fun q => absurd q (by decide))
    refine AX.vret (pc := 117) dX12_keepBoth_117 rfl (by decide) (by decide) ?_
    exact hP h hS ⟨y, hO⟩ hF ⟨m, s, x, e106, e107, e108, hB⟩
  | g + 1, u, h, y, m, s, x, hg, hO, hF, e106, e107, e108, hB, hS => by
    have hn := hS.le hn0
    obtain ⟨⟨a1, x1⟩, ⟨a2, x2⟩, ⟨a3, x3⟩, ⟨a4, x4⟩, ⟨a5, x5⟩⟩ := id hF
    obtain ⟨k1, k2, k3, k4⟩ := hh_ u (by omega)
    refine AX.iload_n (pc := 2) dX12_keepBoth_2 rfl ?_
    refine AX.iconst (pc := 3) (v := nI 2) dX12_keepBoth_3 (by decide) ?_
    refine AX.icmp_geN (pc := 4) (tgt := 117) dX12_keepBoth_4 (by decide) (by omega) (by decide) (fun q => absurd q (by omega)) (fun hc4 => ?_)
    refine AX.aload_n (pc := 7) dX12_keepBoth_7 rfl ?_
    refine AX.iload_n (pc := 8) dX12_keepBoth_8 rfl ?_
    refine AX.callV (pc := 9) (M2 := M_X12_keepFalls) (As := [.int (nI u)]) (rest := []) (c_keepFalls w h hn hO (hN0.same hS (by simp)) (hR0.same hS (by simp)) x1 x2 x3 x4 x5 (show u ≤ 1 by omega) k1 k2 k3 k4) xc_X12_keepBoth__X12_keepFalls gX12_keepBoth_X12_keepFalls (ci := 11) rfl (lt_k hn (by omega)) hO rfl (Nat.le_of_ble_eq_true rfl) dX12_keepBoth_9 ?_
    rintro _ h1 ⟨rfl, s1, ⟨xx, O1⟩, F1, A1⟩
    rw [upd_upd] at O1
    show AX w M_X12_keepBoth 0 0 12 [.ref 87, .int (nI u), .null, .null] [] _ _
    refine AX.iconst (pc := 12) (v := nI 1) dX12_keepBoth_12 (by decide) ?_
    refine AX.istore_n (pc := 13) (L' := [.ref 87, .int (nI u), .int (nI 1), .null]) dX12_keepBoth_13 (by decide) rfl ?_
    refine l_bothMid w P h1 (v := upd v 1 xx) (s1.le hn) O1 (show u ≤ 1 by omega) A1 (fun h2 m2 s2 x2_ t2 z106 z107 z108 B2 => ?_) 62 1 h1 m s x rfl (Nat.le_refl _) (s1.at (by simp) e106) (s1.at (by simp) e107) (s1.at (by simp) e108) (fun c hc h0 => hB c (by omega) h0) Same.rf
    refine AX.iincN (c := u + 1) (pc := 111) (L' := [.ref 87, .int (nI (u + 1)), .null, .null]) dX12_keepBoth_111 rfl (inc1 _) (by decide) rfl ?_
    refine AX.goto (pc := 114) (tgt := 2) dX12_keepBoth_114 (by decide) ?_
    exact l_both w P h0 hn0 hN0 hR0 hh_ hP g (u + 1) h2 xx m2 s2 x2_ (by omega) (O1.same t2 (by simp)) ((A1.fx F1).same t2 (by simp) (by simp) (by simp) (by simp) (by simp)) z106 z107 z108 (by rw [show 63 * (u + 1) = 63 * u + 63 by omega]; exact B2) (hS.trans ((s1.wide (by decide)).trans (t2.wide (by decide))))
theorem c_keepBoth (w : XW) (h : XH) {v q m s x : Nat → Int32} {H : Nat → Nat × Nat} (hn : 118 ≤ h.1) (hO : MO h v) (hN : iA h 89 19 q) (hR : iA h 88 20 (fun k => nI (rgN k))) (hF : FX h) (e106 : h.2 106 = .inl (0, 126, .inl m)) (e107 : h.2 107 = .inl (0, 630, .inl s)) (e108 : h.2 108 = .inl (0, 630, .inl x)) (hh_ : ∀ u, u ≤ 1 → q u = nI (H u).1 ∧ q (2 + u) = nI (H u).2 ∧ (H u).1 ≤ 200 ∧ (H u).2 ≤ 200) : CA w M_X12_keepBoth [.ref 87] h (fun v' h' => v' = none ∧ Same [87, 91, 92, 98, 99, 100, 106, 107, 108] h h' ∧ (∃ y, MO h' (upd v 1 y)) ∧ FX h' ∧ BL h' H) := by
  refine CA.of (by decide) rfl (fun _ => Nat.le_of_ble_eq_true rfl) ?_
  show AX w M_X12_keepBoth 0 0 0 [.ref 87, .null, .null, .null] [] h _
  refine AX.iconst (pc := 0) (v := nI 0) dX12_keepBoth_0 (by decide) ?_
  refine AX.istore_n (pc := 1) (L' := [.ref 87, .int (nI 0), .null, .null]) dX12_keepBoth_1 (by decide) rfl ?_
  exact l_both w _ h hn hN hR hh_ (fun h2 t2 o2 f2 b2 => ⟨rfl, t2, o2, f2, b2⟩) 2 0 h (v 1) m s x rfl (by rw [upd_self]; exact hO) hF e106 e107 e108 (fun c hc => absurd hc (Nat.not_lt_zero _)) Same.rf
