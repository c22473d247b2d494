/-! ===== THE REFERENCE: all FALLS kept, and taken ===== -/
theorem upd_upd (f : Nat → Int32) (k : Nat) (x y : Int32) : upd (upd f k x) k y = upd f k y := by
  funext j
  simp only [upd]
  split <;> rfl
def AK (a sd rg : Nat) (m s w : Nat → Int32) : Prop := m a = nI (fC a) ∧ ∀ i, i < fC a → s (5 * a + i) = nI (fS (5 * a + i)) ∧ w (5 * a + i) = nI (wtN sd rg (5 * a + i))
/-- the FALLS of all AIMS below K are kept in cells 98, 99, 100 -/
def AL (h : XH) (K sd rg : Nat) : Prop := ∃ m s w : Nat → Int32, h.2 98 = .inl (0, 63, .inl m) ∧ h.2 99 = .inl (0, 315, .inl s) ∧ h.2 100 = .inl (0, 315, .inl w) ∧ ∀ a, 1 ≤ a → a < K → AK a sd rg m s w
theorem AL.same {S : List Nat} {h h' : XH} {K sd rg : Nat} (H : AL h K sd rg) (hs : Same S h h') (h1 : 98 ∉ S) (h2 : 99 ∉ S) (h3 : 100 ∉ S) : AL h' K sd rg := by
  obtain ⟨m, s, w, e1, e2, e3, q⟩ := H
  exact ⟨m, s, w, hs.at h1 e1, hs.at h2 e2, hs.at h3 e3, q⟩
theorem AK.put {a b sd rg j : Nat} {m s w : Nat → Int32} {x y : Int32} (H : AK b sd rg m s w) (hb : b < a) : AK b sd rg m (upd s (5 * a + j) x) (upd w (5 * a + j) y) := by
  refine ⟨H.1, fun i hi => ?_⟩
  have := fC_le b
  rw [upd_off (by omega), upd_off (by omega)]
  exact H.2 i hi
theorem AK.putm {a b sd rg : Nat} {m s w : Nat → Int32} {x : Int32} (H : AK b sd rg m s w) (hb : b < a) : AK b sd rg (upd m a x) s w := ⟨(upd_off (by omega)).trans H.1, H.2⟩
theorem l_keepIn (w : XW) (P : Option Value → XH → Prop) (h0 : XH) {v : Nat → Int32} {u a sd rg : Nat} (ha1 : 1 ≤ a) (ha2 : a ≤ 62) (hP : ∀ h', Same [87, 91, 92, 98, 99, 100] h0 h' → MO h' (upd v 1 (nI (fC a))) → FL h' a sd rg → AL h' (a + 1) sd rg → AX w M_X12_keepFalls 0 0 72 [.ref 87, .int (nI u), .int (nI a), .null] [] h' P) : ∀ (g j : Nat) (h : XH) (m s x : Nat → Int32), j + g = fC a → 118 ≤ h.1 → MO h (upd v 1 (nI (fC a))) → FL h a sd rg → h.2 98 = .inl (0, 63, .inl m) → h.2 99 = .inl (0, 315, .inl s) → h.2 100 = .inl (0, 315, .inl x) → (∀ b, 1 ≤ b → b < a → AK b sd rg m s x) → m a = nI (fC a) → (∀ i, i < j → s (5 * a + i) = nI (fS (5 * a + i)) ∧ x (5 * a + i) = nI (wtN sd rg (5 * a + i))) → Same [87, 91, 92, 98, 99, 100] h0 h → AX w M_X12_keepFalls 0 0 26 [.ref 87, .int (nI u), .int (nI a), .int (nI j)] [] h P
  | 0, j, h, m, s, x, hg, hn, hO, hF, e98, e99, e100, qb, qm, qi, hS => by
    have hfc := fC_le a
    obtain ⟨⟨f, e91, qf⟩, ⟨fw, e92, qw⟩⟩ := id hF
    have eO : h.2 87 = .inr (11, [.ref 88, .ref 89, .ref 90, .int (v 0), .int (nI (fC a)), .ref 91, .ref 92, .ref 93, .ref 94, .ref 95, .ref 96, .ref 97, .ref 98, .ref 99, .ref 100, .ref 101, .int (v 2), .ref 102, .ref 103, .ref 104, .ref 105, .ref 106, .ref 107, .ref 108, .int (v 3), .ref 109, .int (v 4), .ref 110, .ref 111, .int (v 5), .ref 112, .int (v 6), .int (v 7), .int (v 8), .ref 113, .int (v 9), .ref 114, .ref 115, .ref 116, .ref 117]) := hO
    have e : j = fC a := by omega
    subst e
    refine AX.iload_n (pc := 26) dX12_keepFalls_26 rfl ?_
    refine AX.aload_n (pc := 27) dX12_keepFalls_27 rfl ?_
    refine AX.getf (pc := 28) fX12_keepFalls_132 (lt_k hn (by omega)) eO rfl dX12_keepFalls_28 ?_
    refine AX.icmp_geN (pc := 31) (tgt := 72) dX12_keepFalls_31 (by decide) (by omega) (by omega) (fun hc31 => ?_) (fun q => absurd q (Nat.lt_irrefl _))
    refine AX.sub (L' := [.ref 87, .int (nI u), .int (nI a), .null]) ⟨Or.inr rfl, Or.inr rfl, Or.inr rfl, Or.inl rfl, trivial⟩ ?_
    refine hP h hS hO hF ⟨m, s, x, e98, e99, e100, fun b b1 b2 => ?_⟩
    by_cases e : b = a
    · subst e; exact ⟨qm, qi⟩
    · exact qb b b1 (by omega)
  | g + 1, j, h, m, s, x, hg, hn, hO, hF, e98, e99, e100, qb, qm, qi, hS => by
    have hfc := fC_le a
    obtain ⟨⟨f, e91, qf⟩, ⟨fw, e92, qw⟩⟩ := id hF
    have eO : h.2 87 = .inr (11, [.ref 88, .ref 89, .ref 90, .int (v 0), .int (nI (fC a)), .ref 91, .ref 92, .ref 93, .ref 94, .ref 95, .ref 96, .ref 97, .ref 98, .ref 99, .ref 100, .ref 101, .int (v 2), .ref 102, .ref 103, .ref 104, .ref 105, .ref 106, .ref 107, .ref 108, .int (v 3), .ref 109, .int (v 4), .ref 110, .ref 111, .int (v 5), .ref 112, .int (v 6), .int (v 7), .int (v 8), .ref 113, .int (v 9), .ref 114, .ref 115, .ref 116, .ref 117]) := hO
    refine AX.iload_n (pc := 26) dX12_keepFalls_26 rfl ?_
    refine AX.aload_n (pc := 27) dX12_keepFalls_27 rfl ?_
    refine AX.getf (pc := 28) fX12_keepFalls_132 (lt_k hn (by omega)) eO rfl dX12_keepFalls_28 ?_
    refine AX.icmp_geN (pc := 31) (tgt := 72) dX12_keepFalls_31 (by decide) (by omega) (by omega) (fun q => absurd q (by omega)) (fun hc31 => ?_)
    refine AX.aload_n (pc := 34) dX12_keepFalls_34 rfl ?_
    refine AX.getf (pc := 35) fX12_keepFalls_44 (lt_k hn (by omega)) eO rfl dX12_keepFalls_35 ?_
    refine AX.iconst (pc := 38) (v := nI 5) dX12_keepFalls_38 (by decide) ?_
    refine AX.iload_n (pc := 39) dX12_keepFalls_39 rfl ?_
    refine AX.imulN (pc := 40) (c := 5 * a) dX12_keepFalls_40 rfl ?_
    refine AX.iload_n (pc := 41) dX12_keepFalls_41 rfl ?_
    refine AX.iaddN (pc := 42) (c := 5 * a + j) dX12_keepFalls_42 rfl ?_
    refine AX.aload_n (pc := 43) dX12_keepFalls_43 rfl ?_
    refine AX.getf (pc := 44) fX12_keepFalls_19 (lt_k hn (by omega)) eO rfl dX12_keepFalls_44 ?_
    refine AX.iload_n (pc := 47) dX12_keepFalls_47 rfl ?_
    refine AX.ialdN (pc := 48) (i := j) (v := (nI (fS (5 * a + j)))) (lt_k hn (by omega)) e91 (by decide) (by omega) (qf j (by omega)) dX12_keepFalls_48 ?_
    refine AX.iastN (pc := 49) (i := 5 * a + j) (g := upd s (5 * a + j) (nI (fS (5 * a + j)))) (lt_k hn (by omega)) e99 (by decide) (by omega) rfl dX12_keepFalls_49 ?_
    refine AX.aload_n (pc := 50) dX12_keepFalls_50 rfl ?_
    refine AX.getf (pc := 51) fX12_keepFalls_47 (lt_k hn (by omega)) ((xset_ne (by decide)).trans eO) rfl dX12_keepFalls_51 ?_
    refine AX.iconst (pc := 54) (v := nI 5) dX12_keepFalls_54 (by decide) ?_
    refine AX.iload_n (pc := 55) dX12_keepFalls_55 rfl ?_
    refine AX.imulN (pc := 56) (c := 5 * a) dX12_keepFalls_56 rfl ?_
    refine AX.iload_n (pc := 57) dX12_keepFalls_57 rfl ?_
    refine AX.iaddN (pc := 58) (c := 5 * a + j) dX12_keepFalls_58 rfl ?_
    refine AX.aload_n (pc := 59) dX12_keepFalls_59 rfl ?_
    refine AX.getf (pc := 60) fX12_keepFalls_22 (lt_k hn (by omega)) ((xset_ne (by decide)).trans eO) rfl dX12_keepFalls_60 ?_
    refine AX.iload_n (pc := 63) dX12_keepFalls_63 rfl ?_
    refine AX.ialdN (pc := 64) (i := j) (v := (nI (wtN sd rg (5 * a + j)))) (lt_k hn (by omega)) ((xset_ne (by decide)).trans e92) (by decide) (by omega) (qw j (by omega)) dX12_keepFalls_64 ?_
    refine AX.iastN (pc := 65) (i := 5 * a + j) (g := upd x (5 * a + j) (nI (wtN sd rg (5 * a + j)))) (lt_k hn (by omega)) ((xset_ne (by decide)).trans e100) (by decide) (by omega) rfl dX12_keepFalls_65 ?_
    refine AX.iincN (c := j + 1) (pc := 66) (L' := [.ref 87, .int (nI u), .int (nI a), .int (nI (j + 1))]) dX12_keepFalls_66 rfl (inc1 _) (by decide) rfl ?_
    refine AX.goto (pc := 69) (tgt := 26) dX12_keepFalls_69 (by decide) ?_
    have sx : Same [99, 100] h (xset (xset h 99 (.inl (0, 315, .inl (upd s (5 * a + j) (nI (fS (5 * a + j))))))) 100 (.inl (0, 315, .inl (upd x (5 * a + j) (nI (wtN sd rg (5 * a + j))))))) := Same.set (Same.set Same.rf (by simp)) (by simp)
    refine l_keepIn w P h0 ha1 ha2 hP g (j + 1) _ m _ _ (by omega) (sx.le hn) (hO.same sx (by simp)) (hF.same sx (by simp) (by simp)) (sx.at (by simp) e98) ((xset_ne (by decide)).trans (xset_same _ _ _)) (xset_same _ _ _) (fun b b1 b2 => (qb b b1 b2).put b2) qm (fun i hi => ?_) (hS.trans (sx.wide (by decide)))
    by_cases e : i = j
    · subst e; exact ⟨upd_at _ _ _, upd_at _ _ _⟩
    · rw [upd_off (by omega), upd_off (by omega)]; exact qi i (by omega)
theorem l_keep (w : XW) (P : Option Value → XH → Prop) (h0 : XH) {v q : Nat → Int32} {u sd rg : Nat} (hR0 : iA h0 88 20 (fun k => nI (rgN k))) (hN0 : iA h0 89 19 q) (hu : u ≤ 1) (hs : q u = nI sd) (hr : q (2 + u) = nI rg) (hs2 : sd ≤ 200) (hr2 : rg ≤ 200) (hP : ∀ h', Same [87, 91, 92, 98, 99, 100] h0 h' → (∃ x, MO h' (upd v 1 x)) → FL h' 62 sd rg → AL h' 63 sd rg → P none h') : ∀ (g a : Nat) (h : XH) (x : Int32) (f fw : Nat → Int32), a + g = 63 → 1 ≤ a → 118 ≤ h.1 → MO h (upd v 1 x) → h.2 91 = .inl (0, 5, .inl f) → h.2 92 = .inl (0, 5, .inl fw) → AL h a sd rg → (a = 63 → FL h 62 sd rg) → Same [87, 91, 92, 98, 99, 100] h0 h → AX w M_X12_keepFalls 0 0 2 [.ref 87, .int (nI u), .int (nI a), .null] [] h P
  | 0, a, h, x, f, fw, hg, ha, hn, hO, e91, e92, hA, hF, hS => by
    have e : a = 63 := by omega
    subst e
    refine AX.iload_n (pc := 2) dX12_keepFalls_2 rfl ?_
    refine AX.bipush (pc := 3) (v := nI 62) dX12_keepFalls_3 (by decide) ?_
    refine AX.icmp_gtN (pc := 5) (tgt := 78) dX12_keepFalls_5 (by decide) (by decide) (by decide) (fun hc5 => ?_) (fun q => absurd q (by decide))
    refine AX.vret (pc := 78) dX12_keepFalls_78 rfl (by decide) (by decide) ?_
    exact hP h hS ⟨x, hO⟩ (hF rfl) hA
  | g + 1, a, h, x, f, fw, hg, ha, hn, hO, e91, e92, hA, hF, hS => by
    have hfc := fC_le a
    refine AX.iload_n (pc := 2) dX12_keepFalls_2 rfl ?_
    refine AX.bipush (pc := 3) (v := nI 62) dX12_keepFalls_3 (by decide) ?_
    refine AX.icmp_gtN (pc := 5) (tgt := 78) dX12_keepFalls_5 (by decide) (by omega) (by decide) (fun q => absurd q (by omega)) (fun hc5 => ?_)
    refine AX.aload_n (pc := 8) dX12_keepFalls_8 rfl ?_
    refine AX.iload_n (pc := 9) dX12_keepFalls_9 rfl ?_
    refine AX.iload_n (pc := 10) dX12_keepFalls_10 rfl ?_
    refine AX.callV (pc := 11) (M2 := M_X12_layFalls) (As := [.int (nI u), .int (nI a)]) (rest := []) (c_layFalls w h hn hO (hN0.same hS (by simp)) (hR0.same hS (by simp)) e91 e92 hu hs hr hs2 hr2 ha (show a ≤ 62 by omega)) xc_X12_keepFalls__X12_layFalls gX12_keepFalls_X12_layFalls (ci := 11) rfl (lt_k hn (by omega)) hO rfl (Nat.le_of_ble_eq_true rfl) dX12_keepFalls_11 ?_
    rintro _ h1 ⟨rfl, s1, F1, O1⟩
    rw [upd_upd] at O1
    have eO : h1.2 87 = .inr (11, [.ref 88, .ref 89, .ref 90, .int (v 0), .int (nI (fC a)), .ref 91, .ref 92, .ref 93, .ref 94, .ref 95, .ref 96, .ref 97, .ref 98, .ref 99, .ref 100, .ref 101, .int (v 2), .ref 102, .ref 103, .ref 104, .ref 105, .ref 106, .ref 107, .ref 108, .int (v 3), .ref 109, .int (v 4), .ref 110, .ref 111, .int (v 5), .ref 112, .int (v 6), .int (v 7), .int (v 8), .ref 113, .int (v 9), .ref 114, .ref 115, .ref 116, .ref 117]) := O1
    obtain ⟨m, s, x2, e98, e99, e100, qb⟩ := hA.same s1 (by simp) (by simp) (by simp)
    show AX w M_X12_keepFalls 0 0 14 [.ref 87, .int (nI u), .int (nI a), .null] [] _ _
    refine AX.aload_n (pc := 14) dX12_keepFalls_14 rfl ?_
    refine AX.getf (pc := 15) fX12_keepFalls_41 (lt_k (s1.le hn) (by omega)) eO rfl dX12_keepFalls_15 ?_
    refine AX.iload_n (pc := 18) dX12_keepFalls_18 rfl ?_
    refine AX.aload_n (pc := 19) dX12_keepFalls_19 rfl ?_
    refine AX.getf (pc := 20) fX12_keepFalls_132 (lt_k (s1.le hn) (by omega)) eO rfl dX12_keepFalls_20 ?_
    refine AX.iastN (pc := 23) (i := a) (g := upd m a (nI (fC a))) (lt_k (s1.le hn) (by omega)) e98 (by decide) (by omega) rfl dX12_keepFalls_23 ?_
    refine AX.iconst (pc := 24) (v := nI 0) dX12_keepFalls_24 (by decide) ?_
    refine AX.istore_n (pc := 25) (L' := [.ref 87, .int (nI u), .int (nI a), .int (nI 0)]) dX12_keepFalls_25 (by decide) rfl ?_
    have sx : Same [98] h1 (xset h1 98 (.inl (0, 63, .inl (upd m a (nI (fC a)))))) := Same.rest
    refine l_keepIn w P h0 (v := v) (sd := sd) (rg := rg) ha (show a ≤ 62 by omega) (fun h2 t2 O2 F2 A2 => ?_) (fC a) 0 _ _ _ _ (Nat.zero_add _) (sx.le (s1.le hn)) (O1.same sx (by simp)) (F1.same sx (by simp) (by simp)) (xset_same _ _ _) (sx.at (by simp) e99) (sx.at (by simp) e100) (fun b b1 b2 => (qb b b1 b2).putm b2) (upd_at _ _ _) (fun i hi => absurd hi (Nat.not_lt_zero _)) (hS.trans ((s1.wide (by decide)).trans (sx.wide (by decide))))
    obtain ⟨⟨f2, e91b, -⟩, ⟨fw2, e92b, -⟩⟩ := id F2
    refine AX.iincN (c := a + 1) (pc := 72) (L' := [.ref 87, .int (nI u), .int (nI (a + 1)), .null]) dX12_keepFalls_72 rfl (inc1 _) (by decide) rfl ?_
    refine AX.goto (pc := 75) (tgt := 2) dX12_keepFalls_75 (by decide) ?_
    exact l_keep w P h0 hR0 hN0 hu hs hr hs2 hr2 hP g (a + 1) h2 _ f2 fw2 (by omega) (by omega) (t2.le (show 118 ≤ h0.1 by have := hS.1; omega)) O2 e91b e92b A2 (fun e => by rw [← show a = 62 from by omega]; exact F2) t2
theorem c_keepFalls (w : XW) (h : XH) {v q : Nat → Int32} {u sd rg : Nat} (hn : 118 ≤ h.1) (hO : MO h v) (hN : iA h 89 19 q) (hR : iA h 88 20 (fun k => nI (rgN k))) {f91_ f92_ m s x : Nat → Int32} (e91 : h.2 91 = .inl (0, 5, .inl f91_)) (e92 : h.2 92 = .inl (0, 5, .inl f92_)) (e98 : h.2 98 = .inl (0, 63, .inl m)) (e99 : h.2 99 = .inl (0, 315, .inl s)) (e100 : h.2 100 = .inl (0, 315, .inl x)) (hu : u ≤ 1) (hs : q u = nI sd) (hr : q (2 + u) = nI rg) (hs2 : sd ≤ 200) (hr2 : rg ≤ 200) : CA w M_X12_keepFalls [.ref 87, .int (nI u)] h (fun v' h' => v' = none ∧ Same [87, 91, 92, 98, 99, 100] h h' ∧ (∃ x, MO h' (upd v 1 x)) ∧ FL h' 62 sd rg ∧ AL h' 63 sd rg) := by
  refine CA.of (by decide) rfl (fun _ => Nat.le_of_ble_eq_true rfl) ?_
  show AX w M_X12_keepFalls 0 0 0 [.ref 87, .int (nI u), .null, .null] [] h _
  refine AX.iconst (pc := 0) (v := nI 1) dX12_keepFalls_0 (by decide) ?_
  refine AX.istore_n (pc := 1) (L' := [.ref 87, .int (nI u), .int (nI 1), .null]) dX12_keepFalls_1 (by decide) rfl ?_
  exact l_keep w _ h hR hN hu hs hr hs2 hr2 (fun h2 a1 a2 a3 a4 => ⟨rfl, a1, a2, a3, a4⟩) 62 1 h (v 1) _ _ rfl (Nat.le_refl _) hn (by rw [upd_self]; exact hO) e91 e92 ⟨m, s, x, e98, e99, e100, fun a a1 a2 => absurd a2 (by omega)⟩ (fun e => absurd e (by decide)) Same.rf
theorem l_take (w : XW) (P : Option Value → XH → Prop) (h0 : XH) {v m s x : Nat → Int32} {a sd rg : Nat} (ha1 : 1 ≤ a) (ha2 : a ≤ 62) (hK : AK a sd rg m s x) (e98 : h0.2 98 = .inl (0, 63, .inl m)) (e99 : h0.2 99 = .inl (0, 315, .inl s)) (e100 : h0.2 100 = .inl (0, 315, .inl x)) (hP : ∀ h', Same [87, 91, 92] h0 h' → MO h' (upd v 1 (nI (fC a))) → FL h' a sd rg → P none h') : ∀ (g j : Nat) (h : XH) (f fw : Nat → Int32), j + g = fC a → 118 ≤ h.1 → MO h (upd v 1 (nI (fC a))) → h.2 91 = .inl (0, 5, .inl f) → h.2 92 = .inl (0, 5, .inl fw) → (∀ i, i < j → f i = nI (fS (5 * a + i)) ∧ fw i = nI (wtN sd rg (5 * a + i))) → Same [87, 91, 92] h0 h → AX w M_X12_takeFalls 0 0 12 [.ref 87, .int (nI a), .int (nI j)] [] h P
  | 0, j, h, f, fw, hg, hn, hO, e91, e92, qi, hS => by
    have hfc := fC_le a
    have eO : h.2 87 = .inr (11, [.ref 88, .ref 89, .ref 90, .int (v 0), .int (nI (fC a)), .ref 91, .ref 92, .ref 93, .ref 94, .ref 95, .ref 96, .ref 97, .ref 98, .ref 99, .ref 100, .ref 101, .int (v 2), .ref 102, .ref 103, .ref 104, .ref 105, .ref 106, .ref 107, .ref 108, .int (v 3), .ref 109, .int (v 4), .ref 110, .ref 111, .int (v 5), .ref 112, .int (v 6), .int (v 7), .int (v 8), .ref 113, .int (v 9), .ref 114, .ref 115, .ref 116, .ref 117]) := hO
    have e : j = fC a := by omega
    subst e
    refine AX.iload_n (pc := 12) dX12_takeFalls_12 rfl ?_
    refine AX.aload_n (pc := 13) dX12_takeFalls_13 rfl ?_
    refine AX.getf (pc := 14) fX12_takeFalls_132 (lt_k hn (by omega)) eO rfl dX12_takeFalls_14 ?_
    refine AX.icmp_geN (pc := 17) (tgt := 58) dX12_takeFalls_17 (by decide) (by omega) (by omega) (fun hc17 => ?_) (fun q => absurd q (Nat.lt_irrefl _))
    refine AX.vret (pc := 58) dX12_takeFalls_58 rfl (by decide) (by decide) ?_
    exact hP h hS hO ⟨⟨f, e91, fun i hi => (qi i hi).1⟩, ⟨fw, e92, fun i hi => (qi i hi).2⟩⟩
  | g + 1, j, h, f, fw, hg, hn, hO, e91, e92, qi, hS => by
    have hfc := fC_le a
    have eO : h.2 87 = .inr (11, [.ref 88, .ref 89, .ref 90, .int (v 0), .int (nI (fC a)), .ref 91, .ref 92, .ref 93, .ref 94, .ref 95, .ref 96, .ref 97, .ref 98, .ref 99, .ref 100, .ref 101, .int (v 2), .ref 102, .ref 103, .ref 104, .ref 105, .ref 106, .ref 107, .ref 108, .int (v 3), .ref 109, .int (v 4), .ref 110, .ref 111, .int (v 5), .ref 112, .int (v 6), .int (v 7), .int (v 8), .ref 113, .int (v 9), .ref 114, .ref 115, .ref 116, .ref 117]) := hO
    refine AX.iload_n (pc := 12) dX12_takeFalls_12 rfl ?_
    refine AX.aload_n (pc := 13) dX12_takeFalls_13 rfl ?_
    refine AX.getf (pc := 14) fX12_takeFalls_132 (lt_k hn (by omega)) eO rfl dX12_takeFalls_14 ?_
    refine AX.icmp_geN (pc := 17) (tgt := 58) dX12_takeFalls_17 (by decide) (by omega) (by omega) (fun q => absurd q (by omega)) (fun hc17 => ?_)
    refine AX.aload_n (pc := 20) dX12_takeFalls_20 rfl ?_
    refine AX.getf (pc := 21) fX12_takeFalls_19 (lt_k hn (by omega)) eO rfl dX12_takeFalls_21 ?_
    refine AX.iload_n (pc := 24) dX12_takeFalls_24 rfl ?_
    refine AX.aload_n (pc := 25) dX12_takeFalls_25 rfl ?_
    refine AX.getf (pc := 26) fX12_takeFalls_44 (lt_k hn (by omega)) eO rfl dX12_takeFalls_26 ?_
    refine AX.iconst (pc := 29) (v := nI 5) dX12_takeFalls_29 (by decide) ?_
    refine AX.iload_n (pc := 30) dX12_takeFalls_30 rfl ?_
    refine AX.imulN (pc := 31) (c := 5 * a) dX12_takeFalls_31 rfl ?_
    refine AX.iload_n (pc := 32) dX12_takeFalls_32 rfl ?_
    refine AX.iaddN (pc := 33) (c := 5 * a + j) dX12_takeFalls_33 rfl ?_
    refine AX.ialdN (pc := 34) (i := 5 * a + j) (v := (nI (fS (5 * a + j)))) (lt_k hn (by omega)) (hS.at (by simp) e99) (by decide) (by omega) ((hK.2 j (by omega)).1) dX12_takeFalls_34 ?_
    refine AX.iastN (pc := 35) (i := j) (g := upd f j (nI (fS (5 * a + j)))) (lt_k hn (by omega)) e91 (by decide) (by omega) rfl dX12_takeFalls_35 ?_
    refine AX.aload_n (pc := 36) dX12_takeFalls_36 rfl ?_
    refine AX.getf (pc := 37) fX12_takeFalls_22 (lt_k hn (by omega)) ((xset_ne (by decide)).trans eO) rfl dX12_takeFalls_37 ?_
    refine AX.iload_n (pc := 40) dX12_takeFalls_40 rfl ?_
    refine AX.aload_n (pc := 41) dX12_takeFalls_41 rfl ?_
    refine AX.getf (pc := 42) fX12_takeFalls_47 (lt_k hn (by omega)) ((xset_ne (by decide)).trans eO) rfl dX12_takeFalls_42 ?_
    refine AX.iconst (pc := 45) (v := nI 5) dX12_takeFalls_45 (by decide) ?_
    refine AX.iload_n (pc := 46) dX12_takeFalls_46 rfl ?_
    refine AX.imulN (pc := 47) (c := 5 * a) dX12_takeFalls_47 rfl ?_
    refine AX.iload_n (pc := 48) dX12_takeFalls_48 rfl ?_
    refine AX.iaddN (pc := 49) (c := 5 * a + j) dX12_takeFalls_49 rfl ?_
    refine AX.ialdN (pc := 50) (i := 5 * a + j) (v := (nI (wtN sd rg (5 * a + j)))) (lt_k hn (by omega)) ((xset_ne (by decide)).trans (hS.at (by simp) e100)) (by decide) (by omega) ((hK.2 j (by omega)).2) dX12_takeFalls_50 ?_
    refine AX.iastN (pc := 51) (i := j) (g := upd fw j (nI (wtN sd rg (5 * a + j)))) (lt_k hn (by omega)) ((xset_ne (by decide)).trans e92) (by decide) (by omega) rfl dX12_takeFalls_51 ?_
    refine AX.iincN (c := j + 1) (pc := 52) (L' := [.ref 87, .int (nI a), .int (nI (j + 1))]) dX12_takeFalls_52 rfl (inc1 _) (by decide) rfl ?_
    refine AX.goto (pc := 55) (tgt := 12) dX12_takeFalls_55 (by decide) ?_
    have sx : Same [91, 92] h (xset (xset h 91 (.inl (0, 5, .inl (upd f j (nI (fS (5 * a + j))))))) 92 (.inl (0, 5, .inl (upd fw j (nI (wtN sd rg (5 * a + j))))))) := Same.set (Same.set Same.rf (by simp)) (by simp)
    refine l_take w P h0 ha1 ha2 hK e98 e99 e100 hP g (j + 1) _ _ _ (by omega) (sx.le hn) (hO.same sx (by simp)) ((xset_ne (by decide)).trans (xset_same _ _ _)) (xset_same _ _ _) (fun i hi => ?_) (hS.trans (sx.wide (by decide)))
    by_cases e : i = j
    · subst e; exact ⟨upd_at _ _ _, upd_at _ _ _⟩
    · rw [upd_off e, upd_off e]; exact qi i (by omega)
theorem c_takeFalls (w : XW) (h : XH) {v : Nat → Int32} {a sd rg : Nat} (hn : 118 ≤ h.1) (hO : MO h v) {f91_ f92_ : Nat → Int32} (e91 : h.2 91 = .inl (0, 5, .inl f91_)) (e92 : h.2 92 = .inl (0, 5, .inl f92_)) (hA : AL h 63 sd rg) (ha1 : 1 ≤ a) (ha2 : a ≤ 62) : CA w M_X12_takeFalls [.ref 87, .int (nI a)] h (fun v' h' => v' = none ∧ Same [87, 91, 92] h h' ∧ FL h' a sd rg ∧ MO h' (upd v 1 (nI (fC a)))) := by
  refine CA.of (by decide) rfl (fun _ => Nat.le_of_ble_eq_true rfl) ?_
  obtain ⟨m, s, x, e98, e99, e100, hk⟩ := id hA
  have hK := hk a ha1 (by omega)
  show AX w M_X12_takeFalls 0 0 0 [.ref 87, .int (nI a), .null] [] h _
  refine AX.aload_n (pc := 0) dX12_takeFalls_0 rfl ?_
  refine AX.aload_n (pc := 1) dX12_takeFalls_1 rfl ?_
  refine AX.getf (pc := 2) fX12_takeFalls_41 (lt_k hn (by omega)) hO rfl dX12_takeFalls_2 ?_
  refine AX.iload_n (pc := 5) dX12_takeFalls_5 rfl ?_
  refine AX.ialdN (pc := 6) (i := a) (v := (nI (fC a))) (lt_k hn (by omega)) e98 (by decide) (by omega) hK.1 dX12_takeFalls_6 ?_
  refine AX.putf (pc := 7) (fs' := [.ref 88, .ref 89, .ref 90, .int (v 0), .int (nI (fC a)), .ref 91, .ref 92, .ref 93, .ref 94, .ref 95, .ref 96, .ref 97, .ref 98, .ref 99, .ref 100, .ref 101, .int (v 2), .ref 102, .ref 103, .ref 104, .ref 105, .ref 106, .ref 107, .ref 108, .int (v 3), .ref 109, .int (v 4), .ref 110, .ref 111, .int (v 5), .ref 112, .int (v 6), .int (v 7), .int (v 8), .ref 113, .int (v 9), .ref 114, .ref 115, .ref 116, .ref 117]) fX12_takeFalls_132 rfl (lt_k hn (by omega)) hO (Nat.le_of_ble_eq_true rfl) rfl rfl rfl dX12_takeFalls_7 ?_
  refine AX.iconst (pc := 10) (v := nI 0) dX12_takeFalls_10 (by decide) ?_
  refine AX.istore_n (pc := 11) (L' := [.ref 87, .int (nI a), .int (nI 0)]) dX12_takeFalls_11 (by decide) rfl ?_
  have sx : Same [87] h (xset h 87 (.inr (11, [.ref 88, .ref 89, .ref 90, .int (v 0), .int (nI (fC a)), .ref 91, .ref 92, .ref 93, .ref 94, .ref 95, .ref 96, .ref 97, .ref 98, .ref 99, .ref 100, .ref 101, .int (v 2), .ref 102, .ref 103, .ref 104, .ref 105, .ref 106, .ref 107, .ref 108, .int (v 3), .ref 109, .int (v 4), .ref 110, .ref 111, .int (v 5), .ref 112, .int (v 6), .int (v 7), .int (v 8), .ref 113, .int (v 9), .ref 114, .ref 115, .ref 116, .ref 117]))) := Same.rest
  exact l_take w _ h (v := v) ha1 ha2 hK e98 e99 e100 (fun h2 a1 a2 a3 => ⟨rfl, a1, a3, a2⟩) (fC a) 0 _ _ _ (Nat.zero_add _) (sx.le hn) (xset_same _ _ _) (sx.at (by simp) e91) (sx.at (by simp) e92) (fun i hi => absurd hi (Nat.not_lt_zero _)) (sx.wide (by decide))
