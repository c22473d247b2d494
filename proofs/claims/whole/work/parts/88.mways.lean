/-! ===== THE REFERENCE: how many FINISHES ===== -/
def wyO (o k : Nat) : Option Nat → Nat
  | none => 0
  | some d => wyN o k d
theorem wyT_O (o k r s : Nat) : wyO o k (nxN o r s) = wyT o k r s := by
  unfold wyT
  cases nxN o r s <;> rfl
theorem nx_top {o r s : Nat} (h : r ≤ 180) : ∀ d, nxN o r s = some d → d ≤ 180 := fun d e => Nat.le_trans (nxN_le e) h
theorem wyN_1hi {o r : Nat} (h : 60 < r) : wyN o 1 r = 0 := by
  rw [wyN_succ]
  refine smN_0 _ (fun s h1 h2 => ?_)
  unfold wyT
  cases hx : nxN o r s with
  | none => rfl
  | some d =>
    have := (nxN_eq hx).1
    have h60 : ∀ s, s < 63 → scN s ≤ 60 := by decide
    have := h60 s (by omega)
    show (if d = 0 then 1 else 0) = 0
    rw [if_neg (by omega)]
/-- the FINISHES by one SPOT are laid -/
def EN (h : XH) (o : Nat) : Prop := ∃ f : Nat → Int32, h.2 110 = .inl (0, 181, .inl f) ∧ ∀ r, 1 ≤ r → r ≤ 180 → f r = nI (wyN o 1 r)
theorem EN.same {S : List Nat} {h h' : XH} {o : Nat} (H : EN h o) (hs : Same S h h') (h1 : 110 ∉ S) : EN h' o := H.imp (fun _ z => ⟨hs.at h1 z.1, z.2⟩)
theorem l_endsOf (w : XW) (h : XH) {v q : Nat → Int32} {o : Nat} (hn : 118 ≤ h.1) (hO : MO h v) (hN : iA h 89 19 q) (ho12 : q 12 = nI o) (ho : o ≤ 2) {r : Nat} (hr : r ≤ 180) (P : Option Value → XH → Prop) (hP : P (some (.int (nI (smN (wyT o 0 r) 62)))) h) : ∀ (g k : Nat), k + g = 62 → AX w M_X12_endsOf 0 0 4 [.ref 87, .int (nI r), .int (nI (smN (wyT o 0 r) k)), .int (nI (k + 1))] [] h P
  | 0, k, hg => by
    have e : k = 62 := by omega
    subst e
    refine AX.iload_n (pc := 4) dX12_endsOf_4 rfl ?_
    refine AX.bipush (pc := 5) (v := nI 62) dX12_endsOf_5 (by decide) ?_
    refine AX.icmp_gtN (pc := 7) (tgt := 33) dX12_endsOf_7 (by decide) (by decide) (by decide) (fun hc7 => ?_) (fun q => absurd q (by decide))
    refine AX.iload_n (pc := 33) dX12_endsOf_33 rfl ?_
    refine AX.iret (pc := 34) dX12_endsOf_34 rfl rfl (by decide) (by decide) ?_
    exact hP
  | g + 1, k, hg => by
    have hz : smN (wyT o 0 r) (k + 1) = smN (wyT o 0 r) k + (wyT o 0 r) (k + 1) := rfl
    have ih := l_endsOf w h hn hO hN ho12 ho hr P hP g (k + 1) (by omega)
    cases hx : nxN o r (k + 1) with
    | none =>
      have hw : (wyT o 0 r) (k + 1) = 0 := by unfold wyT; rw [hx]
      refine AX.iload_n (pc := 4) dX12_endsOf_4 rfl ?_
      refine AX.bipush (pc := 5) (v := nI 62) dX12_endsOf_5 (by decide) ?_
      refine AX.icmp_gtN (pc := 7) (tgt := 33) dX12_endsOf_7 (by decide) (by omega) (by decide) (fun q => absurd q (by omega)) (fun hc7 => ?_)
      refine AX.iload_n (pc := 10) dX12_endsOf_10 rfl ?_
      refine AX.aload_n (pc := 11) dX12_endsOf_11 rfl ?_
      refine AX.iload_n (pc := 12) dX12_endsOf_12 rfl ?_
      refine AX.iload_n (pc := 13) dX12_endsOf_13 rfl ?_
      refine AX.callV (pc := 14) (M2 := M_X12_nextRest) (As := [.int (nI r), .int (nI (k + 1))]) (rest := [.int (nI (smN (wyT o 0 r) k))]) (c_nextRest w h hn hO hN ho12 ho r (k + 1) (by omega) (by omega)) xc_X12_endsOf__X12_nextRest gX12_endsOf_X12_nextRest (ci := 11) rfl (lt_k hn (by omega)) hO rfl (Nat.le_of_ble_eq_true rfl) dX12_endsOf_14 ?_
      rintro _ h9 ⟨rfl, e9⟩
      have e9 := e9.symm
      subst e9
      rw [hx]
      show AX w M_X12_endsOf 0 0 17 [.ref 87, .int (nI r), .int (nI (smN (wyT o 0 r) k)), .int (nI (k + 1))] [.int (-5), .int (nI (smN (wyT o 0 r) k))] _ _
      refine AX.if_ne (pc := 17) (tgt := 24) dX12_endsOf_17 (by decide) (fun hc17 => ?_) (fun q => absurd q (by decide))
      refine AX.iconst (pc := 24) (v := nI 0) dX12_endsOf_24 (by decide) ?_
      refine AX.iaddN (pc := 25) (c := smN (wyT o 0 r) k) dX12_endsOf_25 rfl ?_
      refine AX.istore_n (pc := 26) (L' := [.ref 87, .int (nI r), .int (nI (smN (wyT o 0 r) k)), .int (nI (k + 1))]) dX12_endsOf_26 (by decide) rfl ?_
      refine AX.iincN (c := k + 2) (pc := 27) (L' := [.ref 87, .int (nI r), .int (nI (smN (wyT o 0 r) k)), .int (nI (k + 2))]) dX12_endsOf_27 rfl (inc1 _) (by decide) rfl ?_
      refine AX.goto (pc := 30) (tgt := 4) dX12_endsOf_30 (by decide) ?_
      have hz2 : smN (wyT o 0 r) (k + 1) = smN (wyT o 0 r) k := by omega
      rw [hz2] at ih
      refine AX.sub (L' := [.ref 87, .int (nI r), .int (nI (smN (wyT o 0 r) k)), .int (nI (k + 2))]) ⟨Or.inr rfl, Or.inr rfl, Or.inr rfl, Or.inr rfl, trivial⟩ ?_
      exact ih
    | some d =>
      have hd := nxN_eq hx
      by_cases hd0 : d = 0
      · have hw : (wyT o 0 r) (k + 1) = 1 := by unfold wyT; rw [hx]; exact if_pos hd0
        refine AX.iload_n (pc := 4) dX12_endsOf_4 rfl ?_
        refine AX.bipush (pc := 5) (v := nI 62) dX12_endsOf_5 (by decide) ?_
        refine AX.icmp_gtN (pc := 7) (tgt := 33) dX12_endsOf_7 (by decide) (by omega) (by decide) (fun q => absurd q (by omega)) (fun hc7 => ?_)
        refine AX.iload_n (pc := 10) dX12_endsOf_10 rfl ?_
        refine AX.aload_n (pc := 11) dX12_endsOf_11 rfl ?_
        refine AX.iload_n (pc := 12) dX12_endsOf_12 rfl ?_
        refine AX.iload_n (pc := 13) dX12_endsOf_13 rfl ?_
        refine AX.callV (pc := 14) (M2 := M_X12_nextRest) (As := [.int (nI r), .int (nI (k + 1))]) (rest := [.int (nI (smN (wyT o 0 r) k))]) (c_nextRest w h hn hO hN ho12 ho r (k + 1) (by omega) (by omega)) xc_X12_endsOf__X12_nextRest gX12_endsOf_X12_nextRest (ci := 11) rfl (lt_k hn (by omega)) hO rfl (Nat.le_of_ble_eq_true rfl) dX12_endsOf_14 ?_
        rintro _ h9 ⟨rfl, e9⟩
        have e9 := e9.symm
        subst e9
        rw [hx]
        show AX w M_X12_endsOf 0 0 17 [.ref 87, .int (nI r), .int (nI (smN (wyT o 0 r) k)), .int (nI (k + 1))] [.int (nI d), .int (nI (smN (wyT o 0 r) k))] _ _
        refine AX.if_neN (pc := 17) (tgt := 24) dX12_endsOf_17 (by decide) (by omega) (fun q => absurd q (by omega)) (fun hc17 => ?_)
        refine AX.iconst (pc := 20) (v := nI 1) dX12_endsOf_20 (by decide) ?_
        refine AX.goto (pc := 21) (tgt := 25) dX12_endsOf_21 (by decide) ?_
        refine AX.iaddN (pc := 25) (c := smN (wyT o 0 r) k + 1) dX12_endsOf_25 rfl ?_
        refine AX.istore_n (pc := 26) (L' := [.ref 87, .int (nI r), .int (nI (smN (wyT o 0 r) k + 1)), .int (nI (k + 1))]) dX12_endsOf_26 (by decide) rfl ?_
        refine AX.iincN (c := k + 2) (pc := 27) (L' := [.ref 87, .int (nI r), .int (nI (smN (wyT o 0 r) k + 1)), .int (nI (k + 2))]) dX12_endsOf_27 rfl (inc1 _) (by decide) rfl ?_
        refine AX.goto (pc := 30) (tgt := 4) dX12_endsOf_30 (by decide) ?_
        have hz2 : smN (wyT o 0 r) (k + 1) = smN (wyT o 0 r) k + 1 := by omega
        rw [hz2] at ih
        refine AX.sub (L' := [.ref 87, .int (nI r), .int (nI (smN (wyT o 0 r) k + 1)), .int (nI (k + 2))]) ⟨Or.inr rfl, Or.inr rfl, Or.inr rfl, Or.inr rfl, trivial⟩ ?_
        exact ih
      · have hw : (wyT o 0 r) (k + 1) = 0 := by unfold wyT; rw [hx]; exact if_neg hd0
        refine AX.iload_n (pc := 4) dX12_endsOf_4 rfl ?_
        refine AX.bipush (pc := 5) (v := nI 62) dX12_endsOf_5 (by decide) ?_
        refine AX.icmp_gtN (pc := 7) (tgt := 33) dX12_endsOf_7 (by decide) (by omega) (by decide) (fun q => absurd q (by omega)) (fun hc7 => ?_)
        refine AX.iload_n (pc := 10) dX12_endsOf_10 rfl ?_
        refine AX.aload_n (pc := 11) dX12_endsOf_11 rfl ?_
        refine AX.iload_n (pc := 12) dX12_endsOf_12 rfl ?_
        refine AX.iload_n (pc := 13) dX12_endsOf_13 rfl ?_
        refine AX.callV (pc := 14) (M2 := M_X12_nextRest) (As := [.int (nI r), .int (nI (k + 1))]) (rest := [.int (nI (smN (wyT o 0 r) k))]) (c_nextRest w h hn hO hN ho12 ho r (k + 1) (by omega) (by omega)) xc_X12_endsOf__X12_nextRest gX12_endsOf_X12_nextRest (ci := 11) rfl (lt_k hn (by omega)) hO rfl (Nat.le_of_ble_eq_true rfl) dX12_endsOf_14 ?_
        rintro _ h9 ⟨rfl, e9⟩
        have e9 := e9.symm
        subst e9
        rw [hx]
        show AX w M_X12_endsOf 0 0 17 [.ref 87, .int (nI r), .int (nI (smN (wyT o 0 r) k)), .int (nI (k + 1))] [.int (nI d), .int (nI (smN (wyT o 0 r) k))] _ _
        refine AX.if_neN (pc := 17) (tgt := 24) dX12_endsOf_17 (by decide) (by omega) (fun hc17 => ?_) (fun q => absurd q (by omega))
        refine AX.iconst (pc := 24) (v := nI 0) dX12_endsOf_24 (by decide) ?_
        refine AX.iaddN (pc := 25) (c := smN (wyT o 0 r) k) dX12_endsOf_25 rfl ?_
        refine AX.istore_n (pc := 26) (L' := [.ref 87, .int (nI r), .int (nI (smN (wyT o 0 r) k)), .int (nI (k + 1))]) dX12_endsOf_26 (by decide) rfl ?_
        refine AX.iincN (c := k + 2) (pc := 27) (L' := [.ref 87, .int (nI r), .int (nI (smN (wyT o 0 r) k)), .int (nI (k + 2))]) dX12_endsOf_27 rfl (inc1 _) (by decide) rfl ?_
        refine AX.goto (pc := 30) (tgt := 4) dX12_endsOf_30 (by decide) ?_
        have hz2 : smN (wyT o 0 r) (k + 1) = smN (wyT o 0 r) k := by omega
        rw [hz2] at ih
        refine AX.sub (L' := [.ref 87, .int (nI r), .int (nI (smN (wyT o 0 r) k)), .int (nI (k + 2))]) ⟨Or.inr rfl, Or.inr rfl, Or.inr rfl, Or.inr rfl, trivial⟩ ?_
        exact ih
theorem c_endsOf (w : XW) (h : XH) {v q : Nat → Int32} {o : Nat} (hn : 118 ≤ h.1) (hO : MO h v) (hN : iA h 89 19 q) (ho12 : q 12 = nI o) (ho : o ≤ 2) {r : Nat} (hr : r ≤ 180) : CA w M_X12_endsOf [.ref 87, .int (nI r)] h (fun v' h'' => v' = some (.int (nI (wyN o 1 r))) ∧ h'' = h) := by
  refine CA.of (by decide) rfl (fun _ => Nat.le_of_ble_eq_true rfl) ?_
  show AX w M_X12_endsOf 0 0 0 [.ref 87, .int (nI r), .null, .null] [] h _
  refine AX.iconst (pc := 0) (v := nI 0) dX12_endsOf_0 (by decide) ?_
  refine AX.istore_n (pc := 1) (L' := [.ref 87, .int (nI r), .int (nI 0), .null]) dX12_endsOf_1 (by decide) rfl ?_
  refine AX.iconst (pc := 2) (v := nI 1) dX12_endsOf_2 (by decide) ?_
  refine AX.istore_n (pc := 3) (L' := [.ref 87, .int (nI r), .int (nI 0), .int (nI 1)]) dX12_endsOf_3 (by decide) rfl ?_
  exact l_endsOf w h hn hO hN ho12 ho hr _ ⟨rfl, rfl⟩ 62 0 rfl
theorem l_layEnds (w : XW) (P : Option Value → XH → Prop) (h0 : XH) {v q : Nat → Int32} {o : Nat} (hn0 : 118 ≤ h0.1) (hO0 : MO h0 v) (hN0 : iA h0 89 19 q) (ho12 : q 12 = nI o) (ho : o ≤ 2) (hP : ∀ h, Same [110] h0 h → EN h o → P none h) : ∀ (g r : Nat) (h : XH) (f : Nat → Int32), r + g = 181 → 1 ≤ r → h.2 110 = .inl (0, 181, .inl f) → (∀ j, 1 ≤ j → j < r → f j = nI (wyN o 1 j)) → Same [110] h0 h → AX w M_X12_layEnds 0 0 2 [.ref 87, .int (nI r)] [] h P
  | 0, r, h, f, hg, h1, e110, hf, hS => by
    have e : r = 181 := by omega
    subst e
    refine AX.iload_n (pc := 2) dX12_layEnds_2 rfl ?_
    refine AX.sipush (pc := 3) (v := nI 180) dX12_layEnds_3 (by decide) ?_
    refine AX.icmp_gtN (pc := 6) (tgt := 36) dX12_layEnds_6 (by decide) (by decide) (by decide) (fun hc6 => ?_) (fun q => absurd q (by decide))
    refine AX.vret (pc := 36) dX12_layEnds_36 rfl (by decide) (by decide) ?_
    exact hP h hS ⟨f, e110, fun j j1 j2 => hf j j1 (by omega)⟩
  | g + 1, r, h, f, hg, h1, e110, hf, hS => by
    have hn := hS.le hn0
    have hO := hO0.same hS (by simp)
    have hN := hN0.same hS (by simp)
    refine AX.iload_n (pc := 2) dX12_layEnds_2 rfl ?_
    refine AX.sipush (pc := 3) (v := nI 180) dX12_layEnds_3 (by decide) ?_
    refine AX.icmp_gtN (pc := 6) (tgt := 36) dX12_layEnds_6 (by decide) (by omega) (by decide) (fun q => absurd q (by omega)) (fun hc6 => ?_)
    refine AX.aload_n (pc := 9) dX12_layEnds_9 rfl ?_
    refine AX.getf (pc := 10) fX12_layEnds_78 (lt_k hn (by omega)) hO rfl dX12_layEnds_10 ?_
    refine AX.iload_n (pc := 13) dX12_layEnds_13 rfl ?_
    refine AX.iload_n (pc := 14) dX12_layEnds_14 rfl ?_
    refine AX.bipush (pc := 15) (v := nI 60) dX12_layEnds_15 (by decide) ?_
    refine AX.icmp_gtN (pc := 17) (tgt := 28) dX12_layEnds_17 (by decide) (by omega) (by decide) (fun hc17 => ?_) (fun hc17 => ?_)
    · refine AX.iconst (pc := 28) (v := nI 0) dX12_layEnds_28 (by decide) ?_
      refine AX.iastN (pc := 29) (i := r) (g := upd f r (nI 0)) (lt_k hn (by omega)) e110 (by decide) (by omega) rfl dX12_layEnds_29 ?_
      refine AX.iincN (c := r + 1) (pc := 30) (L' := [.ref 87, .int (nI (r + 1))]) dX12_layEnds_30 rfl (inc1 _) (by decide) rfl ?_
      refine AX.goto (pc := 33) (tgt := 2) dX12_layEnds_33 (by decide) ?_
      have hv : nI 0 = nI (wyN o 1 r) := by rw [wyN_1hi (by omega)]
      exact l_layEnds w P h0 hn0 hO0 hN0 ho12 ho hP g (r + 1) (xset h 110 (.inl (0, 181, .inl (upd f r (nI 0))))) _ (by omega) (by omega) (xset_same _ _ _) (fun j j1 j2 => by by_cases z : j = r; subst z; exact (upd_at _ _ _).trans hv; rw [upd_off z]; exact hf j j1 (by omega)) (hS.trans Same.rest)
    · refine AX.aload_n (pc := 20) dX12_layEnds_20 rfl ?_
      refine AX.iload_n (pc := 21) dX12_layEnds_21 rfl ?_
      refine AX.callV (pc := 22) (M2 := M_X12_endsOf) (As := [.int (nI r)]) (rest := [.int (nI r), .ref 110]) (c_endsOf w h hn hO hN ho12 ho (r := r) (by omega)) xc_X12_layEnds__X12_endsOf gX12_layEnds_X12_endsOf (ci := 11) rfl (lt_k hn (by omega)) hO rfl (Nat.le_of_ble_eq_true rfl) dX12_layEnds_22 ?_
      rintro _ h9 ⟨rfl, e9⟩
      have e9 := e9.symm
      subst e9
      show AX w M_X12_layEnds 0 0 25 [.ref 87, .int (nI r)] [.int (nI (wyN o 1 r)), .int (nI r), .ref 110] _ _
      refine AX.goto (pc := 25) (tgt := 29) dX12_layEnds_25 (by decide) ?_
      refine AX.iastN (pc := 29) (i := r) (g := upd f r (nI (wyN o 1 r))) (lt_k hn (by omega)) e110 (by decide) (by omega) rfl dX12_layEnds_29 ?_
      refine AX.iincN (c := r + 1) (pc := 30) (L' := [.ref 87, .int (nI (r + 1))]) dX12_layEnds_30 rfl (inc1 _) (by decide) rfl ?_
      refine AX.goto (pc := 33) (tgt := 2) dX12_layEnds_33 (by decide) ?_
      have hv : nI (wyN o 1 r) = nI (wyN o 1 r) := rfl
      exact l_layEnds w P h0 hn0 hO0 hN0 ho12 ho hP g (r + 1) (xset h 110 (.inl (0, 181, .inl (upd f r (nI (wyN o 1 r)))))) _ (by omega) (by omega) (xset_same _ _ _) (fun j j1 j2 => by by_cases z : j = r; subst z; exact (upd_at _ _ _).trans hv; rw [upd_off z]; exact hf j j1 (by omega)) (hS.trans Same.rest)
theorem c_layEnds (w : XW) (h : XH) {v q : Nat → Int32} {o : Nat} {f : Nat → Int32} (hn : 118 ≤ h.1) (hO : MO h v) (hN : iA h 89 19 q) (ho12 : q 12 = nI o) (ho : o ≤ 2) (e110 : h.2 110 = .inl (0, 181, .inl f)) : CA w M_X12_layEnds [.ref 87] h (fun v' h' => v' = none ∧ Same [110] h h' ∧ EN h' o) := by
  refine CA.of (by decide) rfl (fun _ => Nat.le_of_ble_eq_true rfl) ?_
  show AX w M_X12_layEnds 0 0 0 [.ref 87, .null] [] h _
  refine AX.iconst (pc := 0) (v := nI 1) dX12_layEnds_0 (by decide) ?_
  refine AX.istore_n (pc := 1) (L' := [.ref 87, .int (nI 1)]) dX12_layEnds_1 (by decide) rfl ?_
  exact l_layEnds w _ h hn hO hN ho12 ho (fun h2 t2 n2 => ⟨rfl, t2, n2⟩) 180 1 h f rfl (Nat.le_refl _) e110 (fun j j1 j2 => by omega) Same.rf
theorem c_endsAt (w : XW) (h : XH) {v : Nat → Int32} {o : Nat} {t : Option Nat} (hn : 118 ≤ h.1) (hO : MO h v) (he : EN h o) (ht : ∀ d, t = some d → d ≤ 180) : CE w M_X12_endsAt [.ref 87, .int (oI t)] h (some (.int (nI (wyO o 1 t)))) h := by
  refine CA.of (by decide) rfl (fun _ => Nat.le_of_ble_eq_true rfl) ?_
  obtain ⟨f, e110, hf⟩ := he
  cases t with
  | none =>
    show AX w M_X12_endsAt 0 0 0 [.ref 87, .int (-5)] [] h _
    refine AX.iload_n (pc := 0) dX12_endsAt_0 rfl ?_
    refine AX.iconst (pc := 1) (v := nI 1) dX12_endsAt_1 (by decide) ?_
    refine AX.icmp_ge (pc := 2) (tgt := 9) dX12_endsAt_2 (by decide) (fun q => absurd q (by decide)) (fun hc2 => ?_)
    refine AX.iconst (pc := 5) (v := nI 0) dX12_endsAt_5 (by decide) ?_
    refine AX.goto (pc := 6) (tgt := 15) dX12_endsAt_6 (by decide) ?_
    refine AX.iret (pc := 15) dX12_endsAt_15 rfl rfl (by decide) (by decide) ?_
    exact ⟨rfl, rfl⟩
  | some d =>
    have hd := ht d rfl
    show AX w M_X12_endsAt 0 0 0 [.ref 87, .int (nI d)] [] h _
    by_cases hd0 : d = 0
    · subst hd0
      refine AX.iload_n (pc := 0) dX12_endsAt_0 rfl ?_
      refine AX.iconst (pc := 1) (v := nI 1) dX12_endsAt_1 (by decide) ?_
      refine AX.icmp_geN (pc := 2) (tgt := 9) dX12_endsAt_2 (by decide) (by decide) (by decide) (fun q => absurd q (by decide)) (fun hc2 => ?_)
      refine AX.iconst (pc := 5) (v := nI 0) dX12_endsAt_5 (by decide) ?_
      refine AX.goto (pc := 6) (tgt := 15) dX12_endsAt_6 (by decide) ?_
      refine AX.iret (pc := 15) dX12_endsAt_15 rfl rfl (by decide) (by decide) ?_
      exact ⟨by rw [show wyO o 1 (some 0) = 0 from wyN_00 o 0], rfl⟩
    · refine AX.iload_n (pc := 0) dX12_endsAt_0 rfl ?_
      refine AX.iconst (pc := 1) (v := nI 1) dX12_endsAt_1 (by decide) ?_
      refine AX.icmp_geN (pc := 2) (tgt := 9) dX12_endsAt_2 (by decide) (by omega) (by decide) (fun hc2 => ?_) (fun q => absurd q (by omega))
      refine AX.aload_n (pc := 9) dX12_endsAt_9 rfl ?_
      refine AX.getf (pc := 10) fX12_endsAt_78 (lt_k hn (by omega)) hO rfl dX12_endsAt_10 ?_
      refine AX.iload_n (pc := 13) dX12_endsAt_13 rfl ?_
      refine AX.ialdN (pc := 14) (i := d) (v := (nI (wyN o 1 d))) (lt_k hn (by omega)) e110 (by decide) (by omega) (hf d (by omega) hd) dX12_endsAt_14 ?_
      refine AX.iret (pc := 15) dX12_endsAt_15 rfl rfl (by decide) (by decide) ?_
      exact ⟨rfl, rfl⟩
theorem l_byTwo (w : XW) (h : XH) {v q : Nat → Int32} {o : Nat} (hn : 118 ≤ h.1) (hO : MO h v) (hN : iA h 89 19 q) (ho12 : q 12 = nI o) (ho : o ≤ 2) (he : EN h o) {r : Nat} (h1 : 1 ≤ r) (hr : r ≤ 180) (P : Option Value → XH → Prop) (hP : P (some (.int (nI (smN (wyT o 1 r) 62)))) h) : ∀ (g k : Nat), k + g = 62 → AX w M_X12_waysByTwo 0 0 4 [.ref 87, .int (nI r), .int (nI (smN (wyT o 1 r) k)), .int (nI (k + 1))] [] h P
  | 0, k, hg => by
    have e : k = 62 := by omega
    subst e
    refine AX.iload_n (pc := 4) dX12_waysByTwo_4 rfl ?_
    refine AX.bipush (pc := 5) (v := nI 62) dX12_waysByTwo_5 (by decide) ?_
    refine AX.icmp_gtN (pc := 7) (tgt := 34) dX12_waysByTwo_7 (by decide) (by decide) (by decide) (fun hc7 => ?_) (fun q => absurd q (by decide))
    refine AX.iload_n (pc := 34) dX12_waysByTwo_34 rfl ?_
    refine AX.iret (pc := 35) dX12_waysByTwo_35 rfl rfl (by decide) (by decide) ?_
    exact hP
  | g + 1, k, hg => by
    have hz : smN (wyT o 1 r) (k + 1) = smN (wyT o 1 r) k + (wyT o 1 r) (k + 1) := rfl
    have ih := l_byTwo w h hn hO hN ho12 ho he h1 hr P hP g (k + 1) (by omega)
    refine AX.iload_n (pc := 4) dX12_waysByTwo_4 rfl ?_
    refine AX.bipush (pc := 5) (v := nI 62) dX12_waysByTwo_5 (by decide) ?_
    refine AX.icmp_gtN (pc := 7) (tgt := 34) dX12_waysByTwo_7 (by decide) (by omega) (by decide) (fun q => absurd q (by omega)) (fun hc7 => ?_)
    refine AX.iload_n (pc := 10) dX12_waysByTwo_10 rfl ?_
    refine AX.iconst (pc := 11) (v := nI 1) dX12_waysByTwo_11 (by decide) ?_
    refine AX.icmp_ltN (pc := 12) (tgt := 34) dX12_waysByTwo_12 (by decide) (by omega) (by decide) (fun q => absurd q (by omega)) (fun hc12 => ?_)
    refine AX.iload_n (pc := 15) dX12_waysByTwo_15 rfl ?_
    refine AX.aload_n (pc := 16) dX12_waysByTwo_16 rfl ?_
    refine AX.aload_n (pc := 17) dX12_waysByTwo_17 rfl ?_
    refine AX.iload_n (pc := 18) dX12_waysByTwo_18 rfl ?_
    refine AX.iload_n (pc := 19) dX12_waysByTwo_19 rfl ?_
    refine AX.callV (pc := 20) (M2 := M_X12_nextRest) (As := [.int (nI r), .int (nI (k + 1))]) (rest := [.ref 87, .int (nI (smN (wyT o 1 r) k))]) (c_nextRest w h hn hO hN ho12 ho r (k + 1) (by omega) (by omega)) xc_X12_waysByTwo__X12_nextRest gX12_waysByTwo_X12_nextRest (ci := 11) rfl (lt_k hn (by omega)) hO rfl (Nat.le_of_ble_eq_true rfl) dX12_waysByTwo_20 ?_
    rintro _ h9 ⟨rfl, e9⟩
    have e9 := e9.symm
    subst e9
    show AX w M_X12_waysByTwo 0 0 23 [.ref 87, .int (nI r), .int (nI (smN (wyT o 1 r) k)), .int (nI (k + 1))] [.int (oI (nxN o r (k + 1))), .ref 87, .int (nI (smN (wyT o 1 r) k))] _ _
    refine AX.callV (pc := 23) (M2 := M_X12_endsAt) (As := [.int (oI (nxN o r (k + 1)))]) (rest := [.int (nI (smN (wyT o 1 r) k))]) (c_endsAt w h hn hO he (nx_top (s := k + 1) hr)) xc_X12_waysByTwo__X12_endsAt gX12_waysByTwo_X12_endsAt (ci := 11) rfl (lt_k hn (by omega)) hO rfl (Nat.le_of_ble_eq_true rfl) dX12_waysByTwo_23 ?_
    rintro _ h9 ⟨rfl, e9⟩
    have e9 := e9.symm
    subst e9
    rw [wyT_O]
    show AX w M_X12_waysByTwo 0 0 26 [.ref 87, .int (nI r), .int (nI (smN (wyT o 1 r) k)), .int (nI (k + 1))] [.int (nI (wyT o 1 r (k + 1))), .int (nI (smN (wyT o 1 r) k))] _ _
    refine AX.iaddN (pc := 26) (c := smN (wyT o 1 r) k + (wyT o 1 r (k + 1))) dX12_waysByTwo_26 rfl ?_
    refine AX.istore_n (pc := 27) (L' := [.ref 87, .int (nI r), .int (nI (smN (wyT o 1 r) k + (wyT o 1 r (k + 1)))), .int (nI (k + 1))]) dX12_waysByTwo_27 (by decide) rfl ?_
    refine AX.iincN (c := k + 2) (pc := 28) (L' := [.ref 87, .int (nI r), .int (nI (smN (wyT o 1 r) k + (wyT o 1 r (k + 1)))), .int (nI (k + 2))]) dX12_waysByTwo_28 rfl (inc1 _) (by decide) rfl ?_
    refine AX.goto (pc := 31) (tgt := 4) dX12_waysByTwo_31 (by decide) ?_
    exact ih
theorem c_byTwo (w : XW) (h : XH) {v q : Nat → Int32} {o : Nat} {t : Option Nat} (hn : 118 ≤ h.1) (hO : MO h v) (hN : iA h 89 19 q) (ho12 : q 12 = nI o) (ho : o ≤ 2) (he : EN h o) (ht : ∀ d, t = some d → d ≤ 180) : CE w M_X12_waysByTwo [.ref 87, .int (oI t)] h (some (.int (nI (wyO o 2 t)))) h := by
  refine CA.of (by decide) rfl (fun _ => Nat.le_of_ble_eq_true rfl) ?_
  cases t with
  | none =>
    show AX w M_X12_waysByTwo 0 0 0 [.ref 87, .int (-5), .null, .null] [] h _
    refine AX.iconst (pc := 0) (v := nI 0) dX12_waysByTwo_0 (by decide) ?_
    refine AX.istore_n (pc := 1) (L' := [.ref 87, .int (-5), .int (nI 0), .null]) dX12_waysByTwo_1 (by decide) rfl ?_
    refine AX.iconst (pc := 2) (v := nI 1) dX12_waysByTwo_2 (by decide) ?_
    refine AX.istore_n (pc := 3) (L' := [.ref 87, .int (-5), .int (nI 0), .int (nI 1)]) dX12_waysByTwo_3 (by decide) rfl ?_
    refine AX.iload_n (pc := 4) dX12_waysByTwo_4 rfl ?_
    refine AX.bipush (pc := 5) (v := nI 62) dX12_waysByTwo_5 (by decide) ?_
    refine AX.icmp_gtN (pc := 7) (tgt := 34) dX12_waysByTwo_7 (by decide) (by decide) (by decide) (fun q => absurd q (by decide)) (fun hc7 => ?_)
    refine AX.iload_n (pc := 10) dX12_waysByTwo_10 rfl ?_
    refine AX.iconst (pc := 11) (v := nI 1) dX12_waysByTwo_11 (by decide) ?_
    refine AX.icmp_lt (pc := 12) (tgt := 34) dX12_waysByTwo_12 (by decide) (fun hc12 => ?_) (fun q => absurd (by decide) q)
    refine AX.iload_n (pc := 34) dX12_waysByTwo_34 rfl ?_
    refine AX.iret (pc := 35) dX12_waysByTwo_35 rfl rfl (by decide) (by decide) ?_
    exact ⟨rfl, rfl⟩
  | some d =>
    have hd := ht d rfl
    show AX w M_X12_waysByTwo 0 0 0 [.ref 87, .int (nI d), .null, .null] [] h _
    by_cases hd0 : d = 0
    · subst hd0
      refine AX.iconst (pc := 0) (v := nI 0) dX12_waysByTwo_0 (by decide) ?_
      refine AX.istore_n (pc := 1) (L' := [.ref 87, .int (nI 0), .int (nI 0), .null]) dX12_waysByTwo_1 (by decide) rfl ?_
      refine AX.iconst (pc := 2) (v := nI 1) dX12_waysByTwo_2 (by decide) ?_
      refine AX.istore_n (pc := 3) (L' := [.ref 87, .int (nI 0), .int (nI 0), .int (nI 1)]) dX12_waysByTwo_3 (by decide) rfl ?_
      refine AX.iload_n (pc := 4) dX12_waysByTwo_4 rfl ?_
      refine AX.bipush (pc := 5) (v := nI 62) dX12_waysByTwo_5 (by decide) ?_
      refine AX.icmp_gtN (pc := 7) (tgt := 34) dX12_waysByTwo_7 (by decide) (by decide) (by decide) (fun q => absurd q (by decide)) (fun hc7 => ?_)
      refine AX.iload_n (pc := 10) dX12_waysByTwo_10 rfl ?_
      refine AX.iconst (pc := 11) (v := nI 1) dX12_waysByTwo_11 (by decide) ?_
      refine AX.icmp_ltN (pc := 12) (tgt := 34) dX12_waysByTwo_12 (by decide) (by decide) (by decide) (fun hc12 => ?_) (fun q => absurd q (by decide))
      refine AX.iload_n (pc := 34) dX12_waysByTwo_34 rfl ?_
      refine AX.iret (pc := 35) dX12_waysByTwo_35 rfl rfl (by decide) (by decide) ?_
      exact ⟨by rw [show wyO o 2 (some 0) = 0 from wyN_00 o 1], rfl⟩
    · refine AX.iconst (pc := 0) (v := nI 0) dX12_waysByTwo_0 (by decide) ?_
      refine AX.istore_n (pc := 1) (L' := [.ref 87, .int (nI d), .int (nI 0), .null]) dX12_waysByTwo_1 (by decide) rfl ?_
      refine AX.iconst (pc := 2) (v := nI 1) dX12_waysByTwo_2 (by decide) ?_
      refine AX.istore_n (pc := 3) (L' := [.ref 87, .int (nI d), .int (nI 0), .int (nI 1)]) dX12_waysByTwo_3 (by decide) rfl ?_
      exact l_byTwo w h hn hO hN ho12 ho he (by omega) hd _ ⟨rfl, rfl⟩ 62 0 rfl
theorem l_byThree (w : XW) (h : XH) {v q : Nat → Int32} {o : Nat} (hn : 118 ≤ h.1) (hO : MO h v) (hN : iA h 89 19 q) (ho12 : q 12 = nI o) (ho : o ≤ 2) (he : EN h o) {r : Nat} (hr : r ≤ 180) (P : Option Value → XH → Prop) (hP : P (some (.int (nI (smN (wyT o 2 r) 62)))) h) : ∀ (g k : Nat), k + g = 62 → AX w M_X12_waysByThree 0 0 4 [.ref 87, .int (nI r), .int (nI (smN (wyT o 2 r) k)), .int (nI (k + 1))] [] h P
  | 0, k, hg => by
    have e : k = 62 := by omega
    subst e
    refine AX.iload_n (pc := 4) dX12_waysByThree_4 rfl ?_
    refine AX.bipush (pc := 5) (v := nI 62) dX12_waysByThree_5 (by decide) ?_
    refine AX.icmp_gtN (pc := 7) (tgt := 29) dX12_waysByThree_7 (by decide) (by decide) (by decide) (fun hc7 => ?_) (fun q => absurd q (by decide))
    refine AX.iload_n (pc := 29) dX12_waysByThree_29 rfl ?_
    refine AX.iret (pc := 30) dX12_waysByThree_30 rfl rfl (by decide) (by decide) ?_
    exact hP
  | g + 1, k, hg => by
    have hz : smN (wyT o 2 r) (k + 1) = smN (wyT o 2 r) k + (wyT o 2 r) (k + 1) := rfl
    have ih := l_byThree w h hn hO hN ho12 ho he hr P hP g (k + 1) (by omega)
    refine AX.iload_n (pc := 4) dX12_waysByThree_4 rfl ?_
    refine AX.bipush (pc := 5) (v := nI 62) dX12_waysByThree_5 (by decide) ?_
    refine AX.icmp_gtN (pc := 7) (tgt := 29) dX12_waysByThree_7 (by decide) (by omega) (by decide) (fun q => absurd q (by omega)) (fun hc7 => ?_)
    refine AX.iload_n (pc := 10) dX12_waysByThree_10 rfl ?_
    refine AX.aload_n (pc := 11) dX12_waysByThree_11 rfl ?_
    refine AX.aload_n (pc := 12) dX12_waysByThree_12 rfl ?_
    refine AX.iload_n (pc := 13) dX12_waysByThree_13 rfl ?_
    refine AX.iload_n (pc := 14) dX12_waysByThree_14 rfl ?_
    refine AX.callV (pc := 15) (M2 := M_X12_nextRest) (As := [.int (nI r), .int (nI (k + 1))]) (rest := [.ref 87, .int (nI (smN (wyT o 2 r) k))]) (c_nextRest w h hn hO hN ho12 ho r (k + 1) (by omega) (by omega)) xc_X12_waysByThree__X12_nextRest gX12_waysByThree_X12_nextRest (ci := 11) rfl (lt_k hn (by omega)) hO rfl (Nat.le_of_ble_eq_true rfl) dX12_waysByThree_15 ?_
    rintro _ h9 ⟨rfl, e9⟩
    have e9 := e9.symm
    subst e9
    show AX w M_X12_waysByThree 0 0 18 [.ref 87, .int (nI r), .int (nI (smN (wyT o 2 r) k)), .int (nI (k + 1))] [.int (oI (nxN o r (k + 1))), .ref 87, .int (nI (smN (wyT o 2 r) k))] _ _
    refine AX.callV (pc := 18) (M2 := M_X12_waysByTwo) (As := [.int (oI (nxN o r (k + 1)))]) (rest := [.int (nI (smN (wyT o 2 r) k))]) (c_byTwo w h hn hO hN ho12 ho he (nx_top (s := k + 1) hr)) xc_X12_waysByThree__X12_waysByTwo gX12_waysByThree_X12_waysByTwo (ci := 11) rfl (lt_k hn (by omega)) hO rfl (Nat.le_of_ble_eq_true rfl) dX12_waysByThree_18 ?_
    rintro _ h9 ⟨rfl, e9⟩
    have e9 := e9.symm
    subst e9
    rw [wyT_O]
    show AX w M_X12_waysByThree 0 0 21 [.ref 87, .int (nI r), .int (nI (smN (wyT o 2 r) k)), .int (nI (k + 1))] [.int (nI (wyT o 2 r (k + 1))), .int (nI (smN (wyT o 2 r) k))] _ _
    refine AX.iaddN (pc := 21) (c := smN (wyT o 2 r) k + (wyT o 2 r (k + 1))) dX12_waysByThree_21 rfl ?_
    refine AX.istore_n (pc := 22) (L' := [.ref 87, .int (nI r), .int (nI (smN (wyT o 2 r) k + (wyT o 2 r (k + 1)))), .int (nI (k + 1))]) dX12_waysByThree_22 (by decide) rfl ?_
    refine AX.iincN (c := k + 2) (pc := 23) (L' := [.ref 87, .int (nI r), .int (nI (smN (wyT o 2 r) k + (wyT o 2 r (k + 1)))), .int (nI (k + 2))]) dX12_waysByThree_23 rfl (inc1 _) (by decide) rfl ?_
    refine AX.goto (pc := 26) (tgt := 4) dX12_waysByThree_26 (by decide) ?_
    exact ih
theorem c_byThree (w : XW) (h : XH) {v q : Nat → Int32} {o : Nat} (hn : 118 ≤ h.1) (hO : MO h v) (hN : iA h 89 19 q) (ho12 : q 12 = nI o) (ho : o ≤ 2) (he : EN h o) {r : Nat} (hr : r ≤ 180) : CA w M_X12_waysByThree [.ref 87, .int (nI r)] h (fun v' h'' => v' = some (.int (nI (wyN o 3 r))) ∧ h'' = h) := by
  refine CA.of (by decide) rfl (fun _ => Nat.le_of_ble_eq_true rfl) ?_
  show AX w M_X12_waysByThree 0 0 0 [.ref 87, .int (nI r), .null, .null] [] h _
  refine AX.iconst (pc := 0) (v := nI 0) dX12_waysByThree_0 (by decide) ?_
  refine AX.istore_n (pc := 1) (L' := [.ref 87, .int (nI r), .int (nI 0), .null]) dX12_waysByThree_1 (by decide) rfl ?_
  refine AX.iconst (pc := 2) (v := nI 1) dX12_waysByThree_2 (by decide) ?_
  refine AX.istore_n (pc := 3) (L' := [.ref 87, .int (nI r), .int (nI 0), .int (nI 1)]) dX12_waysByThree_3 (by decide) rfl ?_
  exact l_byThree w h hn hO hN ho12 ho he hr _ ⟨rfl, rfl⟩ 62 0 rfl
theorem c_waysBy1 (w : XW) (h : XH) {v q : Nat → Int32} {o : Nat} {t : Option Nat} (hn : 118 ≤ h.1) (hO : MO h v) (hN : iA h 89 19 q) (ho12 : q 12 = nI o) (ho : o ≤ 2) (he : EN h o) (ht : ∀ d, t = some d → d ≤ 180) : CA w M_X12_waysBy [.ref 87, .int (oI t), .int (nI 1)] h (fun v' h'' => v' = some (.int (nI (wyO o 1 t))) ∧ h'' = h) := by
  refine CA.of (by decide) rfl (fun _ => Nat.le_of_ble_eq_true rfl) ?_
  show AX w M_X12_waysBy 0 0 0 [.ref 87, .int (oI t), .int (nI 1)] [] h _
  refine AX.iload_n (pc := 0) dX12_waysBy_0 rfl ?_
  refine AX.iconst (pc := 1) (v := nI 1) dX12_waysBy_1 (by decide) ?_
  refine AX.icmp_neN (pc := 2) (tgt := 13) dX12_waysBy_2 (by decide) (by decide) (by decide) (fun q => absurd q (by decide)) (fun hc2 => ?_)
  refine AX.aload_n (pc := 5) dX12_waysBy_5 rfl ?_
  refine AX.iload_n (pc := 6) dX12_waysBy_6 rfl ?_
  refine AX.callV (pc := 7) (M2 := M_X12_endsAt) (As := [.int (oI t)]) (rest := []) (c_endsAt w h hn hO he ht) xc_X12_waysBy__X12_endsAt gX12_waysBy_X12_endsAt (ci := 11) rfl (lt_k hn (by omega)) hO rfl (Nat.le_of_ble_eq_true rfl) dX12_waysBy_7 ?_
  rintro _ h9 ⟨rfl, e9⟩
  have e9 := e9.symm
  subst e9
  show AX w M_X12_waysBy 0 0 10 [.ref 87, .int (oI t), .int (nI 1)] [.int (nI (wyO o 1 t))] _ _
  refine AX.goto (pc := 10) (tgt := 31) dX12_waysBy_10 (by decide) ?_
  refine AX.iret (pc := 31) dX12_waysBy_31 rfl rfl (by decide) (by decide) ?_
  exact ⟨rfl, rfl⟩
theorem c_waysBy2 (w : XW) (h : XH) {v q : Nat → Int32} {o : Nat} {t : Option Nat} (hn : 118 ≤ h.1) (hO : MO h v) (hN : iA h 89 19 q) (ho12 : q 12 = nI o) (ho : o ≤ 2) (he : EN h o) (ht : ∀ d, t = some d → d ≤ 180) : CA w M_X12_waysBy [.ref 87, .int (oI t), .int (nI 2)] h (fun v' h'' => v' = some (.int (nI (wyO o 2 t))) ∧ h'' = h) := by
  refine CA.of (by decide) rfl (fun _ => Nat.le_of_ble_eq_true rfl) ?_
  show AX w M_X12_waysBy 0 0 0 [.ref 87, .int (oI t), .int (nI 2)] [] h _
  refine AX.iload_n (pc := 0) dX12_waysBy_0 rfl ?_
  refine AX.iconst (pc := 1) (v := nI 1) dX12_waysBy_1 (by decide) ?_
  refine AX.icmp_neN (pc := 2) (tgt := 13) dX12_waysBy_2 (by decide) (by decide) (by decide) (fun hc2 => ?_) (fun q => absurd q (by decide))
  refine AX.iload_n (pc := 13) dX12_waysBy_13 rfl ?_
  refine AX.iconst (pc := 14) (v := nI 2) dX12_waysBy_14 (by decide) ?_
  refine AX.icmp_neN (pc := 15) (tgt := 26) dX12_waysBy_15 (by decide) (by decide) (by decide) (fun q => absurd q (by decide)) (fun hc15 => ?_)
  refine AX.aload_n (pc := 18) dX12_waysBy_18 rfl ?_
  refine AX.iload_n (pc := 19) dX12_waysBy_19 rfl ?_
  refine AX.callV (pc := 20) (M2 := M_X12_waysByTwo) (As := [.int (oI t)]) (rest := []) (c_byTwo w h hn hO hN ho12 ho he ht) xc_X12_waysBy__X12_waysByTwo gX12_waysBy_X12_waysByTwo (ci := 11) rfl (lt_k hn (by omega)) hO rfl (Nat.le_of_ble_eq_true rfl) dX12_waysBy_20 ?_
  rintro _ h9 ⟨rfl, e9⟩
  have e9 := e9.symm
  subst e9
  show AX w M_X12_waysBy 0 0 23 [.ref 87, .int (oI t), .int (nI 2)] [.int (nI (wyO o 2 t))] _ _
  refine AX.goto (pc := 23) (tgt := 31) dX12_waysBy_23 (by decide) ?_
  refine AX.iret (pc := 31) dX12_waysBy_31 rfl rfl (by decide) (by decide) ?_
  exact ⟨rfl, rfl⟩
theorem c_waysBy3 (w : XW) (h : XH) {v q : Nat → Int32} {o : Nat} (hn : 118 ≤ h.1) (hO : MO h v) (hN : iA h 89 19 q) (ho12 : q 12 = nI o) (ho : o ≤ 2) (he : EN h o) {r : Nat} (hr : r ≤ 180) : CA w M_X12_waysBy [.ref 87, .int (nI r), .int (nI 3)] h (fun v' h'' => v' = some (.int (nI (wyN o 3 r))) ∧ h'' = h) := by
  refine CA.of (by decide) rfl (fun _ => Nat.le_of_ble_eq_true rfl) ?_
  show AX w M_X12_waysBy 0 0 0 [.ref 87, .int (nI r), .int (nI 3)] [] h _
  refine AX.iload_n (pc := 0) dX12_waysBy_0 rfl ?_
  refine AX.iconst (pc := 1) (v := nI 1) dX12_waysBy_1 (by decide) ?_
  refine AX.icmp_neN (pc := 2) (tgt := 13) dX12_waysBy_2 (by decide) (by decide) (by decide) (fun hc2 => ?_) (fun q => absurd q (by decide))
  refine AX.iload_n (pc := 13) dX12_waysBy_13 rfl ?_
  refine AX.iconst (pc := 14) (v := nI 2) dX12_waysBy_14 (by decide) ?_
  refine AX.icmp_neN (pc := 15) (tgt := 26) dX12_waysBy_15 (by decide) (by decide) (by decide) (fun hc15 => ?_) (fun q => absurd q (by decide))
  refine AX.aload_n (pc := 26) dX12_waysBy_26 rfl ?_
  refine AX.iload_n (pc := 27) dX12_waysBy_27 rfl ?_
  refine AX.callV (pc := 28) (M2 := M_X12_waysByThree) (As := [.int (nI r)]) (rest := []) (c_byThree w h hn hO hN ho12 ho he hr) xc_X12_waysBy__X12_waysByThree gX12_waysBy_X12_waysByThree (ci := 11) rfl (lt_k hn (by omega)) hO rfl (Nat.le_of_ble_eq_true rfl) dX12_waysBy_28 ?_
  rintro _ h9 ⟨rfl, e9⟩
  have e9 := e9.symm
  subst e9
  show AX w M_X12_waysBy 0 0 31 [.ref 87, .int (nI r), .int (nI 3)] [.int (nI (wyN o 3 r))] _ _
  refine AX.iret (pc := 31) dX12_waysBy_31 rfl rfl (by decide) (by decide) ?_
  exact ⟨rfl, rfl⟩
theorem c_behind (w : XW) (h : XH) {v q : Nat → Int32} {o : Nat} {t : Option Nat} (hn : 118 ≤ h.1) (hO : MO h v) (hN : iA h 89 19 q) (ho12 : q 12 = nI o) (ho : o ≤ 2) (he : EN h o) (ht : ∀ d, t = some d → d ≤ 180) {k : Nat} (hk : k ≤ 2) : CE w M_X12_waysBehind [.ref 87, .int (oI t), .int (nI k)] h (some (.int (nI (wyO o k t)))) h := by
  refine CA.of (by decide) rfl (fun _ => Nat.le_of_ble_eq_true rfl) ?_
  rcases (show k = 0 ∨ k = 1 ∨ k = 2 by omega) with rfl | rfl | rfl
  · cases t with
    | none =>
      show AX w M_X12_waysBehind 0 0 0 [.ref 87, .int (-5), .int (nI 0)] [] h _
      refine AX.iload_n (pc := 0) dX12_waysBehind_0 rfl ?_
      refine AX.if_neN (pc := 1) (tgt := 16) dX12_waysBehind_1 (by decide) (by decide) (fun q => absurd q (by decide)) (fun hc1 => ?_)
      refine AX.iload_n (pc := 4) dX12_waysBehind_4 rfl ?_
      refine AX.if_ne (pc := 5) (tgt := 12) dX12_waysBehind_5 (by decide) (fun hc5 => ?_) (fun q => absurd q (by decide))
      refine AX.iconst (pc := 12) (v := nI 0) dX12_waysBehind_12 (by decide) ?_
      refine AX.goto (pc := 13) (tgt := 31) dX12_waysBehind_13 (by decide) ?_
      refine AX.iret (pc := 31) dX12_waysBehind_31 rfl rfl (by decide) (by decide) ?_
      exact ⟨rfl, rfl⟩
    | some d =>
      have hd := ht d rfl
      show AX w M_X12_waysBehind 0 0 0 [.ref 87, .int (nI d), .int (nI 0)] [] h _
      by_cases hd0 : d = 0
      · subst hd0
        refine AX.iload_n (pc := 0) dX12_waysBehind_0 rfl ?_
        refine AX.if_neN (pc := 1) (tgt := 16) dX12_waysBehind_1 (by decide) (by decide) (fun q => absurd q (by decide)) (fun hc1 => ?_)
        refine AX.iload_n (pc := 4) dX12_waysBehind_4 rfl ?_
        refine AX.if_neN (pc := 5) (tgt := 12) dX12_waysBehind_5 (by decide) (by decide) (fun q => absurd q (by decide)) (fun hc5 => ?_)
        refine AX.iconst (pc := 8) (v := nI 1) dX12_waysBehind_8 (by decide) ?_
        refine AX.goto (pc := 9) (tgt := 31) dX12_waysBehind_9 (by decide) ?_
        refine AX.iret (pc := 31) dX12_waysBehind_31 rfl rfl (by decide) (by decide) ?_
        exact ⟨rfl, rfl⟩
      · refine AX.iload_n (pc := 0) dX12_waysBehind_0 rfl ?_
        refine AX.if_neN (pc := 1) (tgt := 16) dX12_waysBehind_1 (by decide) (by decide) (fun q => absurd q (by decide)) (fun hc1 => ?_)
        refine AX.iload_n (pc := 4) dX12_waysBehind_4 rfl ?_
        refine AX.if_neN (pc := 5) (tgt := 12) dX12_waysBehind_5 (by decide) (by omega) (fun hc5 => ?_) (fun q => absurd q (by omega))
        refine AX.iconst (pc := 12) (v := nI 0) dX12_waysBehind_12 (by decide) ?_
        refine AX.goto (pc := 13) (tgt := 31) dX12_waysBehind_13 (by decide) ?_
        refine AX.iret (pc := 31) dX12_waysBehind_31 rfl rfl (by decide) (by decide) ?_
        exact ⟨by rw [show wyO o 0 (some d) = 0 from if_neg hd0], rfl⟩
  · cases t with
    | none =>
      show AX w M_X12_waysBehind 0 0 0 [.ref 87, .int (-5), .int (nI 1)] [] h _
      refine AX.iload_n (pc := 0) dX12_waysBehind_0 rfl ?_
      refine AX.if_neN (pc := 1) (tgt := 16) dX12_waysBehind_1 (by decide) (by decide) (fun hc1 => ?_) (fun q => absurd q (by decide))
      refine AX.iload_n (pc := 16) dX12_waysBehind_16 rfl ?_
      refine AX.iconst (pc := 17) (v := nI 1) dX12_waysBehind_17 (by decide) ?_
      refine AX.icmp_ge (pc := 18) (tgt := 25) dX12_waysBehind_18 (by decide) (fun q => absurd q (by decide)) (fun hc18 => ?_)
      refine AX.iconst (pc := 21) (v := nI 0) dX12_waysBehind_21 (by decide) ?_
      refine AX.goto (pc := 22) (tgt := 31) dX12_waysBehind_22 (by decide) ?_
      refine AX.iret (pc := 31) dX12_waysBehind_31 rfl rfl (by decide) (by decide) ?_
      exact ⟨rfl, rfl⟩
    | some d =>
      have hd := ht d rfl
      show AX w M_X12_waysBehind 0 0 0 [.ref 87, .int (nI d), .int (nI 1)] [] h _
      by_cases hd0 : d = 0
      · subst hd0
        refine AX.iload_n (pc := 0) dX12_waysBehind_0 rfl ?_
        refine AX.if_neN (pc := 1) (tgt := 16) dX12_waysBehind_1 (by decide) (by decide) (fun hc1 => ?_) (fun q => absurd q (by decide))
        refine AX.iload_n (pc := 16) dX12_waysBehind_16 rfl ?_
        refine AX.iconst (pc := 17) (v := nI 1) dX12_waysBehind_17 (by decide) ?_
        refine AX.icmp_geN (pc := 18) (tgt := 25) dX12_waysBehind_18 (by decide) (by decide) (by decide) (fun q => absurd q (by decide)) (fun hc18 => ?_)
        refine AX.iconst (pc := 21) (v := nI 0) dX12_waysBehind_21 (by decide) ?_
        refine AX.goto (pc := 22) (tgt := 31) dX12_waysBehind_22 (by decide) ?_
        refine AX.iret (pc := 31) dX12_waysBehind_31 rfl rfl (by decide) (by decide) ?_
        exact ⟨by rw [show wyO o 1 (some 0) = 0 from wyN_00 o 0], rfl⟩
      · refine AX.iload_n (pc := 0) dX12_waysBehind_0 rfl ?_
        refine AX.if_neN (pc := 1) (tgt := 16) dX12_waysBehind_1 (by decide) (by decide) (fun hc1 => ?_) (fun q => absurd q (by decide))
        refine AX.iload_n (pc := 16) dX12_waysBehind_16 rfl ?_
        refine AX.iconst (pc := 17) (v := nI 1) dX12_waysBehind_17 (by decide) ?_
        refine AX.icmp_geN (pc := 18) (tgt := 25) dX12_waysBehind_18 (by decide) (by omega) (by decide) (fun hc18 => ?_) (fun q => absurd q (by omega))
        refine AX.aload_n (pc := 25) dX12_waysBehind_25 rfl ?_
        refine AX.iload_n (pc := 26) dX12_waysBehind_26 rfl ?_
        refine AX.iload_n (pc := 27) dX12_waysBehind_27 rfl ?_
        refine AX.callV (pc := 28) (M2 := M_X12_waysBy) (As := [.int (nI d), .int (nI 1)]) (rest := []) (c_waysBy1 w h (t := some d) hn hO hN ho12 ho he (fun d e => ht d e)) xc_X12_waysBehind__X12_waysBy gX12_waysBehind_X12_waysBy (ci := 11) rfl (lt_k hn (by omega)) hO rfl (Nat.le_of_ble_eq_true rfl) dX12_waysBehind_28 ?_
        rintro _ h9 ⟨rfl, e9⟩
        have e9 := e9.symm
        subst e9
        show AX w M_X12_waysBehind 0 0 31 [.ref 87, .int (nI d), .int (nI 1)] [.int (nI (wyN o 1 d))] _ _
        refine AX.iret (pc := 31) dX12_waysBehind_31 rfl rfl (by decide) (by decide) ?_
        exact ⟨rfl, rfl⟩
  · cases t with
    | none =>
      show AX w M_X12_waysBehind 0 0 0 [.ref 87, .int (-5), .int (nI 2)] [] h _
      refine AX.iload_n (pc := 0) dX12_waysBehind_0 rfl ?_
      refine AX.if_neN (pc := 1) (tgt := 16) dX12_waysBehind_1 (by decide) (by decide) (fun hc1 => ?_) (fun q => absurd q (by decide))
      refine AX.iload_n (pc := 16) dX12_waysBehind_16 rfl ?_
      refine AX.iconst (pc := 17) (v := nI 1) dX12_waysBehind_17 (by decide) ?_
      refine AX.icmp_ge (pc := 18) (tgt := 25) dX12_waysBehind_18 (by decide) (fun q => absurd q (by decide)) (fun hc18 => ?_)
      refine AX.iconst (pc := 21) (v := nI 0) dX12_waysBehind_21 (by decide) ?_
      refine AX.goto (pc := 22) (tgt := 31) dX12_waysBehind_22 (by decide) ?_
      refine AX.iret (pc := 31) dX12_waysBehind_31 rfl rfl (by decide) (by decide) ?_
      exact ⟨rfl, rfl⟩
    | some d =>
      have hd := ht d rfl
      show AX w M_X12_waysBehind 0 0 0 [.ref 87, .int (nI d), .int (nI 2)] [] h _
      by_cases hd0 : d = 0
      · subst hd0
        refine AX.iload_n (pc := 0) dX12_waysBehind_0 rfl ?_
        refine AX.if_neN (pc := 1) (tgt := 16) dX12_waysBehind_1 (by decide) (by decide) (fun hc1 => ?_) (fun q => absurd q (by decide))
        refine AX.iload_n (pc := 16) dX12_waysBehind_16 rfl ?_
        refine AX.iconst (pc := 17) (v := nI 1) dX12_waysBehind_17 (by decide) ?_
        refine AX.icmp_geN (pc := 18) (tgt := 25) dX12_waysBehind_18 (by decide) (by decide) (by decide) (fun q => absurd q (by decide)) (fun hc18 => ?_)
        refine AX.iconst (pc := 21) (v := nI 0) dX12_waysBehind_21 (by decide) ?_
        refine AX.goto (pc := 22) (tgt := 31) dX12_waysBehind_22 (by decide) ?_
        refine AX.iret (pc := 31) dX12_waysBehind_31 rfl rfl (by decide) (by decide) ?_
        exact ⟨by rw [show wyO o 2 (some 0) = 0 from wyN_00 o 1], rfl⟩
      · refine AX.iload_n (pc := 0) dX12_waysBehind_0 rfl ?_
        refine AX.if_neN (pc := 1) (tgt := 16) dX12_waysBehind_1 (by decide) (by decide) (fun hc1 => ?_) (fun q => absurd q (by decide))
        refine AX.iload_n (pc := 16) dX12_waysBehind_16 rfl ?_
        refine AX.iconst (pc := 17) (v := nI 1) dX12_waysBehind_17 (by decide) ?_
        refine AX.icmp_geN (pc := 18) (tgt := 25) dX12_waysBehind_18 (by decide) (by omega) (by decide) (fun hc18 => ?_) (fun q => absurd q (by omega))
        refine AX.aload_n (pc := 25) dX12_waysBehind_25 rfl ?_
        refine AX.iload_n (pc := 26) dX12_waysBehind_26 rfl ?_
        refine AX.iload_n (pc := 27) dX12_waysBehind_27 rfl ?_
        refine AX.callV (pc := 28) (M2 := M_X12_waysBy) (As := [.int (nI d), .int (nI 2)]) (rest := []) (c_waysBy2 w h (t := some d) hn hO hN ho12 ho he (fun d e => ht d e)) xc_X12_waysBehind__X12_waysBy gX12_waysBehind_X12_waysBy (ci := 11) rfl (lt_k hn (by omega)) hO rfl (Nat.le_of_ble_eq_true rfl) dX12_waysBehind_28 ?_
        rintro _ h9 ⟨rfl, e9⟩
        have e9 := e9.symm
        subst e9
        show AX w M_X12_waysBehind 0 0 31 [.ref 87, .int (nI d), .int (nI 2)] [.int (nI (wyN o 2 d))] _ _
        refine AX.iret (pc := 31) dX12_waysBehind_31 rfl rfl (by decide) (by decide) ?_
        exact ⟨rfl, rfl⟩
