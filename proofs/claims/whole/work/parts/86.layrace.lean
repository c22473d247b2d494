/-! ===== THE REFERENCE: THE RACE laid and asked ===== -/
def nvR (q : Nat → Int32) (j : Nat) : Int32 := if j < 4 then q j else q 12
theorem nvR_lo {q : Nat → Int32} {j : Nat} (h : j < 4) : q j = nvR q j := (if_pos h).symm
theorem nvR_hi {q : Nat → Int32} {j : Nat} (h : ¬ j < 4) : q 12 = nvR q j := (if_neg h).symm
theorem PD.weak {o : Nat} {H : Nat → Nat × Nat} {D D' : Nat → Nat → Prop} {f1 f2 : Nat → UInt64} {st : Nat → Int32} (X : PD o H D f1 f2 st) (h : ∀ i j, leN o ≤ i → i ≤ 24 → leN o ≤ j → j ≤ 24 → D' i j → D i j) : PD o H D' f1 f2 st :=
  fun i j i1 i2 j1 j2 d => X i j i1 i2 j1 j2 (h i j i1 i2 j1 j2 d)
theorem MS.race {h h' : XH} {s : SS} (c : MS h s) (hs : Same [87, 91, 92, 98, 99, 100, 102, 103, 104, 105, 106, 107, 108] h h') (ob : ∃ v, MO h' v ∧ v 0 = bI (sb s) ∧ v 5 = nI (sX s).length ∧ v 6 = nI (sT s).length) (fx : FX h') (rt : RT h') (b1 : ∃ f : Nat → Int32, h'.2 106 = .inl (0, 126, .inl f)) (b2 : ∃ f : Nat → Int32, h'.2 107 = .inl (0, 630, .inl f)) (b3 : ∃ f : Nat → Int32, h'.2 108 = .inl (0, 630, .inl f)) : MS h' s := by
  have x_hn : 118 ≤ h'.1 := hs.le c.hn
  have x_rg : iA h' 88 20 (fun k => nI (rgN k)) := c.rg.same hs (by simp)
  have x_nw : iA h' 89 19 (sq s) := c.nw.same hs (by simp)
  have x_im : (∃ f : Nat → Int32, h'.2 90 = .inl (0, 19, .inl f) ∧ (sb s = true → ∀ j, j < 19 → f j = sp_ s j)) := c.im.imp (fun _ z => ⟨hs.at (by simp) z.1, z.2⟩)
  have x_dt : DT h' := c.dt.same hs (by simp) (by simp) (by simp) (by simp) (by simp)
  have x_ch : (∃ f : Nat → UInt64, h'.2 101 = .inl (2, 724, .inr (.inr (.inr (.inl f))))) := c.ch.imp (fun _ z => hs.at (by simp) z)
  have x_pa : (∃ f : Nat → Int32, h'.2 109 = .inl (0, 3, .inl f)) := c.pa.imp (fun _ z => hs.at (by simp) z)
  have x_en : (∃ f : Nat → Int32, h'.2 110 = .inl (0, 181, .inl f)) := c.en.imp (fun _ z => hs.at (by simp) z)
  have x_pp : (∃ f : Nat → Int32, h'.2 111 = .inl (0, 20, .inl f) ∧ (∀ j, j < (sX s).length → f j = nI ((sX s).getD j 0)) ∧ (sX s).length ≤ 12) := c.pp.imp (fun _ z => ⟨hs.at (by simp) z.1, z.2⟩)
  have x_tp : (∃ f : Nat → Int32, h'.2 112 = .inl (0, 60, .inl f) ∧ (∀ j, j < (sT s).length → f j = nI ((sT s).getD j 0)) ∧ (sT s).length ≤ 60) := c.tp.imp (fun _ z => ⟨hs.at (by simp) z.1, z.2⟩)
  have x_td : (∃ f : Nat → Int32, h'.2 113 = .inl (0, 20, .inl f)) := c.td.imp (fun _ z => hs.at (by simp) z)
  have x_rk : RMq h' (sk s) := c.rk.same hs (by simp) (by simp) (by simp) (by simp)
  exact ⟨x_hn, ob, x_rg, x_nw, x_im, fx, x_dt, x_ch, rt, b1, b2, b3, x_pa, x_en, x_pp, x_tp, x_td, x_rk⟩
theorem RT.of {h : XH} {s : SS} {n o : Nat} {a b : Nat × Nat} (l : LV (sq s) n o a b) {f1 f2 : Nat → UInt64} {st rf : Nat → Int32} (e1 : h.2 102 = .inl (2, 625, .inr (.inr (.inr (.inl (f1)))))) (e2 : h.2 103 = .inl (2, 625, .inr (.inr (.inr (.inl (f2)))))) (e3 : h.2 104 = .inl (1, 625, .inl st)) (e4 : h.2 105 = .inl (0, 5, .inl rf)) (hr : ∀ j, j < 5 → rf j = nvR (sq s) j) (hX : PD o (hh a b) (fun _ _ => True) f1 f2 st) : RT h := by
  refine ⟨f1, f2, st, rf, e1, e2, e3, e4, fun o' a' b' ho a1 a2 b1 b2 x0 x1 x2 x3 x4 r q r1 r2 q1 q2 => ?_⟩
  have la := l.ha; have lb := l.hb; have lo := l.ho
  have y0 := nI_inj (by omega) (by omega) ((x0.symm.trans (hr 0 (by decide))).trans l.q0)
  have y1 := nI_inj (by omega) (by omega) ((x1.symm.trans (hr 1 (by decide))).trans l.q1)
  have y2 := nI_inj (by omega) (by omega) ((x2.symm.trans (hr 2 (by decide))).trans l.q2)
  have y3 := nI_inj (by omega) (by omega) ((x3.symm.trans (hr 3 (by decide))).trans l.q3)
  have y4 := nI_inj (by omega) (by omega) ((x4.symm.trans (hr 4 (by decide))).trans l.q12)
  subst y4
  rw [show a' = a from Prod.ext y0 y2, show b' = b from Prod.ext y1 y3]
  exact hX r q r1 r2 q1 q2 trivial
theorem l_lrC (w : XW) (P : Option Value → XH → Prop) (h0 : XH) {v qq rf : Nat → Int32} (hn0 : 118 ≤ h0.1) (hO0 : MO h0 v) (hN0 : iA h0 89 19 qq) (hP : ∀ (h : XH) (b : Bool) (rf' : Nat → Int32), Same [105] h0 h → h.2 105 = .inl (0, 5, .inl rf') → (∀ j, j < 5 → rf' j = nvR qq j) → (b = true → ∀ j, j < 5 → rf j = nvR qq j) → AX w M_X12_layRace 0 0 59 [.ref 87, .int (bI b), .int (nI 5), .null] [] h P) : ∀ (g k : Nat) (h : XH) (b : Bool) (rf' : Nat → Int32), k + g = 5 → h.2 105 = .inl (0, 5, .inl rf') → (∀ j, j < k → rf' j = nvR qq j) → (∀ j, k ≤ j → rf' j = rf j) → (b = true → ∀ j, j < k → rf j = nvR qq j) → Same [105] h0 h → AX w M_X12_layRace 0 0 4 [.ref 87, .int (bI b), .int (nI k), .null] [] h P
  | 0, k, h, b, rf', hg, e105, i1, i2, i3, hS => by
    have e : k = 5 := by omega
    subst e
    refine AX.iload_n (pc := 4) dX12_layRace_4 rfl ?_
    refine AX.iconst (pc := 5) (v := nI 5) dX12_layRace_5 (by decide) ?_
    refine AX.icmp_geN (pc := 6) (tgt := 59) dX12_layRace_6 (by decide) (by decide) (by decide) (fun hc6 => ?_) (fun q => absurd q (by decide))
    exact hP h b rf' hS e105 i1 i3
  | g + 1, k, h, b, rf', hg, e105, i1, i2, i3, hS => by
    have hn := hS.le hn0
    have hO := hO0.same hS (by simp)
    obtain ⟨f89, e89, q89⟩ := hN0.same hS (by simp)
    refine AX.iload_n (pc := 4) dX12_layRace_4 rfl ?_
    refine AX.iconst (pc := 5) (v := nI 5) dX12_layRace_5 (by decide) ?_
    refine AX.icmp_geN (pc := 6) (tgt := 59) dX12_layRace_6 (by decide) (by omega) (by decide) (fun q => absurd q (by omega)) (fun hc6 => ?_)
    refine AX.aload_n (pc := 9) dX12_layRace_9 rfl ?_
    refine AX.getf (pc := 10) fX12_layRace_13 (lt_k hn (by omega)) hO rfl dX12_layRace_10 ?_
    refine AX.iload_n (pc := 13) dX12_layRace_13 rfl ?_
    refine AX.iconst (pc := 14) (v := nI 4) dX12_layRace_14 (by decide) ?_
    refine AX.icmp_geN (pc := 15) (tgt := 22) dX12_layRace_15 (by decide) (by omega) (by decide) (fun hc15 => ?_) (fun hc15 => ?_)
    · refine AX.bipush (pc := 22) (v := nI 12) dX12_layRace_22 (by decide) ?_
      refine AX.ialdN (pc := 24) (i := 12) (v := (nvR qq k)) (lt_k hn (by omega)) e89 (by decide) (by decide) ((q89 12 (by decide)).trans (nvR_hi (by omega))) dX12_layRace_24 ?_
      refine AX.istore_n (pc := 25) (L' := [.ref 87, .int (bI b), .int (nI k), .int (nvR qq k)]) dX12_layRace_25 (by decide) rfl ?_
      refine AX.iload_n (pc := 26) dX12_layRace_26 rfl ?_
      refine AX.if_eqB (pc := 27) (tgt := 44) dX12_layRace_27 (by decide) (fun hc27 => ?_) (fun hc27 => ?_)
      · refine AX.iconst (pc := 44) (v := nI 0) dX12_layRace_44 (by decide) ?_
        refine AX.istore_n (pc := 45) (L' := [.ref 87, .int (nI 0), .int (nI k), .int (nvR qq k)]) dX12_layRace_45 (by decide) rfl ?_
        refine AX.aload_n (pc := 46) dX12_layRace_46 rfl ?_
        refine AX.getf (pc := 47) fX12_layRace_63 (lt_k hn (by omega)) hO rfl dX12_layRace_47 ?_
        refine AX.iload_n (pc := 50) dX12_layRace_50 rfl ?_
        refine AX.iload_n (pc := 51) dX12_layRace_51 rfl ?_
        refine AX.iastN (pc := 52) (i := k) (g := upd rf' k (nvR qq k)) (lt_k hn (by omega)) e105 (by decide) (by omega) rfl dX12_layRace_52 ?_
        refine AX.iincN (c := k + 1) (pc := 53) (L' := [.ref 87, .int (nI 0), .int (nI (k + 1)), .int (nvR qq k)]) dX12_layRace_53 rfl (inc1 _) (by decide) rfl ?_
        refine AX.goto (pc := 56) (tgt := 4) dX12_layRace_56 (by decide) ?_
        show AX w M_X12_layRace 0 0 4 [.ref 87, .int (bI false), .int (nI (k + 1)), _] [] _ _
        refine AX.sub (L' := [.ref 87, .int (bI false), .int (nI (k + 1)), .null]) ⟨Or.inr rfl, Or.inr rfl, Or.inr rfl, Or.inl rfl, trivial⟩ ?_
        exact l_lrC w P h0 hn0 hO0 hN0 hP g (k + 1) (xset h 105 (.inl (0, 5, .inl (upd rf' k (nvR qq k))))) false _ (by omega) (xset_same _ _ _) (fun j hj => by by_cases z : j = k; subst z; exact upd_at _ _ _; rw [upd_off z]; exact i1 j (by omega)) (fun j hj => by rw [upd_off (by omega)]; exact i2 j (by omega)) (fun z => absurd z (by decide)) (hS.trans Same.rest)
      · refine AX.aload_n (pc := 30) dX12_layRace_30 rfl ?_
        refine AX.getf (pc := 31) fX12_layRace_63 (lt_k hn (by omega)) hO rfl dX12_layRace_31 ?_
        refine AX.iload_n (pc := 34) dX12_layRace_34 rfl ?_
        refine AX.ialdN (pc := 35) (i := k) (v := (rf k)) (lt_k hn (by omega)) e105 (by decide) (by omega) (i2 k (Nat.le_refl _)) dX12_layRace_35 ?_
        refine AX.iload_n (pc := 36) dX12_layRace_36 rfl ?_
        refine AX.icmp_ne (pc := 37) (tgt := 44) dX12_layRace_37 (by decide) (fun hc37 => ?_) (fun hc37 => ?_)
        · refine AX.iconst (pc := 44) (v := nI 0) dX12_layRace_44 (by decide) ?_
          refine AX.istore_n (pc := 45) (L' := [.ref 87, .int (nI 0), .int (nI k), .int (nvR qq k)]) dX12_layRace_45 (by decide) rfl ?_
          refine AX.aload_n (pc := 46) dX12_layRace_46 rfl ?_
          refine AX.getf (pc := 47) fX12_layRace_63 (lt_k hn (by omega)) hO rfl dX12_layRace_47 ?_
          refine AX.iload_n (pc := 50) dX12_layRace_50 rfl ?_
          refine AX.iload_n (pc := 51) dX12_layRace_51 rfl ?_
          refine AX.iastN (pc := 52) (i := k) (g := upd rf' k (nvR qq k)) (lt_k hn (by omega)) e105 (by decide) (by omega) rfl dX12_layRace_52 ?_
          refine AX.iincN (c := k + 1) (pc := 53) (L' := [.ref 87, .int (nI 0), .int (nI (k + 1)), .int (nvR qq k)]) dX12_layRace_53 rfl (inc1 _) (by decide) rfl ?_
          refine AX.goto (pc := 56) (tgt := 4) dX12_layRace_56 (by decide) ?_
          show AX w M_X12_layRace 0 0 4 [.ref 87, .int (bI false), .int (nI (k + 1)), _] [] _ _
          refine AX.sub (L' := [.ref 87, .int (bI false), .int (nI (k + 1)), .null]) ⟨Or.inr rfl, Or.inr rfl, Or.inr rfl, Or.inl rfl, trivial⟩ ?_
          exact l_lrC w P h0 hn0 hO0 hN0 hP g (k + 1) (xset h 105 (.inl (0, 5, .inl (upd rf' k (nvR qq k))))) false _ (by omega) (xset_same _ _ _) (fun j hj => by by_cases z : j = k; subst z; exact upd_at _ _ _; rw [upd_off z]; exact i1 j (by omega)) (fun j hj => by rw [upd_off (by omega)]; exact i2 j (by omega)) (fun z => absurd z (by decide)) (hS.trans Same.rest)
        · refine AX.iconst (pc := 40) (v := nI 1) dX12_layRace_40 (by decide) ?_
          refine AX.goto (pc := 41) (tgt := 45) dX12_layRace_41 (by decide) ?_
          refine AX.istore_n (pc := 45) (L' := [.ref 87, .int (nI 1), .int (nI k), .int (nvR qq k)]) dX12_layRace_45 (by decide) rfl ?_
          refine AX.aload_n (pc := 46) dX12_layRace_46 rfl ?_
          refine AX.getf (pc := 47) fX12_layRace_63 (lt_k hn (by omega)) hO rfl dX12_layRace_47 ?_
          refine AX.iload_n (pc := 50) dX12_layRace_50 rfl ?_
          refine AX.iload_n (pc := 51) dX12_layRace_51 rfl ?_
          refine AX.iastN (pc := 52) (i := k) (g := upd rf' k (nvR qq k)) (lt_k hn (by omega)) e105 (by decide) (by omega) rfl dX12_layRace_52 ?_
          refine AX.iincN (c := k + 1) (pc := 53) (L' := [.ref 87, .int (nI 1), .int (nI (k + 1)), .int (nvR qq k)]) dX12_layRace_53 rfl (inc1 _) (by decide) rfl ?_
          refine AX.goto (pc := 56) (tgt := 4) dX12_layRace_56 (by decide) ?_
          show AX w M_X12_layRace 0 0 4 [.ref 87, .int (bI true), .int (nI (k + 1)), _] [] _ _
          refine AX.sub (L' := [.ref 87, .int (bI true), .int (nI (k + 1)), .null]) ⟨Or.inr rfl, Or.inr rfl, Or.inr rfl, Or.inl rfl, trivial⟩ ?_
          exact l_lrC w P h0 hn0 hO0 hN0 hP g (k + 1) (xset h 105 (.inl (0, 5, .inl (upd rf' k (nvR qq k))))) true _ (by omega) (xset_same _ _ _) (fun j hj => by by_cases z : j = k; subst z; exact upd_at _ _ _; rw [upd_off z]; exact i1 j (by omega)) (fun j hj => by rw [upd_off (by omega)]; exact i2 j (by omega)) (fun _ j hj => (by by_cases z : j = k; subst z; exact hc37; exact i3 hc27 j (by omega))) (hS.trans Same.rest)
    · refine AX.iload_n (pc := 18) dX12_layRace_18 rfl ?_
      refine AX.goto (pc := 19) (tgt := 24) dX12_layRace_19 (by decide) ?_
      refine AX.ialdN (pc := 24) (i := k) (v := (nvR qq k)) (lt_k hn (by omega)) e89 (by decide) (by omega) ((q89 k (by omega)).trans (nvR_lo (by omega))) dX12_layRace_24 ?_
      refine AX.istore_n (pc := 25) (L' := [.ref 87, .int (bI b), .int (nI k), .int (nvR qq k)]) dX12_layRace_25 (by decide) rfl ?_
      refine AX.iload_n (pc := 26) dX12_layRace_26 rfl ?_
      refine AX.if_eqB (pc := 27) (tgt := 44) dX12_layRace_27 (by decide) (fun hc27 => ?_) (fun hc27 => ?_)
      · refine AX.iconst (pc := 44) (v := nI 0) dX12_layRace_44 (by decide) ?_
        refine AX.istore_n (pc := 45) (L' := [.ref 87, .int (nI 0), .int (nI k), .int (nvR qq k)]) dX12_layRace_45 (by decide) rfl ?_
        refine AX.aload_n (pc := 46) dX12_layRace_46 rfl ?_
        refine AX.getf (pc := 47) fX12_layRace_63 (lt_k hn (by omega)) hO rfl dX12_layRace_47 ?_
        refine AX.iload_n (pc := 50) dX12_layRace_50 rfl ?_
        refine AX.iload_n (pc := 51) dX12_layRace_51 rfl ?_
        refine AX.iastN (pc := 52) (i := k) (g := upd rf' k (nvR qq k)) (lt_k hn (by omega)) e105 (by decide) (by omega) rfl dX12_layRace_52 ?_
        refine AX.iincN (c := k + 1) (pc := 53) (L' := [.ref 87, .int (nI 0), .int (nI (k + 1)), .int (nvR qq k)]) dX12_layRace_53 rfl (inc1 _) (by decide) rfl ?_
        refine AX.goto (pc := 56) (tgt := 4) dX12_layRace_56 (by decide) ?_
        show AX w M_X12_layRace 0 0 4 [.ref 87, .int (bI false), .int (nI (k + 1)), _] [] _ _
        refine AX.sub (L' := [.ref 87, .int (bI false), .int (nI (k + 1)), .null]) ⟨Or.inr rfl, Or.inr rfl, Or.inr rfl, Or.inl rfl, trivial⟩ ?_
        exact l_lrC w P h0 hn0 hO0 hN0 hP g (k + 1) (xset h 105 (.inl (0, 5, .inl (upd rf' k (nvR qq k))))) false _ (by omega) (xset_same _ _ _) (fun j hj => by by_cases z : j = k; subst z; exact upd_at _ _ _; rw [upd_off z]; exact i1 j (by omega)) (fun j hj => by rw [upd_off (by omega)]; exact i2 j (by omega)) (fun z => absurd z (by decide)) (hS.trans Same.rest)
      · refine AX.aload_n (pc := 30) dX12_layRace_30 rfl ?_
        refine AX.getf (pc := 31) fX12_layRace_63 (lt_k hn (by omega)) hO rfl dX12_layRace_31 ?_
        refine AX.iload_n (pc := 34) dX12_layRace_34 rfl ?_
        refine AX.ialdN (pc := 35) (i := k) (v := (rf k)) (lt_k hn (by omega)) e105 (by decide) (by omega) (i2 k (Nat.le_refl _)) dX12_layRace_35 ?_
        refine AX.iload_n (pc := 36) dX12_layRace_36 rfl ?_
        refine AX.icmp_ne (pc := 37) (tgt := 44) dX12_layRace_37 (by decide) (fun hc37 => ?_) (fun hc37 => ?_)
        · refine AX.iconst (pc := 44) (v := nI 0) dX12_layRace_44 (by decide) ?_
          refine AX.istore_n (pc := 45) (L' := [.ref 87, .int (nI 0), .int (nI k), .int (nvR qq k)]) dX12_layRace_45 (by decide) rfl ?_
          refine AX.aload_n (pc := 46) dX12_layRace_46 rfl ?_
          refine AX.getf (pc := 47) fX12_layRace_63 (lt_k hn (by omega)) hO rfl dX12_layRace_47 ?_
          refine AX.iload_n (pc := 50) dX12_layRace_50 rfl ?_
          refine AX.iload_n (pc := 51) dX12_layRace_51 rfl ?_
          refine AX.iastN (pc := 52) (i := k) (g := upd rf' k (nvR qq k)) (lt_k hn (by omega)) e105 (by decide) (by omega) rfl dX12_layRace_52 ?_
          refine AX.iincN (c := k + 1) (pc := 53) (L' := [.ref 87, .int (nI 0), .int (nI (k + 1)), .int (nvR qq k)]) dX12_layRace_53 rfl (inc1 _) (by decide) rfl ?_
          refine AX.goto (pc := 56) (tgt := 4) dX12_layRace_56 (by decide) ?_
          show AX w M_X12_layRace 0 0 4 [.ref 87, .int (bI false), .int (nI (k + 1)), _] [] _ _
          refine AX.sub (L' := [.ref 87, .int (bI false), .int (nI (k + 1)), .null]) ⟨Or.inr rfl, Or.inr rfl, Or.inr rfl, Or.inl rfl, trivial⟩ ?_
          exact l_lrC w P h0 hn0 hO0 hN0 hP g (k + 1) (xset h 105 (.inl (0, 5, .inl (upd rf' k (nvR qq k))))) false _ (by omega) (xset_same _ _ _) (fun j hj => by by_cases z : j = k; subst z; exact upd_at _ _ _; rw [upd_off z]; exact i1 j (by omega)) (fun j hj => by rw [upd_off (by omega)]; exact i2 j (by omega)) (fun z => absurd z (by decide)) (hS.trans Same.rest)
        · refine AX.iconst (pc := 40) (v := nI 1) dX12_layRace_40 (by decide) ?_
          refine AX.goto (pc := 41) (tgt := 45) dX12_layRace_41 (by decide) ?_
          refine AX.istore_n (pc := 45) (L' := [.ref 87, .int (nI 1), .int (nI k), .int (nvR qq k)]) dX12_layRace_45 (by decide) rfl ?_
          refine AX.aload_n (pc := 46) dX12_layRace_46 rfl ?_
          refine AX.getf (pc := 47) fX12_layRace_63 (lt_k hn (by omega)) hO rfl dX12_layRace_47 ?_
          refine AX.iload_n (pc := 50) dX12_layRace_50 rfl ?_
          refine AX.iload_n (pc := 51) dX12_layRace_51 rfl ?_
          refine AX.iastN (pc := 52) (i := k) (g := upd rf' k (nvR qq k)) (lt_k hn (by omega)) e105 (by decide) (by omega) rfl dX12_layRace_52 ?_
          refine AX.iincN (c := k + 1) (pc := 53) (L' := [.ref 87, .int (nI 1), .int (nI (k + 1)), .int (nvR qq k)]) dX12_layRace_53 rfl (inc1 _) (by decide) rfl ?_
          refine AX.goto (pc := 56) (tgt := 4) dX12_layRace_56 (by decide) ?_
          show AX w M_X12_layRace 0 0 4 [.ref 87, .int (bI true), .int (nI (k + 1)), _] [] _ _
          refine AX.sub (L' := [.ref 87, .int (bI true), .int (nI (k + 1)), .null]) ⟨Or.inr rfl, Or.inr rfl, Or.inr rfl, Or.inl rfl, trivial⟩ ?_
          exact l_lrC w P h0 hn0 hO0 hN0 hP g (k + 1) (xset h 105 (.inl (0, 5, .inl (upd rf' k (nvR qq k))))) true _ (by omega) (xset_same _ _ _) (fun j hj => by by_cases z : j = k; subst z; exact upd_at _ _ _; rw [upd_off z]; exact i1 j (by omega)) (fun j hj => by rw [upd_off (by omega)]; exact i2 j (by omega)) (fun _ j hj => (by by_cases z : j = k; subst z; exact hc37; exact i3 hc27 j (by omega))) (hS.trans Same.rest)
theorem l_lrI (w : XW) (P : Option Value → XH → Prop) (h0 : XH) {s : SS} {qq : Nat → Int32} {H : Nat → Nat × Nat} {o : Nat} (hn0 : 118 ≤ h0.1) (hN0 : iA h0 89 19 qq) (ho12 : qq 12 = nI o) (ho : o ≤ 2) (hB0 : BL h0 H) (hH : hOK H) {r : Nat} (r1 : leN o ≤ r) (r2 : r ≤ 24) (hP : ∀ (h : XH) (g1 g2 : Nat → UInt64) (gs : Nat → Int32), (∃ v, MO h v ∧ v 0 = bI (sb s) ∧ v 5 = nI (sX s).length ∧ v 6 = nI (sT s).length) → h.2 102 = .inl (2, 625, .inr (.inr (.inr (.inl (g1))))) → h.2 103 = .inl (2, 625, .inr (.inr (.inr (.inl (g2))))) → h.2 104 = .inl (1, 625, .inl (gs)) → PD o H (fun i _ => i < (r + 1)) g1 g2 gs → Same [87, 102, 103, 104] h0 h → AX w M_X12_layRace 0 0 102 [.ref 87, .null, .int (nI r), .null] [] h P) : ∀ (g q : Nat) (h : XH) (g1 g2 : Nat → UInt64) (gs : Nat → Int32), q + g = 25 → leN o ≤ q → (∃ v, MO h v ∧ v 0 = bI (sb s) ∧ v 5 = nI (sX s).length ∧ v 6 = nI (sT s).length) → h.2 102 = .inl (2, 625, .inr (.inr (.inr (.inl (g1))))) → h.2 103 = .inl (2, 625, .inr (.inr (.inr (.inl (g2))))) → h.2 104 = .inl (1, 625, .inl (gs)) → PD o H (fun i j => i < r ∨ (i = r ∧ j < q)) g1 g2 gs → Same [87, 102, 103, 104] h0 h → AX w M_X12_layRace 0 0 84 [.ref 87, .null, .int (nI r), .int (nI q)] [] h P
  | 0, q, h, g1, g2, gs, hg, q1, hob, y1, y2, y3, hX, hS => by
    have e : q = 25 := by omega
    subst e
    refine AX.iload_n (pc := 84) dX12_layRace_84 rfl ?_
    refine AX.bipush (pc := 85) (v := nI 24) dX12_layRace_85 (by decide) ?_
    refine AX.icmp_gtN (pc := 87) (tgt := 102) dX12_layRace_87 (by decide) (by decide) (by decide) (fun hc87 => ?_) (fun q => absurd q (by decide))
    refine AX.sub (L' := [.ref 87, .null, .int (nI r), .null]) ⟨Or.inr rfl, Or.inl rfl, Or.inr rfl, Or.inl rfl, trivial⟩ ?_
    exact hP h g1 g2 gs hob y1 y2 y3 (hX.weak (fun i j _ _ _ j2 d => by omega)) hS
  | g + 1, q, h, g1, g2, gs, hg, q1, hob, y1, y2, y3, hX, hS => by
    have hn := hS.le hn0
    obtain ⟨v, hO, hv⟩ := id hob
    refine AX.iload_n (pc := 84) dX12_layRace_84 rfl ?_
    refine AX.bipush (pc := 85) (v := nI 24) dX12_layRace_85 (by decide) ?_
    refine AX.icmp_gtN (pc := 87) (tgt := 102) dX12_layRace_87 (by decide) (by omega) (by decide) (fun q => absurd q (by omega)) (fun hc87 => ?_)
    refine AX.aload_n (pc := 90) dX12_layRace_90 rfl ?_
    refine AX.iload_n (pc := 91) dX12_layRace_91 rfl ?_
    refine AX.iload_n (pc := 92) dX12_layRace_92 rfl ?_
    refine AX.callV (pc := 93) (M2 := M_X12_layPair) (As := [.int (nI r), .int (nI q)]) (rest := []) (c_layPair w h (r := r) (q := q) hn (hN0.same hS (by simp)) ho12 (hB0.same hS (by simp) (by simp) (by simp)) hH ho r1 r2 q1 (by omega) (fun d _ d2 => Or.inl d2) (fun d _ d2 => Or.inr ⟨rfl, d2⟩) (by omega) hO y1 y2 y3 hX) xc_X12_layRace__X12_layPair gX12_layRace_X12_layPair (ci := 11) rfl (lt_k hn (by omega)) hO rfl (Nat.le_of_ble_eq_true rfl) dX12_layRace_93 ?_
    rintro _ h1 ⟨rfl, s1, ⟨x, O1⟩, g1b, g2b, gsb, z1, z2, z3, X1⟩
    show AX w M_X12_layRace 0 0 96 [.ref 87, .null, .int (nI r), .int (nI q)] [] _ _
    refine AX.iincN (c := q + 1) (pc := 96) (L' := [.ref 87, .null, .int (nI r), .int (nI (q + 1))]) dX12_layRace_96 rfl (inc1 _) (by decide) rfl ?_
    refine AX.goto (pc := 99) (tgt := 84) dX12_layRace_99 (by decide) ?_
    exact l_lrI w P h0 hn0 hN0 ho12 ho hB0 hH r1 r2 hP g (q + 1) h1 g1b g2b gsb (by omega) (by omega) (MS.obv hv 3 (by decide) O1) z1 z2 z3 (X1.weak (fun i j _ _ _ _ d => by omega)) (hS.trans s1)
theorem l_lrO (w : XW) (P : Option Value → XH → Prop) (h0 : XH) {s : SS} {qq : Nat → Int32} {H : Nat → Nat × Nat} {o : Nat} (hn0 : 118 ≤ h0.1) (hN0 : iA h0 89 19 qq) (ho12 : qq 12 = nI o) (ho : o ≤ 2) (hB0 : BL h0 H) (hH : hOK H) (hP : ∀ (h : XH) (g1 g2 : Nat → UInt64) (gs : Nat → Int32), (∃ v, MO h v ∧ v 0 = bI (sb s) ∧ v 5 = nI (sX s).length ∧ v 6 = nI (sT s).length) → h.2 102 = .inl (2, 625, .inr (.inr (.inr (.inl (g1))))) → h.2 103 = .inl (2, 625, .inr (.inr (.inr (.inl (g2))))) → h.2 104 = .inl (1, 625, .inl (gs)) → PD o H (fun _ _ => True) g1 g2 gs → Same [87, 102, 103, 104] h0 h → P none h) : ∀ (g r : Nat) (h : XH) (g1 g2 : Nat → UInt64) (gs : Nat → Int32), r + g = 25 → leN o ≤ r → (∃ v, MO h v ∧ v 0 = bI (sb s) ∧ v 5 = nI (sX s).length ∧ v 6 = nI (sT s).length) → h.2 102 = .inl (2, 625, .inr (.inr (.inr (.inl (g1))))) → h.2 103 = .inl (2, 625, .inr (.inr (.inr (.inl (g2))))) → h.2 104 = .inl (1, 625, .inl (gs)) → PD o H (fun i _ => i < r) g1 g2 gs → Same [87, 102, 103, 104] h0 h → AX w M_X12_layRace 0 0 73 [.ref 87, .null, .int (nI r), .null] [] h P
  | 0, r, h, g1, g2, gs, hg, r1, hob, y1, y2, y3, hX, hS => by
    have e : r = 25 := by omega
    subst e
    refine AX.iload_n (pc := 73) dX12_layRace_73 rfl ?_
    refine AX.bipush (pc := 74) (v := nI 24) dX12_layRace_74 (by decide) ?_
    refine AX.icmp_gtN (pc := 76) (tgt := 108) dX12_layRace_76 (by decide) (by decide) (by decide) (fun hc76 => ?_) (fun q => absurd q (by decide))
    refine AX.vret (pc := 108) dX12_layRace_108 rfl (by decide) (by decide) ?_
    exact hP h g1 g2 gs hob y1 y2 y3 (hX.weak (fun i j _ i2 _ _ _ => by omega)) hS
  | g + 1, r, h, g1, g2, gs, hg, r1, hob, y1, y2, y3, hX, hS => by
    have hn := hS.le hn0
    obtain ⟨v, hO, hv⟩ := id hob
    have hN := hN0.same hS (by simp)
    have hle := leN_le o
    refine AX.iload_n (pc := 73) dX12_layRace_73 rfl ?_
    refine AX.bipush (pc := 74) (v := nI 24) dX12_layRace_74 (by decide) ?_
    refine AX.icmp_gtN (pc := 76) (tgt := 108) dX12_layRace_76 (by decide) (by omega) (by decide) (fun q => absurd q (by omega)) (fun hc76 => ?_)
    refine AX.aload_n (pc := 79) dX12_layRace_79 rfl ?_
    refine AX.callV (pc := 80) (M2 := M_X12_leastRest) (As := []) (rest := []) (c_mLeast w h hn hO hN ho12 ho) xc_X12_layRace__X12_leastRest gX12_layRace_X12_leastRest (ci := 11) rfl (lt_k hn (by omega)) hO rfl (Nat.le_of_ble_eq_true rfl) dX12_layRace_80 ?_
    rintro _ h9 ⟨rfl, e9⟩
    have e9 := e9.symm
    subst e9
    show AX w M_X12_layRace 0 0 83 [.ref 87, .null, .int (nI r), .null] [.int (nI (leN o))] _ _
    refine AX.istore_n (pc := 83) (L' := [.ref 87, .null, .int (nI r), .int (nI (leN o))]) dX12_layRace_83 (by decide) rfl ?_
    refine l_lrI w P h0 hn0 hN0 ho12 ho hB0 hH r1 (by omega) (fun h2 k1 k2 ks ob2 u1 u2 u3 X2 t2 => ?_) (25 - leN o) (leN o) h g1 g2 gs (by omega) (Nat.le_refl _) hob y1 y2 y3 (hX.weak (fun i j _ _ _ _ d => by omega)) hS
    refine AX.iincN (c := r + 1) (pc := 102) (L' := [.ref 87, .null, .int (nI (r + 1)), .null]) dX12_layRace_102 rfl (inc1 _) (by decide) rfl ?_
    refine AX.goto (pc := 105) (tgt := 73) dX12_layRace_105 (by decide) ?_
    exact l_lrO w P h0 hn0 hN0 ho12 ho hB0 hH hP g (r + 1) h2 k1 k2 ks (by omega) (by omega) ob2 u1 u2 u3 X2 t2
theorem c_layRace (w : XW) (h : XH) {s : SS} {n o : Nat} {a b : Nat × Nat} (c : MS h s) (l : LV (sq s) n o a b) : CA w M_X12_layRace [.ref 87] h (fun v' h' => v' = none ∧ Same [87, 91, 92, 98, 99, 100, 102, 103, 104, 105, 106, 107, 108] h h' ∧ MS h' s ∧ ∃ (g1 g2 : Nat → UInt64) (gs : Nat → Int32), h'.2 102 = .inl (2, 625, .inr (.inr (.inr (.inl (g1))))) ∧ h'.2 103 = .inl (2, 625, .inr (.inr (.inr (.inl (g2))))) ∧ h'.2 104 = .inl (1, 625, .inl (gs)) ∧ PD o (hh a b) (fun _ _ => True) g1 g2 gs) := by
  refine CA.of (by decide) rfl (fun _ => Nat.le_of_ble_eq_true rfl) ?_
  show AX w M_X12_layRace 0 0 0 [.ref 87, .null, .null, .null] [] h _
  have hn := c.hn
  obtain ⟨v, hO, hv⟩ := id c.ob
  obtain ⟨f1, f2, st, rf, e102, e103, e104, e105, hrt⟩ := id c.rt
  have la := l.ha
  have lb := l.hb
  have hle := leN_le o
  refine AX.iconst (pc := 0) (v := nI 1) dX12_layRace_0 (by decide) ?_
  refine AX.istore_n (pc := 1) (L' := [.ref 87, .int (nI 1), .null, .null]) dX12_layRace_1 (by decide) rfl ?_
  refine AX.iconst (pc := 2) (v := nI 0) dX12_layRace_2 (by decide) ?_
  refine AX.istore_n (pc := 3) (L' := [.ref 87, .int (nI 1), .int (nI 0), .null]) dX12_layRace_3 (by decide) rfl ?_
  refine l_lrC w _ h (rf := rf) hn hO c.nw (fun h1 bb rf' s1 n105 n1 n2 => ?_) 5 0 h true rf rfl e105 (fun j hj => absurd hj (Nat.not_lt_zero _)) (fun _ _ => rfl) (fun _ j hj => absurd hj (Nat.not_lt_zero _)) Same.rf
  have y102 := s1.at (k := 102) (by simp) e102
  have y103 := s1.at (k := 103) (by simp) e103
  have y104 := s1.at (k := 104) (by simp) e104
  cases bb with
  | true =>
    have hX : PD o (hh a b) (fun _ _ => True) f1 f2 st := fun r q r1 r2 q1 q2 _ => hrt o a b l.ho la.1 la.2 lb.1 lb.2 ((n2 rfl 0 (by decide)).trans l.q0) ((n2 rfl 1 (by decide)).trans l.q1) ((n2 rfl 2 (by decide)).trans l.q2) ((n2 rfl 3 (by decide)).trans l.q3) ((n2 rfl 4 (by decide)).trans l.q12) r q r1 r2 q1 q2
    refine AX.iload_n (pc := 59) dX12_layRace_59 rfl ?_
    refine AX.if_eqB (pc := 60) (tgt := 64) dX12_layRace_60 (by decide) (fun q => absurd q (by decide)) (fun hc60 => ?_)
    refine AX.vret (pc := 63) dX12_layRace_63 rfl (by decide) (by decide) ?_
    exact ⟨rfl, s1.wide (by decide), c.race (s1.wide (by decide)) ⟨v, hO.same s1 (by simp), hv⟩ (c.fx.same s1 (by simp) (by simp) (by simp) (by simp) (by simp)) (RT.of l y102 y103 y104 n105 n1 hX) (c.b1.imp (fun _ z => s1.at (by simp) z)) (c.b2.imp (fun _ z => s1.at (by simp) z)) (c.b3.imp (fun _ z => s1.at (by simp) z)), f1, f2, st, y102, y103, y104, hX⟩
  | false =>
    obtain ⟨m106, z106⟩ := c.b1.imp (fun _ z => s1.at (k := 106) (by simp) z)
    obtain ⟨m107, z107⟩ := c.b2.imp (fun _ z => s1.at (k := 107) (by simp) z)
    obtain ⟨m108, z108⟩ := c.b3.imp (fun _ z => s1.at (k := 108) (by simp) z)
    have hn1 := s1.le hn
    refine AX.iload_n (pc := 59) dX12_layRace_59 rfl ?_
    refine AX.if_eqB (pc := 60) (tgt := 64) dX12_layRace_60 (by decide) (fun hc60 => ?_) (fun q => absurd q (by decide))
    refine AX.aload_n (pc := 64) dX12_layRace_64 rfl ?_
    refine AX.callV (pc := 65) (M2 := M_X12_keepBoth) (As := []) (rest := []) (c_keepBoth w h1 (H := hh a b) hn1 (hO.same s1 (by simp)) (c.nw.same s1 (by simp)) (c.rg.same s1 (by simp)) (c.fx.same s1 (by simp) (by simp) (by simp) (by simp) (by simp)) z106 z107 z108 (fun u hu => l.hq hu)) xc_X12_layRace__X12_keepBoth gX12_layRace_X12_keepBoth (ci := 11) rfl (lt_k hn1 (by omega)) (hO.same s1 (by simp)) rfl (Nat.le_of_ble_eq_true rfl) dX12_layRace_65 ?_
    rintro _ h2 ⟨rfl, s2, ⟨y, O2⟩, F2, B2⟩
    have eO2 : h2.2 87 = .inr (11, [.ref 88, .ref 89, .ref 90, .int (v 0), .int y, .ref 91, .ref 92, .ref 93, .ref 94, .ref 95, .ref 96, .ref 97, .ref 98, .ref 99, .ref 100, .ref 101, .int (v 2), .ref 102, .ref 103, .ref 104, .ref 105, .ref 106, .ref 107, .ref 108, .int (v 3), .ref 109, .int (v 4), .ref 110, .ref 111, .int (v 5), .ref 112, .int (v 6), .int (v 7), .int (v 8), .ref 113, .int (v 9), .ref 114, .ref 115, .ref 116, .ref 117]) := O2
    have hn2 := s2.le hn1
    have t2 : Same [87, 91, 92, 98, 99, 100, 102, 103, 104, 105, 106, 107, 108] h h2 := (s1.wide (by decide)).trans (s2.wide (by decide))
    show AX w M_X12_layRace 0 0 68 [.ref 87, .int (bI false), .int (nI 5), .null] [] _ _
    refine AX.aload_n (pc := 68) dX12_layRace_68 rfl ?_
    refine AX.callV (pc := 69) (M2 := M_X12_leastRest) (As := []) (rest := []) (c_mLeast w h2 hn2 O2 ((c.nw.same s1 (by simp)).same s2 (by simp)) l.q12 l.ho) xc_X12_layRace__X12_leastRest gX12_layRace_X12_leastRest (ci := 11) rfl (lt_k (s2.le hn1) (by omega)) eO2 rfl (Nat.le_of_ble_eq_true rfl) dX12_layRace_69 ?_
    rintro _ h9 ⟨rfl, e9⟩
    have e9 := e9.symm
    subst e9
    show AX w M_X12_layRace 0 0 72 [.ref 87, .int (bI false), .int (nI 5), .null] [.int (nI (leN o))] _ _
    refine AX.istore_n (pc := 72) (L' := [.ref 87, .int (bI false), .int (nI (leN o)), .null]) dX12_layRace_72 (by decide) rfl ?_
    refine AX.sub (L' := [.ref 87, .null, .int (nI (leN o)), .null]) ⟨Or.inr rfl, Or.inl rfl, Or.inr rfl, Or.inl rfl, trivial⟩ ?_
    refine l_lrO w _ h2 (s := s) hn2 ((c.nw.same s1 (by simp)).same s2 (by simp)) l.q12 l.ho B2 l.hok (fun h3 g1 g2 gs ob3 u1 u2 u3 X3 t3 => ?_) (25 - leN o) (leN o) h2 f1 f2 st (by omega) (Nat.le_refl _) (MS.obv hv 1 (by decide) O2) (s2.at (by simp) y102) (s2.at (by simp) y103) (s2.at (by simp) y104) (fun i j i1 _ _ _ d => absurd d (by omega)) Same.rf
    have t4 : Same [87, 91, 92, 98, 99, 100, 102, 103, 104, 105, 106, 107, 108] h h3 := t2.trans (t3.wide (by decide))
    have B3 := B2.same t3 (by simp) (by simp) (by simp)
    obtain ⟨m, sx, x, b1, b2, b3, -⟩ := B3
    exact ⟨rfl, t4, c.race t4 ob3 (F2.same t3 (by simp) (by simp) (by simp) (by simp) (by simp)) (RT.of l u1 u2 u3 (t3.at (by simp) (s2.at (by simp) n105)) n1 X3) ⟨m, b1⟩ ⟨sx, b2⟩ ⟨x, b3⟩, g1, g2, gs, u1, u2, u3, X3⟩
