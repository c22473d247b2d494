/-! ===== THE RACE: one pair after another; the class's methods, first half ===== -/
theorem half_zv : DF half ∧ 2 * zv half = (FP.Core.one64 : Int) := by
  have e : FP.dadd half half = FP.dconst1 := by decide +kernel
  have e2 : FP.ddiv (FP.i2d (nI 1)) (FP.i2d (nI 2)) = half := by decide +kernel
  obtain ⟨i1, i2⟩ := i2d_zv (n := 1) (by decide)
  obtain ⟨k1, k2⟩ := i2d_zv (n := 2) (by decide)
  have hO := one_posI
  obtain ⟨d1, d2, d3, d4⟩ := div_err i1 k1 (by rw [i2]; omega) (by rw [k2]; omega) (by rw [i2, k2]; omega)
  rw [e2] at d1 d2 d3 d4
  refine ⟨d1, ?_⟩
  have hv : FP.Core.val64 half = .fin false 4503599627370496 (-53) := by decide +kernel
  unfold zv
  rw [hv]
  show 2 * FP.Core.signed false (FP.Core.inUnits 4503599627370496 (-53) FP.Core.b64.qmin) = _
  decide +kernel
theorem half_lin {O z : Int} (hO : 0 < O) (h : 2 * z = O) : -(((31 * 0 : Nat) : Int) * (gr : Int)) ≤ z ∧ z ≤ O + ((31 * 0 : Nat) : Int) * (gr : Int) := by
  rw [show ((31 * 0 : Nat) : Int) = 0 from rfl, Int.zero_mul]
  exact ⟨by omega, by omega⟩
theorem half_rB (n : Nat) : rB n half := by
  obtain ⟨h1, h2⟩ := half_lin one_posI half_zv.2
  exact rB_mono (Nat.zero_le n) ⟨half_zv.1, h1, h2⟩
def zOK (n : Nat) (Z : Nat → UInt64 × Nat) : Prop := ∀ a m y, 1 ≤ a → a < 63 → n ≤ m → m ≤ 10000 → rB m y → vOK (Z a) y ∧ rB (m + 1) (vlN (Z a) y) ∧ (Z a).2 ≤ 1000
theorem zOK_rc {o sd rg r n : Nat} {V : Nat → UInt64} (hs : sd ≤ 200) (hr : rg ≤ 200) (hV : ∀ d, d < r → leN o ≤ d → rB n (V d)) : zOK n (fun a => rcS o sd rg V r a (fC a)) :=
  fun a m y h1 h2 hm hm2 hy => vl_ok hs hr h1 h2 hm2 (fun d d1 d2 => rB_mono hm (hV d d1 d2)) hy
theorem swA_in (Z : Nat → UInt64 × Nat) (y : UInt64) : 1 ≤ (swA Z y).1 ∧ (swA Z y).1 < 63 := by
  obtain ⟨i1, i2, -⟩ := csel_in (fun a => vlN (Z a) y) 61
  exact ⟨i1, Nat.lt_succ_of_le i2⟩
theorem swV_ok {n m : Nat} {Z : Nat → UInt64 × Nat} {y : UInt64} (hZ : zOK n Z) (hm : n ≤ m) (hm2 : m ≤ 10000) (hy : rB m y) : rB (m + 1) (swV Z y) := by
  obtain ⟨i1, i2⟩ := swA_in Z y
  exact (hZ _ m y i1 i2 hm hm2 hy).2.1
theorem swN_ok {n : Nat} {Z0 Z1 : Nat → UInt64 × Nat} (h0 : zOK n Z0) (h1 : zOK n Z1) (hn : n ≤ 9000) : ∀ i, i ≤ 40 → rB (n + 2 * i) (swN Z0 Z1 i).1 ∧ rB (n + 2 * i) (swN Z0 Z1 i).2
  | 0, _ => ⟨half_rB _, half_rB _⟩
  | i + 1, hi => by
    obtain ⟨i1, i2⟩ := swN_ok h0 h1 hn i (by omega)
    have a := swV_ok h0 (show n ≤ n + 2 * i by omega) (by omega) i2
    have b := swV_ok h1 (show n ≤ n + 2 * i + 1 by omega) (by omega) a
    exact ⟨rB_mono (by omega) a, rB_mono (by omega) b⟩
theorem rcW_congr {o r q : Nat} {H : Nat → Nat × Nat} {V0 V0' V1 V1' : Nat → UInt64} (h0 : ∀ d, d < r → leN o ≤ d → V0 d = V0' d) (h1 : ∀ d, d < q → leN o ≤ d → V1 d = V1' d) : rcW o H V0 V1 r q = rcW o H V0' V1' r q := by
  have sw : ∀ (Z Z' : Nat → UInt64 × Nat), (∀ a, 1 ≤ a → a < 63 → Z a = Z' a) → ∀ y, swA Z y = swA Z' y := by
    intro Z Z' h y
    exact csel_congr _ (fun a a1 a2 => by show vlN (Z a) y = vlN (Z' a) y; rw [h a a1 (by omega)])
  have sv : ∀ (Z Z' : Nat → UInt64 × Nat), (∀ a, 1 ≤ a → a < 63 → Z a = Z' a) → ∀ y, swV Z y = swV Z' y := by
    intro Z Z' h y
    unfold swV
    rw [sw Z Z' h y]
    obtain ⟨i1, i2⟩ := swA_in Z' y
    rw [h _ i1 i2]
  have z0 : ∀ a, 1 ≤ a → a < 63 → rcS o (H 0).1 (H 0).2 V0 r a (fC a) = rcS o (H 0).1 (H 0).2 V0' r a (fC a) := fun a _ a2 => rcS_congr h0 a2 _ (Nat.le_refl _)
  have z1 : ∀ a, 1 ≤ a → a < 63 → rcS o (H 1).1 (H 1).2 V1 q a (fC a) = rcS o (H 1).1 (H 1).2 V1' q a (fC a) := fun a _ a2 => rcS_congr h1 a2 _ (Nat.le_refl _)
  have sn : ∀ i, swN (fun a => rcS o (H 0).1 (H 0).2 V0 r a (fC a)) (fun a => rcS o (H 1).1 (H 1).2 V1 q a (fC a)) i = swN (fun a => rcS o (H 0).1 (H 0).2 V0' r a (fC a)) (fun a => rcS o (H 1).1 (H 1).2 V1' q a (fC a)) i := by
    intro i
    induction i with
    | zero => rfl
    | succ i ih =>
      simp only [swN]
      rw [ih, sv _ _ z0, sv _ _ z1]
  unfold rcW swS
  simp only [sn, sw _ _ z0, sw _ _ z1]
theorem rcT_eq {o : Nat} {H : Nat → Nat × Nat} : ∀ (n m r q : Nat), r + q < n → r + q < m → rcT o H n r q = rcT o H m r q
  | 0, _, _, _, h, _ => absurd h (Nat.not_lt_zero _)
  | _ + 1, 0, _, _, _, h => absurd h (Nat.not_lt_zero _)
  | n + 1, m + 1, r, q, h1, h2 => by
    simp only [rcT]
    exact rcW_congr (fun d hd _ => by rw [rcT_eq n m d q (by omega) (by omega)]) (fun d hd _ => by rw [rcT_eq n m r d (by omega) (by omega)])
theorem rcV_eq (o : Nat) (H : Nat → Nat × Nat) (r q : Nat) : rcV o H r q = rcW o H (fun d => (rcV o H d q).2.1) (fun d => (rcV o H r d).1) r q := by
  show rcW o H (fun d => (rcT o H (r + q) d q).2.1) (fun d => (rcT o H (r + q) r d).1) r q = _
  exact rcW_congr (fun d hd _ => by show (rcT o H (r + q) d q).2.1 = (rcT o H (d + q + 1) d q).2.1; rw [rcT_eq (r + q) (d + q + 1) d q (by omega) (by omega)]) (fun d hd _ => by show (rcT o H (r + q) r d).1 = (rcT o H (r + d + 1) r d).1; rw [rcT_eq (r + q) (r + d + 1) r d (by omega) (by omega)])
def hOK (H : Nat → Nat × Nat) : Prop := ∀ u, (H u).1 ≤ 200 ∧ (H u).2 ≤ 200
theorem rcT_ok {o : Nat} {H : Nat → Nat × Nat} (hH : hOK H) : ∀ (n r q : Nat), r + q ≤ 100 → rB (30 * (r + q + 1)) (rcT o H n r q).1 ∧ rB (30 * (r + q + 1)) (rcT o H n r q).2.1
  | 0, _, _, _ => ⟨half_rB _, half_rB _⟩
  | n + 1, r, q, h => by
    simp only [rcT, rcW]
    obtain ⟨a, b⟩ := swN_ok (n := 30 * (r + q)) (zOK_rc (o := o) (r := r) (hH 0).1 (hH 0).2 (V := fun d => (rcT o H n d q).2.1) (fun d d1 _ => rB_mono (by omega) (rcT_ok hH n d q (by omega)).2)) (zOK_rc (o := o) (r := q) (hH 1).1 (hH 1).2 (V := fun d => (rcT o H n r d).1) (fun d d1 _ => rB_mono (by omega) (rcT_ok hH n r d (by omega)).1)) (by omega) 12 (by decide)
    exact ⟨rB_mono (by omega) a, rB_mono (by omega) b⟩
theorem rcV_ok {o : Nat} {H : Nat → Nat × Nat} (hH : hOK H) {r q : Nat} (h : r + q ≤ 100) : rB (30 * (r + q + 1)) (rcV o H r q).1 ∧ rB (30 * (r + q + 1)) (rcV o H r q).2.1 := rcT_ok hH _ r q h
/-- the race's own cells -/
def RS (h : XH) : Prop := h.2 42 = .inr (6, [.ref 1, .ref 4, .ref 9, .ref 43, .ref 46, .ref 49, .ref 50, .ref 53, .ref 56]) ∧ rA h 9 5 2 (fun u => some (10 + 16 * u)) ∧ rA h 43 4 2 (fun u => some (44 + u)) ∧ rA h 46 3 2 (fun u => some (47 + u)) ∧ rA h 50 4 2 (fun u => some (51 + u)) ∧ rA h 53 4 2 (fun u => some (54 + u))
theorem RS.same {S : List Nat} {h h' : XH} (H : RS h) (hs : Same S h h') (h1 : 42 ∉ S) (h2 : 9 ∉ S) (h3 : 43 ∉ S) (h4 : 46 ∉ S) (h5 : 50 ∉ S) (h6 : 53 ∉ S) : RS h' :=
  ⟨hs.at h1 H.1, H.2.1.same hs h2, H.2.2.1.same hs h3, H.2.2.2.1.same hs h4, H.2.2.2.2.1.same hs h5, H.2.2.2.2.2.same hs h6⟩
/-- what is sure and what stays of player u, at AIMS below k -/
def WG (h : XH) (u k : Nat) (Z : Nat → UInt64 × Nat) : Prop := ∃ fs ft : Nat → UInt64, h.2 (51 + u) = .inl (2, 63, .inr (.inr (.inr (.inl fs)))) ∧ h.2 (54 + u) = .inl (2, 63, .inr (.inr (.inr (.inl ft)))) ∧ ∀ a, 1 ≤ a → a < k → fs a = (Z a).1 ∧ ft a = odW (Z a).2
theorem WG.same {S : List Nat} {h h' : XH} {u k : Nat} {Z : Nat → UInt64 × Nat} (H : WG h u k Z) (hs : Same S h h') (h1 : 51 + u ∉ S) (h2 : 54 + u ∉ S) : WG h' u k Z := by
  obtain ⟨fs, ft, e1, e2, e3⟩ := H
  exact ⟨fs, ft, hs.at h1 e1, hs.at h2 e2, e3⟩
theorem c_valueOf (w : XW) (h : XH) {u a : Nat} {y : UInt64} {Z : Nat → UInt64 × Nat} (hn : 57 ≤ h.1) (hRS : RS h) (hu : u ≤ 1) (hW : WG h u 63 Z) (h1 : 1 ≤ a) (h2 : a < 63) (hv : vOK (Z a) y) : CA w M_X7_valueOf [.ref 42, .int (nI u), .int (nI a), .double y] h (fun v' h'' => v' = some (.double (vlN (Z a) y)) ∧ h'' = h) := by
  refine CA.of (by decide) rfl (fun _ => Nat.le_of_ble_eq_true rfl) ?_
  obtain ⟨f9, e9_, q9⟩ := id hRS.2.1
  obtain ⟨f43, e43, q43⟩ := id hRS.2.2.1
  obtain ⟨f50, e50, q50⟩ := id hRS.2.2.2.2.1
  obtain ⟨f53, e53, q53⟩ := id hRS.2.2.2.2.2
  obtain ⟨fs, ft, e1, e2, e3⟩ := hW
  show AX w M_X7_valueOf 0 0 0 [.ref 42, .int (nI u), .int (nI a), .double y, .null] [] h _
  refine AX.aload_n (pc := 0) dX7_valueOf_0 rfl ?_
  refine AX.getf (pc := 1) fX7_valueOf_25 (lt_k hn (by omega)) hRS.1 rfl dX7_valueOf_1 ?_
  refine AX.iload_n (pc := 4) dX7_valueOf_4 rfl ?_
  refine AX.aaldN (pc := 5) (i := u) (b := 51 + u) (by decide) (lt_k hn (by omega)) e50 (by decide) (by omega) (q50 _ (by omega)) dX7_valueOf_5 ?_
  refine AX.iload_n (pc := 6) dX7_valueOf_6 rfl ?_
  refine AX.daldN (pc := 7) (i := a) (v := ((Z a).1)) (lt_k hn (by omega)) e1 (by decide) (by omega) ((e3 a h1 h2).1) dX7_valueOf_7 ?_
  refine AX.aload_n (pc := 8) dX7_valueOf_8 rfl ?_
  refine AX.getf (pc := 9) fX7_valueOf_28 (lt_k hn (by omega)) hRS.1 rfl dX7_valueOf_9 ?_
  refine AX.iload_n (pc := 12) dX7_valueOf_12 rfl ?_
  refine AX.aaldN (pc := 13) (i := u) (b := 54 + u) (by decide) (lt_k hn (by omega)) e53 (by decide) (by omega) (q53 _ (by omega)) dX7_valueOf_13 ?_
  refine AX.iload_n (pc := 14) dX7_valueOf_14 rfl ?_
  refine AX.daldN (pc := 15) (i := a) (v := (odW (Z a).2)) (lt_k hn (by omega)) e2 (by decide) (by omega) ((e3 a h1 h2).2) dX7_valueOf_15 ?_
  refine AX.dconst1 (pc := 16) dX7_valueOf_16 ?_
  refine AX.dload_n (pc := 17) dX7_valueOf_17 rfl ?_
  refine AX.dsub (pc := 18) dX7_valueOf_18 (vfn hv.1) ?_
  refine AX.dmul (pc := 19) dX7_valueOf_19 (vfn hv.2.1) ?_
  refine AX.dadd (pc := 20) dX7_valueOf_20 (vfn hv.2.2) ?_
  refine AX.topd (y := vlN (Z a) y) rfl ?_
  refine AX.dret (pc := 21) dX7_valueOf_21 rfl (by decide) (by decide) ?_
  exact ⟨rfl, rfl⟩
theorem l_bestAim (w : XW) (h : XH) {u : Nat} {y : UInt64} {Z : Nat → UInt64 × Nat} (hn : 57 ≤ h.1) (hRS : RS h) (hu : u ≤ 1) (hW : WG h u 63 Z) (hv : ∀ a, 1 ≤ a → a < 63 → vOK (Z a) y) (P : Option Value → XH → Prop) (hP : P (some (.int (nI (swA Z y).1))) h) : ∀ (g k : Nat), k + g = 61 → AX w M_X7_bestAim 0 0 15 [.ref 42, .int (nI u), .double y, .null, .int (nI ((csel (fun a => vlN (Z a) y) k).1)), .double ((csel (fun a => vlN (Z a) y) k).2), .null, .int (nI (k + 2)), .null, .null] [] h P
  | 0, k, hg => by
    have e : k = 61 := by omega
    subst e
    refine AX.iload (pc := 15) dX7_bestAim_15 rfl ?_
    refine AX.bipush (pc := 17) (v := nI 63) dX7_bestAim_17 (by decide) ?_
    refine AX.icmp_geN (pc := 19) (tgt := 54) dX7_bestAim_19 (by decide) (by decide) (by decide) (fun hc19 => ?_) (fun q => absurd q (by decide))
    refine AX.iload (pc := 54) dX7_bestAim_54 rfl ?_
    refine AX.iret (pc := 56) dX7_bestAim_56 rfl rfl (by decide) (by decide) ?_
    exact hP
  | g + 1, k, hg => by
    obtain ⟨f9, e9_, q9⟩ := id hRS.2.1
    obtain ⟨f43, e43, q43⟩ := id hRS.2.2.1
    obtain ⟨f50, e50, q50⟩ := id hRS.2.2.2.2.1
    obtain ⟨f53, e53, q53⟩ := id hRS.2.2.2.2.2
    have hz : csel (fun a => vlN (Z a) y) (k + 1) = if dgt (vlN (Z (k + 2)) y) (csel (fun a => vlN (Z a) y) k).2 = true then (k + 2, vlN (Z (k + 2)) y) else csel (fun a => vlN (Z a) y) k := rfl
    have ih := l_bestAim w h hn hRS hu hW hv P hP g (k + 1) (by omega)
    refine AX.iload (pc := 15) dX7_bestAim_15 rfl ?_
    refine AX.bipush (pc := 17) (v := nI 63) dX7_bestAim_17 (by decide) ?_
    refine AX.icmp_geN (pc := 19) (tgt := 54) dX7_bestAim_19 (by decide) (by omega) (by decide) (fun q => absurd q (by omega)) (fun hc19 => ?_)
    refine AX.aload_n (pc := 22) dX7_bestAim_22 rfl ?_
    refine AX.iload_n (pc := 23) dX7_bestAim_23 rfl ?_
    refine AX.iload (pc := 24) dX7_bestAim_24 rfl ?_
    refine AX.dload_n (pc := 26) dX7_bestAim_26 rfl ?_
    refine AX.callV (pc := 27) (M2 := M_X7_valueOf) (As := [.int (nI u), .int (nI (k + 2)), .double y]) (rest := []) (c_valueOf w h hn hRS hu hW (a := k + 2) (by omega) (by omega) (hv _ (by omega) (by omega))) xc_X7_bestAim__X7_valueOf gX7_bestAim_X7_valueOf (ci := 6) rfl (lt_k hn (by omega)) hRS.1 rfl (Nat.le_of_ble_eq_true rfl) dX7_bestAim_27 ?_
    rintro _ h9 ⟨rfl, e9⟩
    have e9 := e9.symm
    subst e9
    show AX w M_X7_bestAim 0 0 30 [.ref 42, .int (nI u), .double y, .null, .int (nI ((csel (fun a => vlN (Z a) y) k).1)), .double ((csel (fun a => vlN (Z a) y) k).2), .null, .int (nI (k + 2)), .null, .null] [.double (vlN (Z (k + 2)) y)] _ _
    refine AX.dstore (pc := 30) (L' := [.ref 42, .int (nI u), .double y, .null, .int (nI ((csel (fun a => vlN (Z a) y) k).1)), .double ((csel (fun a => vlN (Z a) y) k).2), .null, .int (nI (k + 2)), .double (vlN (Z (k + 2)) y), .null]) dX7_bestAim_30 (by decide) rfl ?_
    refine AX.dload (pc := 32) dX7_bestAim_32 rfl ?_
    refine AX.dload (pc := 34) dX7_bestAim_34 rfl ?_
    refine AX.dcmp (pc := 36) dX7_bestAim_36 ?_
    refine AX.if_le (pc := 37) (tgt := 48) dX7_bestAim_37 (by decide) (fun hc37 => ?_) (fun hc37 => ?_)
    · refine AX.iincN (c := k + 3) (pc := 48) (L' := [.ref 42, .int (nI u), .double y, .null, .int (nI ((csel (fun a => vlN (Z a) y) k).1)), .double ((csel (fun a => vlN (Z a) y) k).2), .null, .int (nI (k + 3)), .double (vlN (Z (k + 2)) y), .null]) dX7_bestAim_48 rfl (inc1 _) (by decide) rfl ?_
      refine AX.goto (pc := 51) (tgt := 15) dX7_bestAim_51 (by decide) ?_
      have hz : csel (fun a => vlN (Z a) y) (k + 1) = csel (fun a => vlN (Z a) y) k := by rw [hz]; exact if_neg (fun q => cmpl_yes hc37 (of_decide_eq_true q))
      rw [hz] at ih
      refine AX.sub (L' := [.ref 42, .int (nI u), .double y, .null, .int (nI ((csel (fun a => vlN (Z a) y) k).1)), .double ((csel (fun a => vlN (Z a) y) k).2), .null, .int (nI (k + 1 + 2)), .null, .null]) ⟨Or.inr rfl, Or.inr rfl, Or.inr rfl, Or.inl rfl, Or.inr rfl, Or.inr rfl, Or.inl rfl, Or.inr rfl, Or.inl rfl, Or.inl rfl, trivial⟩ ?_
      exact ih
    · refine AX.dload (pc := 40) dX7_bestAim_40 rfl ?_
      refine AX.dstore (pc := 42) (L' := [.ref 42, .int (nI u), .double y, .null, .int (nI ((csel (fun a => vlN (Z a) y) k).1)), .double (vlN (Z (k + 2)) y), .null, .int (nI (k + 2)), .double (vlN (Z (k + 2)) y), .null]) dX7_bestAim_42 (by decide) rfl ?_
      refine AX.iload (pc := 44) dX7_bestAim_44 rfl ?_
      refine AX.istore (pc := 46) (L' := [.ref 42, .int (nI u), .double y, .null, .int (nI (k + 2)), .double (vlN (Z (k + 2)) y), .null, .int (nI (k + 2)), .double (vlN (Z (k + 2)) y), .null]) dX7_bestAim_46 (by decide) rfl ?_
      refine AX.iincN (c := k + 3) (pc := 48) (L' := [.ref 42, .int (nI u), .double y, .null, .int (nI (k + 2)), .double (vlN (Z (k + 2)) y), .null, .int (nI (k + 3)), .double (vlN (Z (k + 2)) y), .null]) dX7_bestAim_48 rfl (inc1 _) (by decide) rfl ?_
      refine AX.goto (pc := 51) (tgt := 15) dX7_bestAim_51 (by decide) ?_
      have hz : csel (fun a => vlN (Z a) y) (k + 1) = (k + 2, vlN (Z (k + 2)) y) := by rw [hz]; exact if_pos (decide_eq_true (cmpl_not hc37))
      rw [hz] at ih
      refine AX.sub (L' := [.ref 42, .int (nI u), .double y, .null, .int (nI (k + 2)), .double (vlN (Z (k + 2)) y), .null, .int (nI (k + 1 + 2)), .null, .null]) ⟨Or.inr rfl, Or.inr rfl, Or.inr rfl, Or.inl rfl, Or.inr rfl, Or.inr rfl, Or.inl rfl, Or.inr rfl, Or.inl rfl, Or.inl rfl, trivial⟩ ?_
      exact ih
theorem c_bestAim (w : XW) (h : XH) {u : Nat} {y : UInt64} {Z : Nat → UInt64 × Nat} (hn : 57 ≤ h.1) (hRS : RS h) (hu : u ≤ 1) (hW : WG h u 63 Z) (hv : ∀ a, 1 ≤ a → a < 63 → vOK (Z a) y) : CA w M_X7_bestAim [.ref 42, .int (nI u), .double y] h (fun v' h'' => v' = some (.int (nI (swA Z y).1)) ∧ h'' = h) := by
  refine CA.of (by decide) rfl (fun _ => Nat.le_of_ble_eq_true rfl) ?_
  obtain ⟨f9, e9_, q9⟩ := id hRS.2.1
  obtain ⟨f43, e43, q43⟩ := id hRS.2.2.1
  obtain ⟨f50, e50, q50⟩ := id hRS.2.2.2.2.1
  obtain ⟨f53, e53, q53⟩ := id hRS.2.2.2.2.2
  show AX w M_X7_bestAim 0 0 0 [.ref 42, .int (nI u), .double y, .null, .null, .null, .null, .null, .null, .null] [] h _
  refine AX.iconst (pc := 0) (v := nI 1) dX7_bestAim_0 (by decide) ?_
  refine AX.istore (pc := 1) (L' := [.ref 42, .int (nI u), .double y, .null, .int (nI 1), .null, .null, .null, .null, .null]) dX7_bestAim_1 (by decide) rfl ?_
  refine AX.aload_n (pc := 3) dX7_bestAim_3 rfl ?_
  refine AX.iload_n (pc := 4) dX7_bestAim_4 rfl ?_
  refine AX.iconst (pc := 5) (v := nI 1) dX7_bestAim_5 (by decide) ?_
  refine AX.dload_n (pc := 6) dX7_bestAim_6 rfl ?_
  refine AX.callV (pc := 7) (M2 := M_X7_valueOf) (As := [.int (nI u), .int (nI 1), .double y]) (rest := []) (c_valueOf w h hn hRS hu hW (a := 1) (by omega) (by omega) (hv _ (by omega) (by omega))) xc_X7_bestAim__X7_valueOf gX7_bestAim_X7_valueOf (ci := 6) rfl (lt_k hn (by omega)) hRS.1 rfl (Nat.le_of_ble_eq_true rfl) dX7_bestAim_7 ?_
  rintro _ h9 ⟨rfl, e9⟩
  have e9 := e9.symm
  subst e9
  show AX w M_X7_bestAim 0 0 10 [.ref 42, .int (nI u), .double y, .null, .int (nI 1), .null, .null, .null, .null, .null] [.double (vlN (Z 1) y)] _ _
  refine AX.dstore (pc := 10) (L' := [.ref 42, .int (nI u), .double y, .null, .int (nI 1), .double (vlN (Z 1) y), .null, .null, .null, .null]) dX7_bestAim_10 (by decide) rfl ?_
  refine AX.iconst (pc := 12) (v := nI 2) dX7_bestAim_12 (by decide) ?_
  refine AX.istore (pc := 13) (L' := [.ref 42, .int (nI u), .double y, .null, .int (nI 1), .double (vlN (Z 1) y), .null, .int (nI 2), .null, .null]) dX7_bestAim_13 (by decide) rfl ?_
  exact l_bestAim w h hn hRS hu hW hv _ ⟨rfl, rfl⟩ 61 0 (by omega)
theorem l_weighAim (w : XW) (h : XH) {o sd rg dk ck r a u v b n base step : Nat} {fo fs ft : Nat → UInt64} (hn : 57 ≤ h.1) (hRS : RS h) (hF : FA h) (hu : v + u = 1) (hbu : b = 10 + 16 * u) (hM : MI h b sd rg dk ck) (hN : iA h 56 63 (fun s => oI (nxN o r s))) (eo : h.2 (44 + v) = .inl (2, 625, .inr (.inr (.inr (.inl fo))))) (hb5 : ∀ d, d < r → base + d * step < 625) (hn1 : n ≤ 10000) (hV : ∀ d, d < r → leN o ≤ d → rB n (fo (base + d * step))) (e1 : h.2 (51 + u) = .inl (2, 63, .inr (.inr (.inr (.inl fs))))) (e2 : h.2 (54 + u) = .inl (2, 63, .inr (.inr (.inr (.inl ft))))) (h0 : 0 < r) (hr : r ≤ 24) (h1 : 1 ≤ a) (h2 : a < 63) (P : Option Value → XH → Prop) (hP : ∀ h', Same [51 + u, 54 + u] h h' → h'.2 (51 + u) = .inl (2, 63, .inr (.inr (.inr (.inl (vf_upd fs a (rcS o sd rg (fun d => fo (base + d * step)) r a (fC a)).1))))) → h'.2 (54 + u) = .inl (2, 63, .inr (.inr (.inr (.inl (vf_upd ft a (odW (rcS o sd rg (fun d => fo (base + d * step)) r a (fC a)).2)))))) → P none h') : ∀ (g k : Nat), k + g = fC a → AX w M_X7_weighAim 0 0 33 [.ref 42, .int (nI u), .int (nI a), .int (nI base), .int (nI step), .ref b, .ref (44 + v), .double ((rcS o sd rg (fun d => fo (base + d * step)) r a k).1), .null, .int (nI ((rcS o sd rg (fun d => fo (base + d * step)) r a k).2)), .int (nI (5 * a)), .int (nI (5 * a + k)), .null, .null] [] h P
  | 0, k, hg => by
    have e : k = fC a := by omega
    subst e
    obtain ⟨hb, hs, hrg, eb, ⟨cw, dw, qw⟩, ⟨co, do_, qo⟩⟩ := id hM
    obtain ⟨cn, dn, qn⟩ := id hN
    obtain ⟨c5, d5, r5⟩ := id hF.2.1
    obtain ⟨c6, d6, r6⟩ := id hF.2.2.1
    have hc5 := fC_le a
    obtain ⟨f9, e9_, q9⟩ := id hRS.2.1
    obtain ⟨f43, e43, q43⟩ := id hRS.2.2.1
    obtain ⟨f50, e50, q50⟩ := id hRS.2.2.2.2.1
    obtain ⟨f53, e53, q53⟩ := id hRS.2.2.2.2.2
    have hS := rcS_ok (o := o) (V := (fun d => fo (base + d * step))) hs hrg h1 h2 hn1 hV (fC a) (Nat.le_refl _)
    have hwt := wTo_all hs hrg h1 h2
    refine AX.iload (pc := 33) dX7_weighAim_33 rfl ?_
    refine AX.iload (pc := 35) dX7_weighAim_35 rfl ?_
    refine AX.aload_n (pc := 37) dX7_weighAim_37 rfl ?_
    refine AX.getf (pc := 38) fX7_weighAim_38 (lt_k hn (by omega)) hRS.1 rfl dX7_weighAim_38 ?_
    refine AX.getf (pc := 41) fX7_weighAim_87 (lt_k hn (by omega)) hF.1 rfl dX7_weighAim_41 ?_
    refine AX.iload_n (pc := 44) dX7_weighAim_44 rfl ?_
    refine AX.ialdN (pc := 45) (i := a) (v := (nI (fC a))) (lt_k hn (by omega)) d5 (by decide) (by omega) (r5 _ h2) dX7_weighAim_45 ?_
    refine AX.iaddN (pc := 46) (c := 5 * a + (fC a)) dX7_weighAim_46 rfl ?_
    refine AX.icmp_geN (pc := 47) (tgt := 152) dX7_weighAim_47 (by decide) (by omega) (by omega) (fun hc47 => ?_) (fun q => absurd q (by omega))
    refine AX.aload_n (pc := 152) dX7_weighAim_152 rfl ?_
    refine AX.getf (pc := 153) fX7_weighAim_25 (lt_k hn (by omega)) hRS.1 rfl dX7_weighAim_153 ?_
    refine AX.iload_n (pc := 156) dX7_weighAim_156 rfl ?_
    refine AX.aaldN (pc := 157) (i := u) (b := 51 + u) (by decide) (lt_k hn (by omega)) e50 (by decide) (by omega) (q50 _ (by omega)) dX7_weighAim_157 ?_
    refine AX.iload_n (pc := 158) dX7_weighAim_158 rfl ?_
    refine AX.dload (pc := 159) dX7_weighAim_159 rfl ?_
    refine AX.dastN (pc := 161) (i := a) (g := vf_upd fs a ((rcS o sd rg (fun d => fo (base + d * step)) r a (fC a)).1)) (lt_k hn (by omega)) e1 (by decide) (by omega) rfl dX7_weighAim_161 ?_
    refine AX.aload_n (pc := 162) dX7_weighAim_162 rfl ?_
    refine AX.getf (pc := 163) fX7_weighAim_28 (lt_k hn (by omega)) ((xset_ne (by omega)).trans hRS.1) rfl dX7_weighAim_163 ?_
    refine AX.iload_n (pc := 166) dX7_weighAim_166 rfl ?_
    refine AX.aaldN (pc := 167) (i := u) (b := 54 + u) (by decide) (lt_k hn (by omega)) ((xset_ne (by omega)).trans e53) (by decide) (by omega) (q53 _ (by omega)) dX7_weighAim_167 ?_
    refine AX.iload_n (pc := 168) dX7_weighAim_168 rfl ?_
    refine AX.iload (pc := 169) dX7_weighAim_169 rfl ?_
    refine AX.i2d (pc := 171) dX7_weighAim_171 ?_
    refine AX.ldc2d (pc := 172) (v := 4652007308841189376) dX7_weighAim_172 cX7_weighAim_104 ?_
    refine AX.ddiv (pc := 175) dX7_weighAim_175 (vfn (odW_zv (x := (rcS o sd rg (fun d => fo (base + d * step)) r a (fC a)).2) (by omega)).1) ?_
    refine AX.topd (y := odW (rcS o sd rg (fun d => fo (base + d * step)) r a (fC a)).2) rfl ?_
    refine AX.dastN (pc := 176) (i := a) (g := vf_upd ft a (odW (rcS o sd rg (fun d => fo (base + d * step)) r a (fC a)).2)) (lt_k hn (by omega)) ((xset_ne (by omega)).trans e2) (by decide) (by omega) rfl dX7_weighAim_176 ?_
    refine AX.vret (pc := 177) dX7_weighAim_177 rfl (by decide) (by decide) ?_
    exact hP _ ((Same.set Same.rf (by simp)).trans (Same.set Same.rf (by simp))) ((xset_ne (by omega)).trans (xset_same _ _ _)) (xset_same _ _ _)
  | g + 1, k, hg => by
    obtain ⟨hb, hs, hrg, eb, ⟨cw, dw, qw⟩, ⟨co, do_, qo⟩⟩ := id hM
    obtain ⟨cn, dn, qn⟩ := id hN
    obtain ⟨c5, d5, r5⟩ := id hF.2.1
    obtain ⟨c6, d6, r6⟩ := id hF.2.2.1
    have hc5 := fC_le a
    obtain ⟨f9, e9_, q9⟩ := id hRS.2.1
    obtain ⟨f43, e43, q43⟩ := id hRS.2.2.1
    obtain ⟨f50, e50, q50⟩ := id hRS.2.2.2.2.1
    obtain ⟨f53, e53, q53⟩ := id hRS.2.2.2.2.2
    have h63 := fS_lt (5 * a + k) (by omega)
    have hwt := wt_le (sd := sd) (rg := rg) (q := 5 * a + k) hs hrg (by omega)
    have hS := rcS_ok (o := o) (V := (fun d => fo (base + d * step))) hs hrg h1 h2 hn1 hV k (by omega)
    have hS1 := rcS_ok (o := o) (V := (fun d => fo (base + d * step))) hs hrg h1 h2 hn1 hV (k + 1) (by omega)
    have hmo := wTo_mono sd rg a (k := k) (j := fC a) (by omega)
    rw [wTo_all hs hrg h1 h2] at hmo
    have hz : rcS o sd rg (fun d => fo (base + d * step)) r a (k + 1) = match nxN o r (fS (5 * a + k)) with
      | none => ((rcS o sd rg (fun d => fo (base + d * step)) r a k).1, (rcS o sd rg (fun d => fo (base + d * step)) r a k).2 + wtN sd rg (5 * a + k))
      | some d => if fS (5 * a + k) = 0 then ((rcS o sd rg (fun d => fo (base + d * step)) r a k).1, (rcS o sd rg (fun d => fo (base + d * step)) r a k).2 + wtN sd rg (5 * a + k)) else if d = 0 then (FP.dadd (rcS o sd rg (fun d => fo (base + d * step)) r a k).1 (odW (wtN sd rg (5 * a + k))), (rcS o sd rg (fun d => fo (base + d * step)) r a k).2) else (FP.dadd (rcS o sd rg (fun d => fo (base + d * step)) r a k).1 (FP.dmul (odW (wtN sd rg (5 * a + k))) (FP.dsub FP.dconst1 (fo (base + d * step)))), (rcS o sd rg (fun d => fo (base + d * step)) r a k).2) := rfl
    have ih := l_weighAim w h hn hRS hF hu hbu hM hN eo hb5 hn1 hV e1 e2 h0 hr h1 h2 P hP g (k + 1) (by omega)
    cases hx : nxN o r (fS (5 * a + k)) with
    | none =>
      rw [hx] at hz
      rw [hz] at ih
      refine AX.iload (pc := 33) dX7_weighAim_33 rfl ?_
      refine AX.iload (pc := 35) dX7_weighAim_35 rfl ?_
      refine AX.aload_n (pc := 37) dX7_weighAim_37 rfl ?_
      refine AX.getf (pc := 38) fX7_weighAim_38 (lt_k hn (by omega)) hRS.1 rfl dX7_weighAim_38 ?_
      refine AX.getf (pc := 41) fX7_weighAim_87 (lt_k hn (by omega)) hF.1 rfl dX7_weighAim_41 ?_
      refine AX.iload_n (pc := 44) dX7_weighAim_44 rfl ?_
      refine AX.ialdN (pc := 45) (i := a) (v := (nI (fC a))) (lt_k hn (by omega)) d5 (by decide) (by omega) (r5 _ h2) dX7_weighAim_45 ?_
      refine AX.iaddN (pc := 46) (c := 5 * a + (fC a)) dX7_weighAim_46 rfl ?_
      refine AX.icmp_geN (pc := 47) (tgt := 152) dX7_weighAim_47 (by decide) (by omega) (by omega) (fun q => absurd q (by omega)) (fun hc47 => ?_)
      refine AX.aload_n (pc := 50) dX7_weighAim_50 rfl ?_
      refine AX.getf (pc := 51) fX7_weighAim_38 (lt_k hn (by omega)) hRS.1 rfl dX7_weighAim_51 ?_
      refine AX.getf (pc := 54) fX7_weighAim_92 (lt_k hn (by omega)) hF.1 rfl dX7_weighAim_54 ?_
      refine AX.iload (pc := 57) dX7_weighAim_57 rfl ?_
      refine AX.ialdN (pc := 59) (i := 5 * a + k) (v := (nI (fS (5 * a + k)))) (lt_k hn (by omega)) d6 (by decide) (by omega) (r6 _ (by omega)) dX7_weighAim_59 ?_
      refine AX.istore (pc := 60) (L' := [.ref 42, .int (nI u), .int (nI a), .int (nI base), .int (nI step), .ref b, .ref (44 + v), .double ((rcS o sd rg (fun d => fo (base + d * step)) r a k).1), .null, .int (nI ((rcS o sd rg (fun d => fo (base + d * step)) r a k).2)), .int (nI (5 * a)), .int (nI (5 * a + k)), .int (nI (fS (5 * a + k))), .null]) dX7_weighAim_60 (by decide) rfl ?_
      refine AX.aload_n (pc := 62) dX7_weighAim_62 rfl ?_
      refine AX.getf (pc := 63) fX7_weighAim_31 (lt_k hn (by omega)) hRS.1 rfl dX7_weighAim_63 ?_
      refine AX.iload (pc := 66) dX7_weighAim_66 rfl ?_
      refine AX.ialdN (pc := 68) (i := fS (5 * a + k)) (v := (-5)) (lt_k hn (by omega)) dn (by decide) h63 ((qn _ h63).trans (by show oI (nxN o r (fS (5 * a + k))) = _; rw [hx]; rfl)) dX7_weighAim_68 ?_
      refine AX.istore (pc := 69) (L' := [.ref 42, .int (nI u), .int (nI a), .int (nI base), .int (nI step), .ref b, .ref (44 + v), .double ((rcS o sd rg (fun d => fo (base + d * step)) r a k).1), .null, .int (nI ((rcS o sd rg (fun d => fo (base + d * step)) r a k).2)), .int (nI (5 * a)), .int (nI (5 * a + k)), .int (nI (fS (5 * a + k))), .int (-5)]) dX7_weighAim_69 (by decide) rfl ?_
      refine AX.iload (pc := 71) dX7_weighAim_71 rfl ?_
      refine AX.bipush (pc := 73) (v := (-5)) dX7_weighAim_73 (by decide) ?_
      refine AX.icmp_eq (pc := 75) (tgt := 83) dX7_weighAim_75 (by decide) (fun hc75 => ?_) (fun q => absurd rfl q)
      refine AX.iload (pc := 83) dX7_weighAim_83 rfl ?_
      refine AX.aload (pc := 85) dX7_weighAim_85 rfl ?_
      refine AX.getf (pc := 87) fX7_weighAim_95 (lt_k hn (by omega)) eb rfl dX7_weighAim_87 ?_
      refine AX.iload (pc := 90) dX7_weighAim_90 rfl ?_
      refine AX.ialdN (pc := 92) (i := 5 * a + k) (v := (nI (wtN sd rg (5 * a + k)))) (lt_k hn (by omega)) dw (by decide) (by omega) (qw _ (by omega)) dX7_weighAim_92 ?_
      refine AX.iaddN (pc := 93) (c := (rcS o sd rg (fun d => fo (base + d * step)) r a k).2 + (wtN sd rg (5 * a + k))) dX7_weighAim_93 rfl ?_
      refine AX.istore (pc := 94) (L' := [.ref 42, .int (nI u), .int (nI a), .int (nI base), .int (nI step), .ref b, .ref (44 + v), .double ((rcS o sd rg (fun d => fo (base + d * step)) r a k).1), .null, .int (nI ((rcS o sd rg (fun d => fo (base + d * step)) r a k).2 + (wtN sd rg (5 * a + k)))), .int (nI (5 * a)), .int (nI (5 * a + k)), .int (nI (fS (5 * a + k))), .int (-5)]) dX7_weighAim_94 (by decide) rfl ?_
      refine AX.goto (pc := 96) (tgt := 146) dX7_weighAim_96 (by decide) ?_
      refine AX.iincN (c := 5 * a + k + 1) (pc := 146) (L' := [.ref 42, .int (nI u), .int (nI a), .int (nI base), .int (nI step), .ref b, .ref (44 + v), .double ((rcS o sd rg (fun d => fo (base + d * step)) r a k).1), .null, .int (nI ((rcS o sd rg (fun d => fo (base + d * step)) r a k).2 + (wtN sd rg (5 * a + k)))), .int (nI (5 * a)), .int (nI (5 * a + k + 1)), .int (nI (fS (5 * a + k))), .int (-5)]) dX7_weighAim_146 rfl (inc1 _) (by decide) rfl ?_
      refine AX.goto (pc := 149) (tgt := 33) dX7_weighAim_149 (by decide) ?_
      refine AX.sub (L' := [.ref 42, .int (nI u), .int (nI a), .int (nI base), .int (nI step), .ref b, .ref (44 + v), .double ((rcS o sd rg (fun d => fo (base + d * step)) r a k).1), .null, .int (nI ((rcS o sd rg (fun d => fo (base + d * step)) r a k).2 + (wtN sd rg (5 * a + k)))), .int (nI (5 * a)), .int (nI (5 * a + (k + 1))), .null, .null]) ⟨Or.inr rfl, Or.inr rfl, Or.inr rfl, Or.inr rfl, Or.inr rfl, Or.inr rfl, Or.inr rfl, Or.inr rfl, Or.inl rfl, Or.inr rfl, Or.inr rfl, Or.inr rfl, Or.inl rfl, Or.inl rfl, trivial⟩ ?_
      exact ih
    | some d =>
      have hd := nxN_eq hx
      rw [hx] at hz
      by_cases hf0 : fS (5 * a + k) = 0
      · have hz : rcS o sd rg (fun d => fo (base + d * step)) r a (k + 1) = ((rcS o sd rg (fun d => fo (base + d * step)) r a k).1, (rcS o sd rg (fun d => fo (base + d * step)) r a k).2 + wtN sd rg (5 * a + k)) := by rw [hz]; exact if_pos hf0
        rw [hz] at ih
        refine AX.iload (pc := 33) dX7_weighAim_33 rfl ?_
        refine AX.iload (pc := 35) dX7_weighAim_35 rfl ?_
        refine AX.aload_n (pc := 37) dX7_weighAim_37 rfl ?_
        refine AX.getf (pc := 38) fX7_weighAim_38 (lt_k hn (by omega)) hRS.1 rfl dX7_weighAim_38 ?_
        refine AX.getf (pc := 41) fX7_weighAim_87 (lt_k hn (by omega)) hF.1 rfl dX7_weighAim_41 ?_
        refine AX.iload_n (pc := 44) dX7_weighAim_44 rfl ?_
        refine AX.ialdN (pc := 45) (i := a) (v := (nI (fC a))) (lt_k hn (by omega)) d5 (by decide) (by omega) (r5 _ h2) dX7_weighAim_45 ?_
        refine AX.iaddN (pc := 46) (c := 5 * a + (fC a)) dX7_weighAim_46 rfl ?_
        refine AX.icmp_geN (pc := 47) (tgt := 152) dX7_weighAim_47 (by decide) (by omega) (by omega) (fun q => absurd q (by omega)) (fun hc47 => ?_)
        refine AX.aload_n (pc := 50) dX7_weighAim_50 rfl ?_
        refine AX.getf (pc := 51) fX7_weighAim_38 (lt_k hn (by omega)) hRS.1 rfl dX7_weighAim_51 ?_
        refine AX.getf (pc := 54) fX7_weighAim_92 (lt_k hn (by omega)) hF.1 rfl dX7_weighAim_54 ?_
        refine AX.iload (pc := 57) dX7_weighAim_57 rfl ?_
        refine AX.ialdN (pc := 59) (i := 5 * a + k) (v := (nI (fS (5 * a + k)))) (lt_k hn (by omega)) d6 (by decide) (by omega) (r6 _ (by omega)) dX7_weighAim_59 ?_
        refine AX.istore (pc := 60) (L' := [.ref 42, .int (nI u), .int (nI a), .int (nI base), .int (nI step), .ref b, .ref (44 + v), .double ((rcS o sd rg (fun d => fo (base + d * step)) r a k).1), .null, .int (nI ((rcS o sd rg (fun d => fo (base + d * step)) r a k).2)), .int (nI (5 * a)), .int (nI (5 * a + k)), .int (nI (fS (5 * a + k))), .null]) dX7_weighAim_60 (by decide) rfl ?_
        refine AX.aload_n (pc := 62) dX7_weighAim_62 rfl ?_
        refine AX.getf (pc := 63) fX7_weighAim_31 (lt_k hn (by omega)) hRS.1 rfl dX7_weighAim_63 ?_
        refine AX.iload (pc := 66) dX7_weighAim_66 rfl ?_
        refine AX.ialdN (pc := 68) (i := fS (5 * a + k)) (v := (nI d)) (lt_k hn (by omega)) dn (by decide) h63 ((qn _ h63).trans (by show oI (nxN o r (fS (5 * a + k))) = _; rw [hx]; rfl)) dX7_weighAim_68 ?_
        refine AX.istore (pc := 69) (L' := [.ref 42, .int (nI u), .int (nI a), .int (nI base), .int (nI step), .ref b, .ref (44 + v), .double ((rcS o sd rg (fun d => fo (base + d * step)) r a k).1), .null, .int (nI ((rcS o sd rg (fun d => fo (base + d * step)) r a k).2)), .int (nI (5 * a)), .int (nI (5 * a + k)), .int (nI (fS (5 * a + k))), .int (nI d)]) dX7_weighAim_69 (by decide) rfl ?_
        refine AX.iload (pc := 71) dX7_weighAim_71 rfl ?_
        refine AX.bipush (pc := 73) (v := (-5)) dX7_weighAim_73 (by decide) ?_
        refine AX.icmp_eq (pc := 75) (tgt := 83) dX7_weighAim_75 (by decide) (fun q => absurd q (nI_m5 (by omega))) (fun hc75 => ?_)
        refine AX.iload (pc := 78) dX7_weighAim_78 rfl ?_
        refine AX.if_neN (pc := 80) (tgt := 99) dX7_weighAim_80 (by decide) (by omega) (fun q => absurd q (by omega)) (fun hc80 => ?_)
        refine AX.iload (pc := 83) dX7_weighAim_83 rfl ?_
        refine AX.aload (pc := 85) dX7_weighAim_85 rfl ?_
        refine AX.getf (pc := 87) fX7_weighAim_95 (lt_k hn (by omega)) eb rfl dX7_weighAim_87 ?_
        refine AX.iload (pc := 90) dX7_weighAim_90 rfl ?_
        refine AX.ialdN (pc := 92) (i := 5 * a + k) (v := (nI (wtN sd rg (5 * a + k)))) (lt_k hn (by omega)) dw (by decide) (by omega) (qw _ (by omega)) dX7_weighAim_92 ?_
        refine AX.iaddN (pc := 93) (c := (rcS o sd rg (fun d => fo (base + d * step)) r a k).2 + (wtN sd rg (5 * a + k))) dX7_weighAim_93 rfl ?_
        refine AX.istore (pc := 94) (L' := [.ref 42, .int (nI u), .int (nI a), .int (nI base), .int (nI step), .ref b, .ref (44 + v), .double ((rcS o sd rg (fun d => fo (base + d * step)) r a k).1), .null, .int (nI ((rcS o sd rg (fun d => fo (base + d * step)) r a k).2 + (wtN sd rg (5 * a + k)))), .int (nI (5 * a)), .int (nI (5 * a + k)), .int (nI (fS (5 * a + k))), .int (nI d)]) dX7_weighAim_94 (by decide) rfl ?_
        refine AX.goto (pc := 96) (tgt := 146) dX7_weighAim_96 (by decide) ?_
        refine AX.iincN (c := 5 * a + k + 1) (pc := 146) (L' := [.ref 42, .int (nI u), .int (nI a), .int (nI base), .int (nI step), .ref b, .ref (44 + v), .double ((rcS o sd rg (fun d => fo (base + d * step)) r a k).1), .null, .int (nI ((rcS o sd rg (fun d => fo (base + d * step)) r a k).2 + (wtN sd rg (5 * a + k)))), .int (nI (5 * a)), .int (nI (5 * a + k + 1)), .int (nI (fS (5 * a + k))), .int (nI d)]) dX7_weighAim_146 rfl (inc1 _) (by decide) rfl ?_
        refine AX.goto (pc := 149) (tgt := 33) dX7_weighAim_149 (by decide) ?_
        refine AX.sub (L' := [.ref 42, .int (nI u), .int (nI a), .int (nI base), .int (nI step), .ref b, .ref (44 + v), .double ((rcS o sd rg (fun d => fo (base + d * step)) r a k).1), .null, .int (nI ((rcS o sd rg (fun d => fo (base + d * step)) r a k).2 + (wtN sd rg (5 * a + k)))), .int (nI (5 * a)), .int (nI (5 * a + (k + 1))), .null, .null]) ⟨Or.inr rfl, Or.inr rfl, Or.inr rfl, Or.inr rfl, Or.inr rfl, Or.inr rfl, Or.inr rfl, Or.inr rfl, Or.inl rfl, Or.inr rfl, Or.inr rfl, Or.inr rfl, Or.inl rfl, Or.inl rfl, trivial⟩ ?_
        exact ih
      · have hsc : 0 < scN (fS (5 * a + k)) := by
          have : ∀ s, s < 63 → s ≠ 0 → 0 < scN s := by decide
          exact this _ h63 hf0
        by_cases hd0 : d = 0
        · have hz : rcS o sd rg (fun d => fo (base + d * step)) r a (k + 1) = (FP.dadd (rcS o sd rg (fun d => fo (base + d * step)) r a k).1 (odW (wtN sd rg (5 * a + k))), (rcS o sd rg (fun d => fo (base + d * step)) r a k).2) := by rw [hz]; exact (if_neg hf0).trans (if_pos hd0)
          rw [hz] at ih hS1
          refine AX.iload (pc := 33) dX7_weighAim_33 rfl ?_
          refine AX.iload (pc := 35) dX7_weighAim_35 rfl ?_
          refine AX.aload_n (pc := 37) dX7_weighAim_37 rfl ?_
          refine AX.getf (pc := 38) fX7_weighAim_38 (lt_k hn (by omega)) hRS.1 rfl dX7_weighAim_38 ?_
          refine AX.getf (pc := 41) fX7_weighAim_87 (lt_k hn (by omega)) hF.1 rfl dX7_weighAim_41 ?_
          refine AX.iload_n (pc := 44) dX7_weighAim_44 rfl ?_
          refine AX.ialdN (pc := 45) (i := a) (v := (nI (fC a))) (lt_k hn (by omega)) d5 (by decide) (by omega) (r5 _ h2) dX7_weighAim_45 ?_
          refine AX.iaddN (pc := 46) (c := 5 * a + (fC a)) dX7_weighAim_46 rfl ?_
          refine AX.icmp_geN (pc := 47) (tgt := 152) dX7_weighAim_47 (by decide) (by omega) (by omega) (fun q => absurd q (by omega)) (fun hc47 => ?_)
          refine AX.aload_n (pc := 50) dX7_weighAim_50 rfl ?_
          refine AX.getf (pc := 51) fX7_weighAim_38 (lt_k hn (by omega)) hRS.1 rfl dX7_weighAim_51 ?_
          refine AX.getf (pc := 54) fX7_weighAim_92 (lt_k hn (by omega)) hF.1 rfl dX7_weighAim_54 ?_
          refine AX.iload (pc := 57) dX7_weighAim_57 rfl ?_
          refine AX.ialdN (pc := 59) (i := 5 * a + k) (v := (nI (fS (5 * a + k)))) (lt_k hn (by omega)) d6 (by decide) (by omega) (r6 _ (by omega)) dX7_weighAim_59 ?_
          refine AX.istore (pc := 60) (L' := [.ref 42, .int (nI u), .int (nI a), .int (nI base), .int (nI step), .ref b, .ref (44 + v), .double ((rcS o sd rg (fun d => fo (base + d * step)) r a k).1), .null, .int (nI ((rcS o sd rg (fun d => fo (base + d * step)) r a k).2)), .int (nI (5 * a)), .int (nI (5 * a + k)), .int (nI (fS (5 * a + k))), .null]) dX7_weighAim_60 (by decide) rfl ?_
          refine AX.aload_n (pc := 62) dX7_weighAim_62 rfl ?_
          refine AX.getf (pc := 63) fX7_weighAim_31 (lt_k hn (by omega)) hRS.1 rfl dX7_weighAim_63 ?_
          refine AX.iload (pc := 66) dX7_weighAim_66 rfl ?_
          refine AX.ialdN (pc := 68) (i := fS (5 * a + k)) (v := (nI d)) (lt_k hn (by omega)) dn (by decide) h63 ((qn _ h63).trans (by show oI (nxN o r (fS (5 * a + k))) = _; rw [hx]; rfl)) dX7_weighAim_68 ?_
          refine AX.istore (pc := 69) (L' := [.ref 42, .int (nI u), .int (nI a), .int (nI base), .int (nI step), .ref b, .ref (44 + v), .double ((rcS o sd rg (fun d => fo (base + d * step)) r a k).1), .null, .int (nI ((rcS o sd rg (fun d => fo (base + d * step)) r a k).2)), .int (nI (5 * a)), .int (nI (5 * a + k)), .int (nI (fS (5 * a + k))), .int (nI d)]) dX7_weighAim_69 (by decide) rfl ?_
          refine AX.iload (pc := 71) dX7_weighAim_71 rfl ?_
          refine AX.bipush (pc := 73) (v := (-5)) dX7_weighAim_73 (by decide) ?_
          refine AX.icmp_eq (pc := 75) (tgt := 83) dX7_weighAim_75 (by decide) (fun q => absurd q (nI_m5 (by omega))) (fun hc75 => ?_)
          refine AX.iload (pc := 78) dX7_weighAim_78 rfl ?_
          refine AX.if_neN (pc := 80) (tgt := 99) dX7_weighAim_80 (by decide) (by omega) (fun hc80 => ?_) (fun q => absurd q (by omega))
          refine AX.iload (pc := 99) dX7_weighAim_99 rfl ?_
          refine AX.if_neN (pc := 101) (tgt := 120) dX7_weighAim_101 (by decide) (by omega) (fun q => absurd q (by omega)) (fun hc101 => ?_)
          refine AX.dload (pc := 104) dX7_weighAim_104 rfl ?_
          refine AX.aload (pc := 106) dX7_weighAim_106 rfl ?_
          refine AX.getf (pc := 108) fX7_weighAim_100 (lt_k hn (by omega)) eb rfl dX7_weighAim_108 ?_
          refine AX.iload (pc := 111) dX7_weighAim_111 rfl ?_
          refine AX.daldN (pc := 113) (i := 5 * a + k) (v := (odW (wtN sd rg (5 * a + k)))) (lt_k hn (by omega)) do_ (by decide) (by omega) (qo _ (by omega)) dX7_weighAim_113 ?_
          refine AX.dadd (pc := 114) dX7_weighAim_114 (vfn hS1.1) ?_
          refine AX.dstore (pc := 115) (L' := [.ref 42, .int (nI u), .int (nI a), .int (nI base), .int (nI step), .ref b, .ref (44 + v), .double (FP.dadd ((rcS o sd rg (fun d => fo (base + d * step)) r a k).1) (odW (wtN sd rg (5 * a + k)))), .null, .int (nI ((rcS o sd rg (fun d => fo (base + d * step)) r a k).2)), .int (nI (5 * a)), .int (nI (5 * a + k)), .int (nI (fS (5 * a + k))), .int (nI d)]) dX7_weighAim_115 (by decide) rfl ?_
          refine AX.goto (pc := 117) (tgt := 146) dX7_weighAim_117 (by decide) ?_
          refine AX.iincN (c := 5 * a + k + 1) (pc := 146) (L' := [.ref 42, .int (nI u), .int (nI a), .int (nI base), .int (nI step), .ref b, .ref (44 + v), .double (FP.dadd ((rcS o sd rg (fun d => fo (base + d * step)) r a k).1) (odW (wtN sd rg (5 * a + k)))), .null, .int (nI ((rcS o sd rg (fun d => fo (base + d * step)) r a k).2)), .int (nI (5 * a)), .int (nI (5 * a + k + 1)), .int (nI (fS (5 * a + k))), .int (nI d)]) dX7_weighAim_146 rfl (inc1 _) (by decide) rfl ?_
          refine AX.goto (pc := 149) (tgt := 33) dX7_weighAim_149 (by decide) ?_
          refine AX.sub (L' := [.ref 42, .int (nI u), .int (nI a), .int (nI base), .int (nI step), .ref b, .ref (44 + v), .double (FP.dadd ((rcS o sd rg (fun d => fo (base + d * step)) r a k).1) (odW (wtN sd rg (5 * a + k)))), .null, .int (nI ((rcS o sd rg (fun d => fo (base + d * step)) r a k).2)), .int (nI (5 * a)), .int (nI (5 * a + (k + 1))), .null, .null]) ⟨Or.inr rfl, Or.inr rfl, Or.inr rfl, Or.inr rfl, Or.inr rfl, Or.inr rfl, Or.inr rfl, Or.inr rfl, Or.inl rfl, Or.inr rfl, Or.inr rfl, Or.inr rfl, Or.inl rfl, Or.inl rfl, trivial⟩ ?_
          exact ih
        · have hz : rcS o sd rg (fun d => fo (base + d * step)) r a (k + 1) = (FP.dadd (rcS o sd rg (fun d => fo (base + d * step)) r a k).1 (FP.dmul (odW (wtN sd rg (5 * a + k))) (FP.dsub FP.dconst1 (fo (base + d * step)))), (rcS o sd rg (fun d => fo (base + d * step)) r a k).2) := by rw [hz]; exact (if_neg hf0).trans (if_neg hd0)
          rw [hz] at ih hS1
          have hVd := hV d (by omega) (by unfold leN; split <;> omega)
          refine AX.iload (pc := 33) dX7_weighAim_33 rfl ?_
          refine AX.iload (pc := 35) dX7_weighAim_35 rfl ?_
          refine AX.aload_n (pc := 37) dX7_weighAim_37 rfl ?_
          refine AX.getf (pc := 38) fX7_weighAim_38 (lt_k hn (by omega)) hRS.1 rfl dX7_weighAim_38 ?_
          refine AX.getf (pc := 41) fX7_weighAim_87 (lt_k hn (by omega)) hF.1 rfl dX7_weighAim_41 ?_
          refine AX.iload_n (pc := 44) dX7_weighAim_44 rfl ?_
          refine AX.ialdN (pc := 45) (i := a) (v := (nI (fC a))) (lt_k hn (by omega)) d5 (by decide) (by omega) (r5 _ h2) dX7_weighAim_45 ?_
          refine AX.iaddN (pc := 46) (c := 5 * a + (fC a)) dX7_weighAim_46 rfl ?_
          refine AX.icmp_geN (pc := 47) (tgt := 152) dX7_weighAim_47 (by decide) (by omega) (by omega) (fun q => absurd q (by omega)) (fun hc47 => ?_)
          refine AX.aload_n (pc := 50) dX7_weighAim_50 rfl ?_
          refine AX.getf (pc := 51) fX7_weighAim_38 (lt_k hn (by omega)) hRS.1 rfl dX7_weighAim_51 ?_
          refine AX.getf (pc := 54) fX7_weighAim_92 (lt_k hn (by omega)) hF.1 rfl dX7_weighAim_54 ?_
          refine AX.iload (pc := 57) dX7_weighAim_57 rfl ?_
          refine AX.ialdN (pc := 59) (i := 5 * a + k) (v := (nI (fS (5 * a + k)))) (lt_k hn (by omega)) d6 (by decide) (by omega) (r6 _ (by omega)) dX7_weighAim_59 ?_
          refine AX.istore (pc := 60) (L' := [.ref 42, .int (nI u), .int (nI a), .int (nI base), .int (nI step), .ref b, .ref (44 + v), .double ((rcS o sd rg (fun d => fo (base + d * step)) r a k).1), .null, .int (nI ((rcS o sd rg (fun d => fo (base + d * step)) r a k).2)), .int (nI (5 * a)), .int (nI (5 * a + k)), .int (nI (fS (5 * a + k))), .null]) dX7_weighAim_60 (by decide) rfl ?_
          refine AX.aload_n (pc := 62) dX7_weighAim_62 rfl ?_
          refine AX.getf (pc := 63) fX7_weighAim_31 (lt_k hn (by omega)) hRS.1 rfl dX7_weighAim_63 ?_
          refine AX.iload (pc := 66) dX7_weighAim_66 rfl ?_
          refine AX.ialdN (pc := 68) (i := fS (5 * a + k)) (v := (nI d)) (lt_k hn (by omega)) dn (by decide) h63 ((qn _ h63).trans (by show oI (nxN o r (fS (5 * a + k))) = _; rw [hx]; rfl)) dX7_weighAim_68 ?_
          refine AX.istore (pc := 69) (L' := [.ref 42, .int (nI u), .int (nI a), .int (nI base), .int (nI step), .ref b, .ref (44 + v), .double ((rcS o sd rg (fun d => fo (base + d * step)) r a k).1), .null, .int (nI ((rcS o sd rg (fun d => fo (base + d * step)) r a k).2)), .int (nI (5 * a)), .int (nI (5 * a + k)), .int (nI (fS (5 * a + k))), .int (nI d)]) dX7_weighAim_69 (by decide) rfl ?_
          refine AX.iload (pc := 71) dX7_weighAim_71 rfl ?_
          refine AX.bipush (pc := 73) (v := (-5)) dX7_weighAim_73 (by decide) ?_
          refine AX.icmp_eq (pc := 75) (tgt := 83) dX7_weighAim_75 (by decide) (fun q => absurd q (nI_m5 (by omega))) (fun hc75 => ?_)
          refine AX.iload (pc := 78) dX7_weighAim_78 rfl ?_
          refine AX.if_neN (pc := 80) (tgt := 99) dX7_weighAim_80 (by decide) (by omega) (fun hc80 => ?_) (fun q => absurd q (by omega))
          refine AX.iload (pc := 99) dX7_weighAim_99 rfl ?_
          refine AX.if_neN (pc := 101) (tgt := 120) dX7_weighAim_101 (by decide) (by omega) (fun hc101 => ?_) (fun q => absurd q (by omega))
          refine AX.dload (pc := 120) dX7_weighAim_120 rfl ?_
          refine AX.aload (pc := 122) dX7_weighAim_122 rfl ?_
          refine AX.getf (pc := 124) fX7_weighAim_100 (lt_k hn (by omega)) eb rfl dX7_weighAim_124 ?_
          refine AX.iload (pc := 127) dX7_weighAim_127 rfl ?_
          refine AX.daldN (pc := 129) (i := 5 * a + k) (v := (odW (wtN sd rg (5 * a + k)))) (lt_k hn (by omega)) do_ (by decide) (by omega) (qo _ (by omega)) dX7_weighAim_129 ?_
          refine AX.dconst1 (pc := 130) dX7_weighAim_130 ?_
          refine AX.aload (pc := 131) dX7_weighAim_131 rfl ?_
          refine AX.iload_n (pc := 133) dX7_weighAim_133 rfl ?_
          refine AX.iload (pc := 134) dX7_weighAim_134 rfl ?_
          refine AX.iload (pc := 136) dX7_weighAim_136 rfl ?_
          refine AX.imulN (pc := 138) (c := d * step) dX7_weighAim_138 rfl ?_
          refine AX.iaddN (pc := 139) (c := base + (d * step)) dX7_weighAim_139 rfl ?_
          refine AX.daldN (pc := 140) (i := base + (d * step)) (v := (fo (base + d * step))) (lt_k hn (by omega)) eo (by decide) (hb5 d (by omega)) rfl dX7_weighAim_140 ?_
          refine AX.dsub (pc := 141) dX7_weighAim_141 (vfn (sub1_ok hn1 hVd).1) ?_
          refine AX.dmul (pc := 142) dX7_weighAim_142 (vfn (odd_mulU hwt hn1 (sub1_ok hn1 hVd)).1) ?_
          refine AX.dadd (pc := 143) dX7_weighAim_143 (vfn hS1.1) ?_
          refine AX.dstore (pc := 144) (L' := [.ref 42, .int (nI u), .int (nI a), .int (nI base), .int (nI step), .ref b, .ref (44 + v), .double (FP.dadd ((rcS o sd rg (fun d => fo (base + d * step)) r a k).1) (FP.dmul (odW (wtN sd rg (5 * a + k))) (FP.dsub FP.dconst1 (fo (base + d * step))))), .null, .int (nI ((rcS o sd rg (fun d => fo (base + d * step)) r a k).2)), .int (nI (5 * a)), .int (nI (5 * a + k)), .int (nI (fS (5 * a + k))), .int (nI d)]) dX7_weighAim_144 (by decide) rfl ?_
          refine AX.iincN (c := 5 * a + k + 1) (pc := 146) (L' := [.ref 42, .int (nI u), .int (nI a), .int (nI base), .int (nI step), .ref b, .ref (44 + v), .double (FP.dadd ((rcS o sd rg (fun d => fo (base + d * step)) r a k).1) (FP.dmul (odW (wtN sd rg (5 * a + k))) (FP.dsub FP.dconst1 (fo (base + d * step))))), .null, .int (nI ((rcS o sd rg (fun d => fo (base + d * step)) r a k).2)), .int (nI (5 * a)), .int (nI (5 * a + k + 1)), .int (nI (fS (5 * a + k))), .int (nI d)]) dX7_weighAim_146 rfl (inc1 _) (by decide) rfl ?_
          refine AX.goto (pc := 149) (tgt := 33) dX7_weighAim_149 (by decide) ?_
          refine AX.sub (L' := [.ref 42, .int (nI u), .int (nI a), .int (nI base), .int (nI step), .ref b, .ref (44 + v), .double (FP.dadd ((rcS o sd rg (fun d => fo (base + d * step)) r a k).1) (FP.dmul (odW (wtN sd rg (5 * a + k))) (FP.dsub FP.dconst1 (fo (base + d * step))))), .null, .int (nI ((rcS o sd rg (fun d => fo (base + d * step)) r a k).2)), .int (nI (5 * a)), .int (nI (5 * a + (k + 1))), .null, .null]) ⟨Or.inr rfl, Or.inr rfl, Or.inr rfl, Or.inr rfl, Or.inr rfl, Or.inr rfl, Or.inr rfl, Or.inr rfl, Or.inl rfl, Or.inr rfl, Or.inr rfl, Or.inr rfl, Or.inl rfl, Or.inl rfl, trivial⟩ ?_
          exact ih
theorem c_weighAim (w : XW) (h : XH) {o sd rg dk ck r a u v b n base step : Nat} {fo fs ft : Nat → UInt64} (hn : 57 ≤ h.1) (hRS : RS h) (hF : FA h) (hu : v + u = 1) (hbu : b = 10 + 16 * u) (hM : MI h b sd rg dk ck) (hN : iA h 56 63 (fun s => oI (nxN o r s))) (eo : h.2 (44 + v) = .inl (2, 625, .inr (.inr (.inr (.inl fo))))) (hb5 : ∀ d, d < r → base + d * step < 625) (hn1 : n ≤ 10000) (hV : ∀ d, d < r → leN o ≤ d → rB n (fo (base + d * step))) (e1 : h.2 (51 + u) = .inl (2, 63, .inr (.inr (.inr (.inl fs))))) (e2 : h.2 (54 + u) = .inl (2, 63, .inr (.inr (.inr (.inl ft))))) (h0 : 0 < r) (hr : r ≤ 24) (h1 : 1 ≤ a) (h2 : a < 63) : CA w M_X7_weighAim [.ref 42, .int (nI u), .int (nI a), .int (nI base), .int (nI step)] h (fun v' h' => v' = none ∧ Same [51 + u, 54 + u] h h' ∧ h'.2 (51 + u) = .inl (2, 63, .inr (.inr (.inr (.inl (vf_upd fs a (rcS o sd rg (fun d => fo (base + d * step)) r a (fC a)).1))))) ∧ h'.2 (54 + u) = .inl (2, 63, .inr (.inr (.inr (.inl (vf_upd ft a (odW (rcS o sd rg (fun d => fo (base + d * step)) r a (fC a)).2))))))) := by
  refine CA.of (by decide) rfl (fun _ => Nat.le_of_ble_eq_true rfl) ?_
  obtain ⟨hb, hs, hrg, eb, ⟨cw, dw, qw⟩, ⟨co, do_, qo⟩⟩ := id hM
  obtain ⟨cn, dn, qn⟩ := id hN
  obtain ⟨c5, d5, r5⟩ := id hF.2.1
  obtain ⟨c6, d6, r6⟩ := id hF.2.2.1
  have hc5 := fC_le a
  obtain ⟨f9, e9_, q9⟩ := id hRS.2.1
  obtain ⟨f43, e43, q43⟩ := id hRS.2.2.1
  obtain ⟨f50, e50, q50⟩ := id hRS.2.2.2.2.1
  obtain ⟨f53, e53, q53⟩ := id hRS.2.2.2.2.2
  show AX w M_X7_weighAim 0 0 0 [.ref 42, .int (nI u), .int (nI a), .int (nI base), .int (nI step), .null, .null, .null, .null, .null, .null, .null, .null, .null] [] h _
  refine AX.aload_n (pc := 0) dX7_weighAim_0 rfl ?_
  refine AX.getf (pc := 1) fX7_weighAim_42 (lt_k hn (by omega)) hRS.1 rfl dX7_weighAim_1 ?_
  refine AX.iload_n (pc := 4) dX7_weighAim_4 rfl ?_
  refine AX.aaldN (pc := 5) (i := u) (b := b) (by decide) (lt_k hn (by omega)) e9_ (by decide) (by omega) ((q9 u (by omega)).trans (by rw [hbu])) dX7_weighAim_5 ?_
  refine AX.astore (pc := 6) (L' := [.ref 42, .int (nI u), .int (nI a), .int (nI base), .int (nI step), .ref b, .null, .null, .null, .null, .null, .null, .null, .null]) dX7_weighAim_6 (by decide) rfl ?_
  refine AX.aload_n (pc := 8) dX7_weighAim_8 rfl ?_
  refine AX.getf (pc := 9) fX7_weighAim_13 (lt_k hn (by omega)) hRS.1 rfl dX7_weighAim_9 ?_
  refine AX.iconst (pc := 12) (v := nI 1) dX7_weighAim_12 (by decide) ?_
  refine AX.iload_n (pc := 13) dX7_weighAim_13 rfl ?_
  refine AX.isubN (pc := 14) (c := v) dX7_weighAim_14 (by omega) ?_
  refine AX.aaldN (pc := 15) (i := v) (b := 44 + v) (by decide) (lt_k hn (by omega)) e43 (by decide) (by omega) (q43 _ (by omega)) dX7_weighAim_15 ?_
  refine AX.astore (pc := 16) (L' := [.ref 42, .int (nI u), .int (nI a), .int (nI base), .int (nI step), .ref b, .ref (44 + v), .null, .null, .null, .null, .null, .null, .null]) dX7_weighAim_16 (by decide) rfl ?_
  refine AX.dconst0 (pc := 18) dX7_weighAim_18 ?_
  refine AX.dstore (pc := 19) (L' := [.ref 42, .int (nI u), .int (nI a), .int (nI base), .int (nI step), .ref b, .ref (44 + v), .double FP.dconst0, .null, .null, .null, .null, .null, .null]) dX7_weighAim_19 (by decide) rfl ?_
  refine AX.iconst (pc := 21) (v := nI 0) dX7_weighAim_21 (by decide) ?_
  refine AX.istore (pc := 22) (L' := [.ref 42, .int (nI u), .int (nI a), .int (nI base), .int (nI step), .ref b, .ref (44 + v), .double FP.dconst0, .null, .int (nI 0), .null, .null, .null, .null]) dX7_weighAim_22 (by decide) rfl ?_
  refine AX.iload_n (pc := 24) dX7_weighAim_24 rfl ?_
  refine AX.iconst (pc := 25) (v := nI 5) dX7_weighAim_25 (by decide) ?_
  refine AX.imul (pc := 26) dX7_weighAim_26 ?_
  refine AX.topi (y := (nI (5 * a))) (by rw [pk_mul, Nat.mul_comm]) ?_
  refine AX.istore (pc := 27) (L' := [.ref 42, .int (nI u), .int (nI a), .int (nI base), .int (nI step), .ref b, .ref (44 + v), .double FP.dconst0, .null, .int (nI 0), .int (nI (5 * a)), .null, .null, .null]) dX7_weighAim_27 (by decide) rfl ?_
  refine AX.iload (pc := 29) dX7_weighAim_29 rfl ?_
  refine AX.istore (pc := 31) (L' := [.ref 42, .int (nI u), .int (nI a), .int (nI base), .int (nI step), .ref b, .ref (44 + v), .double FP.dconst0, .null, .int (nI 0), .int (nI (5 * a)), .int (nI (5 * a)), .null, .null]) dX7_weighAim_31 (by decide) rfl ?_
  exact l_weighAim w h hn hRS hF hu hbu hM hN eo hb5 hn1 hV e1 e2 h0 hr h1 h2 _ (fun h' p q r => ⟨rfl, p, q, r⟩) (fC a) 0 (by omega)
