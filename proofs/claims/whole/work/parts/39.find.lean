/-! ===== FINISHES: the i-th ===== -/
/-- from SPOT s on: the SPOT with which the row begins that has i before it, and how many of its own it has before it -/
def wyF (o k r : Nat) : Nat → Nat → Nat → Nat × Nat
  | 0, s, i => (s, i)
  | g + 1, s, i => if i < wyT o k r s then (s, i) else wyF o k r g (s + 1) (i - wyT o k r s)
theorem wyF_ok {o k r : Nat} : ∀ g t i, t + 1 + g = 62 → i + smN (wyT o k r) t < smN (wyT o k r) 62 → t + 1 ≤ (wyF o k r g (t + 1) i).1 ∧ (wyF o k r g (t + 1) i).1 < 63 ∧ (wyF o k r g (t + 1) i).2 < wyT o k r (wyF o k r g (t + 1) i).1
  | 0, t, i, h1, h2 => by
    have e : t = 61 := by omega
    subst e
    have : smN (wyT o k r) 62 = smN (wyT o k r) 61 + wyT o k r 62 := rfl
    simp only [wyF]
    exact ⟨Nat.le_refl _, by decide, by show i < wyT o k r 62; omega⟩
  | g + 1, t, i, h1, h2 => by
    simp only [wyF]
    by_cases h : i < wyT o k r (t + 1)
    · rw [if_pos h]
      exact ⟨Nat.le_refl _, by omega, h⟩
    · rw [if_neg h]
      have e : smN (wyT o k r) (t + 1) = smN (wyT o k r) t + wyT o k r (t + 1) := rfl
      obtain ⟨a, b, c⟩ := wyF_ok (o := o) (k := k) (r := r) g (t + 1) (i - wyT o k r (t + 1)) (by omega) (by omega)
      exact ⟨by omega, b, c⟩
/-- the i-th row of k SPOTS that finish r -/
def wyGo (o : Nat) : Nat → Nat → Nat → List Nat
  | 0, _, _ => []
  | k + 1, r, i => (wyF o k r 61 1 i).1 :: wyGo o k ((nxN o r (wyF o k r 61 1 i).1).getD 0) (wyF o k r 61 1 i).2
theorem wyGo_step {o k r i d : Nat} (h : i < wyN o (k + 1) r) (hd : nxN o r (wyF o k r 61 1 i).1 = some d) : wyGo o (k + 1) r i = (wyF o k r 61 1 i).1 :: wyGo o k d (wyF o k r 61 1 i).2 := by
  simp only [wyGo]
  rw [hd]
  rfl
theorem wyF_1 {o k r i : Nat} (h : i < wyN o (k + 1) r) : 1 ≤ (wyF o k r 61 1 i).1 ∧ (wyF o k r 61 1 i).1 < 63 ∧ ∃ d, nxN o r (wyF o k r 61 1 i).1 = some d ∧ (wyF o k r 61 1 i).2 < wyN o k d := by
  obtain ⟨a, b, c⟩ := wyF_ok (o := o) (k := k) (r := r) 61 0 i (by decide) h
  refine ⟨a, b, ?_⟩
  have c : (wyF o k r 61 1 i).2 < wyT o k r (wyF o k r 61 1 i).1 := c
  unfold wyT at c
  cases hx : nxN o r (wyF o k r 61 1 i).1 with
  | none => rw [hx] at c; exact absurd c (Nat.not_lt_zero _)
  | some d => rw [hx] at c; exact ⟨d, rfl, c⟩
/-- the i-th FINISH of r: of how many SPOTS, and the how-manieth of those -/
def wyK (o r i : Nat) : Nat × Nat := if i < wyN o 1 r then (1, i) else if i - wyN o 1 r < wyN o 2 r then (2, i - wyN o 1 r) else (3, i - wyN o 1 r - wyN o 2 r)
def wyA (o r : Nat) : Nat := wyN o 1 r + wyN o 2 r + wyN o 3 r
theorem wyK_ok {o r i : Nat} (h : i < wyA o r) : 1 ≤ (wyK o r i).1 ∧ (wyK o r i).1 ≤ 3 ∧ (wyK o r i).2 < wyN o (wyK o r i).1 r := by
  unfold wyA at h
  unfold wyK
  by_cases h1 : i < wyN o 1 r
  · rw [if_pos h1]; exact ⟨by omega, by omega, h1⟩
  · rw [if_neg h1]
    by_cases h2 : i - wyN o 1 r < wyN o 2 r
    · rw [if_pos h2]; exact ⟨by omega, by omega, h2⟩
    · rw [if_neg h2]; exact ⟨by omega, by omega, by show i - wyN o 1 r - wyN o 2 r < wyN o 3 r; omega⟩
theorem l_fillIn (w : XW) (h : XH) {o k p m r r0 i0 : Nat} (hn : 64 ≤ h.1) (hR : RU h o) (e57 : h.2 57 = .inr (1, [.ref 1, .ref 58, .int (bI true), .ref 63, .int (nI m)])) (hT : FT h o 4 0) (hk : k ≤ 2) (hpm : p + (k + 1) = m) (hm : m ≤ 3) (hr : r ≤ 180) (P : Option Value → XH → Prop) : ∀ (g s i : Nat), s + g = 62 → 1 ≤ s → i < 1000000 → AX w M_X2_fillRow 0 0 79 [.ref 57, .int (nI r0), .int (nI i0), .int (nI r), .int (nI ((wyF o k r g s i).2)), .int (nI p), .int (nI ((wyF o k r g s i).1)), .null] [] h P → AX w M_X2_fillRow 0 0 36 [.ref 57, .int (nI r0), .int (nI i0), .int (nI r), .int (nI i), .int (nI p), .int (nI s), .int (nI (wyT o k r s))] [] h P
  | 0, s, i, hg, h1, hi, kk => by
    have e : s = 62 := by omega
    subst e
    have hw := wyT_le o k r 62
    have hw2 := pw_le (k := k) (by omega)
    refine AX.iload (pc := 36) dX2_fillRow_36 rfl ?_
    refine AX.bipush (pc := 38) (v := nI 62) dX2_fillRow_38 (by decide) ?_
    refine AX.icmp_geN (pc := 40) (tgt := 79) dX2_fillRow_40 (by decide) (by decide) (by decide) (fun hc40 => ?_) (fun q => absurd q (by decide))
    refine AX.sub (L' := [.ref 57, .int (nI r0), .int (nI i0), .int (nI r), .int (nI i), .int (nI p), .int (nI 62), .null]) ⟨Or.inr rfl, Or.inr rfl, Or.inr rfl, Or.inr rfl, Or.inr rfl, Or.inr rfl, Or.inr rfl, Or.inl rfl, trivial⟩ ?_
    exact kk
  | g + 1, s, i, hg, h1, hi, kk => by
    have hw := wyT_le o k r s
    have hw2 := pw_le (k := k) (by omega)
    have hz : wyF o k r (g + 1) s i = if i < wyT o k r s then (s, i) else wyF o k r g (s + 1) (i - wyT o k r s) := rfl
    refine AX.iload (pc := 36) dX2_fillRow_36 rfl ?_
    refine AX.bipush (pc := 38) (v := nI 62) dX2_fillRow_38 (by decide) ?_
    refine AX.icmp_geN (pc := 40) (tgt := 79) dX2_fillRow_40 (by decide) (by omega) (by decide) (fun q => absurd q (by omega)) (fun hc40 => ?_)
    refine AX.iload (pc := 43) dX2_fillRow_43 rfl ?_
    refine AX.iload (pc := 45) dX2_fillRow_45 rfl ?_
    refine AX.icmp_ltN (pc := 47) (tgt := 79) dX2_fillRow_47 (by decide) (by omega) (by omega) (fun hc47 => ?_) (fun hc47 => ?_)
    · rw [hz, if_pos (by omega)] at kk
      refine AX.sub (L' := [.ref 57, .int (nI r0), .int (nI i0), .int (nI r), .int (nI i), .int (nI p), .int (nI s), .null]) ⟨Or.inr rfl, Or.inr rfl, Or.inr rfl, Or.inr rfl, Or.inr rfl, Or.inr rfl, Or.inr rfl, Or.inl rfl, trivial⟩ ?_
      exact kk
    · refine AX.iload (pc := 50) dX2_fillRow_50 rfl ?_
      refine AX.iload (pc := 52) dX2_fillRow_52 rfl ?_
      refine AX.isubN (pc := 54) (c := i - wyT o k r s) dX2_fillRow_54 (by omega) ?_
      refine AX.istore (pc := 55) (L' := [.ref 57, .int (nI r0), .int (nI i0), .int (nI r), .int (nI (i - wyT o k r s)), .int (nI p), .int (nI s), .int (nI (wyT o k r s))]) dX2_fillRow_55 (by decide) rfl ?_
      refine AX.iincN (c := s + 1) (pc := 57) (L' := [.ref 57, .int (nI r0), .int (nI i0), .int (nI r), .int (nI (i - wyT o k r s)), .int (nI p), .int (nI (s + 1)), .int (nI (wyT o k r s))]) dX2_fillRow_57 rfl (inc1 _) (by decide) rfl ?_
      refine AX.aload_n (pc := 60) dX2_fillRow_60 rfl ?_
      refine AX.iload_n (pc := 61) dX2_fillRow_61 rfl ?_
      refine AX.iload (pc := 62) dX2_fillRow_62 rfl ?_
      refine AX.aload_n (pc := 64) dX2_fillRow_64 rfl ?_
      refine AX.getf (pc := 65) fX2_fillRow_48 (lt_k hn (by omega)) e57 rfl dX2_fillRow_65 ?_
      refine AX.iload (pc := 68) dX2_fillRow_68 rfl ?_
      refine AX.isubN (pc := 70) (c := k + 1) dX2_fillRow_70 (by omega) ?_
      refine AX.callV (pc := 71) (M2 := M_X2_countThrough) (As := [.int (nI r), .int (nI (s + 1)), .int (nI (k + 1))]) (rest := []) (c_countThrough w h hn hR e57 hT hk (Or.inl (by omega)) hr (s := s + 1) (by omega) (by omega)) xc_X2_fillRow__X2_countThrough gX2_fillRow_X2_countThrough (ci := 1) rfl (lt_k hn (by omega)) e57 rfl (Nat.le_of_ble_eq_true rfl) dX2_fillRow_71 ?_
      rintro _ h9 ⟨rfl, e9⟩
      have e9 := e9.symm
      subst e9
      show AX w M_X2_fillRow 0 0 74 [.ref 57, .int (nI r0), .int (nI i0), .int (nI r), .int (nI (i - wyT o k r s)), .int (nI p), .int (nI (s + 1)), .int (nI (wyT o k r s))] [.int (nI (wyT o k r (s + 1)))] _ _
      refine AX.istore (pc := 74) (L' := [.ref 57, .int (nI r0), .int (nI i0), .int (nI r), .int (nI (i - wyT o k r s)), .int (nI p), .int (nI (s + 1)), .int (nI (wyT o k r (s + 1)))]) dX2_fillRow_74 (by decide) rfl ?_
      refine AX.goto (pc := 76) (tgt := 36) dX2_fillRow_76 (by decide) ?_
      rw [hz, if_neg (by omega)] at kk
      exact l_fillIn w h hn hR e57 hT hk hpm hm hr P g (s + 1) (i - wyT o k r s) (by omega) (by omega) (by omega) kk
theorem l_fillOut (w : XW) (P : Option Value → XH → Prop) (h0 : XH) {o m r0 i0 : Nat} (X : List Nat) (hm : m ≤ 3) (hP : ∀ h', Same [63] h0 h' → RU h' o → h'.2 57 = .inr (1, [.ref 1, .ref 58, .int (bI true), .ref 63, .int (nI m)]) → FT h' o 4 0 → (∃ fr : Nat → Int32, h'.2 63 = .inl (0, 3, .inl fr) ∧ ∀ j, j < m → fr j = nI (X.getD j 0)) → P none h') : ∀ (kk p r i : Nat) (h : XH) (fr : Nat → Int32), p + kk = m → 64 ≤ h.1 → RU h o → h.2 57 = .inr (1, [.ref 1, .ref 58, .int (bI true), .ref 63, .int (nI m)]) → FT h o 4 0 → r ≤ 180 → i < wyN o kk r → h.2 63 = .inl (0, 3, .inl fr) → (∀ j, j < p → fr j = nI (X.getD j 0)) → (∀ j, X.getD (p + j) 0 = (wyGo o kk r i).getD j 0) → Same [63] h0 h → AX w M_X2_fillRow 0 0 8 [.ref 57, .int (nI r0), .int (nI i0), .int (nI r), .int (nI i), .int (nI p), .null, .null] [] h P
  | 0, p, r, i, h, fr, hpm, hn, hR, e57, hT, hr, hi, e63, q, hX, hS => by
    have e : p = m := by omega
    subst e
    refine AX.iload (pc := 8) dX2_fillRow_8 rfl ?_
    refine AX.aload_n (pc := 10) dX2_fillRow_10 rfl ?_
    refine AX.getf (pc := 11) fX2_fillRow_48 (lt_k hn (by omega)) e57 rfl dX2_fillRow_11 ?_
    refine AX.icmp_geN (pc := 14) (tgt := 105) dX2_fillRow_14 (by decide) (by omega) (by omega) (fun hc14 => ?_) (fun q => absurd q (by omega))
    refine AX.vret (pc := 105) dX2_fillRow_105 rfl (by decide) (by decide) ?_
    exact hP h hS hR e57 hT ⟨fr, e63, q⟩
  | k + 1, p, r, i, h, fr, hpm, hn, hR, e57, hT, hr, hi, e63, q, hX, hS => by
    obtain ⟨a1, a2, d, hd, hi2⟩ := wyF_1 hi
    have hst := wyGo_step hi hd
    have hd2 := nxN_eq hd
    have hle := wyN_le o (k + 1) r
    have hw2 := pw_le (k := k + 1) (by omega)
    refine AX.iload (pc := 8) dX2_fillRow_8 rfl ?_
    refine AX.aload_n (pc := 10) dX2_fillRow_10 rfl ?_
    refine AX.getf (pc := 11) fX2_fillRow_48 (lt_k hn (by omega)) e57 rfl dX2_fillRow_11 ?_
    refine AX.icmp_geN (pc := 14) (tgt := 105) dX2_fillRow_14 (by decide) (by omega) (by omega) (fun q => absurd q (by omega)) (fun hc14 => ?_)
    refine AX.iconst (pc := 17) (v := nI 1) dX2_fillRow_17 (by decide) ?_
    refine AX.istore (pc := 18) (L' := [.ref 57, .int (nI r0), .int (nI i0), .int (nI r), .int (nI i), .int (nI p), .int (nI 1), .null]) dX2_fillRow_18 (by decide) rfl ?_
    refine AX.aload_n (pc := 20) dX2_fillRow_20 rfl ?_
    refine AX.iload_n (pc := 21) dX2_fillRow_21 rfl ?_
    refine AX.iload (pc := 22) dX2_fillRow_22 rfl ?_
    refine AX.aload_n (pc := 24) dX2_fillRow_24 rfl ?_
    refine AX.getf (pc := 25) fX2_fillRow_48 (lt_k hn (by omega)) e57 rfl dX2_fillRow_25 ?_
    refine AX.iload (pc := 28) dX2_fillRow_28 rfl ?_
    refine AX.isubN (pc := 30) (c := k + 1) dX2_fillRow_30 (by omega) ?_
    refine AX.callV (pc := 31) (M2 := M_X2_countThrough) (As := [.int (nI r), .int (nI 1), .int (nI (k + 1))]) (rest := []) (c_countThrough w h hn hR e57 hT (j := k) (by omega) (Or.inl (by omega)) hr (s := 1) (by decide) (by decide)) xc_X2_fillRow__X2_countThrough gX2_fillRow_X2_countThrough (ci := 1) rfl (lt_k hn (by omega)) e57 rfl (Nat.le_of_ble_eq_true rfl) dX2_fillRow_31 ?_
    rintro _ h9 ⟨rfl, e9⟩
    have e9 := e9.symm
    subst e9
    show AX w M_X2_fillRow 0 0 34 [.ref 57, .int (nI r0), .int (nI i0), .int (nI r), .int (nI i), .int (nI p), .int (nI 1), .null] [.int (nI (wyT o k r 1))] _ _
    refine AX.istore (pc := 34) (L' := [.ref 57, .int (nI r0), .int (nI i0), .int (nI r), .int (nI i), .int (nI p), .int (nI 1), .int (nI (wyT o k r 1))]) dX2_fillRow_34 (by decide) rfl ?_
    refine l_fillIn w h hn hR e57 hT (k := k) (by omega) hpm hm hr P 61 1 i (by decide) (by decide) (by omega) ?_
    refine AX.aload_n (pc := 79) dX2_fillRow_79 rfl ?_
    refine AX.getf (pc := 80) fX2_fillRow_16 (lt_k hn (by omega)) e57 rfl dX2_fillRow_80 ?_
    refine AX.iload (pc := 83) dX2_fillRow_83 rfl ?_
    refine AX.iload (pc := 85) dX2_fillRow_85 rfl ?_
    refine AX.iastN (pc := 87) (i := p) (g := upd fr p (nI ((wyF o k r 61 1 i).1))) (lt_k hn (by omega)) e63 (by decide) (by omega) rfl dX2_fillRow_87 ?_
    have sx : Same [63] h (xset h 63 (.inl (0, 3, .inl (upd fr p (nI ((wyF o k r 61 1 i).1)))))) := Same.rest
    refine AX.aload_n (pc := 88) dX2_fillRow_88 rfl ?_
    refine AX.getf (pc := 89) fX2_fillRow_20 (lt_k hn (by omega)) ((xset_ne (by decide)).trans e57) rfl dX2_fillRow_89 ?_
    refine AX.iload_n (pc := 92) dX2_fillRow_92 rfl ?_
    refine AX.iload (pc := 93) dX2_fillRow_93 rfl ?_
    refine AX.callV (pc := 95) (M2 := M_X9_restBehind) (As := [.int (nI r), .int (nI ((wyF o k r 61 1 i).1))]) (rest := []) (c_restBehind w (xset h 63 (.inl (0, 3, .inl (upd fr p (nI (wyF o k r 61 1 i).1))))) (sx.le (show 4 ≤ h.1 by omega)) (hR.same sx (by simp) (by simp) (by simp)) r (wyF o k r 61 1 i).1 (by omega) a2) xc_X2_fillRow__X9_restBehind gX2_fillRow_X9_restBehind (ci := 8) rfl (lt_k hn (by omega)) ((xset_ne (by decide)).trans hR.2.1) rfl (Nat.le_of_ble_eq_true rfl) dX2_fillRow_95 ?_
    rintro _ h9 ⟨rfl, e9⟩
    subst e9
    rw [hd]
    show AX w M_X2_fillRow 0 0 98 [.ref 57, .int (nI r0), .int (nI i0), .int (nI r), .int (nI ((wyF o k r 61 1 i).2)), .int (nI p), .int (nI ((wyF o k r 61 1 i).1)), .null] [.int (nI d)] _ _
    show AX w M_X2_fillRow 0 0 98 [.ref 57, .int (nI r0), .int (nI i0), .int (nI r), .int (nI ((wyF o k r 61 1 i).2)), .int (nI p), .int (nI ((wyF o k r 61 1 i).1)), .null] [.int (nI d)] _ _
    refine AX.istore_n (pc := 98) (L' := [.ref 57, .int (nI r0), .int (nI i0), .int (nI d), .int (nI ((wyF o k r 61 1 i).2)), .int (nI p), .int (nI ((wyF o k r 61 1 i).1)), .null]) dX2_fillRow_98 (by decide) rfl ?_
    refine AX.iincN (c := p + 1) (pc := 99) (L' := [.ref 57, .int (nI r0), .int (nI i0), .int (nI d), .int (nI ((wyF o k r 61 1 i).2)), .int (nI (p + 1)), .int (nI ((wyF o k r 61 1 i).1)), .null]) dX2_fillRow_99 rfl (inc1 _) (by decide) rfl ?_
    refine AX.goto (pc := 102) (tgt := 8) dX2_fillRow_102 (by decide) ?_
    refine AX.sub (L' := [.ref 57, .int (nI r0), .int (nI i0), .int (nI d), .int (nI ((wyF o k r 61 1 i).2)), .int (nI (p + 1)), .null, .null]) ⟨Or.inr rfl, Or.inr rfl, Or.inr rfl, Or.inr rfl, Or.inr rfl, Or.inr rfl, Or.inl rfl, Or.inl rfl, trivial⟩ ?_
    refine l_fillOut w P h0 X hm hP k (p + 1) d _ _ _ (by omega) (sx.le hn) (hR.same sx (by simp) (by simp) (by simp)) (sx.at (by simp) e57) (hT.same sx (by simp) (fun k hk => by simp; omega)) (by omega) hi2 (xset_same _ _ _) (upd_ext q ?_) (fun j => ?_) (hS.trans sx)
    · have := hX 0
      rw [hst] at this
      rw [Nat.add_zero] at this
      rw [this]
      rfl
    · have := hX (j + 1)
      rw [hst, show p + (j + 1) = p + 1 + j by omega] at this
      rw [this]
      rfl
theorem c_fillRow (w : XW) (h : XH) {o m r i : Nat} {fr : Nat → Int32} (hn : 64 ≤ h.1) (hR : RU h o) (e57 : h.2 57 = .inr (1, [.ref 1, .ref 58, .int (bI true), .ref 63, .int (nI m)])) (hT : FT h o 4 0) (hm : m ≤ 3) (hr : r ≤ 180) (hi : i < wyN o m r) (e63 : h.2 63 = .inl (0, 3, .inl fr)) : CA w M_X2_fillRow [.ref 57, .int (nI r), .int (nI i)] h (fun v' h' => v' = none ∧ Same [63] h h' ∧ RU h' o ∧ h'.2 57 = .inr (1, [.ref 1, .ref 58, .int (bI true), .ref 63, .int (nI m)]) ∧ FT h' o 4 0 ∧ (∃ fr : Nat → Int32, h'.2 63 = .inl (0, 3, .inl fr) ∧ ∀ j, j < m → fr j = nI ((wyGo o m r i).getD j 0))) := by
  refine CA.of (by decide) rfl (fun _ => Nat.le_of_ble_eq_true rfl) ?_
  show AX w M_X2_fillRow 0 0 0 [.ref 57, .int (nI r), .int (nI i), .null, .null, .null, .null, .null] [] h _
  refine AX.iload_n (pc := 0) dX2_fillRow_0 rfl ?_
  refine AX.istore_n (pc := 1) (L' := [.ref 57, .int (nI r), .int (nI i), .int (nI r), .null, .null, .null, .null]) dX2_fillRow_1 (by decide) rfl ?_
  refine AX.iload_n (pc := 2) dX2_fillRow_2 rfl ?_
  refine AX.istore (pc := 3) (L' := [.ref 57, .int (nI r), .int (nI i), .int (nI r), .int (nI i), .null, .null, .null]) dX2_fillRow_3 (by decide) rfl ?_
  refine AX.iconst (pc := 5) (v := nI 0) dX2_fillRow_5 (by decide) ?_
  refine AX.istore (pc := 6) (L' := [.ref 57, .int (nI r), .int (nI i), .int (nI r), .int (nI i), .int (nI 0), .null, .null]) dX2_fillRow_6 (by decide) rfl ?_
  exact l_fillOut w _ h (wyGo o m r i) hm (fun h' a b c d e => ⟨rfl, a, b, c, d, e⟩) m 0 r i h fr (by omega) hn hR e57 hT hr hi e63 (fun j hj => absurd hj (Nat.not_lt_zero _)) (fun j => by rw [Nat.zero_add]) Same.rf
theorem nI_neg {x : Int32} {n : Nat} (h : x < 0) (e : x = nI n) (hn : n < 2147483648) : False := by
  subst e
  have h1 : (nI n).toInt < (0 : Int32).toInt := Int32.lt_iff_toInt_lt.mp h
  rw [nI_toInt (by omega)] at h1
  have h2 : (0 : Int32).toInt = 0 := by decide
  omega
theorem c_findNeg (w : XW) (h : XH) {r : Nat} {x : Int32} (hx : x < 0) : CE w M_X2_find [.ref 57, .int (nI r), .int x] h (some (.int (bI false))) h := by
  refine CA.of (by decide) rfl (fun _ => Nat.le_of_ble_eq_true rfl) ?_
  show AX w M_X2_find 0 0 0 [.ref 57, .int (nI r), .int x, .null, .null] [] h _
  refine AX.iload_n (pc := 0) dX2_find_0 rfl ?_
  refine AX.if_lt (pc := 1) (tgt := 13) dX2_find_1 (by decide) (fun hc1 => ?_) (fun hc1 => ?_)
  · refine AX.iconst (pc := 13) (v := nI 0) dX2_find_13 (by decide) ?_
    refine AX.iret (pc := 14) dX2_find_14 rfl rfl (by decide) (by decide) ?_
    exact ⟨rfl, rfl⟩
  · exact absurd hx hc1
theorem c_find (w : XW) (h : XH) {o sz r n : Nat} {fr : Nat → Int32} (hn : 64 ≤ h.1) (hR : RU h o) (hI : FI h o sz) (hr : r ≤ 180) (hn2 : n < 2147483648) (e63 : h.2 63 = .inl (0, 3, .inl fr)) : CA w M_X2_find [.ref 57, .int (nI r), .int (nI n)] h (fun v' h' => v' = some (.int (bI (decide (n < wyA o r)))) ∧ (n < wyA o r → Same [57, 60, 61, 62, 63] h h' ∧ RU h' o ∧ FI h' o (wyK o r n).1 ∧ (∃ fr : Nat → Int32, h'.2 63 = .inl (0, 3, .inl fr) ∧ ∀ j, j < (wyK o r n).1 → fr j = nI ((wyGo o (wyK o r n).1 r (wyK o r n).2).getD j 0))) ∧ (¬ n < wyA o r → Same [57, 60, 61, 62] h h' ∧ RU h' o ∧ FI h' o sz)) := by
  refine CA.of (by decide) rfl (fun _ => Nat.le_of_ble_eq_true rfl) ?_
  obtain ⟨kn, e57, -⟩ := id hI
  have b1 := Nat.le_trans (wyN_le o 1 r) (pw_le (k := 1) (by decide))
  have b2 := Nat.le_trans (wyN_le o 2 r) (pw_le (k := 2) (by decide))
  have b3 := Nat.le_trans (wyN_le o 3 r) (pw_le (k := 3) (by decide))
  show AX w M_X2_find 0 0 0 [.ref 57, .int (nI r), .int (nI n), .null, .null] [] h _
  refine AX.iload_n (pc := 0) dX2_find_0 rfl ?_
  refine AX.if_ltN (pc := 1) (tgt := 13) dX2_find_1 (by decide) (by omega) (fun q => absurd q (Nat.not_lt_zero _)) (fun hc1 => ?_)
  refine AX.iload_n (pc := 4) dX2_find_4 rfl ?_
  refine AX.aload_n (pc := 5) dX2_find_5 rfl ?_
  refine AX.iload_n (pc := 6) dX2_find_6 rfl ?_
  refine AX.callV (pc := 7) (M2 := M_X2_countOfAll) (As := [.int (nI r)]) (rest := [.int (nI n)]) (c_countOfAll w h hn hR hI hr) xc_X2_find__X2_countOfAll gX2_find_X2_countOfAll (ci := 1) rfl (lt_k hn (by omega)) e57 rfl (Nat.le_of_ble_eq_true rfl) dX2_find_7 ?_
  rintro _ h1 ⟨rfl, s1, R1, x1, T1⟩
  obtain ⟨f58, e58, q58⟩ := id T1.1
  obtain ⟨g1, y1, z1⟩ := T1.2 1 (by decide)
  obtain ⟨g2, y2, z2⟩ := T1.2 2 (by decide)
  show AX w M_X2_find 0 0 10 [.ref 57, .int (nI r), .int (nI n), .null, .null] [.int (nI (wyN o 1 r + wyN o 2 r + wyN o 3 r)), .int (nI n)] _ _
  refine AX.icmp_ltN (pc := 10) (tgt := 15) dX2_find_10 (by decide) (by omega) (by omega) (fun hc10 => ?_) (fun hc10 => ?_)
  · refine AX.iload_n (pc := 15) dX2_find_15 rfl ?_
    refine AX.istore_n (pc := 16) (L' := [.ref 57, .int (nI r), .int (nI n), .int (nI n), .null]) dX2_find_16 (by decide) rfl ?_
    refine AX.iconst (pc := 17) (v := nI 1) dX2_find_17 (by decide) ?_
    refine AX.istore (pc := 18) (L' := [.ref 57, .int (nI r), .int (nI n), .int (nI n), .int (nI 1)]) dX2_find_18 (by decide) rfl ?_
    refine AX.iload (pc := 20) dX2_find_20 rfl ?_
    refine AX.iconst (pc := 22) (v := nI 3) dX2_find_22 (by decide) ?_
    refine AX.icmp_geN (pc := 23) (tgt := 57) dX2_find_23 (by decide) (by decide) (by decide) (fun q => absurd q (by decide)) (fun hc23 => ?_)
    refine AX.iload_n (pc := 26) dX2_find_26 rfl ?_
    refine AX.aload_n (pc := 27) dX2_find_27 rfl ?_
    refine AX.getf (pc := 28) fX2_find_11 (lt_k (s1.le hn) (by omega)) x1 rfl dX2_find_28 ?_
    refine AX.iload (pc := 31) dX2_find_31 rfl ?_
    refine AX.aaldN (pc := 33) (i := 1) (b := 59 + 1) (by decide) (lt_k (s1.le hn) (by omega)) e58 (by decide) (by decide) (q58 _ (by decide)) dX2_find_33 ?_
    refine AX.iload_n (pc := 34) dX2_find_34 rfl ?_
    refine AX.ialdN (pc := 35) (i := r) (v := (nI (wyN o 1 r))) (lt_k (s1.le hn) (by omega)) y1 (by decide) (by omega) (z1 _ (by omega) (by omega)) dX2_find_35 ?_
    refine AX.icmp_ltN (pc := 36) (tgt := 57) dX2_find_36 (by decide) (by omega) (by omega) (fun hc36 => ?_) (fun hc36 => ?_)
    · refine AX.aload_n (pc := 57) dX2_find_57 rfl ?_
      refine AX.iload (pc := 58) dX2_find_58 rfl ?_
      refine AX.putf (pc := 60) (fs' := [.ref 1, .ref 58, .int (bI true), .ref 63, .int (nI 1)]) fX2_find_48 rfl (lt_k (s1.le hn) (by omega)) x1 (Nat.le_of_ble_eq_true rfl) rfl rfl rfl dX2_find_60 ?_
      have sx : Same [57] h1 (xset h1 57 (.inr (1, [.ref 1, .ref 58, .int (bI true), .ref 63, .int (nI 1)]))) := Same.rest
      have hK : wyK o r n = (1, n) := if_pos (by omega)
      refine AX.aload_n (pc := 63) dX2_find_63 rfl ?_
      refine AX.iload_n (pc := 64) dX2_find_64 rfl ?_
      refine AX.iload_n (pc := 65) dX2_find_65 rfl ?_
      refine AX.callV (pc := 66) (M2 := M_X2_fillRow) (As := [.int (nI r), .int (nI n)]) (rest := []) (c_fillRow w (xset h1 57 (.inr (1, [.ref 1, .ref 58, .int (bI true), .ref 63, .int (nI 1)]))) (sx.le (s1.le hn)) (R1.same sx (by simp) (by simp) (by simp)) (xset_same _ _ _) (T1.same sx (by simp) (fun k hk => by simp; omega)) (by decide) hr (show n < wyN o 1 r by omega) (sx.at (by simp) (s1.at (by simp) e63))) xc_X2_find__X2_fillRow gX2_find_X2_fillRow (ci := 1) rfl (lt_k (s1.le hn) (by omega)) (xset_same _ _ _) rfl (Nat.le_of_ble_eq_true rfl) dX2_find_66 ?_
      rintro _ h2 ⟨rfl, s2, R2, x2, T2, r2⟩
      show AX w M_X2_find 0 0 69 [.ref 57, .int (nI r), .int (nI n), .int (nI n), .int (nI 1)] [] _ _
      refine AX.iconst (pc := 69) (v := nI 1) dX2_find_69 (by decide) ?_
      refine AX.iret (pc := 70) dX2_find_70 rfl rfl (by decide) (by decide) ?_
      have hlt : n < wyA o r := by unfold wyA; omega
      exact ⟨by rw [decide_eq_true hlt]; rfl, fun _ => by rw [hK]; exact ⟨(s1.wide (by simp)).trans ((sx.wide (by simp)).trans (s2.wide (by simp))), R2, ⟨true, x2, T2⟩, r2⟩, fun q => absurd hlt q⟩
    · refine AX.iload_n (pc := 39) dX2_find_39 rfl ?_
      refine AX.aload_n (pc := 40) dX2_find_40 rfl ?_
      refine AX.getf (pc := 41) fX2_find_11 (lt_k (s1.le hn) (by omega)) x1 rfl dX2_find_41 ?_
      refine AX.iload (pc := 44) dX2_find_44 rfl ?_
      refine AX.aaldN (pc := 46) (i := 1) (b := 59 + 1) (by decide) (lt_k (s1.le hn) (by omega)) e58 (by decide) (by decide) (q58 _ (by decide)) dX2_find_46 ?_
      refine AX.iload_n (pc := 47) dX2_find_47 rfl ?_
      refine AX.ialdN (pc := 48) (i := r) (v := (nI (wyN o 1 r))) (lt_k (s1.le hn) (by omega)) y1 (by decide) (by omega) (z1 _ (by omega) (by omega)) dX2_find_48 ?_
      refine AX.isubN (pc := 49) (c := n - (wyN o 1 r)) dX2_find_49 (by omega) ?_
      refine AX.istore_n (pc := 50) (L' := [.ref 57, .int (nI r), .int (nI n), .int (nI (n - (wyN o 1 r))), .int (nI 1)]) dX2_find_50 (by decide) rfl ?_
      refine AX.iincN (c := 2) (pc := 51) (L' := [.ref 57, .int (nI r), .int (nI n), .int (nI (n - (wyN o 1 r))), .int (nI 2)]) dX2_find_51 rfl (inc1 _) (by decide) rfl ?_
      refine AX.goto (pc := 54) (tgt := 20) dX2_find_54 (by decide) ?_
      refine AX.iload (pc := 20) dX2_find_20 rfl ?_
      refine AX.iconst (pc := 22) (v := nI 3) dX2_find_22 (by decide) ?_
      refine AX.icmp_geN (pc := 23) (tgt := 57) dX2_find_23 (by decide) (by decide) (by decide) (fun q => absurd q (by decide)) (fun hc23 => ?_)
      refine AX.iload_n (pc := 26) dX2_find_26 rfl ?_
      refine AX.aload_n (pc := 27) dX2_find_27 rfl ?_
      refine AX.getf (pc := 28) fX2_find_11 (lt_k (s1.le hn) (by omega)) x1 rfl dX2_find_28 ?_
      refine AX.iload (pc := 31) dX2_find_31 rfl ?_
      refine AX.aaldN (pc := 33) (i := 2) (b := 59 + 2) (by decide) (lt_k (s1.le hn) (by omega)) e58 (by decide) (by decide) (q58 _ (by decide)) dX2_find_33 ?_
      refine AX.iload_n (pc := 34) dX2_find_34 rfl ?_
      refine AX.ialdN (pc := 35) (i := r) (v := (nI (wyN o 2 r))) (lt_k (s1.le hn) (by omega)) y2 (by decide) (by omega) (z2 _ (by omega) (by omega)) dX2_find_35 ?_
      refine AX.icmp_ltN (pc := 36) (tgt := 57) dX2_find_36 (by decide) (by omega) (by omega) (fun hc36 => ?_) (fun hc36 => ?_)
      · refine AX.aload_n (pc := 57) dX2_find_57 rfl ?_
        refine AX.iload (pc := 58) dX2_find_58 rfl ?_
        refine AX.putf (pc := 60) (fs' := [.ref 1, .ref 58, .int (bI true), .ref 63, .int (nI 2)]) fX2_find_48 rfl (lt_k (s1.le hn) (by omega)) x1 (Nat.le_of_ble_eq_true rfl) rfl rfl rfl dX2_find_60 ?_
        have sx : Same [57] h1 (xset h1 57 (.inr (1, [.ref 1, .ref 58, .int (bI true), .ref 63, .int (nI 2)]))) := Same.rest
        have hK : wyK o r n = (2, n - (wyN o 1 r)) := (if_neg (by omega)).trans (if_pos (by omega))
        refine AX.aload_n (pc := 63) dX2_find_63 rfl ?_
        refine AX.iload_n (pc := 64) dX2_find_64 rfl ?_
        refine AX.iload_n (pc := 65) dX2_find_65 rfl ?_
        refine AX.callV (pc := 66) (M2 := M_X2_fillRow) (As := [.int (nI r), .int (nI (n - (wyN o 1 r)))]) (rest := []) (c_fillRow w (xset h1 57 (.inr (1, [.ref 1, .ref 58, .int (bI true), .ref 63, .int (nI 2)]))) (sx.le (s1.le hn)) (R1.same sx (by simp) (by simp) (by simp)) (xset_same _ _ _) (T1.same sx (by simp) (fun k hk => by simp; omega)) (by decide) hr (show n - (wyN o 1 r) < wyN o 2 r by omega) (sx.at (by simp) (s1.at (by simp) e63))) xc_X2_find__X2_fillRow gX2_find_X2_fillRow (ci := 1) rfl (lt_k (s1.le hn) (by omega)) (xset_same _ _ _) rfl (Nat.le_of_ble_eq_true rfl) dX2_find_66 ?_
        rintro _ h2 ⟨rfl, s2, R2, x2, T2, r2⟩
        show AX w M_X2_find 0 0 69 [.ref 57, .int (nI r), .int (nI n), .int (nI (n - (wyN o 1 r))), .int (nI 2)] [] _ _
        refine AX.iconst (pc := 69) (v := nI 1) dX2_find_69 (by decide) ?_
        refine AX.iret (pc := 70) dX2_find_70 rfl rfl (by decide) (by decide) ?_
        have hlt : n < wyA o r := by unfold wyA; omega
        exact ⟨by rw [decide_eq_true hlt]; rfl, fun _ => by rw [hK]; exact ⟨(s1.wide (by simp)).trans ((sx.wide (by simp)).trans (s2.wide (by simp))), R2, ⟨true, x2, T2⟩, r2⟩, fun q => absurd hlt q⟩
      · refine AX.iload_n (pc := 39) dX2_find_39 rfl ?_
        refine AX.aload_n (pc := 40) dX2_find_40 rfl ?_
        refine AX.getf (pc := 41) fX2_find_11 (lt_k (s1.le hn) (by omega)) x1 rfl dX2_find_41 ?_
        refine AX.iload (pc := 44) dX2_find_44 rfl ?_
        refine AX.aaldN (pc := 46) (i := 2) (b := 59 + 2) (by decide) (lt_k (s1.le hn) (by omega)) e58 (by decide) (by decide) (q58 _ (by decide)) dX2_find_46 ?_
        refine AX.iload_n (pc := 47) dX2_find_47 rfl ?_
        refine AX.ialdN (pc := 48) (i := r) (v := (nI (wyN o 2 r))) (lt_k (s1.le hn) (by omega)) y2 (by decide) (by omega) (z2 _ (by omega) (by omega)) dX2_find_48 ?_
        refine AX.isubN (pc := 49) (c := n - (wyN o 1 r) - (wyN o 2 r)) dX2_find_49 (by omega) ?_
        refine AX.istore_n (pc := 50) (L' := [.ref 57, .int (nI r), .int (nI n), .int (nI (n - (wyN o 1 r) - (wyN o 2 r))), .int (nI 2)]) dX2_find_50 (by decide) rfl ?_
        refine AX.iincN (c := 3) (pc := 51) (L' := [.ref 57, .int (nI r), .int (nI n), .int (nI (n - (wyN o 1 r) - (wyN o 2 r))), .int (nI 3)]) dX2_find_51 rfl (inc1 _) (by decide) rfl ?_
        refine AX.goto (pc := 54) (tgt := 20) dX2_find_54 (by decide) ?_
        refine AX.iload (pc := 20) dX2_find_20 rfl ?_
        refine AX.iconst (pc := 22) (v := nI 3) dX2_find_22 (by decide) ?_
        refine AX.icmp_geN (pc := 23) (tgt := 57) dX2_find_23 (by decide) (by decide) (by decide) (fun hc23 => ?_) (fun q => absurd q (by decide))
        refine AX.aload_n (pc := 57) dX2_find_57 rfl ?_
        refine AX.iload (pc := 58) dX2_find_58 rfl ?_
        refine AX.putf (pc := 60) (fs' := [.ref 1, .ref 58, .int (bI true), .ref 63, .int (nI 3)]) fX2_find_48 rfl (lt_k (s1.le hn) (by omega)) x1 (Nat.le_of_ble_eq_true rfl) rfl rfl rfl dX2_find_60 ?_
        have sx : Same [57] h1 (xset h1 57 (.inr (1, [.ref 1, .ref 58, .int (bI true), .ref 63, .int (nI 3)]))) := Same.rest
        have hK : wyK o r n = (3, n - (wyN o 1 r) - (wyN o 2 r)) := (if_neg (by omega)).trans (if_neg (by omega))
        refine AX.aload_n (pc := 63) dX2_find_63 rfl ?_
        refine AX.iload_n (pc := 64) dX2_find_64 rfl ?_
        refine AX.iload_n (pc := 65) dX2_find_65 rfl ?_
        refine AX.callV (pc := 66) (M2 := M_X2_fillRow) (As := [.int (nI r), .int (nI (n - (wyN o 1 r) - (wyN o 2 r)))]) (rest := []) (c_fillRow w (xset h1 57 (.inr (1, [.ref 1, .ref 58, .int (bI true), .ref 63, .int (nI 3)]))) (sx.le (s1.le hn)) (R1.same sx (by simp) (by simp) (by simp)) (xset_same _ _ _) (T1.same sx (by simp) (fun k hk => by simp; omega)) (by decide) hr (show n - (wyN o 1 r) - (wyN o 2 r) < wyN o 3 r by omega) (sx.at (by simp) (s1.at (by simp) e63))) xc_X2_find__X2_fillRow gX2_find_X2_fillRow (ci := 1) rfl (lt_k (s1.le hn) (by omega)) (xset_same _ _ _) rfl (Nat.le_of_ble_eq_true rfl) dX2_find_66 ?_
        rintro _ h2 ⟨rfl, s2, R2, x2, T2, r2⟩
        show AX w M_X2_find 0 0 69 [.ref 57, .int (nI r), .int (nI n), .int (nI (n - (wyN o 1 r) - (wyN o 2 r))), .int (nI 3)] [] _ _
        refine AX.iconst (pc := 69) (v := nI 1) dX2_find_69 (by decide) ?_
        refine AX.iret (pc := 70) dX2_find_70 rfl rfl (by decide) (by decide) ?_
        have hlt : n < wyA o r := by unfold wyA; omega
        exact ⟨by rw [decide_eq_true hlt]; rfl, fun _ => by rw [hK]; exact ⟨(s1.wide (by simp)).trans ((sx.wide (by simp)).trans (s2.wide (by simp))), R2, ⟨true, x2, T2⟩, r2⟩, fun q => absurd hlt q⟩
  · refine AX.iconst (pc := 13) (v := nI 0) dX2_find_13 (by decide) ?_
    refine AX.iret (pc := 14) dX2_find_14 rfl rfl (by decide) (by decide) ?_
    have hlt : ¬ n < wyA o r := by unfold wyA; omega
    exact ⟨by rw [decide_eq_false hlt]; rfl, fun q => absurd q hlt, fun _ => ⟨s1, R1, true, x1, T1⟩⟩
