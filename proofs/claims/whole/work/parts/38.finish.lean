/-! ===== FINISHES: how many ===== -/
/-- f 1 + .. + f n -/
def smN (f : Nat → Nat) : Nat → Nat
  | 0 => 0
  | n + 1 => smN f n + f (n + 1)
theorem smN_congr {f g : Nat → Nat} : ∀ n, (∀ s, 1 ≤ s → s ≤ n → f s = g s) → smN f n = smN g n
  | 0, _ => rfl
  | n + 1, h => by
    simp only [smN]
    rw [smN_congr n (fun s h1 h2 => h s h1 (by omega)), h (n + 1) (by omega) (Nat.le_refl _)]
theorem smN_le {f : Nat → Nat} {B : Nat} : ∀ n, (∀ s, 1 ≤ s → s ≤ n → f s ≤ B) → smN f n ≤ n * B
  | 0, _ => by simp [smN]
  | n + 1, h => by
    have := smN_le n (fun s h1 h2 => h s h1 (by omega))
    have := h (n + 1) (by omega) (Nat.le_refl _)
    simp only [smN, Nat.succ_mul]
    omega
theorem smN_mono (f : Nat → Nat) {m n : Nat} (h : m ≤ n) : smN f m ≤ smN f n := by
  induction h with
  | refl => exact Nat.le_refl _
  | step _ ih => exact Nat.le_trans ih (Nat.le_add_right _ _)
theorem smN_0 {f : Nat → Nat} : ∀ n, (∀ s, 1 ≤ s → s ≤ n → f s = 0) → smN f n = 0
  | 0, _ => rfl
  | n + 1, h => by
    simp only [smN]
    rw [smN_0 n (fun s h1 h2 => h s h1 (by omega)), h (n + 1) (by omega) (Nat.le_refl _)]
/-- FINISHES of a rest by k SPOTS -/
def wyN (o : Nat) : Nat → Nat → Nat
  | 0 => fun r => if r = 0 then 1 else 0
  | k + 1 => fun r => smN (fun s => match nxN o r s with
    | none => 0
    | some d => wyN o k d) 62
/-- those by k + 1 SPOTS that begin with s -/
def wyT (o k r s : Nat) : Nat := match nxN o r s with
  | none => 0
  | some d => wyN o k d
theorem wyN_succ (o k r : Nat) : wyN o (k + 1) r = smN (wyT o k r) 62 := rfl
theorem scN_pos {s : Nat} (h1 : 1 ≤ s) (h2 : s < 63) : 0 < scN s := by
  have : ∀ s, s < 63 → s ≠ 0 → 0 < scN s := by decide
  exact this s h2 (by omega)
theorem wyN_00 (o k : Nat) : wyN o (k + 1) 0 = 0 := by
  rw [wyN_succ]
  refine smN_0 _ (fun s h1 h2 => ?_)
  unfold wyT
  have := scN_pos h1 (by omega)
  unfold nxN
  rw [if_pos this]
theorem wyN_le (o : Nat) : ∀ k r, wyN o k r ≤ 62 ^ k
  | 0, r => by simp only [wyN]; split <;> decide
  | k + 1, r => by
    rw [wyN_succ, Nat.pow_succ, Nat.mul_comm]
    refine smN_le 62 (fun s _ _ => ?_)
    unfold wyT
    cases nxN o r s with
    | none => exact Nat.zero_le _
    | some d => exact wyN_le o k d
theorem wyT_le (o k r s : Nat) : wyT o k r s ≤ 62 ^ k := by
  unfold wyT
  cases nxN o r s with
  | none => exact Nat.zero_le _
  | some d => exact wyN_le o k d
theorem pw_le {k : Nat} (h : k ≤ 3) : 62 ^ k ≤ 238328 := by
  have : ∀ k, k ≤ 3 → 62 ^ k ≤ 238328 := by decide
  exact this k h
/-- the finishes' cells; the counts by fewer than K SPOTS stand, and those by K below R -/
def FT (h : XH) (o K R : Nat) : Prop := rA h 58 3 4 (fun k => some (59 + k)) ∧ ∀ k, k ≤ 3 → ∃ fc : Nat → Int32, h.2 (59 + k) = .inl (0, 181, .inl fc) ∧ ∀ r, r ≤ 180 → (r = 0 ∨ k = 0 ∨ k < K ∨ (k = K ∧ r < R)) → fc r = nI (wyN o k r)
theorem FT.same {S : List Nat} {h h' : XH} {o K R : Nat} (H : FT h o K R) (hs : Same S h h') (h1 : 58 ∉ S) (h2 : ∀ k, k ≤ 3 → 59 + k ∉ S) : FT h' o K R := by
  refine ⟨H.1.same hs h1, fun k hk => ?_⟩
  obtain ⟨fc, e, q⟩ := H.2 k hk
  exact ⟨fc, hs.at (h2 k hk) e, q⟩
theorem FT.next {h h' : XH} {o j R : Nat} {fc : Nat → Int32} (H : FT h o (j + 1) R) (hR : R ≤ 180) (e : h.2 (59 + (j + 1)) = .inl (0, 181, .inl fc)) (hs : Same [59 + (j + 1)] h h') (e' : h'.2 (59 + (j + 1)) = .inl (0, 181, .inl (upd fc R (nI (wyN o (j + 1) R))))) : FT h' o (j + 1) (R + 1) := by
  refine ⟨H.1.same hs (by simp; omega), fun k hk => ?_⟩
  obtain ⟨gc, x, q⟩ := H.2 k hk
  by_cases z : k = j + 1
  · subst z
    have := x.symm.trans e
    cases this
    refine ⟨_, e', fun r r1 r2 => ?_⟩
    by_cases zr : r = R
    · subst zr; rw [upd_at]
    · rw [upd_off zr]; exact q r r1 (by omega)
  · exact ⟨gc, hs.at (by simp; omega) x, fun r r1 r2 => q r r1 (by omega)⟩
theorem FT.up {h : XH} {o K : Nat} (H : FT h o K 181) : FT h o (K + 1) 1 := by
  refine ⟨H.1, fun k hk => ?_⟩
  obtain ⟨gc, x, q⟩ := H.2 k hk
  exact ⟨gc, x, fun r r1 r2 => q r r1 (by omega)⟩
theorem FT.out {h : XH} {o o' K R : Nat} (H : FT h o K R) : FT h o' 0 0 := by
  refine ⟨H.1, fun k hk => ?_⟩
  obtain ⟨gc, x, q⟩ := H.2 k hk
  refine ⟨gc, x, fun r r1 r2 => ?_⟩
  match k, hk, q with
  | 0, _, q => exact q r r1 (Or.inr (Or.inl rfl))
  | k + 1, _, q =>
    have hr : r = 0 := by omega
    subst hr
    rw [q 0 r1 (Or.inl rfl), wyN_00, wyN_00]
theorem c_countThrough (w : XW) (h : XH) {o K RR r s j sz : Nat} {kn : Bool} (hn : 64 ≤ h.1) (hR : RU h o) (e57 : h.2 57 = .inr (1, [.ref 1, .ref 58, .int (bI kn), .ref 63, .int (nI sz)])) (hT : FT h o K RR) (hj : j ≤ 2) (hK : j < K ∨ j = 0) (hr : r ≤ 180) (h1 : 1 ≤ s) (h2 : s < 63) : CE w M_X2_countThrough [.ref 57, .int (nI r), .int (nI s), .int (nI (j + 1))] h (some (.int (nI (wyT o j r s)))) h := by
  refine CA.of (by decide) rfl (fun _ => Nat.le_of_ble_eq_true rfl) ?_
  obtain ⟨f58, e58, q58⟩ := id hT.1
  obtain ⟨fc, ec, qc⟩ := hT.2 j (by omega)
  have hsp := scN_pos h1 h2
  show AX w M_X2_countThrough 0 0 0 [.ref 57, .int (nI r), .int (nI s), .int (nI (j + 1)), .null] [] h _
  cases hx : nxN o r s with
  | none =>
    refine AX.aload_n (pc := 0) dX2_countThrough_0 rfl ?_
    refine AX.getf (pc := 1) fX2_countThrough_20 (lt_k hn (by omega)) e57 rfl dX2_countThrough_1 ?_
    refine AX.iload_n (pc := 4) dX2_countThrough_4 rfl ?_
    refine AX.iload_n (pc := 5) dX2_countThrough_5 rfl ?_
    refine AX.callV (pc := 6) (M2 := M_X9_restBehind) (As := [.int (nI r), .int (nI s)]) (rest := []) (c_restBehind w h (by omega) hR r s (by omega) h2) xc_X2_countThrough__X9_restBehind gX2_countThrough_X9_restBehind (ci := 8) rfl (lt_k hn (by omega)) hR.2.1 rfl (Nat.le_of_ble_eq_true rfl) dX2_countThrough_6 ?_
    rintro _ h9 ⟨rfl, e9⟩
    have e9 := e9.symm
    subst e9
    show AX w M_X2_countThrough 0 0 9 [.ref 57, .int (nI r), .int (nI s), .int (nI (j + 1)), .null] [.int (oI (nxN o r s))] _ _
    rw [hx]
    show AX w M_X2_countThrough 0 0 9 [.ref 57, .int (nI r), .int (nI s), .int (nI (j + 1)), .null] [.int (-5)] _ _
    refine AX.istore (pc := 9) (L' := [.ref 57, .int (nI r), .int (nI s), .int (nI (j + 1)), .int (-5)]) dX2_countThrough_9 (by decide) rfl ?_
    refine AX.iload (pc := 11) dX2_countThrough_11 rfl ?_
    refine AX.bipush (pc := 13) (v := (-5)) dX2_countThrough_13 (by decide) ?_
    refine AX.icmp_ne (pc := 15) (tgt := 22) dX2_countThrough_15 (by decide) (fun hc15 => ?_) (fun hc15 => ?_)
    · exact absurd rfl hc15
    · refine AX.iconst (pc := 18) (v := nI 0) dX2_countThrough_18 (by decide) ?_
      refine AX.goto (pc := 19) (tgt := 33) dX2_countThrough_19 (by decide) ?_
      refine AX.iret (pc := 33) dX2_countThrough_33 rfl rfl (by decide) (by decide) ?_
      exact ⟨by unfold wyT; rw [hx], rfl⟩
  | some d =>
    have hd := nxN_eq hx
    refine AX.aload_n (pc := 0) dX2_countThrough_0 rfl ?_
    refine AX.getf (pc := 1) fX2_countThrough_20 (lt_k hn (by omega)) e57 rfl dX2_countThrough_1 ?_
    refine AX.iload_n (pc := 4) dX2_countThrough_4 rfl ?_
    refine AX.iload_n (pc := 5) dX2_countThrough_5 rfl ?_
    refine AX.callV (pc := 6) (M2 := M_X9_restBehind) (As := [.int (nI r), .int (nI s)]) (rest := []) (c_restBehind w h (by omega) hR r s (by omega) h2) xc_X2_countThrough__X9_restBehind gX2_countThrough_X9_restBehind (ci := 8) rfl (lt_k hn (by omega)) hR.2.1 rfl (Nat.le_of_ble_eq_true rfl) dX2_countThrough_6 ?_
    rintro _ h9 ⟨rfl, e9⟩
    have e9 := e9.symm
    subst e9
    show AX w M_X2_countThrough 0 0 9 [.ref 57, .int (nI r), .int (nI s), .int (nI (j + 1)), .null] [.int (oI (nxN o r s))] _ _
    rw [hx]
    show AX w M_X2_countThrough 0 0 9 [.ref 57, .int (nI r), .int (nI s), .int (nI (j + 1)), .null] [.int (nI d)] _ _
    refine AX.istore (pc := 9) (L' := [.ref 57, .int (nI r), .int (nI s), .int (nI (j + 1)), .int (nI d)]) dX2_countThrough_9 (by decide) rfl ?_
    refine AX.iload (pc := 11) dX2_countThrough_11 rfl ?_
    refine AX.bipush (pc := 13) (v := (-5)) dX2_countThrough_13 (by decide) ?_
    refine AX.icmp_ne (pc := 15) (tgt := 22) dX2_countThrough_15 (by decide) (fun hc15 => ?_) (fun hc15 => ?_)
    · refine AX.aload_n (pc := 22) dX2_countThrough_22 rfl ?_
      refine AX.getf (pc := 23) fX2_countThrough_11 (lt_k hn (by omega)) e57 rfl dX2_countThrough_23 ?_
      refine AX.iload_n (pc := 26) dX2_countThrough_26 rfl ?_
      refine AX.iconst (pc := 27) (v := nI 1) dX2_countThrough_27 (by decide) ?_
      refine AX.isubN (pc := 28) (c := j) dX2_countThrough_28 rfl ?_
      refine AX.aaldN (pc := 29) (i := j) (b := 59 + j) (by decide) (lt_k hn (by omega)) e58 (by decide) (by omega) (q58 _ (by omega)) dX2_countThrough_29 ?_
      refine AX.iload (pc := 30) dX2_countThrough_30 rfl ?_
      refine AX.ialdN (pc := 32) (i := d) (v := (nI (wyN o j d))) (lt_k hn (by omega)) ec (by decide) (by omega) (qc _ (by omega) (by omega)) dX2_countThrough_32 ?_
      refine AX.iret (pc := 33) dX2_countThrough_33 rfl rfl (by decide) (by decide) ?_
      exact ⟨by unfold wyT; rw [hx], rfl⟩
    · exact absurd hc15 (nI_m5 (by omega))
theorem l_countFrom (w : XW) (h : XH) {o K RR r j sz : Nat} {kn : Bool} (hn : 64 ≤ h.1) (hR : RU h o) (e57 : h.2 57 = .inr (1, [.ref 1, .ref 58, .int (bI kn), .ref 63, .int (nI sz)])) (hT : FT h o K RR) (hj : j ≤ 2) (hK : j < K ∨ j = 0) (hr : r ≤ 180) (P : Option Value → XH → Prop) (hP : P (some (.int (nI (wyN o (j + 1) r)))) h) : ∀ (g k : Nat), k + g = 62 → AX w M_X2_countFrom 0 0 5 [.ref 57, .int (nI r), .int (nI (j + 1)), .int (nI (smN (wyT o j r) k)), .int (nI (k + 1))] [] h P
  | 0, k, hg => by
    have e : k = 62 := by omega
    subst e
    refine AX.iload (pc := 5) dX2_countFrom_5 rfl ?_
    refine AX.bipush (pc := 7) (v := nI 63) dX2_countFrom_7 (by decide) ?_
    refine AX.icmp_geN (pc := 9) (tgt := 29) dX2_countFrom_9 (by decide) (by decide) (by decide) (fun hc9 => ?_) (fun q => absurd q (by decide))
    refine AX.iload_n (pc := 29) dX2_countFrom_29 rfl ?_
    refine AX.iret (pc := 30) dX2_countFrom_30 rfl rfl (by decide) (by decide) ?_
    exact hP
  | g + 1, k, hg => by
    have ih := l_countFrom w h hn hR e57 hT hj hK hr P hP g (k + 1) (by omega)
    refine AX.iload (pc := 5) dX2_countFrom_5 rfl ?_
    refine AX.bipush (pc := 7) (v := nI 63) dX2_countFrom_7 (by decide) ?_
    refine AX.icmp_geN (pc := 9) (tgt := 29) dX2_countFrom_9 (by decide) (by omega) (by decide) (fun q => absurd q (by omega)) (fun hc9 => ?_)
    refine AX.iload_n (pc := 12) dX2_countFrom_12 rfl ?_
    refine AX.aload_n (pc := 13) dX2_countFrom_13 rfl ?_
    refine AX.iload_n (pc := 14) dX2_countFrom_14 rfl ?_
    refine AX.iload (pc := 15) dX2_countFrom_15 rfl ?_
    refine AX.iload_n (pc := 17) dX2_countFrom_17 rfl ?_
    refine AX.callV (pc := 18) (M2 := M_X2_countThrough) (As := [.int (nI r), .int (nI (k + 1)), .int (nI (j + 1))]) (rest := [.int (nI (smN (wyT o j r) k))]) (c_countThrough w h (s := k + 1) hn hR e57 hT hj hK hr (by omega) (by omega)) xc_X2_countFrom__X2_countThrough gX2_countFrom_X2_countThrough (ci := 1) rfl (lt_k hn (by omega)) e57 rfl (Nat.le_of_ble_eq_true rfl) dX2_countFrom_18 ?_
    rintro _ h9 ⟨rfl, e9⟩
    have e9 := e9.symm
    subst e9
    show AX w M_X2_countFrom 0 0 21 [.ref 57, .int (nI r), .int (nI (j + 1)), .int (nI (smN (wyT o j r) k)), .int (nI (k + 1))] [.int (nI (wyT o j r (k + 1))), .int (nI (smN (wyT o j r) k))] _ _
    refine AX.iaddN (pc := 21) (c := smN (wyT o j r) k + (wyT o j r (k + 1))) dX2_countFrom_21 rfl ?_
    refine AX.istore_n (pc := 22) (L' := [.ref 57, .int (nI r), .int (nI (j + 1)), .int (nI (smN (wyT o j r) k + (wyT o j r (k + 1)))), .int (nI (k + 1))]) dX2_countFrom_22 (by decide) rfl ?_
    refine AX.iincN (c := k + 2) (pc := 23) (L' := [.ref 57, .int (nI r), .int (nI (j + 1)), .int (nI (smN (wyT o j r) k + (wyT o j r (k + 1)))), .int (nI (k + 2))]) dX2_countFrom_23 rfl (inc1 _) (by decide) rfl ?_
    refine AX.goto (pc := 26) (tgt := 5) dX2_countFrom_26 (by decide) ?_
    exact ih
theorem c_countFrom (w : XW) (h : XH) {o K RR r j sz : Nat} {kn : Bool} (hn : 64 ≤ h.1) (hR : RU h o) (e57 : h.2 57 = .inr (1, [.ref 1, .ref 58, .int (bI kn), .ref 63, .int (nI sz)])) (hT : FT h o K RR) (hj : j ≤ 2) (hK : j < K ∨ j = 0) (hr : r ≤ 180) : CA w M_X2_countFrom [.ref 57, .int (nI r), .int (nI (j + 1))] h (fun v' h'' => v' = some (.int (nI (wyN o (j + 1) r))) ∧ h'' = h) := by
  refine CA.of (by decide) rfl (fun _ => Nat.le_of_ble_eq_true rfl) ?_
  show AX w M_X2_countFrom 0 0 0 [.ref 57, .int (nI r), .int (nI (j + 1)), .null, .null] [] h _
  refine AX.iconst (pc := 0) (v := nI 0) dX2_countFrom_0 (by decide) ?_
  refine AX.istore_n (pc := 1) (L' := [.ref 57, .int (nI r), .int (nI (j + 1)), .int (nI 0), .null]) dX2_countFrom_1 (by decide) rfl ?_
  refine AX.iconst (pc := 2) (v := nI 1) dX2_countFrom_2 (by decide) ?_
  refine AX.istore (pc := 3) (L' := [.ref 57, .int (nI r), .int (nI (j + 1)), .int (nI 0), .int (nI 1)]) dX2_countFrom_3 (by decide) rfl ?_
  exact l_countFrom w h hn hR e57 hT hj hK hr _ ⟨rfl, rfl⟩ 62 0 (by omega)
theorem l_fLearnIn (w : XW) (P : Option Value → XH → Prop) (h0 : XH) {o sz j : Nat} (hj : j ≤ 2) (hP : ∀ h', Same [57, 60, 61, 62] h0 h' → RU h' o → h'.2 57 = .inr (1, [.ref 1, .ref 58, .int (bI false), .ref 63, .int (nI sz)]) → FT h' o (j + 1) 181 → AX w M_X2_learn 0 0 44 [.ref 57, .int (nI (j + 1)), .null] [] h' P) : ∀ (g r : Nat) (h : XH), r + g = 181 → 1 ≤ r → 64 ≤ h.1 → RU h o → h.2 57 = .inr (1, [.ref 1, .ref 58, .int (bI false), .ref 63, .int (nI sz)]) → FT h o (j + 1) r → Same [57, 60, 61, 62] h0 h → AX w M_X2_learn 0 0 17 [.ref 57, .int (nI (j + 1)), .int (nI r)] [] h P
  | 0, r, h, hg, h1, hn, hR, e57, hT, hS => by
    have e : r = 181 := by omega
    subst e
    refine AX.iload_n (pc := 17) dX2_learn_17 rfl ?_
    refine AX.sipush (pc := 18) (v := nI 180) dX2_learn_18 (by decide) ?_
    refine AX.icmp_gtN (pc := 21) (tgt := 44) dX2_learn_21 (by decide) (by decide) (by decide) (fun hc21 => ?_) (fun q => absurd q (by decide))
    refine AX.sub (L' := [.ref 57, .int (nI (j + 1)), .null]) ⟨Or.inr rfl, Or.inr rfl, Or.inl rfl, trivial⟩ ?_
    exact hP h hS hR e57 hT
  | g + 1, r, h, hg, h1, hn, hR, e57, hT, hS => by
    obtain ⟨f58, e58, q58⟩ := id hT.1
    obtain ⟨fc, ec, qc⟩ := hT.2 (j + 1) (by omega)
    refine AX.iload_n (pc := 17) dX2_learn_17 rfl ?_
    refine AX.sipush (pc := 18) (v := nI 180) dX2_learn_18 (by decide) ?_
    refine AX.icmp_gtN (pc := 21) (tgt := 44) dX2_learn_21 (by decide) (by omega) (by decide) (fun q => absurd q (by omega)) (fun hc21 => ?_)
    refine AX.aload_n (pc := 24) dX2_learn_24 rfl ?_
    refine AX.getf (pc := 25) fX2_learn_11 (lt_k hn (by omega)) e57 rfl dX2_learn_25 ?_
    refine AX.iload_n (pc := 28) dX2_learn_28 rfl ?_
    refine AX.aaldN (pc := 29) (i := j + 1) (b := 59 + (j + 1)) (by decide) (lt_k hn (by omega)) e58 (by decide) (by omega) (q58 _ (by omega)) dX2_learn_29 ?_
    refine AX.iload_n (pc := 30) dX2_learn_30 rfl ?_
    refine AX.aload_n (pc := 31) dX2_learn_31 rfl ?_
    refine AX.iload_n (pc := 32) dX2_learn_32 rfl ?_
    refine AX.iload_n (pc := 33) dX2_learn_33 rfl ?_
    refine AX.callV (pc := 34) (M2 := M_X2_countFrom) (As := [.int (nI r), .int (nI (j + 1))]) (rest := [.int (nI r), .ref (59 + (j + 1))]) (c_countFrom w h hn hR e57 hT hj (Or.inl (by omega)) (r := r) (by omega)) xc_X2_learn__X2_countFrom gX2_learn_X2_countFrom (ci := 1) rfl (lt_k hn (by omega)) e57 rfl (Nat.le_of_ble_eq_true rfl) dX2_learn_34 ?_
    rintro _ h9 ⟨rfl, e9⟩
    have e9 := e9.symm
    subst e9
    show AX w M_X2_learn 0 0 37 [.ref 57, .int (nI (j + 1)), .int (nI r)] [.int (nI (wyN o (j + 1) r)), .int (nI r), .ref (59 + (j + 1))] _ _
    refine AX.iastN (pc := 37) (i := r) (g := upd fc r (nI (wyN o (j + 1) r))) (lt_k hn (by omega)) ec (by decide) (by omega) rfl dX2_learn_37 ?_
    refine AX.iincN (c := r + 1) (pc := 38) (L' := [.ref 57, .int (nI (j + 1)), .int (nI (r + 1))]) dX2_learn_38 rfl (inc1 _) (by decide) rfl ?_
    refine AX.goto (pc := 41) (tgt := 17) dX2_learn_41 (by decide) ?_
    have sx : Same [59 + (j + 1)] h (xset h (59 + (j + 1)) (.inl (0, 181, .inl (upd fc r (nI (wyN o (j + 1) r)))))) := Same.rest
    exact l_fLearnIn w P h0 hj hP g (r + 1) _ (by omega) (by omega) (sx.le hn) (hR.same sx (by simp; omega) (by simp; omega) (by simp; omega)) (sx.at (by simp; omega) e57) (FT.next hT (by omega) ec sx (xset_same _ _ _)) (hS.trans (sx.wide (fun q hq => by simp at hq ⊢; omega)))
/-- the finishes as they stand: known or not -/
def FI (h : XH) (o sz : Nat) : Prop := ∃ kn : Bool, h.2 57 = .inr (1, [.ref 1, .ref 58, .int (bI kn), .ref 63, .int (nI sz)]) ∧ FT h o (if kn then 4 else 0) 0
theorem FT.zero {h : XH} {o : Nat} (H : FT h o 0 0) : FT h o 1 1 := by
  refine ⟨H.1, fun k hk => ?_⟩
  obtain ⟨gc, x, q⟩ := H.2 k hk
  exact ⟨gc, x, fun r r1 r2 => q r r1 (by omega)⟩
theorem FT.four {h : XH} {o R : Nat} (H : FT h o 4 R) : FT h o 4 0 := by
  refine ⟨H.1, fun k hk => ?_⟩
  obtain ⟨gc, x, q⟩ := H.2 k hk
  exact ⟨gc, x, fun r r1 r2 => q r r1 (by omega)⟩
theorem c_fLearn (w : XW) (h : XH) {o sz : Nat} (hn : 64 ≤ h.1) (hR : RU h o) (hI : FI h o sz) : CA w M_X2_learn [.ref 57] h (fun v h' => v = none ∧ Same [57, 60, 61, 62] h h' ∧ RU h' o ∧ h'.2 57 = .inr (1, [.ref 1, .ref 58, .int (bI true), .ref 63, .int (nI sz)]) ∧ FT h' o 4 0) := by
  refine CA.of (by decide) rfl (fun _ => Nat.le_of_ble_eq_true rfl) ?_
  obtain ⟨kn, e57, hT⟩ := hI
  show AX w M_X2_learn 0 0 0 [.ref 57, .null, .null] [] h _
  cases kn with
  | true =>
    refine AX.aload_n (pc := 0) dX2_learn_0 rfl ?_
    refine AX.getf (pc := 1) fX2_learn_24 (lt_k hn (by omega)) e57 rfl dX2_learn_1 ?_
    refine AX.if_eqB (pc := 4) (tgt := 8) dX2_learn_4 (by decide) (fun q => absurd q (by decide)) (fun hc4 => ?_)
    refine AX.vret (pc := 7) dX2_learn_7 rfl (by decide) (by decide) ?_
    exact ⟨rfl, Same.rf, hR, e57, hT⟩
  | false =>
    refine AX.aload_n (pc := 0) dX2_learn_0 rfl ?_
    refine AX.getf (pc := 1) fX2_learn_24 (lt_k hn (by omega)) e57 rfl dX2_learn_1 ?_
    refine AX.if_eqB (pc := 4) (tgt := 8) dX2_learn_4 (by decide) (fun hc4 => ?_) (fun q => absurd q (by decide))
    refine AX.iconst (pc := 8) (v := nI 1) dX2_learn_8 (by decide) ?_
    refine AX.istore_n (pc := 9) (L' := [.ref 57, .int (nI 1), .null]) dX2_learn_9 (by decide) rfl ?_
    refine AX.iload_n (pc := 10) dX2_learn_10 rfl ?_
    refine AX.iconst (pc := 11) (v := nI 3) dX2_learn_11 (by decide) ?_
    refine AX.icmp_gtN (pc := 12) (tgt := 50) dX2_learn_12 (by decide) (by decide) (by decide) (fun q => absurd q (by decide)) (fun hc12 => ?_)
    refine AX.iconst (pc := 15) (v := nI 1) dX2_learn_15 (by decide) ?_
    refine AX.istore_n (pc := 16) (L' := [.ref 57, .int (nI 1), .int (nI 1)]) dX2_learn_16 (by decide) rfl ?_
    refine l_fLearnIn w _ h (j := 0) (by decide) (fun h1 s1 R1 x1 T1 => ?_) 180 1 h (by decide) (by decide) hn hR e57 (FT.zero hT) Same.rf
    show AX w M_X2_learn 0 0 44 [.ref 57, .int (nI 1), .null] [] h1 _
    refine AX.iincN (c := 2) (pc := 44) (L' := [.ref 57, .int (nI 2), .null]) dX2_learn_44 rfl (inc1 _) (by decide) rfl ?_
    refine AX.goto (pc := 47) (tgt := 10) dX2_learn_47 (by decide) ?_
    refine AX.iload_n (pc := 10) dX2_learn_10 rfl ?_
    refine AX.iconst (pc := 11) (v := nI 3) dX2_learn_11 (by decide) ?_
    refine AX.icmp_gtN (pc := 12) (tgt := 50) dX2_learn_12 (by decide) (by decide) (by decide) (fun q => absurd q (by decide)) (fun hc12 => ?_)
    refine AX.iconst (pc := 15) (v := nI 1) dX2_learn_15 (by decide) ?_
    refine AX.istore_n (pc := 16) (L' := [.ref 57, .int (nI 2), .int (nI 1)]) dX2_learn_16 (by decide) rfl ?_
    refine l_fLearnIn w _ h (j := 1) (by decide) (fun h2 s2 R2 x2 T2 => ?_) 180 1 h1 (by decide) (by decide) (s1.le hn) R1 x1 (FT.up T1) s1
    show AX w M_X2_learn 0 0 44 [.ref 57, .int (nI 2), .null] [] h2 _
    refine AX.iincN (c := 3) (pc := 44) (L' := [.ref 57, .int (nI 3), .null]) dX2_learn_44 rfl (inc1 _) (by decide) rfl ?_
    refine AX.goto (pc := 47) (tgt := 10) dX2_learn_47 (by decide) ?_
    refine AX.iload_n (pc := 10) dX2_learn_10 rfl ?_
    refine AX.iconst (pc := 11) (v := nI 3) dX2_learn_11 (by decide) ?_
    refine AX.icmp_gtN (pc := 12) (tgt := 50) dX2_learn_12 (by decide) (by decide) (by decide) (fun q => absurd q (by decide)) (fun hc12 => ?_)
    refine AX.iconst (pc := 15) (v := nI 1) dX2_learn_15 (by decide) ?_
    refine AX.istore_n (pc := 16) (L' := [.ref 57, .int (nI 3), .int (nI 1)]) dX2_learn_16 (by decide) rfl ?_
    refine l_fLearnIn w _ h (j := 2) (by decide) (fun h3 s3 R3 x3 T3 => ?_) 180 1 h2 (by decide) (by decide) (s2.le hn) R2 x2 (FT.up T2) s2
    show AX w M_X2_learn 0 0 44 [.ref 57, .int (nI 3), .null] [] h3 _
    refine AX.iincN (c := 4) (pc := 44) (L' := [.ref 57, .int (nI 4), .null]) dX2_learn_44 rfl (inc1 _) (by decide) rfl ?_
    refine AX.goto (pc := 47) (tgt := 10) dX2_learn_47 (by decide) ?_
    refine AX.iload_n (pc := 10) dX2_learn_10 rfl ?_
    refine AX.iconst (pc := 11) (v := nI 3) dX2_learn_11 (by decide) ?_
    refine AX.icmp_gtN (pc := 12) (tgt := 50) dX2_learn_12 (by decide) (by decide) (by decide) (fun hc12 => ?_) (fun q => absurd q (by decide))
    refine AX.aload_n (pc := 50) dX2_learn_50 rfl ?_
    refine AX.iconst (pc := 51) (v := nI 1) dX2_learn_51 (by decide) ?_
    refine AX.putf (pc := 52) (fs' := [.ref 1, .ref 58, .int (nI 1), .ref 63, .int (nI sz)]) fX2_learn_24 rfl (lt_k (s3.le hn) (by omega)) x3 (Nat.le_of_ble_eq_true rfl) rfl rfl rfl dX2_learn_52 ?_
    refine AX.vret (pc := 55) dX2_learn_55 rfl (by decide) (by decide) ?_
    have sx := Same.rest (a := 57) (h := h3) (e := .inr (1, [.ref 1, .ref 58, .int (bI true), .ref 63, .int (nI sz)]))
    exact ⟨rfl, s3.trans (Same.set Same.rf (by simp)), R3.same sx (by simp) (by simp) (by simp), xset_same _ _ _, (FT.four (FT.up T3)).same sx (by simp) (fun k hk => by simp; omega)⟩
theorem c_countBy (w : XW) (h : XH) {o sz r k : Nat} (hn : 64 ≤ h.1) (hR : RU h o) (hI : FI h o sz) (hr : r ≤ 180) (hk1 : 1 ≤ k) (hk2 : k ≤ 3) : CA w M_X2_countBy [.ref 57, .int (nI r), .int (nI k)] h (fun v' h' => v' = some (.int (nI (wyN o k r))) ∧ Same [57, 60, 61, 62] h h' ∧ RU h' o ∧ FI h' o sz) := by
  refine CA.of (by decide) rfl (fun _ => Nat.le_of_ble_eq_true rfl) ?_
  have hI0 := hI
  obtain ⟨kn, e57, -⟩ := id hI
  show AX w M_X2_countBy 0 0 0 [.ref 57, .int (nI r), .int (nI k)] [] h _
  refine AX.aload_n (pc := 0) dX2_countBy_0 rfl ?_
  refine AX.callV (pc := 1) (M2 := M_X2_learn) (As := []) (rest := []) (c_fLearn w h hn hR hI) xc_X2_countBy__X2_learn gX2_countBy_X2_learn (ci := 1) rfl (lt_k hn (by omega)) e57 rfl (Nat.le_of_ble_eq_true rfl) dX2_countBy_1 ?_
  rintro _ h1 ⟨rfl, s1, R1, x1, T1⟩
  obtain ⟨f58, e58, q58⟩ := id T1.1
  obtain ⟨gk, yk, zk⟩ := T1.2 k hk2
  show AX w M_X2_countBy 0 0 4 [.ref 57, .int (nI r), .int (nI k)] [] _ _
  refine AX.aload_n (pc := 4) dX2_countBy_4 rfl ?_
  refine AX.getf (pc := 5) fX2_countBy_11 (lt_k (s1.le hn) (by omega)) x1 rfl dX2_countBy_5 ?_
  refine AX.iload_n (pc := 8) dX2_countBy_8 rfl ?_
  refine AX.aaldN (pc := 9) (i := k) (b := 59 + k) (by decide) (lt_k (s1.le hn) (by omega)) e58 (by decide) (by omega) (q58 _ (by omega)) dX2_countBy_9 ?_
  refine AX.iload_n (pc := 10) dX2_countBy_10 rfl ?_
  refine AX.ialdN (pc := 11) (i := r) (v := (nI (wyN o k r))) (lt_k (s1.le hn) (by omega)) yk (by decide) (by omega) (zk _ (by omega) (by omega)) dX2_countBy_11 ?_
  refine AX.iret (pc := 12) dX2_countBy_12 rfl rfl (by decide) (by decide) ?_
  exact ⟨rfl, s1, R1, true, x1, T1⟩
theorem c_countOfAll (w : XW) (h : XH) {o sz r : Nat} (hn : 64 ≤ h.1) (hR : RU h o) (hI : FI h o sz) (hr : r ≤ 180) : CA w M_X2_countOfAll [.ref 57, .int (nI r)] h (fun v' h' => v' = some (.int (nI (wyN o 1 r + wyN o 2 r + wyN o 3 r))) ∧ Same [57, 60, 61, 62] h h' ∧ RU h' o ∧ h'.2 57 = .inr (1, [.ref 1, .ref 58, .int (bI true), .ref 63, .int (nI sz)]) ∧ FT h' o 4 0) := by
  refine CA.of (by decide) rfl (fun _ => Nat.le_of_ble_eq_true rfl) ?_
  have hI0 := hI
  obtain ⟨kn, e57, -⟩ := id hI
  show AX w M_X2_countOfAll 0 0 0 [.ref 57, .int (nI r)] [] h _
  refine AX.aload_n (pc := 0) dX2_countOfAll_0 rfl ?_
  refine AX.callV (pc := 1) (M2 := M_X2_learn) (As := []) (rest := []) (c_fLearn w h hn hR hI) xc_X2_countOfAll__X2_learn gX2_countOfAll_X2_learn (ci := 1) rfl (lt_k hn (by omega)) e57 rfl (Nat.le_of_ble_eq_true rfl) dX2_countOfAll_1 ?_
  rintro _ h1 ⟨rfl, s1, R1, x1, T1⟩
  obtain ⟨f58, e58, q58⟩ := id T1.1
  obtain ⟨g1, y1, z1⟩ := T1.2 1 (by decide)
  obtain ⟨g2, y2, z2⟩ := T1.2 2 (by decide)
  obtain ⟨g3, y3, z3⟩ := T1.2 3 (by decide)
  show AX w M_X2_countOfAll 0 0 4 [.ref 57, .int (nI r)] [] _ _
  refine AX.aload_n (pc := 4) dX2_countOfAll_4 rfl ?_
  refine AX.getf (pc := 5) fX2_countOfAll_11 (lt_k (s1.le hn) (by omega)) x1 rfl dX2_countOfAll_5 ?_
  refine AX.iconst (pc := 8) (v := nI 1) dX2_countOfAll_8 (by decide) ?_
  refine AX.aaldN (pc := 9) (i := 1) (b := 60) (by decide) (lt_k (s1.le hn) (by omega)) e58 (by decide) (by decide) (q58 _ (by omega)) dX2_countOfAll_9 ?_
  refine AX.iload_n (pc := 10) dX2_countOfAll_10 rfl ?_
  refine AX.ialdN (pc := 11) (i := r) (v := (nI (wyN o 1 r))) (lt_k (s1.le hn) (by omega)) y1 (by decide) (by omega) (z1 _ (by omega) (by omega)) dX2_countOfAll_11 ?_
  refine AX.aload_n (pc := 12) dX2_countOfAll_12 rfl ?_
  refine AX.getf (pc := 13) fX2_countOfAll_11 (lt_k (s1.le hn) (by omega)) x1 rfl dX2_countOfAll_13 ?_
  refine AX.iconst (pc := 16) (v := nI 2) dX2_countOfAll_16 (by decide) ?_
  refine AX.aaldN (pc := 17) (i := 2) (b := 61) (by decide) (lt_k (s1.le hn) (by omega)) e58 (by decide) (by decide) (q58 _ (by omega)) dX2_countOfAll_17 ?_
  refine AX.iload_n (pc := 18) dX2_countOfAll_18 rfl ?_
  refine AX.ialdN (pc := 19) (i := r) (v := (nI (wyN o 2 r))) (lt_k (s1.le hn) (by omega)) y2 (by decide) (by omega) (z2 _ (by omega) (by omega)) dX2_countOfAll_19 ?_
  refine AX.iaddN (pc := 20) (c := wyN o 1 r + (wyN o 2 r)) dX2_countOfAll_20 rfl ?_
  refine AX.aload_n (pc := 21) dX2_countOfAll_21 rfl ?_
  refine AX.getf (pc := 22) fX2_countOfAll_11 (lt_k (s1.le hn) (by omega)) x1 rfl dX2_countOfAll_22 ?_
  refine AX.iconst (pc := 25) (v := nI 3) dX2_countOfAll_25 (by decide) ?_
  refine AX.aaldN (pc := 26) (i := 3) (b := 62) (by decide) (lt_k (s1.le hn) (by omega)) e58 (by decide) (by decide) (q58 _ (by omega)) dX2_countOfAll_26 ?_
  refine AX.iload_n (pc := 27) dX2_countOfAll_27 rfl ?_
  refine AX.ialdN (pc := 28) (i := r) (v := (nI (wyN o 3 r))) (lt_k (s1.le hn) (by omega)) y3 (by decide) (by omega) (z3 _ (by omega) (by omega)) dX2_countOfAll_28 ?_
  refine AX.iaddN (pc := 29) (c := wyN o 1 r + (wyN o 2 r) + (wyN o 3 r)) dX2_countOfAll_29 rfl ?_
  refine AX.iret (pc := 30) dX2_countOfAll_30 rfl rfl (by decide) (by decide) ?_
  exact ⟨rfl, s1, R1, x1, T1⟩
theorem c_fForget (w : XW) (h : XH) {o o' sz : Nat} (hn : 64 ≤ h.1) (hI : FI h o sz) : CA w M_X2_forget [.ref 57] h (fun v' h' => v' = none ∧ Same [57] h h' ∧ FI h' o' sz) := by
  refine CA.of (by decide) rfl (fun _ => Nat.le_of_ble_eq_true rfl) ?_
  obtain ⟨kn, e57, hT⟩ := id hI
  show AX w M_X2_forget 0 0 0 [.ref 57] [] h _
  refine AX.aload_n (pc := 0) dX2_forget_0 rfl ?_
  refine AX.iconst (pc := 1) (v := nI 0) dX2_forget_1 (by decide) ?_
  refine AX.putf (pc := 2) (fs' := [.ref 1, .ref 58, .int (nI 0), .ref 63, .int (nI sz)]) fX2_forget_24 rfl (lt_k hn (by omega)) e57 (Nat.le_of_ble_eq_true rfl) rfl rfl rfl dX2_forget_2 ?_
  refine AX.vret (pc := 5) dX2_forget_5 rfl (by decide) (by decide) ?_
  exact ⟨rfl, Same.rest, false, xset_same _ _ _, (FT.out hT).same Same.rest (by simp) (fun k hk => by simp; omega)⟩
