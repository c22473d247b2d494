/-! ===== CHANCES ===== -/
/-- behind k FALLS of AIM a: the sum, by the values C behind the dart -/
def chS (o sd rg : Nat) (C : Nat → UInt64) (r a : Nat) : Nat → UInt64
  | 0 => FP.dconst0
  | k + 1 => match nxN o r (fS (5 * a + k)) with
    | none => chS o sd rg C r a k
    | some d => FP.dadd (chS o sd rg C r a k) (FP.dmul (odW (wtN sd rg (5 * a + k))) (C d))
theorem chS_lin {O G z p v s : Int} {B k W wk : Nat} (hO : 0 < O) (hG : 0 < G) (hOG : O = 1073741824 * G) (hB : B ≤ 10) (hk : k ≤ 5) (hW : W + wk ≤ 1000) (hz : 1000 * z ≤ (W : Int) * (B * O) + k * (3102000 * G)) (hz0 : 0 ≤ z) (hv : v ≤ B * O) (hp : 1000 * p ≤ wk * v + 3101000 * G) (hp0 : 0 ≤ p) :
    z + p ≤ 5000 * O ∧ -(5000 * O) ≤ z + p ∧ (s ≤ z + p + G → 1000 * s ≤ ((W + wk : Nat) : Int) * (B * O) + ((k + 1 : Nat) : Int) * (3102000 * G)) := by
  have b1 : (wk : Int) * v ≤ wk * (B * O) := Int.mul_le_mul_of_nonneg_left hv (by omega)
  have b2 : ((W + wk : Nat) : Int) * (B * O) = (W : Int) * (B * O) + wk * (B * O) := by
    rw [← Int.add_mul]
    exact congrArg (fun q : Int => q * ((B : Int) * O)) (by omega)
  have b3 : ((W + wk : Nat) : Int) * (B * O) ≤ 1000 * (10 * O) :=
    Int.mul_le_mul (by omega) (Int.mul_le_mul_of_nonneg_right (by omega) (Int.le_of_lt hO)) (Int.mul_nonneg (by omega) (Int.le_of_lt hO)) (by omega)
  have b4 : ((k + 1 : Nat) : Int) * (3102000 * G) = k * (3102000 * G) + 3102000 * G := by rw [Int.natCast_add, Int.add_mul]; simp
  have b5 : ((k : Nat) : Int) * (3102000 * G) ≤ 5 * (3102000 * G) := Int.mul_le_mul_of_nonneg_right (by omega) (by omega)
  exact ⟨by omega, by omega, fun h => by omega⟩
/-- a value between 0 and B -/
def vB (B : Nat) (x : UInt64) : Prop := DF x ∧ 0 ≤ zv x ∧ zv x ≤ B * (FP.Core.one64 : Int)
theorem chS_z0 {O G : Int} {B : Nat} (z : Int) (hz : z = 0) : 1000 * z ≤ ((0 : Nat) : Int) * (B * O) + ((0 : Nat) : Int) * (3102000 * G) := by subst hz; simp
theorem chS_ok {o sd rg r a B : Nat} {C : Nat → UInt64} (hs : sd ≤ 200) (hr : rg ≤ 200) (h1 : 1 ≤ a) (h2 : a < 63) (hB : B ≤ 10)
    (hC : ∀ d, d ≤ r → (d = 0 ∨ leN o ≤ d) → vB B (C d)) : ∀ k, k ≤ fC a →
    DF (chS o sd rg C r a k) ∧ 0 ≤ zv (chS o sd rg C r a k) ∧ 1000 * zv (chS o sd rg C r a k) ≤ (wTo sd rg a k : Int) * (B * (FP.Core.one64 : Int)) + k * (3102000 * gr)
  | 0, _ => by
    obtain ⟨e1, e2⟩ := dconst0_zv
    refine ⟨e1, ?_, ?_⟩
    · show _ ≤ zv FP.dconst0
      rw [e2]
      exact Int.le_refl _
    · exact chS_z0 (zv FP.dconst0) e2
  | k + 1, hk => by
    have hc := fC_le a
    obtain ⟨i1, i2, i4⟩ := chS_ok (o := o) (C := C) hs hr h1 h2 hB hC k (by omega)
    have hw := wt_le (sd := sd) (rg := rg) (q := 5 * a + k) hs hr (by omega)
    have hall := wTo_all hs hr h1 h2
    have hmono := wTo_mono sd rg a (k := k + 1) (j := fC a) (by omega)
    have hw2 : wTo sd rg a (k + 1) = wTo sd rg a k + wtN sd rg (5 * a + k) := rfl
    rw [hw2] at hmono ⊢
    simp only [chS]
    cases hx : nxN o r (fS (5 * a + k)) with
    | none =>
      obtain ⟨l1, l2, l3⟩ := chS_lin (p := 0) (v := 0) (s := zv (chS o sd rg C r a k)) (wk := wtN sd rg (5 * a + k)) one_posI gr_posI one_grI hB (by omega) (by omega) i4 i2 (Int.mul_nonneg (by omega) (Int.le_of_lt one_posI)) (by have := gr_posI; rw [Int.mul_zero, Int.mul_zero]; exact Int.add_nonneg (Int.le_refl 0) (Int.mul_nonneg (by decide) (Int.le_of_lt gr_posI))) (Int.le_refl _)
      exact ⟨i1, i2, l3 (by have := gr_posI; rw [Int.add_zero]; exact Int.le_add_of_nonneg_right (Int.le_of_lt gr_posI))⟩
    | some d =>
      simp only []
      obtain ⟨e1, e2, e3⟩ := nxN_eq hx
      obtain ⟨d1, d2, d3⟩ := hC d (by omega) (by unfold leN; split <;> omega)
      obtain ⟨p1, p2, p3, p4⟩ := odd_mul hw d1 (Nat.le_trans hB (by decide)) d2 d3
      obtain ⟨l1, l2, l3⟩ := chS_lin (s := zv (FP.dadd (chS o sd rg C r a k) (FP.dmul (odW (wtN sd rg (5 * a + k))) (C d)))) (wk := wtN sd rg (5 * a + k)) one_posI gr_posI one_grI hB (by omega) (by omega) i4 i2 d3 p3 p2
      obtain ⟨s1, s2, s3⟩ := add_err i1 p1 l1 l2
      exact ⟨s1, Int.le_trans i2 (add_ge i1 p1 p2), l3 s2⟩
theorem chS_fin {O G z : Int} {B k : Nat} (hO : 0 < O) (hG : 0 < G) (hOG : O = 1073741824 * G) (hk : k ≤ 5) (hz : 1000 * z ≤ ((1000 : Nat) : Int) * (B * O) + k * (3102000 * G)) : z ≤ ((B + 1 : Nat) : Int) * O := by
  have b5 : ((k : Nat) : Int) * (3102000 * G) ≤ 5 * (3102000 * G) := Int.mul_le_mul_of_nonneg_right (by omega) (by omega)
  have b4 : ((B + 1 : Nat) : Int) * O = B * O + O := by rw [Int.natCast_add, Int.add_mul]; simp
  omega
theorem chS_all {o sd rg r a B : Nat} {C : Nat → UInt64} (hs : sd ≤ 200) (hr : rg ≤ 200) (h1 : 1 ≤ a) (h2 : a < 63) (hB : B ≤ 10)
    (hC : ∀ d, d ≤ r → (d = 0 ∨ leN o ≤ d) → vB B (C d)) : vB (B + 1) (chS o sd rg C r a (fC a)) := by
  obtain ⟨i1, i2, i3⟩ := chS_ok (o := o) (C := C) hs hr h1 h2 hB hC (fC a) (Nat.le_refl _)
  rw [wTo_all hs hr h1 h2] at i3
  exact ⟨i1, i2, chS_fin one_posI gr_posI one_grI (fC_le a) i3⟩
theorem chS_congr {o sd rg r a : Nat} {C C' : Nat → UInt64} (h : ∀ d, d ≤ r → (d = 0 ∨ leN o ≤ d) → C d = C' d) : ∀ k, chS o sd rg C r a k = chS o sd rg C' r a k
  | 0 => rfl
  | k + 1 => by
    simp only [chS]
    rw [chS_congr (o := o) (sd := sd) (rg := rg) (r := r) (a := a) h k]
    cases hx : nxN o r (fS (5 * a + k)) with
    | none => rfl
    | some d =>
      obtain ⟨e1, e2, e3⟩ := nxN_eq hx
      simp only []
      rw [h d (by omega) (by unfold leN; split <;> omega)]
/-- the first greatest of the values of AIMS 1 .. k + 1 -/
def csel (V : Nat → UInt64) : Nat → Nat × UInt64
  | 0 => (1, V 1)
  | k + 1 => if dgt (V (k + 2)) (csel V k).2 = true then (k + 2, V (k + 2)) else csel V k
theorem csel_in (V : Nat → UInt64) : ∀ k, 1 ≤ (csel V k).1 ∧ (csel V k).1 ≤ k + 1 ∧ (csel V k).2 = V (csel V k).1
  | 0 => ⟨Nat.le_refl _, Nat.le_refl _, rfl⟩
  | k + 1 => by
    obtain ⟨i1, i2, i3⟩ := csel_in V k
    simp only [csel]
    by_cases h : dgt (V (k + 2)) (csel V k).2 = true
    · rw [if_pos h]
      exact ⟨by omega, Nat.le_refl _, rfl⟩
    · rw [if_neg h]
      exact ⟨i1, by omega, i3⟩
theorem csel_congr {V V' : Nat → UInt64} : ∀ k, (∀ a, 1 ≤ a → a ≤ k + 1 → V a = V' a) → csel V k = csel V' k
  | 0, h => by simp only [csel]; rw [h 1 (by omega) (by omega)]
  | k + 1, h => by
    simp only [csel]
    rw [csel_congr k (fun a h1 h2 => h a h1 (by omega)), h (k + 2) (by omega) (by omega)]
/-- CHANCES and their AIMS by k DARTS -/
def cT (o sd rg : Nat) : Nat → Nat → Nat × UInt64
  | 0 => fun r => (0, if r = 0 then FP.dconst1 else FP.dconst0)
  | k + 1 => fun r => if r = 0 then (0, FP.dconst1) else csel (fun a => chS o sd rg (fun d => (cT o sd rg k d).2) r a (fC a)) 61
def cN (o sd rg k r : Nat) : UInt64 := (cT o sd rg k r).2
def cA_ (o sd rg k r : Nat) : Nat := (cT o sd rg k r).1
theorem vB_mono {B C : Nat} {x : UInt64} (h : B ≤ C) (H : vB B x) : vB C x := ⟨H.1, H.2.1, Int.le_trans H.2.2 (Int.mul_le_mul_of_nonneg_right (by omega) (Int.le_of_lt one_posI))⟩
theorem vB0 (B : Nat) : vB B FP.dconst0 := by
  obtain ⟨c1, c2⟩ := dconst0_zv
  exact ⟨c1, by rw [c2]; exact Int.le_refl _, by rw [c2]; exact Int.mul_nonneg (by omega) (Int.le_of_lt one_posI)⟩
theorem vB1 : vB 1 FP.dconst1 := by
  obtain ⟨c1, c2⟩ := dconst1_zv
  exact ⟨c1, by rw [c2]; exact Int.le_of_lt one_posI, by rw [c2]; exact Int.le_of_eq (Int.one_mul _).symm⟩
theorem cN_ok {o sd rg : Nat} (hs : sd ≤ 200) (hr : rg ≤ 200) : ∀ (k r : Nat), k ≤ 9 → vB (k + 1) (cN o sd rg k r)
  | 0, r, _ => by
    unfold cN
    simp only [cT]
    split
    · exact vB1
    · exact vB0 _
  | k + 1, r, hk => by
    unfold cN
    simp only [cT]
    split
    · exact vB_mono (by omega) vB1
    · obtain ⟨i1, i2, i3⟩ := csel_in (fun a => chS o sd rg (fun d => (cT o sd rg k d).2) r a (fC a)) 61
      rw [i3]
      exact chS_all hs hr i1 (by omega) (by omega) (fun d _ _ => cN_ok hs hr k d (by omega))
theorem cA_lt {o sd rg k r : Nat} (hk : 1 ≤ k) (hr : r ≠ 0) : 1 ≤ cA_ o sd rg k r ∧ cA_ o sd rg k r < 63 := by
  obtain ⟨j, rfl⟩ : ∃ j, k = j + 1 := ⟨k - 1, by omega⟩
  obtain ⟨i1, i2, i3⟩ := csel_in (fun a => chS o sd rg (fun d => (cT o sd rg j d).2) r a (fC a)) 61
  unfold cA_
  simp only [cT, if_neg hr]
  exact ⟨i1, by omega⟩
/-- what a Mind knows of CHANCES: up to ck, and at ck + 1 by fewer than kk DARTS -/
def MC (h : XH) (b o sd rg ck kk : Nat) : Prop := leN o ≤ ck + 1 ∧ ck ≤ 180 ∧ rA h (b + 6) 4 4 (fun k => some (b + 7 + k)) ∧ rA h (b + 11) 3 4 (fun k => some (b + 12 + k)) ∧
  ∀ k, k ≤ 3 → ∃ (fc : Nat → UInt64) (fa : Nat → Int32), h.2 (b + 7 + k) = .inl (2, 181, .inr (.inr (.inr (.inl fc)))) ∧ h.2 (b + 12 + k) = .inl (0, 181, .inl fa) ∧
    ∀ r, r ≤ 180 → (r = 0 ∨ k = 0 ∨ (leN o ≤ r ∧ (r ≤ ck ∨ (r = ck + 1 ∧ k < kk)))) → fc r = cN o sd rg k r ∧ (1 ≤ k → r ≠ 0 → fa r = nI (cA_ o sd rg k r))
theorem MC.same {S : List Nat} {h h' : XH} {b o sd rg ck kk : Nat} (H : MC h b o sd rg ck kk) (hs : Same S h h') (h6 : b + 6 ∉ S) (h11 : b + 11 ∉ S) (hk : ∀ k, k ≤ 3 → b + 7 + k ∉ S ∧ b + 12 + k ∉ S) : MC h' b o sd rg ck kk := by
  obtain ⟨q1, q2, q3, q4, q5⟩ := H
  refine ⟨q1, q2, q3.same hs h6, q4.same hs h11, fun k hk3 => ?_⟩
  obtain ⟨fc, fa, e1, e2, e3⟩ := q5 k hk3
  exact ⟨fc, fa, hs.at (hk k hk3).1 e1, hs.at (hk k hk3).2 e2, e3⟩
theorem MC.up {h : XH} {b o sd rg ck : Nat} (hc : ck + 1 ≤ 180) (H : MC h b o sd rg ck 4) : MC h b o sd rg (ck + 1) 1 := by
  obtain ⟨q1, q2, q3, q4, q5⟩ := H
  refine ⟨by omega, hc, q3, q4, fun k hk3 => ?_⟩
  obtain ⟨fc, fa, e1, e2, e3⟩ := q5 k hk3
  exact ⟨fc, fa, e1, e2, fun r h1 h2 => e3 r h1 (by omega)⟩
/-- a row that is right at all that a DART from r may leave -/
def cOK (o sd rg k r : Nat) (fc : Nat → UInt64) : Prop := ∀ d, d ≤ r → (d = 0 ∨ leN o ≤ d) → fc d = cN o sd rg k d
theorem cOK.val {o sd rg k r : Nat} {fc : Nat → UInt64} (H : cOK o sd rg k r fc) (hs : sd ≤ 200) (hr : rg ≤ 200) (hk : k ≤ 3) : ∀ d, d ≤ r → (d = 0 ∨ leN o ≤ d) → vB (k + 1) (fc d) := by
  intro d hd hz
  rw [H d hd hz]
  exact cN_ok hs hr k d (by omega)
theorem l_chanceBy (w : XW) (h : XH) {o b sd rg dk ck r a j : Nat} {fc : Nat → UInt64} (hn : 42 ≤ h.1) (hF : FA h) (hM : MI h b sd rg dk ck) (hN : iA h (b + 3) 63 (fun s => oI (nxN o r s))) (hR6 : rA h (b + 6) 4 4 (fun k => some (b + 7 + k))) (ec : h.2 (b + 7 + j) = .inl (2, 181, .inr (.inr (.inr (.inl fc))))) (hC : cOK o sd rg j r fc) (hj : j ≤ 2) (hr : r ≤ 180) (h1 : 1 ≤ a) (h2 : a < 63) (P : Option Value → XH → Prop) (hP : P (some (.double (chS o sd rg fc r a (fC a)))) h) : ∀ (g k : Nat), k + g = fC a → AX w M_X4_chanceBy 0 0 11 [.ref b, .int (nI a), .int (nI j), .double (chS o sd rg fc r a k), .null, .int (nI (5 * a)), .int (nI (5 * a + k)), .null] [] h P
  | 0, k, hg => by
    have e : k = fC a := by omega
    subst e
    obtain ⟨hb, hs, hrg, eb, qw0, ⟨co, do_, qo⟩⟩ := id hM
    obtain ⟨cn, dn, qn⟩ := id hN
    obtain ⟨c5, d5, r5⟩ := id hF.2.1
    obtain ⟨c6, d6, r6⟩ := id hF.2.2.1
    obtain ⟨fr, er, qr⟩ := id hR6
    have hc5 := fC_le a
    have hV := hC.val hs hrg (by omega)
    refine AX.iload (pc := 11) dX4_chanceBy_11 rfl ?_
    refine AX.iload (pc := 13) dX4_chanceBy_13 rfl ?_
    refine AX.aload_n (pc := 15) dX4_chanceBy_15 rfl ?_
    refine AX.getf (pc := 16) fX4_chanceBy_49 (lt_k hn (by omega)) eb rfl dX4_chanceBy_16 ?_
    refine AX.getf (pc := 19) fX4_chanceBy_94 (lt_k hn (by omega)) hF.1 rfl dX4_chanceBy_19 ?_
    refine AX.iload_n (pc := 22) dX4_chanceBy_22 rfl ?_
    refine AX.ialdN (pc := 23) (i := a) (v := (nI (fC a))) (lt_k hn (by omega)) d5 (by decide) (by omega) (r5 _ h2) dX4_chanceBy_23 ?_
    refine AX.iaddN (pc := 24) (c := 5 * a + (fC a)) dX4_chanceBy_24 rfl ?_
    refine AX.icmp_geN (pc := 25) (tgt := 78) dX4_chanceBy_25 (by decide) (by omega) (by omega) (fun hc25 => ?_) (fun q => absurd q (by omega))
    refine AX.dload_n (pc := 78) dX4_chanceBy_78 rfl ?_
    refine AX.dret (pc := 79) dX4_chanceBy_79 rfl (by decide) (by decide) ?_
    exact hP
  | g + 1, k, hg => by
    obtain ⟨hb, hs, hrg, eb, qw0, ⟨co, do_, qo⟩⟩ := id hM
    obtain ⟨cn, dn, qn⟩ := id hN
    obtain ⟨c5, d5, r5⟩ := id hF.2.1
    obtain ⟨c6, d6, r6⟩ := id hF.2.2.1
    obtain ⟨fr, er, qr⟩ := id hR6
    have hc5 := fC_le a
    have hV := hC.val hs hrg (by omega)
    have h63 := fS_lt (5 * a + k) (by omega)
    have hwt := wt_le (sd := sd) (rg := rg) (q := 5 * a + k) hs hrg (by omega)
    have hS1 := chS_ok (o := o) (r := r) (a := a) (C := fc) hs hrg h1 h2 (B := j + 1) (by omega) hV (k + 1) (by omega)
    have hz : chS o sd rg fc r a (k + 1) = match nxN o r (fS (5 * a + k)) with
      | none => chS o sd rg fc r a k
      | some d => FP.dadd (chS o sd rg fc r a k) (FP.dmul (odW (wtN sd rg (5 * a + k))) (fc d)) := rfl
    have ih := l_chanceBy w h hn hF hM hN hR6 ec hC hj hr h1 h2 P hP g (k + 1) (by omega)
    cases hx : nxN o r (fS (5 * a + k)) with
    | none =>
      rw [hx] at hz
      rw [hz] at ih
      refine AX.iload (pc := 11) dX4_chanceBy_11 rfl ?_
      refine AX.iload (pc := 13) dX4_chanceBy_13 rfl ?_
      refine AX.aload_n (pc := 15) dX4_chanceBy_15 rfl ?_
      refine AX.getf (pc := 16) fX4_chanceBy_49 (lt_k hn (by omega)) eb rfl dX4_chanceBy_16 ?_
      refine AX.getf (pc := 19) fX4_chanceBy_94 (lt_k hn (by omega)) hF.1 rfl dX4_chanceBy_19 ?_
      refine AX.iload_n (pc := 22) dX4_chanceBy_22 rfl ?_
      refine AX.ialdN (pc := 23) (i := a) (v := (nI (fC a))) (lt_k hn (by omega)) d5 (by decide) (by omega) (r5 _ h2) dX4_chanceBy_23 ?_
      refine AX.iaddN (pc := 24) (c := 5 * a + (fC a)) dX4_chanceBy_24 rfl ?_
      refine AX.icmp_geN (pc := 25) (tgt := 78) dX4_chanceBy_25 (by decide) (by omega) (by omega) (fun q => absurd q (by omega)) (fun hc25 => ?_)
      refine AX.aload_n (pc := 28) dX4_chanceBy_28 rfl ?_
      refine AX.getf (pc := 29) fX4_chanceBy_26 (lt_k hn (by omega)) eb rfl dX4_chanceBy_29 ?_
      refine AX.aload_n (pc := 32) dX4_chanceBy_32 rfl ?_
      refine AX.getf (pc := 33) fX4_chanceBy_49 (lt_k hn (by omega)) eb rfl dX4_chanceBy_33 ?_
      refine AX.getf (pc := 36) fX4_chanceBy_97 (lt_k hn (by omega)) hF.1 rfl dX4_chanceBy_36 ?_
      refine AX.iload (pc := 39) dX4_chanceBy_39 rfl ?_
      refine AX.ialdN (pc := 41) (i := 5 * a + k) (v := (nI (fS (5 * a + k)))) (lt_k hn (by omega)) d6 (by decide) (by omega) (r6 _ (by omega)) dX4_chanceBy_41 ?_
      refine AX.ialdN (pc := 42) (i := fS (5 * a + k)) (v := (-5)) (lt_k hn (by omega)) dn (by decide) h63 ((qn _ h63).trans (by show oI (nxN o r (fS (5 * a + k))) = _; rw [hx]; rfl)) dX4_chanceBy_42 ?_
      refine AX.istore (pc := 43) (L' := [.ref b, .int (nI a), .int (nI j), .double (chS o sd rg fc r a k), .null, .int (nI (5 * a)), .int (nI (5 * a + k)), .int (-5)]) dX4_chanceBy_43 (by decide) rfl ?_
      refine AX.iload (pc := 45) dX4_chanceBy_45 rfl ?_
      refine AX.bipush (pc := 47) (v := (-5)) dX4_chanceBy_47 (by decide) ?_
      refine AX.icmp_eq (pc := 49) (tgt := 72) dX4_chanceBy_49 (by decide) (fun hc49 => ?_) (fun q => absurd rfl q)
      refine AX.iincN (c := 5 * a + k + 1) (pc := 72) (L' := [.ref b, .int (nI a), .int (nI j), .double (chS o sd rg fc r a k), .null, .int (nI (5 * a)), .int (nI (5 * a + k + 1)), .int (-5)]) dX4_chanceBy_72 rfl (inc1 _) (by decide) rfl ?_
      refine AX.goto (pc := 75) (tgt := 11) dX4_chanceBy_75 (by decide) ?_
      refine AX.sub (L' := [.ref b, .int (nI a), .int (nI j), .double (chS o sd rg fc r a k), .null, .int (nI (5 * a)), .int (nI (5 * a + (k + 1))), .null]) ⟨Or.inr rfl, Or.inr rfl, Or.inr rfl, Or.inr rfl, Or.inl rfl, Or.inr rfl, Or.inr rfl, Or.inl rfl, trivial⟩ ?_
      exact ih
    | some d =>
      have hd := nxN_eq hx
      rw [hx] at hz
      rw [hz] at ih hS1
      obtain ⟨v1, v2, v3⟩ := hV d (by omega) (by unfold leN; split <;> omega)
      refine AX.iload (pc := 11) dX4_chanceBy_11 rfl ?_
      refine AX.iload (pc := 13) dX4_chanceBy_13 rfl ?_
      refine AX.aload_n (pc := 15) dX4_chanceBy_15 rfl ?_
      refine AX.getf (pc := 16) fX4_chanceBy_49 (lt_k hn (by omega)) eb rfl dX4_chanceBy_16 ?_
      refine AX.getf (pc := 19) fX4_chanceBy_94 (lt_k hn (by omega)) hF.1 rfl dX4_chanceBy_19 ?_
      refine AX.iload_n (pc := 22) dX4_chanceBy_22 rfl ?_
      refine AX.ialdN (pc := 23) (i := a) (v := (nI (fC a))) (lt_k hn (by omega)) d5 (by decide) (by omega) (r5 _ h2) dX4_chanceBy_23 ?_
      refine AX.iaddN (pc := 24) (c := 5 * a + (fC a)) dX4_chanceBy_24 rfl ?_
      refine AX.icmp_geN (pc := 25) (tgt := 78) dX4_chanceBy_25 (by decide) (by omega) (by omega) (fun q => absurd q (by omega)) (fun hc25 => ?_)
      refine AX.aload_n (pc := 28) dX4_chanceBy_28 rfl ?_
      refine AX.getf (pc := 29) fX4_chanceBy_26 (lt_k hn (by omega)) eb rfl dX4_chanceBy_29 ?_
      refine AX.aload_n (pc := 32) dX4_chanceBy_32 rfl ?_
      refine AX.getf (pc := 33) fX4_chanceBy_49 (lt_k hn (by omega)) eb rfl dX4_chanceBy_33 ?_
      refine AX.getf (pc := 36) fX4_chanceBy_97 (lt_k hn (by omega)) hF.1 rfl dX4_chanceBy_36 ?_
      refine AX.iload (pc := 39) dX4_chanceBy_39 rfl ?_
      refine AX.ialdN (pc := 41) (i := 5 * a + k) (v := (nI (fS (5 * a + k)))) (lt_k hn (by omega)) d6 (by decide) (by omega) (r6 _ (by omega)) dX4_chanceBy_41 ?_
      refine AX.ialdN (pc := 42) (i := fS (5 * a + k)) (v := (nI d)) (lt_k hn (by omega)) dn (by decide) h63 ((qn _ h63).trans (by show oI (nxN o r (fS (5 * a + k))) = _; rw [hx]; rfl)) dX4_chanceBy_42 ?_
      refine AX.istore (pc := 43) (L' := [.ref b, .int (nI a), .int (nI j), .double (chS o sd rg fc r a k), .null, .int (nI (5 * a)), .int (nI (5 * a + k)), .int (nI d)]) dX4_chanceBy_43 (by decide) rfl ?_
      refine AX.iload (pc := 45) dX4_chanceBy_45 rfl ?_
      refine AX.bipush (pc := 47) (v := (-5)) dX4_chanceBy_47 (by decide) ?_
      refine AX.icmp_eq (pc := 49) (tgt := 72) dX4_chanceBy_49 (by decide) (fun q => absurd q (nI_m5 (by omega))) (fun hc49 => ?_)
      refine AX.dload_n (pc := 52) dX4_chanceBy_52 rfl ?_
      refine AX.aload_n (pc := 53) dX4_chanceBy_53 rfl ?_
      refine AX.getf (pc := 54) fX4_chanceBy_22 (lt_k hn (by omega)) eb rfl dX4_chanceBy_54 ?_
      refine AX.iload (pc := 57) dX4_chanceBy_57 rfl ?_
      refine AX.daldN (pc := 59) (i := 5 * a + k) (v := (odW (wtN sd rg (5 * a + k)))) (lt_k hn (by omega)) do_ (by decide) (by omega) (qo _ (by omega)) dX4_chanceBy_59 ?_
      refine AX.aload_n (pc := 60) dX4_chanceBy_60 rfl ?_
      refine AX.getf (pc := 61) fX4_chanceBy_37 (lt_k hn (by omega)) eb rfl dX4_chanceBy_61 ?_
      refine AX.iload_n (pc := 64) dX4_chanceBy_64 rfl ?_
      refine AX.aaldN (pc := 65) (i := j) (b := b + 7 + j) (by decide) (lt_k hn (by omega)) er (by decide) (by omega) (qr _ (by omega)) dX4_chanceBy_65 ?_
      refine AX.iload (pc := 66) dX4_chanceBy_66 rfl ?_
      refine AX.daldN (pc := 68) (i := d) (v := (fc d)) (lt_k hn (by omega)) ec (by decide) (by omega) rfl dX4_chanceBy_68 ?_
      refine AX.dmul (pc := 69) dX4_chanceBy_69 (vfn (odd_mul hwt v1 (B := j + 1) (by omega) v2 v3).1) ?_
      refine AX.dadd (pc := 70) dX4_chanceBy_70 (vfn hS1.1) ?_
      refine AX.dstore_n (pc := 71) (L' := [.ref b, .int (nI a), .int (nI j), .double (FP.dadd (chS o sd rg fc r a k) (FP.dmul (odW (wtN sd rg (5 * a + k))) (fc d))), .null, .int (nI (5 * a)), .int (nI (5 * a + k)), .int (nI d)]) dX4_chanceBy_71 (by decide) rfl ?_
      refine AX.iincN (c := 5 * a + k + 1) (pc := 72) (L' := [.ref b, .int (nI a), .int (nI j), .double (FP.dadd (chS o sd rg fc r a k) (FP.dmul (odW (wtN sd rg (5 * a + k))) (fc d))), .null, .int (nI (5 * a)), .int (nI (5 * a + k + 1)), .int (nI d)]) dX4_chanceBy_72 rfl (inc1 _) (by decide) rfl ?_
      refine AX.goto (pc := 75) (tgt := 11) dX4_chanceBy_75 (by decide) ?_
      refine AX.sub (L' := [.ref b, .int (nI a), .int (nI j), .double (FP.dadd (chS o sd rg fc r a k) (FP.dmul (odW (wtN sd rg (5 * a + k))) (fc d))), .null, .int (nI (5 * a)), .int (nI (5 * a + (k + 1))), .null]) ⟨Or.inr rfl, Or.inr rfl, Or.inr rfl, Or.inr rfl, Or.inl rfl, Or.inr rfl, Or.inr rfl, Or.inl rfl, trivial⟩ ?_
      exact ih
theorem c_chanceBy (w : XW) (h : XH) {o b sd rg dk ck r a j : Nat} {fc : Nat → UInt64} (hn : 42 ≤ h.1) (hF : FA h) (hM : MI h b sd rg dk ck) (hN : iA h (b + 3) 63 (fun s => oI (nxN o r s))) (hR6 : rA h (b + 6) 4 4 (fun k => some (b + 7 + k))) (ec : h.2 (b + 7 + j) = .inl (2, 181, .inr (.inr (.inr (.inl fc))))) (hC : cOK o sd rg j r fc) (hj : j ≤ 2) (hr : r ≤ 180) (h1 : 1 ≤ a) (h2 : a < 63) : CA w M_X4_chanceBy [.ref b, .int (nI a), .int (nI j)] h (fun v' h'' => v' = some (.double (chS o sd rg fc r a (fC a))) ∧ h'' = h) := by
  refine CA.of (by decide) rfl (fun _ => Nat.le_of_ble_eq_true rfl) ?_
  show AX w M_X4_chanceBy 0 0 0 [.ref b, .int (nI a), .int (nI j), .null, .null, .null, .null, .null] [] h _
  refine AX.dconst0 (pc := 0) dX4_chanceBy_0 ?_
  refine AX.dstore_n (pc := 1) (L' := [.ref b, .int (nI a), .int (nI j), .double FP.dconst0, .null, .null, .null, .null]) dX4_chanceBy_1 (by decide) rfl ?_
  refine AX.iload_n (pc := 2) dX4_chanceBy_2 rfl ?_
  refine AX.iconst (pc := 3) (v := nI 5) dX4_chanceBy_3 (by decide) ?_
  refine AX.imul (pc := 4) dX4_chanceBy_4 ?_
  refine AX.topi (y := (nI (5 * a))) (by rw [pk_mul, Nat.mul_comm]) ?_
  refine AX.istore (pc := 5) (L' := [.ref b, .int (nI a), .int (nI j), .double FP.dconst0, .null, .int (nI (5 * a)), .null, .null]) dX4_chanceBy_5 (by decide) rfl ?_
  refine AX.iload (pc := 7) dX4_chanceBy_7 rfl ?_
  refine AX.istore (pc := 9) (L' := [.ref b, .int (nI a), .int (nI j), .double FP.dconst0, .null, .int (nI (5 * a)), .int (nI (5 * a)), .null]) dX4_chanceBy_9 (by decide) rfl ?_
  exact l_chanceBy w h hn hF hM hN hR6 ec hC hj hr h1 h2 _ ⟨rfl, rfl⟩ (fC a) 0 (by omega)
