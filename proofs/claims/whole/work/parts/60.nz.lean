/-! ===== no value is -0.0 ===== -/
abbrev NZ (x : UInt64) : Prop := x.toNat ≠ 9223372036854775808
theorem df_lt {x : UInt64} (h : DF x) : x.toNat % 9223372036854775808 < 9218868437227405312 := (FP.Core.fin_bits x).mp h
theorem nz_of {x : UInt64} (h : x.toNat = 9223372036854775808) : FP.Core.val64 x = .fin true 0 (-1074) := by
  have e : x = 9223372036854775808 := UInt64.toNat_inj.mp h
  subst e
  decide +kernel
theorem nz_pos {x : UInt64} (h : 0 < zv x) : NZ x := fun e => by
  have := nz_of e
  unfold zv at h
  rw [this] at h
  exact absurd h (by decide)
theorem nz_dadd {a b : UInt64} (h : NZ a) : NZ (FP.dadd a b) := fun e => by
  have e1 := nz_of e
  have e2 : FP.Core.val64 (FP.dadd a b) = FP.Core.round FP.Core.b64 (FP.Core.exactSum (FP.Core.val64 a) (FP.Core.val64 b)) := FP.Core.val64_dadd a b
  rw [e1] at e2
  have fa := FP.Core.val64_fits a
  cases ha : FP.Core.val64 a with
  | nan =>
    rw [ha] at e2
    cases hb : FP.Core.val64 b <;> rw [hb] at e2 <;> cases e2
  | inf s =>
    rw [ha] at e2
    cases hb : FP.Core.val64 b with
    | nan => rw [hb] at e2; cases e2
    | inf t =>
      rw [hb] at e2
      unfold FP.Core.exactSum at e2
      by_cases hst : s = t
      · simp only [hst, if_true] at e2; cases e2
      · simp only [hst, if_false] at e2; cases e2
    | fin t d r => rw [hb] at e2; cases e2
  | fin s c q =>
    rw [ha] at e2 fa
    cases hb : FP.Core.val64 b with
    | nan => rw [hb] at e2; cases e2
    | inf t => rw [hb] at e2; cases e2
    | fin t d r =>
      have fb := FP.Core.val64_fits b
      rw [hb] at e2 fb
      obtain ⟨sg, n, e0, x1, x2, x3⟩ := FP.Core.sum_units fa fb
      rw [x1] at e2
      have e3 : FP.Core.roundRatio FP.Core.b64 sg n 1 e0 = .fin true 0 (-1074) := e2.symm
      have hs : sg = true := by
        have := FP.Core.sgn_roundRatio FP.Core.b64 sg n 1 e0
        rw [e3] at this
        exact this.symm
      have hn : n = 0 := Nat.eq_zero_of_not_pos (fun hp => by
        have hV : FP.Core.fits FP.Core.b64 (.fin false 1 (-1074)) := bt_fits (Or.inr rfl) (by omega) (by omega) (by omega)
        have hz : FP.Core.zmag FP.Core.b64 (.fin false 1 (-1074)) = 1 := by decide
        have := FP.Core.zmag_roundRatio_ge FP.Core.good_b64 (s := sg) (A := n) (B := 1) (e := e0) (e0 := FP.Core.b64.qmin) (by decide) hV (Int.le_refl _) x2 (by
          rw [hz, Int.sub_self]
          show 1 * 2 ^ 0 * 1 ≤ n * 2 ^ _
          exact Nat.mul_pos hp (Nat.two_pow_pos _))
        rw [e3, hz] at this
        exact absurd this (by decide))
      subst hs
      subst hn
      have e4 : FP.Core.exactSum (.fin s c q) (.fin t d r) = .fin (FP.Core.sumSign s t (FP.Core.sumUnits s c q t d r (min q r))) (FP.Core.sumUnits s c q t d r (min q r)).natAbs (min q r) := rfl
      rw [e4] at x1
      have y1 : FP.Core.sumSign s t (FP.Core.sumUnits s c q t d r (min q r)) = true := by injection x1
      have y2 : (FP.Core.sumUnits s c q t d r (min q r)).natAbs = 0 := by injection x1
      have y3 : FP.Core.sumUnits s c q t d r (min q r) = 0 := Int.natAbs_eq_zero.mp y2
      rw [y3] at y1
      have y4 : (s && t) = true := y1
      rw [Bool.and_eq_true] at y4
      obtain ⟨rfl, rfl⟩ := y4
      have y5 : -((FP.Core.inUnits c q (min q r) : Nat) : Int) + -((FP.Core.inUnits d r (min q r) : Nat) : Int) = 0 := y3
      have y6 : FP.Core.inUnits c q (min q r) = 0 := by omega
      have y7 : c = 0 := by
        unfold FP.Core.inUnits at y6
        rcases Nat.mul_eq_zero.mp y6 with z | z
        · exact z
        · exact absurd z (Nat.ne_of_gt (Nat.two_pow_pos _))
      have na : FP.Core.val64 a ≠ .nan := by rw [ha]; exact fun z => by cases z
      have z0 : FP.Core.zval FP.Core.b64 (FP.Core.val64 a) = 0 := by
        rw [ha, y7]
        show -(((0 * 2 ^ _ : Nat)) : Int) = 0
        rw [Nat.zero_mul]; rfl
      have z1 := (FP.Core.zval_eq_zero na).mp z0
      have z2 := FP.Core.sgn_bits na
      rw [ha] at z2
      have z3 : 2 ^ 63 ≤ a.toNat := of_decide_eq_true z2.symm
      have z4 := a.toNat_lt
      exact h (by omega)
theorem nz_chS (o sd rg : Nat) (C : Nat → UInt64) (r a : Nat) : ∀ k, NZ (chS o sd rg C r a k)
  | 0 => by show NZ FP.dconst0; decide
  | k + 1 => by
    unfold chS
    split
    · exact nz_chS o sd rg C r a k
    · exact nz_dadd (nz_chS o sd rg C r a k)
theorem nz_cN (o sd rg : Nat) : ∀ k r, NZ (cN o sd rg k r)
  | 0, r => by
    unfold cN
    simp only [cT]
    split
    · decide
    · decide
  | k + 1, r => by
    unfold cN
    simp only [cT]
    split
    · decide
    · obtain ⟨i1, i2, i3⟩ := csel_in (fun a => chS o sd rg (fun d => (cT o sd rg k d).2) r a (fC a)) 61
      rw [i3]
      exact nz_chS _ _ _ _ _ _ _
theorem nz_rcS (o sd rg : Nat) (V : Nat → UInt64) (r a : Nat) : ∀ k, NZ (rcS o sd rg V r a k).1
  | 0 => by show NZ FP.dconst0; decide
  | k + 1 => by
    unfold rcS
    split
    · exact nz_rcS o sd rg V r a k
    · split
      · exact nz_rcS o sd rg V r a k
      · split
        · exact nz_dadd (nz_rcS o sd rg V r a k)
        · exact nz_dadd (nz_rcS o sd rg V r a k)
theorem nz_swV {Z : Nat → UInt64 × Nat} (h : ∀ a, NZ (Z a).1) (y : UInt64) : NZ (swV Z y) := nz_dadd (h _)
theorem nz_swN {Z0 Z1 : Nat → UInt64 × Nat} (h0 : ∀ a, NZ (Z0 a).1) (h1 : ∀ a, NZ (Z1 a).1) : ∀ i, 1 ≤ i → NZ (swN Z0 Z1 i).1 ∧ NZ (swN Z0 Z1 i).2
  | 0, h => absurd h (by decide)
  | i + 1, _ => by
    rw [show swN Z0 Z1 (i + 1) = (swV Z0 (swN Z0 Z1 i).2, swV Z1 (swV Z0 (swN Z0 Z1 i).2)) from rfl]
    exact ⟨nz_swV h0 _, nz_swV h1 _⟩
theorem nz_rcW (o : Nat) (H : Nat → Nat × Nat) (V0 V1 : Nat → UInt64) (r q : Nat) : NZ (rcW o H V0 V1 r q).1 ∧ NZ (rcW o H V0 V1 r q).2.1 := by
  have k := nz_swN (Z0 := fun a => rcS o (H 0).1 (H 0).2 V0 r a (fC a)) (Z1 := fun a => rcS o (H 1).1 (H 1).2 V1 q a (fC a)) (fun a => nz_rcS _ _ _ _ _ _ _) (fun a => nz_rcS _ _ _ _ _ _ _) 12 (by decide)
  unfold rcW
  dsimp only
  exact k
theorem nz_rcV (o : Nat) (H : Nat → Nat × Nat) (r q : Nat) : NZ (rcV o H r q).1 ∧ NZ (rcV o H r q).2.1 := by
  rw [rcV_eq]
  exact nz_rcW _ _ _ _ _ _
theorem dD_zero (o sd rg : Nat) : dD o sd rg 0 = FP.dconst0 := rfl
theorem dD_df {o sd rg r : Nat} (ho : o ≤ 2) (hs : sd ≤ 200) (hr : rg ≤ 200) (h1 : r ≤ 501) (h2 : r = 0 ∨ leN o ≤ r) : DF (dD o sd rg r) ∧ NZ (dD o sd rg r) := by
  by_cases e : r = 0
  · subst e
    rw [dD_zero]
    exact ⟨dconst0_zv.1, by decide⟩
  · obtain ⟨d1, d2, -⟩ := dD_ok ho hs hr r h1 (by omega)
    exact ⟨d1, nz_pos (by have := one_posI; omega)⟩
/-! ===== a float of a double ===== -/
theorem ft_P : 2 ^ FP.Core.b32.p = 16777216 := by decide
theorem ft_Q : FP.Core.b32.qmax = 104 := by decide
/-- a positive double between two whole powers goes to a float between them -/
theorem d2f_in {x : UInt64} (h : DF x) (h1 : (FP.Core.one64 : Int) ≤ 2 * zv x) (h2 : zv x ≤ 4096 * (FP.Core.one64 : Int)) : FP.Core.dIsNaN x = false ∧ 8388608 ≤ (FP.Core.d2f x).toNat ∧ (FP.Core.d2f x).toNat < 2139095040 := by
  have hp := one_posI
  refine ⟨(FP.Core.notNaN_iff x).mpr h.ne_nan, ?_⟩
  obtain ⟨s, c, q, hv⟩ := h
  have fx := FP.Core.val64_fits x
  rw [hv] at fx
  have hs : s = false := by
    cases s
    · rfl
    · exfalso
      have : zv x = -((FP.Core.inUnits c q FP.Core.b64.qmin : Nat) : Int) := by unfold zv; rw [hv]; rfl
      omega
  subst hs
  have ez : zv x = ((FP.Core.inUnits c q FP.Core.b64.qmin : Nat) : Int) := by unfold zv; rw [hv]; rfl
  have e32 : FP.Core.val32 (FP.Core.d2f x) = FP.Core.roundRatio FP.Core.b32 false c 1 q := by
    have : FP.Core.val32 (FP.Core.d2f x) = FP.Core.round FP.Core.b32 (FP.Core.val64 x) := FP.Core.val32_of32 (FP.Core.round_fits FP.Core.good_b32 _)
    rw [this, hv]
    rfl
  have hN1 : FP.Core.one64 ≤ 2 * FP.Core.inUnits c q FP.Core.b64.qmin := by rw [ez] at h1; omega
  have hN2 : FP.Core.inUnits c q FP.Core.b64.qmin ≤ 4096 * FP.Core.one64 := by rw [ez] at h2; omega
  have hq := fx.2.1
  have u1 : FP.Core.unitsOf FP.Core.b32 1056964608 * 2 ^ (FP.Core.b32.qmin - FP.Core.b64.qmin).toNat * 1 * 2 = FP.Core.one64 := by decide +kernel
  have u2 : FP.Core.unitsOf FP.Core.b32 1166016512 * 2 ^ (FP.Core.b32.qmin - FP.Core.b64.qmin).toNat * 1 = 4096 * FP.Core.one64 := by decide +kernel
  have e32' : FP.Core.decode FP.Core.b32 (FP.Core.d2f x).toNat = FP.Core.roundRatio FP.Core.b32 false c 1 q := e32
  have g1 := FP.Core.mag_ge FP.Core.good_b32 (m := 1056964608) (e0 := FP.Core.b64.qmin) e32' (by decide) (by decide) hq (by decide) (by omega)
  have g2 := FP.Core.mag_le FP.Core.good_b32 (m := 1166016512) (e0 := FP.Core.b64.qmin) e32' (by decide) (by decide) hq (by omega)
  rw [FP.Core.mag_toNat32] at g1 g2
  have g3 : FP.Core.sgn (FP.Core.val32 (FP.Core.d2f x)) = false := by rw [e32]; exact FP.Core.sgn_roundRatio _ _ _ _ _
  have g4 := FP.Core.sgn_bits32 (a := FP.Core.d2f x) (by rw [e32]; exact FP.Core.roundRatio_ne_nan _ _ _ _ _)
  rw [g3] at g4
  have g5 : ¬ 2 ^ 31 ≤ (FP.Core.d2f x).toNat := of_decide_eq_false g4.symm
  omega
theorem d2f_eq {x : UInt64} (h : FP.Core.dIsNaN x = false) : FP.d2f x = FP.Core.d2f x := by
  unfold FP.d2f
  rw [h]
  rfl
theorem n32_of {y : UInt32} (h : y.toNat % 2147483648 < 2139095040) : vf_n32 y := by
  unfold vf_n32
  rw [UInt32.le_iff_toNat_le, UInt32.toNat_and]
  show y.toNat &&& 2147483647 ≤ 2139095040
  rw [show (2147483647 : Nat) = 2 ^ 31 - 1 by decide, Nat.and_two_pow_sub_one_eq_mod]
  omega
