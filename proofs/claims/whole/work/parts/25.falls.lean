/-! ===== FALLS AND WEIGHTS ===== -/
/-- FALLS of an AIM: the SPOT, how many times SIDE and R go into the WEIGHT (the first one: the AIM itself) -/
def fLs (a : Nat) : List (Nat × Nat × Nat) :=
  if a < 1 then [] else
  if a ≤ 20 then [(a, 0, 0), (bsN a 19, 1, 0), (bsN a 1, 1, 0), (a + 40, 0, 1), (a + 20, 0, 1)] else
  if a ≤ 40 then [(a, 0, 0), (bsN (a - 20) 19 + 20, 1, 0), (bsN (a - 20) 1 + 20, 1, 0), (a - 20, 0, 1), (0, 0, 1)] else
  if a ≤ 60 then [(a, 0, 0), (bsN (a - 40) 19 + 40, 1, 0), (bsN (a - 40) 1 + 40, 1, 0), (a - 40, 0, 2)] else
  if a = 61 then [(61, 0, 0), (62, 0, 1), (6, 1, 0), (11, 1, 0), (20, 0, 1)] else
  if a = 62 then [(62, 0, 0), (61, 2, 2)] else []
/-- how many; and of place 5 * a + i: SPOT, how many times SIDE, R -/
def fC (a : Nat) : Nat := (fLs a).length
def fS (q : Nat) : Nat := ((fLs (q / 5)).getD (q % 5) (0, 0, 0)).1
def fTS (q : Nat) : Nat := ((fLs (q / 5)).getD (q % 5) (0, 0, 0)).2.1
def fTR (q : Nat) : Nat := ((fLs (q / 5)).getD (q % 5) (0, 0, 0)).2.2
theorem fC_le (a : Nat) : fC a ≤ 5 := by unfold fC fLs; (repeat' split) <;> simp
theorem fC_pos {a : Nat} (h1 : 1 ≤ a) (h2 : a < 63) : 0 < fC a := by
  unfold fC fLs; (repeat' split) <;> first | (simp; done) | omega
theorem fS_lt (q : Nat) (h : q < 315) : fS q < 63 := by
  have : ∀ q, q < 315 → fS q < 63 := by decide +kernel
  exact this q h
theorem fS_0 {a : Nat} (h1 : 1 ≤ a) (h2 : a < 63) : fS (5 * a) = a := by
  have : ∀ a, a < 63 → 1 ≤ a → fS (5 * a) = a := by decide +kernel
  exact this a h2 h1
/-- the WEIGHTS of the places 5 * a + 1 .. 5 * a + k, added up -/
def wSm (sd rg a : Nat) : Nat → Nat
  | 0 => 0
  | k + 1 => wSm sd rg a k + (fTS (5 * a + (k + 1)) * sd + fTR (5 * a + (k + 1)) * rg)
/-- the WEIGHT of place q -/
def wtN (sd rg q : Nat) : Nat :=
  if fC (q / 5) ≤ q % 5 then 0 else
  if q % 5 = 0 then 1000 - wSm sd rg (q / 5) (fC (q / 5) - 1) else fTS q * sd + fTR q * rg
theorem wSm_lin (sd rg a : Nat) : ∀ k, wSm sd rg a k = wSm 1 0 a k * sd + wSm 0 1 a k * rg
  | 0 => by simp [wSm]
  | k + 1 => by
    simp only [wSm]
    rw [wSm_lin sd rg a k]
    simp only [Nat.mul_one, Nat.mul_zero, Nat.add_zero, Nat.zero_add, Nat.add_mul]
    omega
theorem wSm_mono (sd rg a : Nat) {k j : Nat} (h : k ≤ j) : wSm sd rg a k ≤ wSm sd rg a j := by
  induction h with
  | refl => exact Nat.le_refl _
  | step _ ih => exact Nat.le_trans ih (Nat.le_add_right _ _)
theorem wSm_le {sd rg a : Nat} (hs : sd ≤ 200) (hr : rg ≤ 200) (h : a < 63) {k : Nat} (hk : k ≤ fC a - 1) : wSm sd rg a k ≤ 800 := by
  have h1 : ∀ a, a < 63 → wSm 1 0 a (fC a - 1) + wSm 0 1 a (fC a - 1) ≤ 4 := by decide +kernel
  refine Nat.le_trans (wSm_mono sd rg a hk) ?_
  rw [wSm_lin]
  have h2 := h1 a h
  have h3 := Nat.mul_le_mul_left (wSm 1 0 a (fC a - 1)) hs
  have h4 := Nat.mul_le_mul_left (wSm 0 1 a (fC a - 1)) hr
  omega
theorem wt_le {sd rg q : Nat} (hs : sd ≤ 200) (hr : rg ≤ 200) (h : q < 315) : wtN sd rg q ≤ 1000 := by
  unfold wtN
  split
  · omega
  · split
    · omega
    · have h1 : ∀ q, q < 315 → fTS q + fTR q ≤ 4 := by decide +kernel
      have h2 := h1 q h
      have h3 := Nat.mul_le_mul_left (fTS q) hs
      have h4 := Nat.mul_le_mul_left (fTR q) hr
      omega
/-- the fixed rows of Falls -/
def FA (h : XH) : Prop := h.2 4 = .inr (0, [.ref 5, .ref 6, .ref 7, .ref 8]) ∧ iA h 5 63 (fun a => nI (fC a)) ∧ iA h 6 315 (fun q => nI (fS q)) ∧ iA h 7 315 (fun q => nI (fTS q)) ∧ iA h 8 315 (fun q => nI (fTR q))
theorem FA.same {S : List Nat} {h h' : XH} (H : FA h) (hs : Same S h h') (h4 : 4 ∉ S) (h5 : 5 ∉ S) (h6 : 6 ∉ S) (h7 : 7 ∉ S) (h8 : 8 ∉ S) : FA h' := ⟨hs.at h4 H.1, H.2.1.same hs h5, H.2.2.1.same hs h6, H.2.2.2.1.same hs h7, H.2.2.2.2.same hs h8⟩
theorem div5 (a i : Nat) (hi : i < 5) : (5 * a + i) / 5 = a := by omega
theorem mod5 (a i : Nat) (hi : i < 5) : (5 * a + i) % 5 = i := by omega
theorem wt_at {sd rg a i : Nat} (h0 : 0 < i) (hi : i < fC a) : wtN sd rg (5 * a + i) = fTS (5 * a + i) * sd + fTR (5 * a + i) * rg := by
  have := fC_le a
  unfold wtN
  rw [div5 _ _ (by omega), mod5 _ _ (by omega), if_neg (by omega), if_neg (by omega)]
theorem wt_self {sd rg a : Nat} (h : 0 < fC a) : wtN sd rg (5 * a) = 1000 - wSm sd rg a (fC a - 1) := by
  unfold wtN
  rw [show 5 * a / 5 = a by omega, show 5 * a % 5 = 0 by omega, if_neg (by omega), if_pos rfl]
theorem wt_none {sd rg a i : Nat} (hi : i < 5) (h : fC a ≤ i) : wtN sd rg (5 * a + i) = 0 := by
  unfold wtN
  rw [div5 _ _ hi, mod5 _ _ hi, if_pos h]
theorem fs_0 {a : Nat} (h1 : 1 ≤ a) (h2 : a < 63) : fS (5 * a) = a := fS_0 h1 h2
