/-! ===== THE LAW: one call of both ===== -/
/-- what holds after c calls -/
def INV (c : Nat) (h : XH) : Prop := 118 ≤ h.1 ∧ ∃ (s : SS) (o : Nat) (a b : Nat × Nat), CSo h s o a b ∧ MS h s ∧ LV (sq s) (12 * c) o a b ∧ TR s ∧ (sb s = true → ∃ (o' : Nat) (a' b' : Nat × Nat), LV (sp_ s) (12 * c) o' a' b')
theorem CSo.tb {h : XH} {s : SS} {o : Nat} {a b : Nat × Nat} (c : CSo h s o a b) : TB (sT s) := by
  obtain ⟨y, a1, X, t, q⟩ := c.tp
  intro j hj
  obtain ⟨f, -, z⟩ := t.2.2.2.1
  rw [← q j hj]
  exact (z j hj).2
theorem CSo.t60 {h : XH} {s : SS} {o : Nat} {a b : Nat × Nat} (c : CSo h s o a b) : (sT s).length ≤ 60 := by
  obtain ⟨y, a1, X, t, q⟩ := c.tp
  exact t.2.1
theorem Same.cl {h h' : XH} (H : Same clS h h') : ∀ k, k ∈ clS → k < 87 ∨ 118 ≤ k := fun k hk => Or.inl (List.mem_range.mp hk)
theorem Same.md {h h' : XH} (H : Same mdS h h') : ∀ k, k ∈ mdS → 87 ≤ k := fun k hk => by
  obtain ⟨j, _, rfl⟩ := List.mem_map.mp hk
  omega
theorem LV.hand1 {q : Nat → Int32} {n o : Nat} {a b : Nat × Nat} (l : LV q n o a b) (x k v : Int32) : ∃ a' b', LV (nHand q x k v) n o a' b' := by
  unfold nHand
  by_cases h1 : inR 0 1 x
  · by_cases h2 : inR 0 1 k
    · by_cases h3 : inR 0 200 v
      · rw [if_pos h1, if_pos h2, if_pos h3]
        obtain ⟨xn, rfl, x1, x2⟩ := inR_nat (by decide) h1
        obtain ⟨kn, rfl, k1, k2⟩ := inR_nat (by decide) h2
        obtain ⟨vn, rfl, v1, v2⟩ := inR_nat (by decide) h3
        rw [nI_nat (by omega), nI_nat (by omega)]
        have far : ∀ i, 4 ≤ i → upd q (2 * kn + xn) (nI vn) i = q i := fun i hi => upd_off (by omega)
        have rest : ∀ a' b' : Nat × Nat, a'.1 ≤ 200 ∧ a'.2 ≤ 200 → b'.1 ≤ 200 ∧ b'.2 ≤ 200 → upd q (2 * kn + xn) (nI vn) 0 = nI a'.1 → upd q (2 * kn + xn) (nI vn) 1 = nI b'.1 → upd q (2 * kn + xn) (nI vn) 2 = nI a'.2 → upd q (2 * kn + xn) (nI vn) 3 = nI b'.2 → LV (upd q (2 * kn + xn) (nI vn)) n o a' b' := fun a' b' z1 z2 y0 y1 y2 y3 =>
          ⟨l.ho, z1, z2, y0, y1, y2, y3, (far 12 (by omega)).trans l.q12, fun i hi => by rw [far i (by omega)]; exact l.rest i hi, by rw [far 13 (by omega)]; exact l.start, fun i hi => by rw [far i (by omega)]; exact l.bt i hi, fun i hi => by rw [far i (by omega)]; exact l.th i hi⟩
        rcases (show (kn = 0 ∧ xn = 0) ∨ (kn = 0 ∧ xn = 1) ∨ (kn = 1 ∧ xn = 0) ∨ (kn = 1 ∧ xn = 1) by omega) with ⟨rfl, rfl⟩ | ⟨rfl, rfl⟩ | ⟨rfl, rfl⟩ | ⟨rfl, rfl⟩
        · exact ⟨(vn, a.2), b, rest _ _ ⟨v2, l.ha.2⟩ l.hb rfl l.q1 l.q2 l.q3⟩
        · exact ⟨a, (vn, b.2), rest _ _ l.ha ⟨v2, l.hb.2⟩ l.q0 rfl l.q2 l.q3⟩
        · exact ⟨(a.1, vn), b, rest _ _ ⟨l.ha.1, v2⟩ l.hb l.q0 l.q1 rfl l.q3⟩
        · exact ⟨a, (b.1, vn), rest _ _ l.ha ⟨l.hb.1, v2⟩ l.q0 l.q1 l.q2 rfl⟩
      · rw [if_pos h1, if_pos h2, if_neg h3]; exact ⟨a, b, l⟩
    · rw [if_pos h1, if_neg h2]; exact ⟨a, b, l⟩
  · rw [if_neg h1]; exact ⟨a, b, l⟩
theorem LV.out1 {q : Nat → Int32} {n o : Nat} {a b : Nat × Nat} (l : LV q n o a b) (x : Int32) : ∃ o', LV (nOut q x) n o' a b := by
  unfold nOut
  by_cases h1 : inR 0 2 x
  · rw [if_pos h1]
    split
    · exact ⟨o, l⟩
    · rename_i hn
      obtain ⟨k, rfl, k1, k2⟩ := inR_nat (by decide) h1
      refine ⟨k, k2, l.ha, l.hb, (upd_off (by decide)).trans l.q0, (upd_off (by decide)).trans l.q1, (upd_off (by decide)).trans l.q2, (upd_off (by decide)).trans l.q3, upd_at _ _ _, fun i hi => ?_, by rw [upd_off (by decide)]; exact l.start, fun i hi => by rw [upd_off (by omega)]; exact l.bt i hi, fun i hi => by rw [upd_off (by omega)]; exact l.th i hi⟩
      rw [upd_off (by omega)]
      obtain ⟨r, e, r1, r2⟩ := l.rest i hi
      refine ⟨r, e, ?_, r2⟩
      by_cases hk : k = 0
      · subst hk
        have : leN 0 = 1 := rfl
        have := leN_pos o
        omega
      · have e1 : r ≠ 1 := fun q => hn ⟨fun q2 => hk (nI_inj (by omega) (by omega) q2), by
          subst q
          rcases hi with rfl | rfl | rfl
          · exact Or.inl e
          · exact Or.inr (Or.inl e)
          · exact Or.inr (Or.inr e)⟩
        have := leN_pos o
        have : leN k ≤ 2 := leN_le k
        omega
  · rw [if_neg h1]; exact ⟨o, l⟩
theorem TR.put {s : SS} (t : TR s) {x : Nat} {v : Option (Nat × Nat × (Nat → Int32))} (hv : okK v) : TR (wk s (stK (sk s) x v)) := by
  intro r
  show okK (stK (sk s) x v r)
  unfold stK
  by_cases e : r = x
  · rw [if_pos e]; exact hv
  · rw [if_neg e]; exact t r
theorem TR.rack {s : SS} (t : TR s) (x k n : Int32) : TR (wk s (nRack (sk s) x k n)) := by
  unfold nRack
  by_cases h1 : inR 0 3 x
  · by_cases h2 : inR 0 5 k
    · by_cases h3 : inR 0 20 n
      · rw [if_pos h1, if_pos h2, if_pos h3]
        obtain ⟨kn, rfl, k1, k2⟩ := inR_nat (by decide) h2
        obtain ⟨nn, rfl, n1, n2⟩ := inR_nat (by decide) h3
        rw [nI_nat (show kn < 2147483648 by omega), nI_nat (show nn < 2147483648 by omega)]
        exact t.put ⟨k2, n2, fun j _ => Or.inl rfl⟩
      · rw [if_pos h1, if_pos h2, if_neg h3]; exact t
    · rw [if_pos h1, if_neg h2]; exact t
  · rw [if_neg h1]; exact t
theorem TR.like {s : SS} (t : TR s) (x y : Int32) : TR (wk s (nLike (sk s) x y)) := by
  unfold nLike
  by_cases h1 : inR 0 3 x
  · by_cases h2 : inR 0 3 y
    · rw [if_pos h1, if_pos h2]
      have := t.at y.toNatClampNeg
      cases hp : sk s y.toNatClampNeg with
      | none => exact t
      | some p => rw [hp] at this; exact t.put this
    · rw [if_pos h1, if_neg h2]; exact t
  · rw [if_neg h1]; exact t
theorem TR.lays {s : SS} (t : TR s) (x i z : Int32) : TR (wk s (nLays (sk s) x i z)) := by
  unfold nLays
  by_cases h1 : inR 0 3 x
  · by_cases h2 : z = -1 ∨ inR 0 62 z
    · rw [if_pos h1, if_pos h2]
      have tx := t.at x.toNatClampNeg
      cases hp : sk s x.toNatClampNeg with
      | none => exact t
      | some p =>
        obtain ⟨k, n, g⟩ := p
        rw [hp] at tx
        obtain ⟨t1, t2, t3⟩ := tx
        show TR (wk s (if inL n i then (if z = -1 ∨ unN z.toNatClampNeg k = true then _ else sk s) else sk s))
        split
        · split
          · refine t.put ⟨t1, t2, fun j hj => ?_⟩
            by_cases e : j = i.toNatClampNeg
            · rw [e, upd_at]
              by_cases hz : z = -1
              · rw [if_pos hz]; exact Or.inl rfl
              · rw [if_neg hz]
                obtain ⟨zn, rfl, z1, z2⟩ := inR_nat (by decide) (h2.resolve_left hz)
                exact Or.inr ⟨zn, by omega, rfl⟩
            · rw [upd_off e]; exact t3 j hj
          · exact t
        · exact t
    · rw [if_pos h1, if_neg h2]; exact t
  · rw [if_neg h1]; exact t
theorem lg_same (x : Int64) : lg_cmp x x = 0 := by
  unfold lg_cmp
  simp
