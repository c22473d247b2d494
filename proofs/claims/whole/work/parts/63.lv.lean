/-! ===== THE FACE: the LEG ===== -/
def qt (q : Nat → Int32) : Nat := (q 15).toNatClampNeg
def qg (q : Nat → Int32) : Nat := (q 14).toNatClampNeg
def qr (q : Nat → Int32) : Nat := (q (4 + qt q)).toNatClampNeg
/-- a DART upon SPOT s -/
def thN (o : Nat) (q : Nat → Int32) (s : Nat) : Nat → Int32 := ldN q (qt q) (qg q) (nxN o (qr q) s)
/-- where a DART at AIM m falls -/
def faN (a b : Nat × Nat) (q : Nat → Int32) (m : Nat) : Nat := fuN (hh a b (qt q)).1 (hh a b (qt q)).2 m (drN (dwN q 18)) (fC m) 0
def atN (o : Nat) (a b : Nat × Nat) (q : Nat → Int32) (m : Nat) : Nat → Int32 := thN o (dwN q) (faN a b q m)
/-- a DART of the mind -/
def mdA (o : Nat) (a b : Nat × Nat) (q : Nat → Int32) : Nat := dA_ o (hh a b (qt q)).1 (hh a b (qt q)).2 (qr q)
def mdN (o : Nat) (a b : Nat × Nat) (q : Nat → Int32) : Nat → Int32 := atN o a b q (mdA o a b q)
def mdI (o : Nat) (a b : Nat × Nat) : Nat → (Nat → Int32) → Nat → Int32
  | 0, q => q
  | k + 1, q => mdI o a b k (mdN o a b q)
def aStart (q : Nat → Int32) (x : Int32) : Int32 := if inR 2 501 x then q 13 else -2
def nStart (q : Nat → Int32) (x : Int32) : Nat → Int32 := if inR 2 501 x then bgN (upd q 13 x) (qg q) else q
def aThrown (o : Nat) (q : Nat → Int32) (x : Int32) : Int32 := if inR 0 62 x then oI (nxN o (qr q) x.toNatClampNeg) else -1
def nThrown (o : Nat) (q : Nat → Int32) (x : Int32) : Nat → Int32 := if inR 0 62 x then thN o q x.toNatClampNeg else q
def aAt (a b : Nat × Nat) (q : Nat → Int32) (x : Int32) : Int32 := if inR 1 62 x then nI (faN a b q x.toNatClampNeg) else -1
def nAt (o : Nat) (a b : Nat × Nat) (q : Nat → Int32) (x : Int32) : Nat → Int32 := if inR 1 62 x then atN o a b q x.toNatClampNeg else q
def aMinds (o : Nat) (a b : Nat × Nat) (q : Nat → Int32) (x : Int32) : Int32 := if inR 1 12 x then mdI o a b x.toNatClampNeg q 6 + mdI o a b x.toNatClampNeg q 7 - (q 6 + q 7) else -2
def nMinds (o : Nat) (a b : Nat × Nat) (q : Nat → Int32) (x : Int32) : Nat → Int32 := if inR 1 12 x then mdI o a b x.toNatClampNeg q else q
def nSeed (q : Nat → Int32) (x : Int32) : Nat → Int32 := upd q 18 x
def aTold (s : SS) (x : Int32) : Int32 := if inR 0 8 x then (if x.toNatClampNeg = 0 then sq s 15 else if x.toNatClampNeg = 1 then sq s 16 else if x.toNatClampNeg = 2 then sq s 14 else if x.toNatClampNeg = 3 then sq s 13 else if x.toNatClampNeg = 4 then sq s 12 else if x.toNatClampNeg = 5 then sq s 17 else if x.toNatClampNeg = 6 then sq s 18 else if x.toNatClampNeg = 7 then nI (sT s).length else nI (sX s).length)
  else if inR 10 15 x then (if x.toNatClampNeg < 14 then sq s (4 + 2 * (x.toNatClampNeg - 10)) else sq s (2 * (x.toNatClampNeg - 14))) else if inR 20 25 x then (if x.toNatClampNeg < 24 then sq s (4 + 2 * (x.toNatClampNeg - 20) + 1) else sq s (2 * (x.toNatClampNeg - 24) + 1)) else -1
/-! what stays sure of a LEG -/
theorem upd_lit (f : Nat → Int32) (k j : Nat) (x : Int32) : upd f k x j = if j = k then x else f j := rfl
theorem LV.more {q : Nat → Int32} {n n' o : Nat} {a b : Nat × Nat} (l : LV q n o a b) (h : n ≤ n') : LV q n' o a b :=
  ⟨l.ho, l.ha, l.hb, l.q0, l.q1, l.q2, l.q3, l.q12, l.rest, l.start, l.bt, fun i hi => by obtain ⟨k, e, hk⟩ := l.th i hi; exact ⟨k, e, by omega⟩⟩
theorem leN2 (o : Nat) : leN o ≤ 2 := leN_le o
/-- hands, OUT, START as they were; rests, turns and counts in bounds -/
theorem LV.of {q q' : Nat → Int32} {n n' o : Nat} {a b : Nat × Nat} (l : LV q n o a b) (h : ∀ i, (i < 4 ∨ i = 12) → q' i = q i)
    (h1 : ∀ i, i = 4 ∨ i = 5 ∨ i = 17 → ∃ r, q' i = nI r ∧ leN o ≤ r ∧ r ≤ 501) (h2 : ∃ z, q' 13 = nI z ∧ 2 ≤ z ∧ z ≤ 501) (h3 : ∀ i, i = 14 ∨ i = 15 → ∃ g, q' i = nI g ∧ g ≤ 1) (h4 : ∀ i, i = 8 ∨ i = 9 → ∃ k, q' i = nI k ∧ k ≤ n') : LV q' n' o a b :=
  ⟨l.ho, l.ha, l.hb, (h 0 (by omega)).trans l.q0, (h 1 (by omega)).trans l.q1, (h 2 (by omega)).trans l.q2, (h 3 (by omega)).trans l.q3, (h 12 (by omega)).trans l.q12, h1, h2, h3, h4⟩
theorem LV.keep {q q' : Nat → Int32} {n o : Nat} {a b : Nat × Nat} (l : LV q n o a b) (h : ∀ i, i < 18 → i ≠ 16 → q' i = q i) : LV q' n o a b :=
  l.of (fun i hi => h i (by omega) (by omega)) (fun i hi => by rw [h i (by omega) (by omega)]; exact l.rest i hi) (by rw [h 13 (by omega) (by omega)]; exact l.start) (fun i hi => by rw [h i (by omega) (by omega)]; exact l.bt i hi) (fun i hi => by rw [h i (by omega) (by omega)]; exact l.th i hi)
theorem LV.draw {q : Nat → Int32} {n o : Nat} {a b : Nat × Nat} (l : LV q n o a b) : LV (dwN q) n o a b := l.keep (fun i h _ => dwN_lo h)
theorem LV.seed {q : Nat → Int32} {n o : Nat} {a b : Nat × Nat} (l : LV q n o a b) (x : Int32) : LV (nSeed q x) n o a b := l.keep (fun i h _ => upd_off (by omega))
/-- a visit begins -/
theorem LV.visit {q : Nat → Int32} {n o p : Nat} {a b : Nat × Nat} (l : LV q n o a b) (hp : p ≤ 1) : LV (bvN q p) n o a b := by
  have e : ∀ i, i < 15 → bvN q p i = q i := fun i hi => by
    unfold bvN
    rw [upd_off (by omega), upd_off (by omega), upd_off (by omega)]
  refine l.of (fun i hi => e i (by omega)) (fun i hi => ?_) (by rw [e 13 (by omega)]; exact l.start) (fun i hi => ?_) (fun i hi => by rw [e i (by omega)]; exact l.th i hi)
  · rcases hi with rfl | rfl | rfl
    · rw [e 4 (by omega)]; exact l.rest 4 (by omega)
    · rw [e 5 (by omega)]; exact l.rest 5 (by omega)
    · show ∃ r, bvN q p 17 = nI r ∧ _
      rw [show bvN q p 17 = q (4 + p) from rfl]
      exact l.rest (4 + p) (by omega)
  · rcases hi with rfl | rfl
    · rw [e 14 (by omega)]; exact l.bt 14 (by omega)
    · exact ⟨p, rfl, hp⟩
theorem LV.begins0 {q q0 : Nat → Int32} {n n' o g : Nat} {a b : Nat × Nat} (l : LV q0 n' o a b) (hg : g ≤ 1) (h : ∀ i, i < 4 ∨ i = 12 ∨ i = 13 → q i = q0 i) (h4 : ∀ i, i = 8 ∨ i = 9 → ∃ k, q i = nI k ∧ k ≤ n) : LV (bgN q g) n o a b := by
  obtain ⟨z, ez, z1, z2⟩ := l.start
  have h13 : q 13 = nI z := (h 13 (by omega)).trans ez
  have hz := leN_le o
  have hzz : ∃ r, q 13 = nI r ∧ leN o ≤ r ∧ r ≤ 501 := ⟨z, h13, by omega, z2⟩
  refine l.of (fun i hi => ?_) (fun i hi => ?_) ?_ (fun i hi => ?_) (fun i hi => ?_)
  · unfold bgN bvN
    rw [upd_off (by omega), upd_off (by omega), upd_off (by omega), upd_off (by omega), upd_off (by omega), upd_off (by omega)]
    exact h i (by omega)
  · rcases hi with rfl | rfl | rfl
    · exact hzz
    · exact hzz
    · rcases (show g = 0 ∨ g = 1 by omega) with rfl | rfl
      · exact hzz
      · exact hzz
  · exact ⟨z, h13, z1, z2⟩
  · rcases hi with rfl | rfl
    · exact ⟨g, rfl, hg⟩
    · exact ⟨g, rfl, hg⟩
  · rcases hi with rfl | rfl
    · exact h4 8 (by omega)
    · exact h4 9 (by omega)
theorem LV.begins {q : Nat → Int32} {n o g : Nat} {a b : Nat × Nat} (l : LV q n o a b) (hg : g ≤ 1) : LV (bgN q g) n o a b := l.begins0 hg (fun _ _ => rfl) l.th
theorem nx_rest {o r s d : Nat} (h : nxN o r s = some (d + 1)) : leN o ≤ d + 1 := by
  obtain ⟨-, -, h3⟩ := nxN_eq h
  unfold leN
  split
  · omega
  · by_cases e : d + 1 = 1
    · exact absurd (h3 e) (by assumption)
    · omega
/-- after a DART -/
theorem LV.land {q : Nat → Int32} {n o t g r s : Nat} {a b : Nat × Nat} (l : LV q n o a b) (ht : t ≤ 1) (hg : g ≤ 1) (hr : r ≤ 501) : LV (ldN q t g (nxN o r s)) (n + 1) o a b := by
  have core : ∀ now : Int32, (∃ z, now = nI z ∧ leN o ≤ z ∧ z ≤ 501) → LV (upd (upd (upd (upd q (8 + t) (q (8 + t) + nI 1)) (10 + t) (q (10 + t) + (q (4 + t) - now))) (4 + t) now) 16 (q 16 - nI 1)) (n + 1) o a b := by
    intro now hz
    refine l.of (fun i hi => ?_) (fun i hi => ?_) ?_ (fun i hi => ?_) (fun i hi => ?_)
    · rw [upd_off (by omega), upd_off (by omega), upd_off (by omega), upd_off (by omega)]
    · rw [upd_off (by omega)]
      by_cases e : i = 4 + t
      · subst e; rw [upd_at]; exact hz
      · rw [upd_off e, upd_off (by omega), upd_off (by omega)]; exact l.rest i hi
    · rw [upd_off (by omega), upd_off (by omega), upd_off (by omega), upd_off (by omega)]; exact l.start
    · rw [upd_off (by omega), upd_off (by omega), upd_off (by omega), upd_off (by omega)]; exact l.bt i hi
    · rw [upd_off (by omega), upd_off (by omega), upd_off (by omega)]
      by_cases e : i = 8 + t
      · subst e
        rw [upd_at]
        obtain ⟨k, e1, e2⟩ := l.th (8 + t) (by omega)
        exact ⟨k + 1, by rw [e1, nI_add], by omega⟩
      · rw [upd_off e]
        obtain ⟨k, e1, e2⟩ := l.th i hi
        exact ⟨k, e1, by omega⟩
  cases hx : nxN o r s with
  | none => exact LV.visit (core _ (l.rest 17 (by omega))) (by omega)
  | some d =>
    cases d with
    | zero =>
      refine LV.begins0 (q := upd (upd (upd (upd (upd q (8 + t) (q (8 + t) + nI 1)) (10 + t) (q (10 + t) + (q (4 + t) - nI 0))) (4 + t) (nI 0)) 16 (q 16 - nI 1)) (6 + t) (q (6 + t) + nI 1)) l (by omega) (fun i hi => ?_) (fun i hi => ?_)
      · rw [upd_off (by omega), upd_off (by omega), upd_off (by omega), upd_off (by omega), upd_off (by omega)]
      · rw [upd_off (by omega), upd_off (by omega), upd_off (by omega), upd_off (by omega)]
        by_cases e : i = 8 + t
        · subst e
          rw [upd_at]
          obtain ⟨k, e1, e2⟩ := l.th (8 + t) (by omega)
          exact ⟨k + 1, by rw [e1, nI_add], by omega⟩
        · rw [upd_off e]
          obtain ⟨k, e1, e2⟩ := l.th i hi
          exact ⟨k, e1, by omega⟩
    | succ d =>
      have hd := nxN_le hx
      have l1 := core (nI (d + 1)) ⟨d + 1, rfl, nx_rest hx, by omega⟩
      show LV (if q 16 - nI 1 = 0 then _ else _) _ _ _ _
      split
      · exact LV.visit l1 (by omega)
      · exact l1
theorem qt_of {q : Nat → Int32} {t : Nat} (h : q 15 = nI t) (ht : t ≤ 1) : qt q = t := by unfold qt; rw [h, nI_nat (by omega)]
theorem qg_of {q : Nat → Int32} {g : Nat} (h : q 14 = nI g) (hg : g ≤ 1) : qg q = g := by unfold qg; rw [h, nI_nat (by omega)]
theorem qr_of {q : Nat → Int32} {t r : Nat} (h : q 15 = nI t) (ht : t ≤ 1) (hr : q (4 + t) = nI r) (h5 : r ≤ 501) : qr q = r := by unfold qr; rw [qt_of h ht, hr, nI_nat (by omega)]
/-- who throws, who began, the thrower's rest -/
theorem LV.now {q : Nat → Int32} {n o : Nat} {a b : Nat × Nat} (l : LV q n o a b) : qt q ≤ 1 ∧ qg q ≤ 1 ∧ q 15 = nI (qt q) ∧ q 14 = nI (qg q) ∧ q (4 + qt q) = nI (qr q) ∧ leN o ≤ qr q ∧ qr q ≤ 501 := by
  obtain ⟨t, e1, t1⟩ := l.bt 15 (by omega)
  obtain ⟨g, e2, g1⟩ := l.bt 14 (by omega)
  obtain ⟨r, e3, r1, r2⟩ := l.rest (4 + t) (by omega)
  rw [qr_of e1 t1 e3 r2, qt_of e1 t1, qg_of e2 g1]
  exact ⟨t1, g1, e1, e2, e3, r1, r2⟩
theorem LV.th1 {q : Nat → Int32} {n o s : Nat} {a b : Nat × Nat} (l : LV q n o a b) : LV (thN o q s) (n + 1) o a b := by
  obtain ⟨h1, h2, -, -, -, -, h5⟩ := l.now
  exact l.land h1 h2 h5
theorem LV.at1 {q : Nat → Int32} {n o m : Nat} {a b : Nat × Nat} (l : LV q n o a b) : LV (atN o a b q m) (n + 1) o a b := l.draw.th1
theorem LV.mdI {o : Nat} {a b : Nat × Nat} : ∀ (k : Nat) {q : Nat → Int32} {n : Nat}, LV q n o a b → LV (mdI o a b k q) (n + k) o a b
  | 0, _, _, l => l
  | k + 1, q, n, l => by
    have := LV.mdI k (l.at1 (m := mdA o a b q))
    rw [show n + 1 + k = n + (k + 1) by omega] at this
    exact this
theorem LV.start1 {q : Nat → Int32} {n o : Nat} {a b : Nat × Nat} (l : LV q n o a b) (x : Int32) : LV (nStart q x) n o a b := by
  unfold nStart
  split
  · rename_i hx
    obtain ⟨k, rfl, k1, k2⟩ := inR_nat (by decide) hx
    refine LV.begins (q := upd q 13 (nI k)) (l.of (fun i hi => upd_off (by omega)) (fun i hi => by rw [upd_off (by omega)]; exact l.rest i hi) ⟨k, upd_at _ _ _, k1, k2⟩ (fun i hi => by rw [upd_off (by omega)]; exact l.bt i hi) (fun i hi => by rw [upd_off (by omega)]; exact l.th i hi)) l.now.2.1
  · exact l
theorem LV.thrown1 {q : Nat → Int32} {n o : Nat} {a b : Nat × Nat} (l : LV q n o a b) (x : Int32) : LV (nThrown o q x) (n + 12) o a b := by
  unfold nThrown
  split
  · exact l.th1.more (by omega)
  · exact l.more (by omega)
theorem LV.nat1 {q : Nat → Int32} {n o : Nat} {a b : Nat × Nat} (l : LV q n o a b) (x : Int32) : LV (nAt o a b q x) (n + 12) o a b := by
  unfold nAt
  split
  · exact l.at1.more (by omega)
  · exact l.more (by omega)
theorem LV.minds1 {q : Nat → Int32} {n o : Nat} {a b : Nat × Nat} (l : LV q n o a b) (x : Int32) : LV (nMinds o a b q x) (n + 12) o a b := by
  unfold nMinds
  split
  · rename_i hx
    obtain ⟨k, rfl, k1, k2⟩ := inR_nat (by decide) hx
    rw [nI_nat (by omega)]
    exact (LV.mdI k l).more (by omega)
  · exact l.more (by omega)
