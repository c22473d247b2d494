/-! ===== THE FACE: all that a run of calls has made ===== -/
/-- LEG and what else the IMAGE holds (q), the IMAGE (p) and whether it was made, TAPE, PAPER, RACKS (none: missing; else KIND, size, places) -/
abbrev SS : Type := (Nat → Int32) × (Nat → Int32) × Bool × List Nat × List Nat × (Nat → Option (Nat × Nat × (Nat → Int32)))
abbrev sq (s : SS) : Nat → Int32 := s.1
abbrev sp_ (s : SS) : Nat → Int32 := s.2.1
abbrev sb (s : SS) : Bool := s.2.2.1
abbrev sT (s : SS) : List Nat := s.2.2.2.1
abbrev sX (s : SS) : List Nat := s.2.2.2.2.1
abbrev sk (s : SS) : Nat → Option (Nat × Nat × (Nat → Int32)) := s.2.2.2.2.2
abbrev wq (s : SS) (q : Nat → Int32) : SS := (q, s.2)
abbrev wp (s : SS) (p : Nat → Int32) : SS := (s.1, p, s.2.2)
abbrev wb (s : SS) (z : Bool) : SS := (s.1, s.2.1, z, s.2.2.2)
abbrev wT (s : SS) (T : List Nat) : SS := (s.1, s.2.1, s.2.2.1, T, s.2.2.2.2)
abbrev wX (s : SS) (X : List Nat) : SS := (s.1, s.2.1, s.2.2.1, s.2.2.2.1, X, s.2.2.2.2.2)
abbrev wk (s : SS) (k : Nat → Option (Nat × Nat × (Nat → Int32))) : SS := (s.1, s.2.1, s.2.2.1, s.2.2.2.1, s.2.2.2.2.1, k)
def hh (a b : Nat × Nat) : Nat → Nat × Nat := fun u => if u = 0 then a else b
theorem hh0 (a b : Nat × Nat) : hh a b 0 = a := rfl
theorem hh1 (a b : Nat × Nat) : hh a b 1 = b := rfl
/-- what is sure of a LEG after calls that threw at most n DARTS a player -/
def LV (q : Nat → Int32) (n o : Nat) (a b : Nat × Nat) : Prop := o ≤ 2 ∧ (a.1 ≤ 200 ∧ a.2 ≤ 200) ∧ (b.1 ≤ 200 ∧ b.2 ≤ 200) ∧ q 0 = nI a.1 ∧ q 1 = nI b.1 ∧ q 2 = nI a.2 ∧ q 3 = nI b.2 ∧ q 12 = nI o ∧ (∀ i, i = 4 ∨ i = 5 ∨ i = 17 → ∃ r, q i = nI r ∧ leN o ≤ r ∧ r ≤ 501) ∧ (∃ z, q 13 = nI z ∧ 2 ≤ z ∧ z ≤ 501) ∧ (∀ i, i = 14 ∨ i = 15 → ∃ g, q i = nI g ∧ g ≤ 1) ∧ (∀ i, i = 8 ∨ i = 9 → ∃ k, q i = nI k ∧ k ≤ n)
theorem LV.ho {q : Nat → Int32} {n o : Nat} {a b : Nat × Nat} (l : LV q n o a b) : o ≤ 2 := l.1
theorem LV.ha {q : Nat → Int32} {n o : Nat} {a b : Nat × Nat} (l : LV q n o a b) : (a.1 ≤ 200 ∧ a.2 ≤ 200) := l.2.1
theorem LV.hb {q : Nat → Int32} {n o : Nat} {a b : Nat × Nat} (l : LV q n o a b) : (b.1 ≤ 200 ∧ b.2 ≤ 200) := l.2.2.1
theorem LV.q0 {q : Nat → Int32} {n o : Nat} {a b : Nat × Nat} (l : LV q n o a b) : q 0 = nI a.1 := l.2.2.2.1
theorem LV.q1 {q : Nat → Int32} {n o : Nat} {a b : Nat × Nat} (l : LV q n o a b) : q 1 = nI b.1 := l.2.2.2.2.1
theorem LV.q2 {q : Nat → Int32} {n o : Nat} {a b : Nat × Nat} (l : LV q n o a b) : q 2 = nI a.2 := l.2.2.2.2.2.1
theorem LV.q3 {q : Nat → Int32} {n o : Nat} {a b : Nat × Nat} (l : LV q n o a b) : q 3 = nI b.2 := l.2.2.2.2.2.2.1
theorem LV.q12 {q : Nat → Int32} {n o : Nat} {a b : Nat × Nat} (l : LV q n o a b) : q 12 = nI o := l.2.2.2.2.2.2.2.1
theorem LV.rest {q : Nat → Int32} {n o : Nat} {a b : Nat × Nat} (l : LV q n o a b) : (∀ i, i = 4 ∨ i = 5 ∨ i = 17 → ∃ r, q i = nI r ∧ leN o ≤ r ∧ r ≤ 501) := l.2.2.2.2.2.2.2.2.1
theorem LV.start {q : Nat → Int32} {n o : Nat} {a b : Nat × Nat} (l : LV q n o a b) : (∃ z, q 13 = nI z ∧ 2 ≤ z ∧ z ≤ 501) := l.2.2.2.2.2.2.2.2.2.1
theorem LV.bt {q : Nat → Int32} {n o : Nat} {a b : Nat × Nat} (l : LV q n o a b) : (∀ i, i = 14 ∨ i = 15 → ∃ g, q i = nI g ∧ g ≤ 1) := l.2.2.2.2.2.2.2.2.2.2.1
theorem LV.th {q : Nat → Int32} {n o : Nat} {a b : Nat × Nat} (l : LV q n o a b) : (∀ i, i = 8 ∨ i = 9 → ∃ k, q i = nI k ∧ k ≤ n) := l.2.2.2.2.2.2.2.2.2.2.2
theorem LV.hok {q : Nat → Int32} {n o : Nat} {a b : Nat × Nat} (l : LV q n o a b) : hOK (hh a b) := fun u => by
  unfold hh
  split
  · exact l.ha
  · exact l.hb
/-- what a Mind knows -/
def MM (h : XH) (b o : Nat) (x : Nat × Nat) : Prop := ∃ (dk ck : Nat) (fn : Nat → Int32), MI h b x.1 x.2 dk ck ∧ MK h b o x.1 x.2 dk ∧ MC h b o x.1 x.2 ck 1 ∧ h.2 (b + 3) = .inl (0, 63, .inl fn)
theorem MM.same {S : List Nat} {h h' : XH} {b o : Nat} {x : Nat × Nat} (m : MM h b o x) (hs : Same S h h') (n : ∀ k, b ≤ k → k < b + 16 → k ∉ S) : MM h' b o x := by
  obtain ⟨dk, ck, fn, m1, m2, m3, m4⟩ := m
  exact ⟨dk, ck, fn, m1.same hs (n _ (by omega) (by omega)) (n _ (by omega) (by omega)) (n _ (by omega) (by omega)), m2.same hs (n _ (by omega) (by omega)) (n _ (by omega) (by omega)),
    m3.same hs (n _ (by omega) (by omega)) (n _ (by omega) (by omega)) (fun k hk => ⟨n _ (by omega) (by omega), n _ (by omega) (by omega)⟩), hs.at (n _ (by omega) (by omega)) m4⟩
theorem FI.same {S : List Nat} {h h' : XH} {o z : Nat} (f : FI h o z) (hs : Same S h h') (h1 : 57 ∉ S) (h2 : 58 ∉ S) (h3 : ∀ k, k ≤ 3 → 59 + k ∉ S) : FI h' o z := by
  obtain ⟨kn, e, t⟩ := f
  exact ⟨kn, hs.at h1 e, t.same hs h2 h3⟩
/-- the TAPE -/
def TQ (h : XH) (T : List Nat) : Prop := ∃ (y : Nat → Nat) (a : Nat) (X : List Nat), TP h T.length y a X ∧ ∀ j, j < T.length → y j = T.getD j 0
theorem TQ.same {S : List Nat} {h h' : XH} {T : List Nat} (t : TQ h T) (hs : Same S h h') (h1 : 72 ∉ S) (h2 : 73 ∉ S) (h3 : 74 ∉ S) : TQ h' T := by
  obtain ⟨y, a, X, t1, t2⟩ := t
  exact ⟨y, a, X, t1.same hs h1 h2 h3, t2⟩
/-- a RACK -/
def RQ (h : XH) (b : Nat) (x : Option (Nat × Nat × (Nat → Int32))) : Prop := ∃ (kd sz : Int32) (f : Nat → Int32), RK_ h b kd sz f ∧ match x with
  | none => sz = (-11)
  | some (k, n, g) => kd = nI k ∧ sz = nI n ∧ ∀ j, j < 20 → f j = g j
theorem RQ.same {S : List Nat} {h h' : XH} {b : Nat} {x : Option (Nat × Nat × (Nat → Int32))} (r : RQ h b x) (hs : Same S h h') (h1 : b ∉ S) (h2 : b + 1 ∉ S) : RQ h' b x := by
  obtain ⟨kd, sz, f, r1, r2⟩ := r
  exact ⟨kd, sz, f, r1.same hs h1 h2, r2⟩
/-- what is sure of TAPE and RACKS -/
def TR (s : SS) : Prop := ∀ r, match sk s r with
  | none => True
  | some (k, n, g) => k ≤ 5 ∧ n ≤ 20 ∧ ∀ j, j < 20 → g j = (-5) ∨ ∃ z, z < 63 ∧ g j = nI z
/-- the class's cells -/
def clS : List Nat := List.range 87
def CSo (h : XH) (s : SS) (o : Nat) (a b : Nat × Nat) : Prop := 87 ≤ h.1 ∧ DM h (sb s) ∧ RU h o ∧ FA h ∧ MM h 10 o a ∧ MM h 26 o b ∧ RS h ∧ RW h ∧ RK h o (hh a b) (fun _ _ => False) ∧ (∃ sz, FI h o sz) ∧ (∃ fr : Nat → Int32, h.2 63 = .inl (0, 3, .inl fr)) ∧ LG h 64 (sq s) ∧ LG h 68 (sp_ s) ∧ TQ h (sT s) ∧ PT h (sX s) ∧ rA h 77 7 4 (fun k => some (78 + 2 * k)) ∧ (∀ k, k < 4 → RQ h (78 + 2 * k) (sk s k)) ∧ (∃ fr : Nat → Int32, h.2 86 = .inl (0, 20, .inl fr))
theorem CSo.hn {h : XH} {s : SS} {o : Nat} {a b : Nat × Nat} (c : CSo h s o a b) : 87 ≤ h.1 := c.1
theorem CSo.dm {h : XH} {s : SS} {o : Nat} {a b : Nat × Nat} (c : CSo h s o a b) : DM h (sb s) := c.2.1
theorem CSo.ru {h : XH} {s : SS} {o : Nat} {a b : Nat × Nat} (c : CSo h s o a b) : RU h o := c.2.2.1
theorem CSo.fa {h : XH} {s : SS} {o : Nat} {a b : Nat × Nat} (c : CSo h s o a b) : FA h := c.2.2.2.1
theorem CSo.m0 {h : XH} {s : SS} {o : Nat} {a b : Nat × Nat} (c : CSo h s o a b) : MM h 10 o a := c.2.2.2.2.1
theorem CSo.m1 {h : XH} {s : SS} {o : Nat} {a b : Nat × Nat} (c : CSo h s o a b) : MM h 26 o b := c.2.2.2.2.2.1
theorem CSo.rs {h : XH} {s : SS} {o : Nat} {a b : Nat × Nat} (c : CSo h s o a b) : RS h := c.2.2.2.2.2.2.1
theorem CSo.rw {h : XH} {s : SS} {o : Nat} {a b : Nat × Nat} (c : CSo h s o a b) : RW h := c.2.2.2.2.2.2.2.1
theorem CSo.rk {h : XH} {s : SS} {o : Nat} {a b : Nat × Nat} (c : CSo h s o a b) : RK h o (hh a b) (fun _ _ => False) := c.2.2.2.2.2.2.2.2.1
theorem CSo.fi {h : XH} {s : SS} {o : Nat} {a b : Nat × Nat} (c : CSo h s o a b) : (∃ sz, FI h o sz) := c.2.2.2.2.2.2.2.2.2.1
theorem CSo.row {h : XH} {s : SS} {o : Nat} {a b : Nat × Nat} (c : CSo h s o a b) : (∃ fr : Nat → Int32, h.2 63 = .inl (0, 3, .inl fr)) := c.2.2.2.2.2.2.2.2.2.2.1
theorem CSo.lg {h : XH} {s : SS} {o : Nat} {a b : Nat × Nat} (c : CSo h s o a b) : LG h 64 (sq s) := c.2.2.2.2.2.2.2.2.2.2.2.1
theorem CSo.pi {h : XH} {s : SS} {o : Nat} {a b : Nat × Nat} (c : CSo h s o a b) : LG h 68 (sp_ s) := c.2.2.2.2.2.2.2.2.2.2.2.2.1
theorem CSo.tp {h : XH} {s : SS} {o : Nat} {a b : Nat × Nat} (c : CSo h s o a b) : TQ h (sT s) := c.2.2.2.2.2.2.2.2.2.2.2.2.2.1
theorem CSo.pt {h : XH} {s : SS} {o : Nat} {a b : Nat × Nat} (c : CSo h s o a b) : PT h (sX s) := c.2.2.2.2.2.2.2.2.2.2.2.2.2.2.1
theorem CSo.rr {h : XH} {s : SS} {o : Nat} {a b : Nat × Nat} (c : CSo h s o a b) : rA h 77 7 4 (fun k => some (78 + 2 * k)) := c.2.2.2.2.2.2.2.2.2.2.2.2.2.2.2.1
theorem CSo.rq {h : XH} {s : SS} {o : Nat} {a b : Nat × Nat} (c : CSo h s o a b) : (∀ k, k < 4 → RQ h (78 + 2 * k) (sk s k)) := c.2.2.2.2.2.2.2.2.2.2.2.2.2.2.2.2.1
theorem CSo.ro {h : XH} {s : SS} {o : Nat} {a b : Nat × Nat} (c : CSo h s o a b) : (∃ fr : Nat → Int32, h.2 86 = .inl (0, 20, .inl fr)) := c.2.2.2.2.2.2.2.2.2.2.2.2.2.2.2.2.2
theorem CSo.mind0 {h h' : XH} {s : SS} {o : Nat} {a b : Nat × Nat} (c : CSo h s o a b) {S : List Nat} (hs : Same S h h') (hS : ∀ k, k ∈ S → 10 ≤ k ∧ k < 26) (m : MM h' 10 o a) : CSo h' s o a b := by
  have n : ∀ k, (k < 10 ∨ 26 ≤ k) → k ∉ S := fun k z q => by have := hS k q; omega
  have x_hn := hs.le c.hn
  have x_dm := c.dm.same hs (n _ (by omega))
  have x_ru := c.ru.same hs (n _ (by omega)) (n _ (by omega)) (n _ (by omega))
  have x_fa := c.fa.same hs (n _ (by omega)) (n _ (by omega)) (n _ (by omega)) (n _ (by omega)) (n _ (by omega))
  have x_m1 := c.m1.same hs (fun k k1 k2 => by have k1 : 26 ≤ k := k1; have k2 : k < 42 := k2; exact n _ (by omega))
  have x_rs := c.rs.same hs (n _ (by omega)) (n _ (by omega)) (n _ (by omega)) (n _ (by omega)) (n _ (by omega)) (n _ (by omega))
  have x_rw := c.rw.same hs (n _ (by omega)) (n _ (by omega)) (n _ (by omega)) (n _ (by omega)) (n _ (by omega))
  have x_rk := c.rk.same hs (n _ (by omega)) (n _ (by omega)) (n _ (by omega)) (n _ (by omega)) (n _ (by omega))
  have x_fi := c.fi.imp (fun z f => f.same hs (n _ (by omega)) (n _ (by omega)) (fun k _ => n _ (by omega)))
  have x_row := c.row.imp (fun z e => hs.at (n _ (by omega)) e)
  have x_lg := c.lg.same hs (n _ (by omega)) (n _ (by omega)) (n _ (by omega)) (n _ (by omega))
  have x_pi := c.pi.same hs (n _ (by omega)) (n _ (by omega)) (n _ (by omega)) (n _ (by omega))
  have x_tp := c.tp.same hs (n _ (by omega)) (n _ (by omega)) (n _ (by omega))
  have x_pt := c.pt.same hs (n _ (by omega)) (n _ (by omega))
  have x_rr := c.rr.same hs (n _ (by omega))
  have x_rq := fun k hk => (c.rq k hk).same hs (n _ (by omega)) (n _ (by omega))
  have x_ro := c.ro.imp (fun z e => hs.at (n _ (by omega)) e)
  exact ⟨x_hn, x_dm, x_ru, x_fa, m, x_m1, x_rs, x_rw, x_rk, x_fi, x_row, x_lg, x_pi, x_tp, x_pt, x_rr, x_rq, x_ro⟩
theorem CSo.mind1 {h h' : XH} {s : SS} {o : Nat} {a b : Nat × Nat} (c : CSo h s o a b) {S : List Nat} (hs : Same S h h') (hS : ∀ k, k ∈ S → 26 ≤ k ∧ k < 42) (m : MM h' 26 o b) : CSo h' s o a b := by
  have n : ∀ k, (k < 26 ∨ 42 ≤ k) → k ∉ S := fun k z q => by have := hS k q; omega
  have x_hn := hs.le c.hn
  have x_dm := c.dm.same hs (n _ (by omega))
  have x_ru := c.ru.same hs (n _ (by omega)) (n _ (by omega)) (n _ (by omega))
  have x_fa := c.fa.same hs (n _ (by omega)) (n _ (by omega)) (n _ (by omega)) (n _ (by omega)) (n _ (by omega))
  have x_m0 := c.m0.same hs (fun k k1 k2 => by have k1 : 10 ≤ k := k1; have k2 : k < 26 := k2; exact n _ (by omega))
  have x_rs := c.rs.same hs (n _ (by omega)) (n _ (by omega)) (n _ (by omega)) (n _ (by omega)) (n _ (by omega)) (n _ (by omega))
  have x_rw := c.rw.same hs (n _ (by omega)) (n _ (by omega)) (n _ (by omega)) (n _ (by omega)) (n _ (by omega))
  have x_rk := c.rk.same hs (n _ (by omega)) (n _ (by omega)) (n _ (by omega)) (n _ (by omega)) (n _ (by omega))
  have x_fi := c.fi.imp (fun z f => f.same hs (n _ (by omega)) (n _ (by omega)) (fun k _ => n _ (by omega)))
  have x_row := c.row.imp (fun z e => hs.at (n _ (by omega)) e)
  have x_lg := c.lg.same hs (n _ (by omega)) (n _ (by omega)) (n _ (by omega)) (n _ (by omega))
  have x_pi := c.pi.same hs (n _ (by omega)) (n _ (by omega)) (n _ (by omega)) (n _ (by omega))
  have x_tp := c.tp.same hs (n _ (by omega)) (n _ (by omega)) (n _ (by omega))
  have x_pt := c.pt.same hs (n _ (by omega)) (n _ (by omega))
  have x_rr := c.rr.same hs (n _ (by omega))
  have x_rq := fun k hk => (c.rq k hk).same hs (n _ (by omega)) (n _ (by omega))
  have x_ro := c.ro.imp (fun z e => hs.at (n _ (by omega)) e)
  exact ⟨x_hn, x_dm, x_ru, x_fa, x_m0, m, x_rs, x_rw, x_rk, x_fi, x_row, x_lg, x_pi, x_tp, x_pt, x_rr, x_rq, x_ro⟩
theorem CSo.race {h h' : XH} {s : SS} {o : Nat} {a b : Nat × Nat} (c : CSo h s o a b) (hs : Same [44, 45, 47, 48, 49, 51, 52, 54, 55, 56] h h') (w : RW h') (k : RK h' o (hh a b) (fun _ _ => False)) : CSo h' s o a b := by
  have x_hn := hs.le c.hn
  have x_dm := c.dm.same hs (by simp)
  have x_ru := c.ru.same hs (by simp) (by simp) (by simp)
  have x_fa := c.fa.same hs (by simp) (by simp) (by simp) (by simp) (by simp)
  have x_m0 := c.m0.same hs (fun k k1 k2 => by have k1 : 10 ≤ k := k1; have k2 : k < 26 := k2; simp <;> omega)
  have x_m1 := c.m1.same hs (fun k k1 k2 => by have k1 : 26 ≤ k := k1; have k2 : k < 42 := k2; simp <;> omega)
  have x_rs := c.rs.same hs (by simp) (by simp) (by simp) (by simp) (by simp) (by simp)
  have x_fi := c.fi.imp (fun z f => f.same hs (by simp) (by simp) (fun k _ => by simp <;> omega))
  have x_row := c.row.imp (fun z e => hs.at (by simp) e)
  have x_lg := c.lg.same hs (by simp) (by simp) (by simp) (by simp)
  have x_pi := c.pi.same hs (by simp) (by simp) (by simp) (by simp)
  have x_tp := c.tp.same hs (by simp) (by simp) (by simp)
  have x_pt := c.pt.same hs (by simp) (by simp)
  have x_rr := c.rr.same hs (by simp)
  have x_rq := fun k hk => (c.rq k hk).same hs (by simp <;> omega) (by simp <;> omega)
  have x_ro := c.ro.imp (fun z e => hs.at (by simp) e)
  exact ⟨x_hn, x_dm, x_ru, x_fa, x_m0, x_m1, x_rs, w, k, x_fi, x_row, x_lg, x_pi, x_tp, x_pt, x_rr, x_rq, x_ro⟩
theorem CSo.fin {h h' : XH} {s : SS} {o : Nat} {a b : Nat × Nat} (c : CSo h s o a b) (hs : Same [57, 60, 61, 62, 63] h h') (f : ∃ sz, FI h' o sz) (r : ∃ fr : Nat → Int32, h'.2 63 = .inl (0, 3, .inl fr)) : CSo h' s o a b := by
  have x_hn := hs.le c.hn
  have x_dm := c.dm.same hs (by simp)
  have x_ru := c.ru.same hs (by simp) (by simp) (by simp)
  have x_fa := c.fa.same hs (by simp) (by simp) (by simp) (by simp) (by simp)
  have x_m0 := c.m0.same hs (fun k k1 k2 => by have k1 : 10 ≤ k := k1; have k2 : k < 26 := k2; simp <;> omega)
  have x_m1 := c.m1.same hs (fun k k1 k2 => by have k1 : 26 ≤ k := k1; have k2 : k < 42 := k2; simp <;> omega)
  have x_rs := c.rs.same hs (by simp) (by simp) (by simp) (by simp) (by simp) (by simp)
  have x_rw := c.rw.same hs (by simp) (by simp) (by simp) (by simp) (by simp)
  have x_rk := c.rk.same hs (by simp) (by simp) (by simp) (by simp) (by simp)
  have x_lg := c.lg.same hs (by simp) (by simp) (by simp) (by simp)
  have x_pi := c.pi.same hs (by simp) (by simp) (by simp) (by simp)
  have x_tp := c.tp.same hs (by simp) (by simp) (by simp)
  have x_pt := c.pt.same hs (by simp) (by simp)
  have x_rr := c.rr.same hs (by simp)
  have x_rq := fun k hk => (c.rq k hk).same hs (by simp <;> omega) (by simp <;> omega)
  have x_ro := c.ro.imp (fun z e => hs.at (by simp) e)
  exact ⟨x_hn, x_dm, x_ru, x_fa, x_m0, x_m1, x_rs, x_rw, x_rk, f, r, x_lg, x_pi, x_tp, x_pt, x_rr, x_rq, x_ro⟩
theorem CSo.leg {h h' : XH} {s : SS} {o : Nat} {a b : Nat × Nat} (c : CSo h s o a b) {q : Nat → Int32} (hs : Same [64, 66, 67] h h') (l : LG h' 64 q) : CSo h' (wq s q) o a b := by
  have x_hn := hs.le c.hn
  have x_dm := c.dm.same hs (by simp)
  have x_ru := c.ru.same hs (by simp) (by simp) (by simp)
  have x_fa := c.fa.same hs (by simp) (by simp) (by simp) (by simp) (by simp)
  have x_m0 := c.m0.same hs (fun k k1 k2 => by have k1 : 10 ≤ k := k1; have k2 : k < 26 := k2; simp <;> omega)
  have x_m1 := c.m1.same hs (fun k k1 k2 => by have k1 : 26 ≤ k := k1; have k2 : k < 42 := k2; simp <;> omega)
  have x_rs := c.rs.same hs (by simp) (by simp) (by simp) (by simp) (by simp) (by simp)
  have x_rw := c.rw.same hs (by simp) (by simp) (by simp) (by simp) (by simp)
  have x_rk := c.rk.same hs (by simp) (by simp) (by simp) (by simp) (by simp)
  have x_fi := c.fi.imp (fun z f => f.same hs (by simp) (by simp) (fun k _ => by simp <;> omega))
  have x_row := c.row.imp (fun z e => hs.at (by simp) e)
  have x_pi := c.pi.same hs (by simp) (by simp) (by simp) (by simp)
  have x_tp := c.tp.same hs (by simp) (by simp) (by simp)
  have x_pt := c.pt.same hs (by simp) (by simp)
  have x_rr := c.rr.same hs (by simp)
  have x_rq := fun k hk => (c.rq k hk).same hs (by simp <;> omega) (by simp <;> omega)
  have x_ro := c.ro.imp (fun z e => hs.at (by simp) e)
  exact ⟨x_hn, x_dm, x_ru, x_fa, x_m0, x_m1, x_rs, x_rw, x_rk, x_fi, x_row, l, x_pi, x_tp, x_pt, x_rr, x_rq, x_ro⟩
theorem CSo.pic {h h' : XH} {s : SS} {o : Nat} {a b : Nat × Nat} (c : CSo h s o a b) {q : Nat → Int32} (hs : Same [68, 70, 71] h h') (l : LG h' 68 q) : CSo h' (wp s q) o a b := by
  have x_hn := hs.le c.hn
  have x_dm := c.dm.same hs (by simp)
  have x_ru := c.ru.same hs (by simp) (by simp) (by simp)
  have x_fa := c.fa.same hs (by simp) (by simp) (by simp) (by simp) (by simp)
  have x_m0 := c.m0.same hs (fun k k1 k2 => by have k1 : 10 ≤ k := k1; have k2 : k < 26 := k2; simp <;> omega)
  have x_m1 := c.m1.same hs (fun k k1 k2 => by have k1 : 26 ≤ k := k1; have k2 : k < 42 := k2; simp <;> omega)
  have x_rs := c.rs.same hs (by simp) (by simp) (by simp) (by simp) (by simp) (by simp)
  have x_rw := c.rw.same hs (by simp) (by simp) (by simp) (by simp) (by simp)
  have x_rk := c.rk.same hs (by simp) (by simp) (by simp) (by simp) (by simp)
  have x_fi := c.fi.imp (fun z f => f.same hs (by simp) (by simp) (fun k _ => by simp <;> omega))
  have x_row := c.row.imp (fun z e => hs.at (by simp) e)
  have x_lg := c.lg.same hs (by simp) (by simp) (by simp) (by simp)
  have x_tp := c.tp.same hs (by simp) (by simp) (by simp)
  have x_pt := c.pt.same hs (by simp) (by simp)
  have x_rr := c.rr.same hs (by simp)
  have x_rq := fun k hk => (c.rq k hk).same hs (by simp <;> omega) (by simp <;> omega)
  have x_ro := c.ro.imp (fun z e => hs.at (by simp) e)
  exact ⟨x_hn, x_dm, x_ru, x_fa, x_m0, x_m1, x_rs, x_rw, x_rk, x_fi, x_row, x_lg, l, x_tp, x_pt, x_rr, x_rq, x_ro⟩
theorem CSo.flag {h h' : XH} {s : SS} {o : Nat} {a b : Nat × Nat} (c : CSo h s o a b) {z : Bool} (hs : Same [0] h h') (d : DM h' z) : CSo h' (wb s z) o a b := by
  have x_hn := hs.le c.hn
  have x_ru := c.ru.same hs (by simp) (by simp) (by simp)
  have x_fa := c.fa.same hs (by simp) (by simp) (by simp) (by simp) (by simp)
  have x_m0 := c.m0.same hs (fun k k1 k2 => by have k1 : 10 ≤ k := k1; have k2 : k < 26 := k2; simp <;> omega)
  have x_m1 := c.m1.same hs (fun k k1 k2 => by have k1 : 26 ≤ k := k1; have k2 : k < 42 := k2; simp <;> omega)
  have x_rs := c.rs.same hs (by simp) (by simp) (by simp) (by simp) (by simp) (by simp)
  have x_rw := c.rw.same hs (by simp) (by simp) (by simp) (by simp) (by simp)
  have x_rk := c.rk.same hs (by simp) (by simp) (by simp) (by simp) (by simp)
  have x_fi := c.fi.imp (fun z f => f.same hs (by simp) (by simp) (fun k _ => by simp <;> omega))
  have x_row := c.row.imp (fun z e => hs.at (by simp) e)
  have x_lg := c.lg.same hs (by simp) (by simp) (by simp) (by simp)
  have x_pi := c.pi.same hs (by simp) (by simp) (by simp) (by simp)
  have x_tp := c.tp.same hs (by simp) (by simp) (by simp)
  have x_pt := c.pt.same hs (by simp) (by simp)
  have x_rr := c.rr.same hs (by simp)
  have x_rq := fun k hk => (c.rq k hk).same hs (by simp <;> omega) (by simp <;> omega)
  have x_ro := c.ro.imp (fun z e => hs.at (by simp) e)
  exact ⟨x_hn, d, x_ru, x_fa, x_m0, x_m1, x_rs, x_rw, x_rk, x_fi, x_row, x_lg, x_pi, x_tp, x_pt, x_rr, x_rq, x_ro⟩
theorem CSo.tape {h h' : XH} {s : SS} {o : Nat} {a b : Nat × Nat} (c : CSo h s o a b) {T : List Nat} (hs : Same [72, 73, 74] h h') (t : TQ h' T) : CSo h' (wT s T) o a b := by
  have x_hn := hs.le c.hn
  have x_dm := c.dm.same hs (by simp)
  have x_ru := c.ru.same hs (by simp) (by simp) (by simp)
  have x_fa := c.fa.same hs (by simp) (by simp) (by simp) (by simp) (by simp)
  have x_m0 := c.m0.same hs (fun k k1 k2 => by have k1 : 10 ≤ k := k1; have k2 : k < 26 := k2; simp <;> omega)
  have x_m1 := c.m1.same hs (fun k k1 k2 => by have k1 : 26 ≤ k := k1; have k2 : k < 42 := k2; simp <;> omega)
  have x_rs := c.rs.same hs (by simp) (by simp) (by simp) (by simp) (by simp) (by simp)
  have x_rw := c.rw.same hs (by simp) (by simp) (by simp) (by simp) (by simp)
  have x_rk := c.rk.same hs (by simp) (by simp) (by simp) (by simp) (by simp)
  have x_fi := c.fi.imp (fun z f => f.same hs (by simp) (by simp) (fun k _ => by simp <;> omega))
  have x_row := c.row.imp (fun z e => hs.at (by simp) e)
  have x_lg := c.lg.same hs (by simp) (by simp) (by simp) (by simp)
  have x_pi := c.pi.same hs (by simp) (by simp) (by simp) (by simp)
  have x_pt := c.pt.same hs (by simp) (by simp)
  have x_rr := c.rr.same hs (by simp)
  have x_rq := fun k hk => (c.rq k hk).same hs (by simp <;> omega) (by simp <;> omega)
  have x_ro := c.ro.imp (fun z e => hs.at (by simp) e)
  exact ⟨x_hn, x_dm, x_ru, x_fa, x_m0, x_m1, x_rs, x_rw, x_rk, x_fi, x_row, x_lg, x_pi, t, x_pt, x_rr, x_rq, x_ro⟩
theorem CSo.paper {h h' : XH} {s : SS} {o : Nat} {a b : Nat × Nat} (c : CSo h s o a b) {X : List Nat} (hs : Same [75, 76] h h') (t : PT h' X) : CSo h' (wX s X) o a b := by
  have x_hn := hs.le c.hn
  have x_dm := c.dm.same hs (by simp)
  have x_ru := c.ru.same hs (by simp) (by simp) (by simp)
  have x_fa := c.fa.same hs (by simp) (by simp) (by simp) (by simp) (by simp)
  have x_m0 := c.m0.same hs (fun k k1 k2 => by have k1 : 10 ≤ k := k1; have k2 : k < 26 := k2; simp <;> omega)
  have x_m1 := c.m1.same hs (fun k k1 k2 => by have k1 : 26 ≤ k := k1; have k2 : k < 42 := k2; simp <;> omega)
  have x_rs := c.rs.same hs (by simp) (by simp) (by simp) (by simp) (by simp) (by simp)
  have x_rw := c.rw.same hs (by simp) (by simp) (by simp) (by simp) (by simp)
  have x_rk := c.rk.same hs (by simp) (by simp) (by simp) (by simp) (by simp)
  have x_fi := c.fi.imp (fun z f => f.same hs (by simp) (by simp) (fun k _ => by simp <;> omega))
  have x_row := c.row.imp (fun z e => hs.at (by simp) e)
  have x_lg := c.lg.same hs (by simp) (by simp) (by simp) (by simp)
  have x_pi := c.pi.same hs (by simp) (by simp) (by simp) (by simp)
  have x_tp := c.tp.same hs (by simp) (by simp) (by simp)
  have x_rr := c.rr.same hs (by simp)
  have x_rq := fun k hk => (c.rq k hk).same hs (by simp <;> omega) (by simp <;> omega)
  have x_ro := c.ro.imp (fun z e => hs.at (by simp) e)
  exact ⟨x_hn, x_dm, x_ru, x_fa, x_m0, x_m1, x_rs, x_rw, x_rk, x_fi, x_row, x_lg, x_pi, x_tp, t, x_rr, x_rq, x_ro⟩
theorem CSo.row86 {h h' : XH} {s : SS} {o : Nat} {a b : Nat × Nat} (c : CSo h s o a b) (hs : Same [86] h h') (t : ∃ fr : Nat → Int32, h'.2 86 = .inl (0, 20, .inl fr)) : CSo h' s o a b := by
  have x_hn := hs.le c.hn
  have x_dm := c.dm.same hs (by simp)
  have x_ru := c.ru.same hs (by simp) (by simp) (by simp)
  have x_fa := c.fa.same hs (by simp) (by simp) (by simp) (by simp) (by simp)
  have x_m0 := c.m0.same hs (fun k k1 k2 => by have k1 : 10 ≤ k := k1; have k2 : k < 26 := k2; simp <;> omega)
  have x_m1 := c.m1.same hs (fun k k1 k2 => by have k1 : 26 ≤ k := k1; have k2 : k < 42 := k2; simp <;> omega)
  have x_rs := c.rs.same hs (by simp) (by simp) (by simp) (by simp) (by simp) (by simp)
  have x_rw := c.rw.same hs (by simp) (by simp) (by simp) (by simp) (by simp)
  have x_rk := c.rk.same hs (by simp) (by simp) (by simp) (by simp) (by simp)
  have x_fi := c.fi.imp (fun z f => f.same hs (by simp) (by simp) (fun k _ => by simp <;> omega))
  have x_row := c.row.imp (fun z e => hs.at (by simp) e)
  have x_lg := c.lg.same hs (by simp) (by simp) (by simp) (by simp)
  have x_pi := c.pi.same hs (by simp) (by simp) (by simp) (by simp)
  have x_tp := c.tp.same hs (by simp) (by simp) (by simp)
  have x_pt := c.pt.same hs (by simp) (by simp)
  have x_rr := c.rr.same hs (by simp)
  have x_rq := fun k hk => (c.rq k hk).same hs (by simp <;> omega) (by simp <;> omega)
  exact ⟨x_hn, x_dm, x_ru, x_fa, x_m0, x_m1, x_rs, x_rw, x_rk, x_fi, x_row, x_lg, x_pi, x_tp, x_pt, x_rr, x_rq, t⟩
theorem CSo.far {h h' : XH} {s : SS} {o : Nat} {a b : Nat × Nat} (c : CSo h s o a b) {S : List Nat} (hs : Same S h h') (hS : ∀ k, k ∈ S → 87 ≤ k) : CSo h' s o a b := by
  have n : ∀ k, (k < 87) → k ∉ S := fun k z q => by have := hS k q; omega
  have x_hn := hs.le c.hn
  have x_dm := c.dm.same hs (n _ (by omega))
  have x_ru := c.ru.same hs (n _ (by omega)) (n _ (by omega)) (n _ (by omega))
  have x_fa := c.fa.same hs (n _ (by omega)) (n _ (by omega)) (n _ (by omega)) (n _ (by omega)) (n _ (by omega))
  have x_m0 := c.m0.same hs (fun k k1 k2 => by have k1 : 10 ≤ k := k1; have k2 : k < 26 := k2; exact n _ (by omega))
  have x_m1 := c.m1.same hs (fun k k1 k2 => by have k1 : 26 ≤ k := k1; have k2 : k < 42 := k2; exact n _ (by omega))
  have x_rs := c.rs.same hs (n _ (by omega)) (n _ (by omega)) (n _ (by omega)) (n _ (by omega)) (n _ (by omega)) (n _ (by omega))
  have x_rw := c.rw.same hs (n _ (by omega)) (n _ (by omega)) (n _ (by omega)) (n _ (by omega)) (n _ (by omega))
  have x_rk := c.rk.same hs (n _ (by omega)) (n _ (by omega)) (n _ (by omega)) (n _ (by omega)) (n _ (by omega))
  have x_fi := c.fi.imp (fun z f => f.same hs (n _ (by omega)) (n _ (by omega)) (fun k _ => n _ (by omega)))
  have x_row := c.row.imp (fun z e => hs.at (n _ (by omega)) e)
  have x_lg := c.lg.same hs (n _ (by omega)) (n _ (by omega)) (n _ (by omega)) (n _ (by omega))
  have x_pi := c.pi.same hs (n _ (by omega)) (n _ (by omega)) (n _ (by omega)) (n _ (by omega))
  have x_tp := c.tp.same hs (n _ (by omega)) (n _ (by omega)) (n _ (by omega))
  have x_pt := c.pt.same hs (n _ (by omega)) (n _ (by omega))
  have x_rr := c.rr.same hs (n _ (by omega))
  have x_rq := fun k hk => (c.rq k hk).same hs (n _ (by omega)) (n _ (by omega))
  have x_ro := c.ro.imp (fun z e => hs.at (n _ (by omega)) e)
  exact ⟨x_hn, x_dm, x_ru, x_fa, x_m0, x_m1, x_rs, x_rw, x_rk, x_fi, x_row, x_lg, x_pi, x_tp, x_pt, x_rr, x_rq, x_ro⟩
theorem CSo.rack {h h' : XH} {s : SS} {o : Nat} {a b : Nat × Nat} (c : CSo h s o a b) {r : Nat} (hr : r < 4) {x : Option (Nat × Nat × (Nat → Int32))} (hs : Same [78 + 2 * r, 78 + 2 * r + 1] h h') (t : RQ h' (78 + 2 * r) x) : CSo h' (wk s (fun j => if j = r then x else sk s j)) o a b := by
  have n : ∀ k, (k < 78 ∨ 86 ≤ k) → k ∉ [78 + 2 * r, 78 + 2 * r + 1] := fun k z q => by simp at q; omega
  have x_hn := hs.le c.hn
  have x_dm := c.dm.same hs (n _ (by omega))
  have x_ru := c.ru.same hs (n _ (by omega)) (n _ (by omega)) (n _ (by omega))
  have x_fa := c.fa.same hs (n _ (by omega)) (n _ (by omega)) (n _ (by omega)) (n _ (by omega)) (n _ (by omega))
  have x_m0 := c.m0.same hs (fun k k1 k2 => by have k1 : 10 ≤ k := k1; have k2 : k < 26 := k2; exact n _ (by omega))
  have x_m1 := c.m1.same hs (fun k k1 k2 => by have k1 : 26 ≤ k := k1; have k2 : k < 42 := k2; exact n _ (by omega))
  have x_rs := c.rs.same hs (n _ (by omega)) (n _ (by omega)) (n _ (by omega)) (n _ (by omega)) (n _ (by omega)) (n _ (by omega))
  have x_rw := c.rw.same hs (n _ (by omega)) (n _ (by omega)) (n _ (by omega)) (n _ (by omega)) (n _ (by omega))
  have x_rk := c.rk.same hs (n _ (by omega)) (n _ (by omega)) (n _ (by omega)) (n _ (by omega)) (n _ (by omega))
  have x_fi := c.fi.imp (fun z f => f.same hs (n _ (by omega)) (n _ (by omega)) (fun k _ => n _ (by omega)))
  have x_row := c.row.imp (fun z e => hs.at (n _ (by omega)) e)
  have x_lg := c.lg.same hs (n _ (by omega)) (n _ (by omega)) (n _ (by omega)) (n _ (by omega))
  have x_pi := c.pi.same hs (n _ (by omega)) (n _ (by omega)) (n _ (by omega)) (n _ (by omega))
  have x_tp := c.tp.same hs (n _ (by omega)) (n _ (by omega)) (n _ (by omega))
  have x_pt := c.pt.same hs (n _ (by omega)) (n _ (by omega))
  have x_rr := c.rr.same hs (n _ (by omega))
  have x_ro := c.ro.imp (fun z e => hs.at (n _ (by omega)) e)
  exact ⟨x_hn, x_dm, x_ru, x_fa, x_m0, x_m1, x_rs, x_rw, x_rk, x_fi, x_row, x_lg, x_pi, x_tp, x_pt, x_rr, fun k hk => by
    by_cases e : k = r
    · subst e
      show RQ h' _ (if k = k then x else sk s k)
      rw [if_pos rfl]
      exact t
    · show RQ h' _ (if k = r then x else sk s k)
      rw [if_neg e]
      exact (c.rq k hk).same hs (by simp; omega) (by simp; omega), x_ro⟩
