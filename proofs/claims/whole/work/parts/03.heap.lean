/-! ===== ROWS: fields, arrays, statics, new cells, calls ===== -/
def xset (h : XH) (a : Nat) (e : va_E) : XH := (h.1, fun k => if k = a then e else h.2 k)
def xpush (h : XH) (e : va_E) : XH := (h.1 + 1, fun k => if k = h.1 then e else h.2 k)
theorem xset_same (h : XH) (a : Nat) (e : va_E) : (xset h a e).2 a = e := by simp [xset]
theorem xset_ne {h : XH} {a b : Nat} {e : va_E} (hn : b ≠ a) : (xset h a e).2 b = h.2 b := by simp [xset, hn]
theorem xpush_same (h : XH) (e : va_E) : (xpush h e).2 h.1 = e := by simp [xpush]
theorem xpush_ne {h : XH} {b : Nat} {e : va_E} (hn : b ≠ h.1) : (xpush h e).2 b = h.2 b := by simp [xpush, hn]
theorem HP.set {w : XW} {h : XH} {H H1 : Heap} {a : Nat} {e : va_E} (hH : HP w h H) (z : H1.size = H.size) (he : va_at w.2.2.2.1 vwCl (w.1 + a, xe w e) H1) (oq : ∀ q : Nat, q ≠ w.1 + a → H1[q]? = H[q]?) : HP w (xset h a e) H1 := by
  refine ⟨by rw [z]; exact hH.1, fun k hk => ?_⟩
  by_cases hka : k = a
  · subst hka
    rw [xset_same]
    exact he
  · rw [xset_ne hka]
    exact (hH.2 k hk).kept (oq _ (by omega))
theorem HP.push {w : XW} {h : XH} {H H1 : Heap} {e : va_E} (hH : HP w h H) (z : H1.size = H.size + 1) (he : va_at w.2.2.2.1 vwCl (w.1 + h.1, xe w e) H1) (oq : ∀ q : Nat, q < H.size → H1[q]? = H[q]?) : HP w (xpush h e) H1 := by
  refine ⟨by rw [z, hH.1]; show w.1 + h.1 + 1 = w.1 + (h.1 + 1); omega, fun k hk => ?_⟩
  have hk' : k < h.1 + 1 := hk
  by_cases hka : k = h.1
  · subst hka
    rw [xpush_same]
    exact he
  · rw [xpush_ne hka]
    have h2 : k < h.1 := by omega
    exact (hH.2 k h2).kept (oq _ (by rw [hH.1]; omega))
theorem HP.one {w : XW} {h : XH} {H : Heap} {a : Nat} (hH : HP w h H) (ha : a < h.1) : va_P w.2.2.2.1 vwCl [(w.1 + a, xe w (h.2 a))] H := by
  intro k q hq
  cases k with
  | zero => cases hq; exact hH.2 a ha
  | succ k => simp at hq
theorem va_S.push {A : Nat → Prop} {H0 H H1 : Heap} {locs : List Loc} (h : va_S A H0 H locs) (z : H.size ≤ H1.size) (oq : ∀ q : Nat, q < H.size → H1[q]? = H[q]?) : va_S A H0 H1 locs :=
  ⟨Nat.le_trans h.1 z, fun q h1 h2 => by rw [oq q (Nat.lt_of_lt_of_le h1 h.1)]; exact h.2.1 q h1 h2, h.2.2⟩
theorem HP.lt {w : XW} {h : XH} {H : Heap} {a : Nat} (hH : HP w h H) (ha : a < h.1) : w.1 + a < H.size := by rw [hH.1]; omega
theorem XR.at {w : XW} {s U : State} {H : Heap} {locs : List Loc} (hX : XR w s) (hS : va_S (XA w) s.heap H locs) (hU : U.heap = H) (hW : s.WarmedH U.vm) : XR w U := by
  obtain ⟨h1, h2, h3, h4⟩ := hX
  have hq : ∀ a : Nat, a < s.heap.size → ¬ XA w a → U.heap[a]? = s.heap[a]? := fun a x y => by rw [hU]; exact hS.2.1 a x y
  exact ⟨va_K.moved hW.alike h1, (va_Z.moved hW.alike h2).kept hq, (va_T.moved hW.alike h3).kept hq, h4.warm hW⟩
section XROWS
variable {w : XW} {M : MD} {k n pc : Nat} {L st : List Value} {h : XH} {P : Option Value → XH → Prop}
/-- what a putfield or getfield needs of the tables, of class number ci -/
abbrev XF (ci : Nat) (C : String) (T : u_T) (N : Nat) (ty : Nat → FieldType) (M : MD) (idx j : Nat) : Prop :=
  vwCl[ci]? = some (C, T, N) ∧ (∀ x ∈ u_ws C T N, x ∈ mW M) ∧ (∀ j, j < N → parseFieldDescriptor (T j).2.2.1 = some (ty j)) ∧ (∀ a, a < N → ∀ b, b < N → a ≠ b → (T a).2.1 ≠ (T b).2.1) ∧ j < N ∧ Cond.fieldLink (mY M).cls idx (T j).1 (T j).2.1 (T j).2.2.1 ∈ mW M
theorem AX.getf {ci : Nat} {C : String} {T : u_T} {N : Nat} {ty : Nat → FieldType} {idx j a : Nat} (F : XF ci C T N ty M idx j) (ha : a < h.1) {fs : List Value} {v : Value} (he : h.2 a = .inr (ci, fs)) (hv : fs[j]? = some v) (d : decode (mC M) pc = .ok (.getfield idx, 3))
    (kk : AX w M k n (pc + 3) L (v :: st) h P) : AX w M k n pc L (.ref a :: st) h P := by
  intro R p l e s m args below meth c H locs ls Q hR hX hH hS hL hw hE
  obtain ⟨f1, f2, f3, f4, f5, f6⟩ := F
  have h1 := hH.one ha
  rw [he] at h1
  exact va_get hX.1 hX.2.1 hX.2.2.2.2.1 f2 hX.2.2.2.1 hX.2.2.2.2.2.2.2.2.1 h1 0 rfl f1 j f5 (hX.2.2.2.2.1 _ f6) (fun x hx => hx) (by rw [List.getElem?_map, hv]; rfl) d (kk R p l e s m args below meth c H locs ls Q hR hX hH hS hL hw hE)
theorem AX.putf {ci : Nat} {C : String} {T : u_T} {N : Nat} {ty : Nat → FieldType} {idx j a : Nat} (F : XF ci C T N ty M idx j) (hfin : (T j).2.2.2 = false) (ha : a < h.1) {fs fs' : List Value} {v : Value} (he : h.2 a = .inr (ci, fs)) (hj : j < fs.length) (hn : narrow (ty j) (xv w v) = xv w v) (hfit : fits (ty j) (xv w v) = true) (hs : fs.set j v = fs') (d : decode (mC M) pc = .ok (.putfield idx, 3))
    (kk : AX w M k n (pc + 3) L st (xset h a (.inr (ci, fs'))) P) : AX w M k n pc L (v :: .ref a :: st) h P := by
  subst hs
  intro R p l e s m args below meth c H locs ls Q hR hX hH hS hL hw hE
  obtain ⟨f1, f2, f3, f4, f5, f6⟩ := F
  have hts := hX.2.2.2.2.1
  have hK := hX.2.2.2.2.2.2.2.2.1
  have hP := hH.one ha
  rw [he] at hP
  have hap := va_apart (own := (mY M).cls) hts f2 ty f3 f4 hK f1
  obtain ⟨r, h1, cell, q1, q2, q3, q4⟩ := hP 0 _ rfl
  have hr : r = (C, T, N) := Option.some.inj (h1.symm.trans f1)
  subst hr
  obtain ⟨hSl, hfc, kC, hkC, hkind⟩ := hK.1 ci _ f1
  obtain ⟨cf, kf, fi, f, hi, hsl⟩ := hSl j f5
  have hlay := hts _ (f2 _ (u_in_lay f5))
  unfold u_lay at hlay
  rw [if_neg (by rw [hfin]; decide)] at hlay
  have hst := (u_facts hfc hkC (u_lays hts f2 f5) hi).1
  have h6 := u_store hfc hkC hkind hlay hi (f3 j f5) hn hfit
  refine W.putK hX.1 hX.2.1 (f := f) ⟨hX.2.2.2.1, hts _ f6, ⟨_, _, _, hi⟩, hst⟩ (by rw [q2]; exact h6) q1 q3 (by rw [hsl]; exact k2_hasslot (q4 j f5)) rfl rfl d fun H' e1 e2 e3 => ?_
  rw [hsl] at e1 ⊢
  refine kk R p l e s m args below meth c H' _ ls Q hR hX (hH.set e2 ?_ e3) (hS.put e2 e3 (Nat.le_add_right _ _)) hL hw hE
  refine ⟨_, f1, t_OB.to (V := updV (vp_V (fs.map (xv w))) j (xv w v)) ⟨_, e1, q2, q3, t_set q4 hap f5 (xv w v)⟩ (fun i _ => ?_)⟩
  rw [vp_updV_set (by simpa using hj)]
  show vp_V _ i = vp_V ((fs.set j v).map (xv w)) i
  rw [List.map_set]
theorem AX.putF {ci : Nat} {C : String} {T : u_T} {N : Nat} {ty : Nat → FieldType} {idx j a : Nat} (F : XF ci C T N ty M idx j) (hfin : (T j).2.2.2 = true) (hinit : (mY M).name = "<init>") (hdecl : (T j).1 = (mY M).cls) (ha : a < h.1) {fs fs' : List Value} {v : Value} (he : h.2 a = .inr (ci, fs)) (hj : j < fs.length) (hn : narrow (ty j) (xv w v) = xv w v) (hfit : fits (ty j) (xv w v) = true) (hs : fs.set j v = fs') (d : decode (mC M) pc = .ok (.putfield idx, 3))
    (kk : AX w M k n (pc + 3) L st (xset h a (.inr (ci, fs'))) P) : AX w M k n pc L (v :: .ref a :: st) h P := by
  subst hs
  intro R p l e s m args below meth c H locs ls Q hR hX hH hS hL hw hE
  obtain ⟨f1, f2, f3, f4, f5, f6⟩ := F
  have hts := hX.2.2.2.2.1
  have hown := hX.2.2.2.1
  have hK := hX.2.2.2.2.2.2.2.2.1
  have hnm := hX.2.2.2.2.2.2.2.1
  have hP := hH.one ha
  rw [he] at hP
  have hap := va_apart (own := (mY M).cls) hts f2 ty f3 f4 hK f1
  obtain ⟨r, h1, cell, q1, q2, q3, q4⟩ := hP 0 _ rfl
  have hr : r = (C, T, N) := Option.some.inj (h1.symm.trans f1)
  subst hr
  obtain ⟨hSl, hfc, kC, hkC, hkind⟩ := hK.1 ci _ f1
  obtain ⟨cf, kf, fi, f, hi, hsl⟩ := hSl j f5
  have hlay := hts _ (f2 _ (u_in_lay f5))
  unfold u_lay at hlay
  rw [if_pos hfin] at hlay
  have hst := (u_facts hfc hkC (u_lays hts f2 f5) hi).1
  have hcf : m.cls = cf := by
    obtain ⟨_, _, c', _, _, _, -, -, hf', -, -, -, hown2, -⟩ := Cond.laysFinal_spec hlay
    have e1 : c' = cf := by have := hi.symm.trans hf'; simp at this; exact this.1.symm
    rw [hdecl] at hown2
    rw [← e1]; exact Option.some.inj (hown.symm.trans hown2)
  have h6 := u_fits hfc hkC hkind (Or.inr hlay) hi (f3 j f5) hn hfit
  refine W.putFinK hX.1 hX.2.1 hown (hts _ f6) hi hst hcf (by rw [hnm]; exact hinit) (by rw [q2]; exact h6) q1 q3 (by rw [hsl]; exact k2_hasslot (q4 j f5)) rfl rfl d fun H' e1 e2 e3 => ?_
  rw [hsl] at e1 ⊢
  refine kk R p l e s m args below meth c H' _ ls Q hR hX (hH.set e2 ?_ e3) (hS.put e2 e3 (Nat.le_add_right _ _)) hL hw hE
  refine ⟨_, f1, t_OB.to (V := updV (vp_V (fs.map (xv w))) j (xv w v)) ⟨_, e1, q2, q3, t_set q4 hap f5 (xv w v)⟩ (fun i _ => ?_)⟩
  rw [vp_updV_set (by simpa using hj)]
  show vp_V _ i = vp_V ((fs.set j v).map (xv w)) i
  rw [List.map_set]
/-! arrays -/
theorem AX.iald {a N : Nat} {f : Nat → Int32} {i : Int32} (ha : a < h.1) (he : h.2 a = .inl (0, N, .inl f)) (hin : vp_in i N) (d : decode (mC M) pc = .ok (.iaload, 1))
    (kk : AX w M k n (pc + 1) L (.int (f i.toNatClampNeg) :: st) h P) : AX w M k n pc L (.int i :: .ref a :: st) h P := by
  intro R p l e s m args below meth c H locs ls Q hR hX hH hS hL hw hE
  have h1 := hH.one ha
  rw [he] at h1
  exact va_iald hX.1 hX.2.1 hX.2.2.2.2.2.2.2.2.1 h1 0 0 rfl rfl hin d (kk R p l e s m args below meth c H locs ls Q hR hX hH hS hL hw hE)
theorem AX.zald {a N : Nat} {f : Nat → Int32} {i : Int32} (ha : a < h.1) (he : h.2 a = .inl (1, N, .inl f)) (hin : vp_in i N) (d : decode (mC M) pc = .ok (.baload, 1))
    (kk : AX w M k n (pc + 1) L (.int (f i.toNatClampNeg) :: st) h P) : AX w M k n pc L (.int i :: .ref a :: st) h P := by
  intro R p l e s m args below meth c H locs ls Q hR hX hH hS hL hw hE
  have h1 := hH.one ha
  rw [he] at h1
  exact va_zald hX.1 hX.2.1 hX.2.2.2.2.2.2.2.2.1 h1 0 1 rfl rfl hin d (kk R p l e s m args below meth c H locs ls Q hR hX hH hS hL hw hE)
theorem AX.dald {a N : Nat} {f : Nat → UInt64} {i : Int32} (ha : a < h.1) (he : h.2 a = .inl (2, N, .inr (.inr (.inr (.inl f))))) (hin : vp_in i N) (d : decode (mC M) pc = .ok (.daload, 1))
    (kk : AX w M k n (pc + 1) L (.double (f i.toNatClampNeg) :: st) h P) : AX w M k n pc L (.int i :: .ref a :: st) h P := by
  intro R p l e s m args below meth c H locs ls Q hR hX hH hS hL hw hE
  have h1 := hH.one ha
  rw [he] at h1
  exact va_dald hX.1 hX.2.1 hX.2.2.2.2.2.2.2.2.1 h1 0 2 rfl rfl hin d (kk R p l e s m args below meth c H locs ls Q hR hX hH hS hL hw hE)
theorem AX.aald {a t N b : Nat} {f : Nat → Option Nat} {i : Int32} (ht : 3 ≤ t ∧ t ≤ 7) (ha : a < h.1) (he : h.2 a = .inl (t, N, .inr (.inr (.inr (.inr f))))) (hin : vp_in i N) (hb : f i.toNatClampNeg = some b) (d : decode (mC M) pc = .ok (.aaload, 1))
    (kk : AX w M k n (pc + 1) L (.ref b :: st) h P) : AX w M k n pc L (.int i :: .ref a :: st) h P := by
  intro R p l e s m args below meth c H locs ls Q hR hX hH hS hL hw hE
  have h1 := hH.one ha
  rw [he] at h1
  have hlt : i.toNatClampNeg < N := Nat.not_le.mp fun q => hin (Or.inr q)
  have hc := h1 0 _ rfl
  have key : ∃ ty : FieldType, ty.isReference = true ∧ (xtys w)[t]? = some (w.2.2.2.2 t, ty) := by
    obtain ⟨h3, h7⟩ := ht
    rcases (show t = 3 ∨ t = 4 ∨ t = 5 ∨ t = 6 ∨ t = 7 by omega) with rfl | rfl | rfl | rfl | rfl
    · exact ⟨_, rfl, rfl⟩
    · exact ⟨_, rfl, rfl⟩
    · exact ⟨_, rfl, rfl⟩
    · exact ⟨_, rfl, rfl⟩
    · exact ⟨_, rfl, rfl⟩
  obtain ⟨ty, hty, hk⟩ := key
  exact W.aald (v := .ref (w.1 + b)) hX.1 hX.2.1 hc ((hX.2.2.2.2.2.2.2.2.1.2 t _ hk).1 N (fun j => va_rf ((f j).map (fun k => w.1 + k)))) hty (fun q => by cases q) (by show ¬ (i < 0 ∨ (arrV _ _ _).slots.size ≤ _); rw [arrV_size]; exact hin) (by show (arrV (w.2.2.2.2 t) N (fun j => va_rf ((f j).map (fun k => w.1 + k)))).slots[i.toNatClampNeg]? = _; rw [arrV_read _ _ hlt, hb]; rfl) rfl rfl d (kk R p l e s m args below meth c H locs ls Q hR hX hH hS hL hw hE)
theorem AX.alen {a t : Nat} {x : vp_A} {v : Int32} (ht : t ≤ 2) (ha : a < h.1) (he : h.2 a = .inl (t, x)) (hv : Int32.ofNat x.1 = v) (d : decode (mC M) pc = .ok (.arraylength, 1))
    (kk : AX w M k n (pc + 1) L (.int v :: st) h P) : AX w M k n pc L (.ref a :: st) h P := by
  intro R p l e s m args below meth c H locs ls Q hR hX hH hS hL hw hE
  have h1 := hH.one ha
  rw [he] at h1
  have key : ∃ ty : FieldType, (xtys w)[t]? = some (w.2.2.2.2 t, ty) := by
    rcases (show t = 0 ∨ t = 1 ∨ t = 2 by omega) with rfl | rfl | rfl
    · exact ⟨_, rfl⟩
    · exact ⟨_, rfl⟩
    · exact ⟨_, rfl⟩
  obtain ⟨ty, hk⟩ := key
  exact va_alen hX.1 hX.2.1 hX.2.2.2.2.2.2.2.2.1 h1 0 t rfl hk hv d (kk R p l e s m args below meth c H locs ls Q hR hX hH hS hL hw hE)
theorem AX.iast {a N : Nat} {f : Nat → Int32} {i x : Int32} (ha : a < h.1) (he : h.2 a = .inl (0, N, .inl f)) (hin : vp_in i N) (d : decode (mC M) pc = .ok (.iastore, 1))
    (kk : AX w M k n (pc + 1) L st (xset h a (.inl (0, N, .inl (upd f i.toNatClampNeg x)))) P) : AX w M k n pc L (.int x :: .int i :: .ref a :: st) h P := by
  intro R p l e s m args below meth c H locs ls Q hR hX hH hS hL hw hE
  have h1 := hH.one ha
  rw [he] at h1
  refine W.iast hX.1 hX.2.1 (h1 0 _ rfl) ((hX.2.2.2.2.2.2.2.2.1.2 0 _ rfl).1 N (fun j => .int (f j))) (fun q => by cases q) (by show ¬ (i < 0 ∨ (arrV _ _ _).slots.size ≤ _); rw [arrV_size]; exact hin) rfl rfl d fun H1 e z oq => ?_
  refine kk R p l _ s m args below meth c H1 _ ls Q hR hX (hH.set z ?_ oq) (hS.put z oq (Nat.le_add_right _ _)) hL hw hE
  show H1[_]? = some (vp_cell _ _)
  rw [e]
  show some ((vp_cell _ (N, .inl f)).setSlot _ _) = some (vp_cell _ (N, .inl _))
  rw [vp_cell_i, vp_cell_i, arrV_store]
  congr 2
  funext q
  by_cases hq : q = i.toNatClampNeg
  · subst hq
    simp [updV, upd]
  · simp [updV, upd, hq]
theorem AX.zast {a N : Nat} {f : Nat → Int32} {i x : Int32} (ha : a < h.1) (he : h.2 a = .inl (1, N, .inl f)) (hin : vp_in i N) (hz : narrow .boolean (.int x) = .int x) (d : decode (mC M) pc = .ok (.bastore, 1))
    (kk : AX w M k n (pc + 1) L st (xset h a (.inl (1, N, .inl (upd f i.toNatClampNeg x)))) P) : AX w M k n pc L (.int x :: .int i :: .ref a :: st) h P := by
  intro R p l e s m args below meth c H locs ls Q hR hX hH hS hL hw hE
  have h1 := hH.one ha
  rw [he] at h1
  refine W.zast hX.1 hX.2.1 (h1 0 _ rfl) ((hX.2.2.2.2.2.2.2.2.1.2 1 _ rfl).1 N (fun j => .int (f j))) (fun q => by cases q) (by show ¬ (i < 0 ∨ (arrV _ _ _).slots.size ≤ _); rw [arrV_size]; exact hin) rfl rfl d fun H1 e z oq => ?_
  rw [hz] at e
  refine kk R p l _ s m args below meth c H1 _ ls Q hR hX (hH.set z ?_ oq) (hS.put z oq (Nat.le_add_right _ _)) hL hw hE
  show H1[_]? = some (vp_cell _ _)
  rw [e]
  show some ((vp_cell _ (N, .inl f)).setSlot _ _) = some (vp_cell _ (N, .inl _))
  rw [vp_cell_i, vp_cell_i, arrV_store]
  congr 2
  funext q
  by_cases hq : q = i.toNatClampNeg
  · subst hq
    simp [updV, upd]
  · simp [updV, upd, hq]
theorem AX.dast {a N : Nat} {f : Nat → UInt64} {i : Int32} {x : UInt64} (ha : a < h.1) (he : h.2 a = .inl (2, N, .inr (.inr (.inr (.inl f))))) (hin : vp_in i N) (d : decode (mC M) pc = .ok (.dastore, 1))
    (kk : AX w M k n (pc + 1) L st (xset h a (.inl (2, N, .inr (.inr (.inr (.inl (vf_upd f i.toNatClampNeg x))))))) P) : AX w M k n pc L (.double x :: .int i :: .ref a :: st) h P := by
  intro R p l e s m args below meth c H locs ls Q hR hX hH hS hL hw hE
  have h1 := hH.one ha
  rw [he] at h1
  refine W.dast hX.1 hX.2.1 (h1 0 _ rfl) ((hX.2.2.2.2.2.2.2.2.1.2 2 _ rfl).1 N (fun j => .double (f j))) (fun q => by cases q) (by show ¬ (i < 0 ∨ (arrV _ _ _).slots.size ≤ _); rw [arrV_size]; exact hin) rfl rfl d fun H1 e z oq => ?_
  refine kk R p l _ s m args below meth c H1 _ ls Q hR hX (hH.set z ?_ oq) (hS.put z oq (Nat.le_add_right _ _)) hL hw hE
  show H1[_]? = some (vp_cell _ _)
  rw [e]
  show some ((vp_cell _ (N, .inr (.inr (.inr (.inl f))))).setSlot _ _) = some (vp_cell _ (N, .inr (.inr (.inr (.inl _)))))
  rw [vp_cell_d, vp_cell_d, arrV_store]
  congr 2
  funext q
  by_cases hq : q = i.toNatClampNeg
  · subst hq
    simp [updV, vf_upd]
  · simp [updV, vf_upd, hq]
/-! the static RING: its row is .retAddr 1 -/
theorem AX.ring {idx : Nat} (hl : Cond.fieldLink (mY M).cls idx "DartMind$Board" "RING" "[I" ∈ mW M) (d : decode (mC M) pc = .ok (.getstatic idx, 3))
    (kk : AX w M k n (pc + 3) L (.retAddr 1 :: st) h P) : AX w M k n pc L st h P := by
  intro R p l e s m args below meth c H locs ls Q hR hX hH hS hL hw hE
  exact va_gets hX.1 hX.2.1 hX.2.2.2.2.2.2.2.2.2.1 hS hX.2.2.2.1 (hX.2.2.2.2.1 _ hl) (fun x hx => hx) d (kk R p l e s m args below meth c H locs ls Q hR hX hH hS hL hw hE)
theorem AX.ringLen (d : decode (mC M) pc = .ok (.arraylength, 1))
    (kk : AX w M k n (pc + 1) L (.int 20 :: st) h P) : AX w M k n pc L (.retAddr 1 :: st) h P := by
  intro R p l e s m args below meth c H locs ls Q hR hX hH hS hL hw hE
  obtain ⟨cell, h1, h2, h3, h4, h5, h6, h7⟩ := hX.2.2.2.2.2.2.2.2.2.2.1
  have hc : H[w.2.1]? = some cell := by rw [hS.2.1 _ (Array.getElem?_eq_some_iff.mp h1).1 h7]; exact h1
  exact W.alen hX.1 hX.2.1 hc h2 h5 rfl rfl d (kk R p l e s m args below meth c H locs ls Q hR hX hH hS hL hw hE)
theorem AX.ringAt {i : Int32} (hin : vp_in i 20) (d : decode (mC M) pc = .ok (.iaload, 1))
    (kk : AX w M k n (pc + 1) L (.int (ringF i.toNatClampNeg) :: st) h P) : AX w M k n pc L (.int i :: .retAddr 1 :: st) h P := by
  intro R p l e s m args below meth c H locs ls Q hR hX hH hS hL hw hE
  obtain ⟨cell, h1, h2, h3, h4, h5, h6, h7⟩ := hX.2.2.2.2.2.2.2.2.2.2.1
  have hc : H[w.2.1]? = some cell := by rw [hS.2.1 _ (Array.getElem?_eq_some_iff.mp h1).1 h7]; exact h1
  have hlt : i.toNatClampNeg < 20 := Nat.not_le.mp fun q => hin (Or.inr q)
  exact W.iald hX.1 hX.2.1 hc h2 h3 (fun q => q.elim (fun a => hin (Or.inl a)) (fun a => hin (Or.inr (Nat.le_trans h4 a)))) (h6 _ hlt) rfl rfl d (kk R p l e s m args below meth c H locs ls Q hR hX hH hS hL hw hE)
end XROWS
