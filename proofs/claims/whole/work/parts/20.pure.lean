/-! ===== THE MATHEMATICAL WORLD: the board ===== -/
def scN (s : Nat) : Nat := if s ≤ 20 then s else if s ≤ 40 then 2 * (s - 20) else if s ≤ 60 then 3 * (s - 40) else if s = 61 then 25 else 50
def kdN (s : Nat) : Nat := if s = 0 then 0 else if s ≤ 20 then 1 else if s ≤ 40 then 2 else if s ≤ 60 then 3 else if s = 61 then 5 else 4
def nbN (s : Nat) : Nat := if s < 1 then 0 else if 61 ≤ s then 0 else (s - 1) % 20 + 1
def unN (s k : Nat) : Bool := kdN s == k || k == 0 || (k == 2 && kdN s == 4) || (k == 1 && kdN s == 5)
def rgL : List Nat := [20, 1, 18, 4, 13, 6, 10, 15, 2, 17, 3, 19, 7, 16, 8, 11, 14, 9, 12, 5]
def rgN (j : Nat) : Nat := rgL.getD j 0
/-- where a number stands in the RING; 20: nowhere -/
def ixN (m : Nat) : Nat := rgL.findIdx (fun x => x == m)
/-- the number so many places to the right (19: one to the left); 0 of 0 -/
def bsN (m on : Nat) : Nat := if ixN m < 20 then rgN ((ixN m + on) % 20) else 0
theorem ring_rg (j : Nat) (h : j < 20) : ringF j = nI (rgN j) := by
  have : ∀ j, j < 20 → ringF j = nI (rgN j) := by decide
  exact this j h
theorem scN_le (s : Nat) (h : s < 63) : scN s ≤ 60 := by
  have : ∀ s, s < 63 → scN s ≤ 60 := by decide
  exact this s h
theorem kdN_le (s : Nat) : kdN s ≤ 5 := by unfold kdN; (repeat' split) <;> omega
theorem nbN_le (s : Nat) : nbN s ≤ 20 := by unfold nbN; (repeat' split) <;> omega
theorem rgN_in (j : Nat) : rgN j ≤ 20 := by
  by_cases h : j < 20
  · have : ∀ j, j < 20 → rgN j ≤ 20 := by decide
    exact this j h
  · unfold rgN
    rw [List.getD_eq_getElem?_getD, List.getElem?_eq_none (by simp [rgL]; omega)]
    exact Nat.zero_le _
theorem bsN_le (m on : Nat) : bsN m on ≤ 20 := by unfold bsN; split; exact rgN_in _; omega
theorem ixN_le (m : Nat) : ixN m ≤ 20 := List.findIdx_le_length
theorem ixN_eq {m : Nat} (h : ixN m < 20) : rgN (ixN m) = m := by
  have h2 := List.findIdx_getElem (xs := rgL) (p := fun x => x == m) (w := h)
  unfold rgN
  have h' : ixN m < rgL.length := h
  rw [List.getD_eq_getElem?_getD, List.getElem?_eq_getElem h']
  exact eq_of_beq h2
theorem ixN_ne {m j : Nat} (h : j < ixN m) : rgN j ≠ m := by
  have hl : j < rgL.length := Nat.lt_of_lt_of_le h List.findIdx_le_length
  have h2 := List.not_of_lt_findIdx (xs := rgL) (p := fun x => x == m) h
  intro e
  unfold rgN at e
  rw [List.getD_eq_getElem?_getD, List.getElem?_eq_getElem hl] at e
  have e : rgL[j] = m := e
  simp [e] at h2
/-- whether a leg may end by this SPOT -/
def enN (o s : Nat) : Bool := o == 0 || unN s 2 || (o == 2 && unN s 3)
/-- the next rest, if it isn't BUST -/
def nxN (o r s : Nat) : Option Nat := if r < scN s then none else if r = scN s ∧ enN o s = false then none else if r - scN s = 1 ∧ o ≠ 0 then none else some (r - scN s)
def oI : Option Nat → Int32
  | none => -5
  | some d => nI d
def leN (o : Nat) : Nat := if o = 0 then 1 else 2
theorem nxN_eq {o r s d : Nat} (h : nxN o r s = some d) : d + scN s = r ∧ (d = 0 → enN o s = true) ∧ (d = 1 → o = 0) := by
  unfold nxN at h
  by_cases h0 : r < scN s
  · rw [if_pos h0] at h; cases h
  rw [if_neg h0] at h
  by_cases h1 : r = scN s ∧ enN o s = false
  · rw [if_pos h1] at h; cases h
  rw [if_neg h1] at h
  by_cases h2 : r - scN s = 1 ∧ o ≠ 0
  · rw [if_pos h2] at h; cases h
  rw [if_neg h2] at h
  cases h
  refine ⟨by omega, fun e => ?_, fun e => ?_⟩
  · cases q : enN o s
    · exact absurd ⟨by omega, q⟩ h1
    · rfl
  · exact Decidable.byContradiction fun q => h2 ⟨e, q⟩
theorem nxN_le {o r s d : Nat} (h : nxN o r s = some d) : d ≤ r := by
  have := (nxN_eq h).1; omega
/-! ===== WHAT STANDS WHERE ===== -/
theorem lt_k {h : XH} {K a : Nat} (hn : K ≤ h.1) (ha : a < K) : a < h.1 := Nat.lt_of_lt_of_le ha hn
/-- only these cells may have changed -/
def Same (S : List Nat) (h h' : XH) : Prop := h'.1 = h.1 ∧ ∀ k : Nat, k ∉ S → h'.2 k = h.2 k
theorem Same.rf {S : List Nat} {h : XH} : Same S h h := ⟨rfl, fun _ _ => rfl⟩
theorem Same.set {S : List Nat} {h0 h : XH} {a : Nat} {e : va_E} (hs : Same S h0 h) (ha : a ∈ S) : Same S h0 (xset h a e) :=
  ⟨hs.1, fun k hk => by rw [xset_ne (fun q => hk (by rw [q]; exact ha))]; exact hs.2 k hk⟩
theorem Same.trans {S : List Nat} {h0 h h' : XH} (h1 : Same S h0 h) (h2 : Same S h h') : Same S h0 h' := ⟨h2.1.trans h1.1, fun k hk => (h2.2 k hk).trans (h1.2 k hk)⟩
theorem Same.wide {S T : List Nat} {h h' : XH} (hs : Same S h h') (hST : ∀ k, k ∈ S → k ∈ T) : Same T h h' := ⟨hs.1, fun k hk => hs.2 k (fun q => hk (hST k q))⟩
theorem Same.at {S : List Nat} {h h' : XH} {k : Nat} {e : va_E} (hs : Same S h h') (hk : k ∉ S) (he : h.2 k = e) : h'.2 k = e := (hs.2 k hk).trans he
theorem Same.le {S : List Nat} {h h' : XH} {K : Nat} (hs : Same S h h') (hn : K ≤ h.1) : K ≤ h'.1 := by rw [hs.1]; exact hn
/-- an array of ints of length N, of booleans, of doubles; what it holds up to N -/
def iA (h : XH) (a N : Nat) (g : Nat → Int32) : Prop := ∃ f : Nat → Int32, h.2 a = .inl (0, N, .inl f) ∧ ∀ j, j < N → f j = g j
def zA (h : XH) (a N : Nat) (g : Nat → Int32) : Prop := ∃ f : Nat → Int32, h.2 a = .inl (1, N, .inl f) ∧ ∀ j, j < N → f j = g j
def dA (h : XH) (a N : Nat) (g : Nat → UInt64) : Prop := ∃ f : Nat → UInt64, h.2 a = .inl (2, N, .inr (.inr (.inr (.inl f)))) ∧ ∀ j, j < N → f j = g j
/-- an array of references -/
def rA (h : XH) (a t N : Nat) (g : Nat → Option Nat) : Prop := ∃ f : Nat → Option Nat, h.2 a = .inl (t, N, .inr (.inr (.inr (.inr f)))) ∧ ∀ j, j < N → f j = g j
theorem iA.same {S : List Nat} {h h' : XH} {a N : Nat} {g : Nat → Int32} (H : iA h a N g) (hs : Same S h h') (hk : a ∉ S) : iA h' a N g := by
  obtain ⟨f, e, q⟩ := H; exact ⟨f, hs.at hk e, q⟩
theorem zA.same {S : List Nat} {h h' : XH} {a N : Nat} {g : Nat → Int32} (H : zA h a N g) (hs : Same S h h') (hk : a ∉ S) : zA h' a N g := by
  obtain ⟨f, e, q⟩ := H; exact ⟨f, hs.at hk e, q⟩
theorem dA.same {S : List Nat} {h h' : XH} {a N : Nat} {g : Nat → UInt64} (H : dA h a N g) (hs : Same S h h') (hk : a ∉ S) : dA h' a N g := by
  obtain ⟨f, e, q⟩ := H; exact ⟨f, hs.at hk e, q⟩
theorem rA.same {S : List Nat} {h h' : XH} {a t N : Nat} {g : Nat → Option Nat} (H : rA h a t N g) (hs : Same S h h') (hk : a ∉ S) : rA h' a t N g := by
  obtain ⟨f, e, q⟩ := H; exact ⟨f, hs.at hk e, q⟩
theorem upd_at (f : Nat → Int32) (k : Nat) (x : Int32) : upd f k x k = x := by simp [upd]
theorem upd_off {f : Nat → Int32} {k j : Nat} {x : Int32} (hn : j ≠ k) : upd f k x j = f j := by simp [upd, hn]
theorem upd_ext {f g : Nat → Int32} {i : Nat} {x : Int32} (hf : ∀ j, j < i → f j = g j) (hx : x = g i) : ∀ j, j < i + 1 → upd f i x j = g j := by
  intro j hj
  by_cases q : j = i
  · subst q; rw [upd_at]; exact hx
  · rw [upd_off q]; exact hf j (by omega)
theorem vupd_at (f : Nat → UInt64) (k : Nat) (x : UInt64) : vf_upd f k x k = x := by simp [vf_upd]
theorem vupd_off {f : Nat → UInt64} {k j : Nat} {x : UInt64} (hn : j ≠ k) : vf_upd f k x j = f j := by simp [vf_upd, hn]
theorem vupd_ext {f g : Nat → UInt64} {i : Nat} {x : UInt64} (hf : ∀ j, j < i → f j = g j) (hx : x = g i) : ∀ j, j < i + 1 → vf_upd f i x j = g j := by
  intro j hj
  by_cases q : j = i
  · subst q; rw [vupd_at]; exact hx
  · rw [vupd_off q]; exact hf j (by omega)
/-- the rules: OUT, the scores, what may end -/
def RU (h : XH) (o : Nat) : Prop := o ≤ 2 ∧ h.2 1 = .inr (8, [.ref 2, .ref 3, .int (nI o)]) ∧ iA h 2 63 (fun s => nI (scN s)) ∧ zA h 3 63 (fun s => bI (enN o s))
theorem RU.same {S : List Nat} {h h' : XH} {o : Nat} (H : RU h o) (hs : Same S h h') (h1 : 1 ∉ S) (h2 : 2 ∉ S) (h3 : 3 ∉ S) : RU h' o := ⟨H.1, hs.at h1 H.2.1, H.2.2.1.same hs h2, H.2.2.2.same hs h3⟩
/-- fewer locals -/
def XSub : List Value → List Value → Prop
  | [], _ => True
  | _ :: _, [] => False
  | a :: r, b :: s => (a = .null ∨ a = b) ∧ XSub r s
theorem XSub.at : ∀ {L' L : List Value}, XSub L' L → ∀ (j : Nat) (v : Value), L'[j]? = some v → v ≠ .null → L[j]? = some v
  | [], _, _, j, v, h, _ => by simp at h
  | a :: r, [], hs, _, _, _, _ => hs.elim
  | a :: r, b :: s, hs, 0, v, h, hn => by
    have e : a = v := by simpa using h
    subst e
    rcases hs.1 with q | q
    · exact absurd q hn
    · rw [q]; rfl
  | a :: r, b :: s, hs, j + 1, v, h, hn => by
    have := XSub.at hs.2 j v (by simpa using h) hn
    simpa using this
theorem AX.sub {w : XW} {M : MD} {k n pc : Nat} {L L' st : List Value} {h : XH} {P : Option Value → XH → Prop} (hs : XSub L' L) (kk : AX w M k n pc L' st h P) : AX w M k n pc L st h P := AX.weaken hs.at kk
theorem Same.rest {a : Nat} {h : XH} {e : va_E} : Same [a] h (xset h a e) := Same.set Same.rf (by simp)
/-! ===== a contract of a method whose class the machine runs by entries in part (the JDK's) ===== -/
theorem Met.ofWF {l : Launch} {y : MethodName} {ws ws' : List Cond} {rm : Room} {Pc : Array Value → State → Prop} {Qc : Array Value → State → Outcome → State → Prop} {mc ms : Nat} {free : Addr → Prop} {cc : ByteArray} {maxL : Nat} {ret : Option FieldType}
    (hy : plainFor y = true) (hw : ws = Cond.code y cc maxL ret :: ws')
    (body : ∀ p e s m args below meth c s₁, BodyLoose p l y (headSpec ws rm) cc maxL ret e s m args below meth c s₁ → c.maxLocals = maxL → Pc args s →
      W p l e (headSpec ws rm).room s m args below meth c s.heap [] 0 0 (MQ below Qc args s mc ms free) (entryFrame m args maxL)) : Met l y ws rm Pc Qc mc ms free := by
  refine MetFree.of_bodySF (code := cc) (maxLocals := maxL) (ret := ret) hy ?_ ?_
  · intro args s m h hn
    obtain ⟨meth, c, h1, h2, h3, h4, h5, h6, -, -⟩ := Cond.code_spec hn (atoms_spec (ws := ws) h _ (by rw [hw]; exact List.mem_cons_self))
    exact ⟨meth, c, h1, h2, h3, h4, h5, h6⟩
  · intro p e s m args below meth c s₁ B hml hP _
    have hh0 : s₁.heap = s.heap := by rw [B.state]; rfl
    obtain ⟨t, a1, o, b1, b2, b3⟩ := body p e s m args below meth c s₁ B hml hP s₁ hh0 (Stand.of_body B)
    exact ⟨t, o, a1, b1, b2, ⟨b3.1, b3.2⟩⟩
theorem CA.ofJ {w : XW} {M : MD} {as : List Value} {h : XH} {P : Option Value → XH → Prop} {ws' : List Cond} (hy : plainFor (mY M) = true) (hW : mW M = Cond.code (mY M) (mC M) (mN M) (mR M) :: ws') (hle : ∀ w : XW, (lg_sl (as.map (xv w))).length ≤ mN M)
    (kk : AX w M 0 0 0 (xent (mN M) as) [] h P) : CA w M as h P := by
  intro l
  refine Met.ofWF (cc := mC M) (maxL := mN M) (ret := mR M) hy hW ?_
  intro p e s m args below meth c s₁ B hml hv
  obtain ⟨rfl, hH, hXR⟩ := hv
  have hown : s.vm.findClass (mY M).cls = some m.cls := findClass_of_methodNamed B.named
  have hts := atoms_spec (ws := mW M) B.pre
  have hin : meth.name = (mY M).name := (name_of_methodNamed B.named B.method).1
  rw [lg_entry_eq]
  have hl := XL.entry w as (hle w)
  have hE : ∀ (H' : Heap) (locs' : List Loc) (ls' : Array Slot) (pc' : Nat) (st' : List Value) (v : Option Value) (h' : XH), XRet M pc' st' v → P v h' → HP w h' H' → va_S (XA w) s.heap H' locs' →
      W p l e (mRm M) s m (as.map (xv w)).toArray below meth c H' locs' (mmc M) (mms M) (MQ below (XQ w P) (as.map (xv w)).toArray s (mmc M) (mms M) (XA w)) (F0 m pc' ls' (st'.map (xv w))) := by
    intro H' locs' ls' pc' st' v h' hr hP hH' hS'
    have hlocks := B.notSynchronized
    rcases hr with ⟨r1, rfl, rfl, d⟩ | ⟨x, ty, r1, r2, rfl, rfl, d⟩ | ⟨x, r1, rfl, rfl, d⟩ | ⟨x, r1, rfl, rfl, d⟩
    · exact W.vret B.exec B.bytes (B.returns.trans r1) (fun t ht hW => ⟨⟨none, h', rfl, hP, by rw [ht]; exact hH'⟩, hS'.F ht⟩) hS'.2.2 d
    · exact W.zret B.exec B.bytes (B.returns.trans r1) r2 (fun t ht hW => ⟨⟨some (.int x), h', rfl, hP, by rw [ht]; exact hH'⟩, hS'.F ht⟩) hS'.2.2 d
    · exact W.lret B.exec B.bytes (B.returns.trans r1) (fun t ht hW => ⟨⟨some (.long x), h', rfl, hP, by rw [ht]; exact hH'⟩, hS'.F ht⟩) hS'.2.2 d
    · exact W.dret B.exec B.bytes (B.returns.trans r1) (fun t ht hW => ⟨⟨some (.double x), h', rfl, hP, by rw [ht]; exact hH'⟩, hS'.F ht⟩) hS'.2.2 d
  exact kk _ p l e s m _ below meth c s.heap [] _ _ rfl ⟨B.exec, B.bytes, hml, hown, hts, B.returns, B.notSynchronized, hin, hXR⟩ hH va_S.rf hl (by rw [hH.1]; exact Nat.le_add_right _ _) hE
