/-! ===== THE ABSTRACT WORLD: all cells of class and reference stand behind one another from w.1 on; a method's contract speaks of numbers 0, 1, 2 .. of cells alone ===== -/
/-- the first cell's address, the address of the static RING, the script's, what the tables say of classes, the array classes -/
abbrev XW : Type := Nat × Nat × Nat × va_G × (Nat → ClassId)
/-- how many cells there are, and what each is -/
abbrev XH : Type := Nat × (Nat → va_E)
/-- a method: its name, bytes, locals, result, words, room (frames, locals), new cells and slots -/
abbrev MD : Type := MethodName × ByteArray × Nat × Option FieldType × List Cond × Nat × Nat × Nat × Nat
abbrev mY (M : MD) : MethodName := M.1
abbrev mC (M : MD) : ByteArray := M.2.1
abbrev mN (M : MD) : Nat := M.2.2.1
abbrev mR (M : MD) : Option FieldType := M.2.2.2.1
abbrev mW (M : MD) : List Cond := M.2.2.2.2.1
abbrev mfr (M : MD) : Nat := M.2.2.2.2.2.1
abbrev mlo (M : MD) : Nat := M.2.2.2.2.2.2.1
abbrev mmc (M : MD) : Nat := M.2.2.2.2.2.2.2.1
abbrev mms (M : MD) : Nat := M.2.2.2.2.2.2.2.2
def mRm (M : MD) : Room := { frames := mfr M, cells := mmc M, slots := mms M, locals := mlo M }
def xv (w : XW) : Value → Value
  | .ref k => .ref (w.1 + k)
  | .retAddr k => .ref (if k = 0 then w.2.2.1 else w.2.1)
  | v => v
def xa (w : XW) (a : vp_A) : vp_A := (a.1, match a.2 with
  | .inr (.inr (.inr (.inr f))) => .inr (.inr (.inr (.inr (fun i => (f i).map (fun k => w.1 + k)))))
  | z => z)
def xe (w : XW) : va_E → va_E
  | .inl q => .inl (w.2.2.2.2 q.1, xa w q.2)
  | .inr q => .inr (q.1, q.2.map (xv w))
def XA (w : XW) : Nat → Prop := fun q => w.1 ≤ q
def HP (w : XW) (h : XH) (H : Heap) : Prop := H.size = w.1 + h.1 ∧ ∀ k : Nat, k < h.1 → va_at w.2.2.2.1 vwCl (w.1 + k, xe w (h.2 k)) H
def xtys (w : XW) : List (ClassId × FieldType) := [(w.2.2.2.2 0, .int), (w.2.2.2.2 1, .boolean), (w.2.2.2.2 2, .double), (w.2.2.2.2 3, .array .int), (w.2.2.2.2 4, .array .double), (w.2.2.2.2 5, .object "DartMind$Mind"), (w.2.2.2.2 6, .object "DartMind$Player"), (w.2.2.2.2 7, .object "DartMind$Rack")]
def ringL : List Int32 := [20, 1, 18, 4, 13, 6, 10, 15, 2, 17, 3, 19, 7, 16, 8, 11, 14, 9, 12, 5]
def ringF (j : Nat) : Int32 := ringL.getD j 0
/-- an array class over arrays stands -/
def va_AOA (ty : FieldType) (U : State) : Prop := (Cond.arrayOver (.array ty)).before #[] U = true
theorem va_AOA.of {ty : FieldType} {A : Array Value} {U : State} (h : (Cond.arrayOver (.array ty)).before A U = true) : va_AOA ty U := h
theorem va_AOA.use {ty : FieldType} {A : Array Value} {U : State} (h : va_AOA ty U) : (Cond.arrayOver (.array ty)).before A U = true := h
theorem va_AOA.spec {ty : FieldType} {s : State} (h : va_AOA ty s) :
    ∃ (comp c : ClassId) (k : Class), s.vm.findClass (FieldType.array ty).toString = some comp ∧ (s.vm.classes.findIdx? fun (x : Class) => match x.kind with | .array component _ => component == comp | _ => false) = some c ∧ s.vm.classes[c]? = some k ∧ k.kind = .array comp (.array ty) ∧
      s.vm.findClass ("[" ++ (FieldType.array ty).toString) = some c := by
  unfold va_AOA Cond.before at h
  simp only [Cond.holds, Cond.value, beq_iff_eq] at h
  cases hc : s.vm.findClass (FieldType.array ty).toString with
  | none => simp [hc] at h
  | some comp =>
    simp only [hc, Option.bind_some, Option.bind_eq_some_iff, Option.map_eq_some_iff] at h
    obtain ⟨c, hi, k, hk, hb⟩ := h
    obtain ⟨hlt, hp, -⟩ := Array.findIdx?_eq_some_iff_getElem.mp hi
    have hkk : s.vm.classes[c] = k := (Array.getElem?_eq_some_iff.mp hk).2
    rw [hkk] at hp
    cases hkind : k.kind with
    | array component ty2 =>
      rw [hkind] at hb hp
      simp at hb hp
      exact ⟨comp, c, k, rfl, hi, hk, by rw [hkind, hp, hb.1], hb.2⟩
    | _ => rw [hkind] at hb; simp at hb
theorem va_AOA.moved {ty : FieldType} {u U : State} (hvm : u.vm.Alike U.vm) (h : va_AOA ty u) : va_AOA ty U := by
  obtain ⟨comp, c, k, h1, h2, h3, h4, h5⟩ := h.spec
  obtain ⟨k', hk', he⟩ := hvm.2.2 _ _ h3
  have hi : (U.vm.classes.findIdx? fun (x : Class) => match x.kind with | .array component _ => component == comp | _ => false) = some c := by
    have e1 := va_idx_bare U.vm comp
    have e2 := va_idx_bare u.vm comp
    have e3 : u.vm.bare = U.vm.bare := by first | exact hvm.bare_eq | exact hvm.bare_eq.symm
    rw [e3] at e2
    exact e1.symm.trans (e2.trans h2)
  have hkind : k'.kind = .array comp (.array ty) := by rw [he]; exact h4
  have f1 : U.vm.findClass (FieldType.array ty).toString = some comp := by rw [hvm.findClass]; exact h1
  have f2 : U.vm.findClass ("[" ++ (FieldType.array ty).toString) = some c := by rw [hvm.findClass]; exact h5
  unfold va_AOA Cond.before Cond.holds
  simp only [Cond.value]
  rw [f1, Option.bind_some]
  refine (congrArg (fun o : Option Nat => (o.bind (fun c => (U.vm.classes[c]?).map fun (k : Class) => match k.kind with | .array _ ty2 => decide (ty2 = FieldType.array ty) && decide (U.vm.findClass ("[" ++ (FieldType.array ty).toString) = some c) | _ => false) == some true)) hi).trans ?_
  simp [hk', hkind, f2]
/-- nest mates' private constructors, and the array classes that the constructors make -/
def XN (U : State) : Prop := va_Nw (.methodLinkNest "DartMind$Leg" 11 ⟨"DartMind$Player", "<init>", "()V"⟩ "DartMind") U ∧ va_Nw (.methodLinkNest "DartMind" 62 ⟨"DartMind$Tape", "<init>", "()V"⟩ "DartMind") U ∧ va_Nw (.methodLinkNest "DartMind" 69 ⟨"DartMind$Paper", "<init>", "()V"⟩ "DartMind") U ∧ va_Nw (.methodLinkNest "DartMind" 76 ⟨"DartMind$Rack", "<init>", "()V"⟩ "DartMind") U ∧
  va_AO "DartMind$Mind" U ∧ va_AO "DartMind$Player" U ∧ va_AO "DartMind$Rack" U ∧ va_AOA .int U ∧ va_AOA .double U
theorem XN.warm {s U : State} (h : XN s) (hW : s.WarmedH U.vm) : XN U := by
  obtain ⟨h1, h2, h3, h4, h5, h6, h7, h8, h9⟩ := h
  exact ⟨h1.warmM hW, h2.warmM hW, h3.warmM hW, h4.warmM hW, h5.moved hW.alike, h6.moved hW.alike, h7.moved hW.alike, h8.moved hW.alike, h9.moved hW.alike⟩
theorem XN.same {s U : State} (h : XN s) (e : s.vm = U.vm) : XN U := by
  obtain ⟨h1, h2, h3, h4, h5, h6, h7, h8, h9⟩ := h
  have a : s.vm.Alike U.vm := e ▸ Vm.Alike.refl s.vm
  exact ⟨h1.same rfl e, h2.same rfl e, h3.same rfl e, h4.same rfl e, h5.moved a, h6.moved a, h7.moved a, h8.moved a, h9.moved a⟩
def XR (w : XW) (U : State) : Prop := va_K w.2.2.2.1 vwCl (xtys w) U ∧ va_Z "DartMind$Board" "RING" "[I" (.ref w.2.1) (XA w) U U.heap ∧ va_T .int w.2.1 20 (fun j => .int (ringF j)) (XA w) U U.heap ∧ XN U
/-- the locals by their places; .null: nothing known -/
def XL (w : XW) (ls : Array Slot) (nL : Nat) (L : List Value) : Prop := ls.size = nL ∧ lv_wf ls ∧ ∀ (j : Nat) (v : Value), L[j]? = some v → v ≠ .null → ls[j]? = some (.val (xv w v))
def XC (w : XW) (M : MD) (p : Program) (s : State) (m : MethodId) (args : Array Value) (meth : Method) (c : Code) : Prop :=
  p.tables.exec = Jvm.exec ∧ c.code = mC M ∧ c.maxLocals = mN M ∧ s.vm.findClass (mY M).cls = some m.cls ∧ (∀ x ∈ mW M, x.before args s = true) ∧ meth.sig.returnType = mR M ∧ meth.locks = false ∧ meth.name = (mY M).name ∧ XR w s
/-- a frame that is about to return -/
def XRet (M : MD) (pc : Nat) (st : List Value) (v : Option Value) : Prop :=
  (mR M = none ∧ st = [] ∧ v = none ∧ decode (mC M) pc = .ok (.return_, 1)) ∨
  (∃ (x : Int32) (ty : FieldType), mR M = some ty ∧ narrow ty (.int x) = .int x ∧ st = [.int x] ∧ v = some (.int x) ∧ decode (mC M) pc = .ok (.ireturn, 1)) ∨
  (∃ x : Int64, mR M = some .long ∧ st = [.long x] ∧ v = some (.long x) ∧ decode (mC M) pc = .ok (.lreturn, 1)) ∨
  (∃ x : UInt64, mR M = some .double ∧ st = [.double x] ∧ v = some (.double x) ∧ decode (mC M) pc = .ok (.dreturn, 1))
/-- from a frame at pc of M, with these locals, stack and cells, and k cells, n slots made so far: M returns, and P holds of its answer and of the cells then -/
def AX (w : XW) (M : MD) (k n pc : Nat) (L st : List Value) (h : XH) (P : Option Value → XH → Prop) : Prop :=
  ∀ (R : Room) (p : Program) (l : Launch) (e : Env) (s : State) (m : MethodId) (args : Array Value) (below : List Frame) (meth : Method) (c : Code) (H : Heap) (locs : List Loc) (ls : Array Slot) (Q : State → Prop),
    R = mRm M → XC w M p s m args meth c → HP w h H → va_S (XA w) s.heap H locs → XL w ls (mN M) L → w.1 ≤ s.heap.size →
    (∀ (H' : Heap) (locs' : List Loc) (ls' : Array Slot) (pc' : Nat) (st' : List Value) (v : Option Value) (h' : XH), XRet M pc' st' v → P v h' → HP w h' H' → va_S (XA w) s.heap H' locs' →
      W p l e R s m args below meth c H' locs' (mmc M) (mms M) Q (F0 m pc' ls' (st'.map (xv w)))) →
    W p l e R s m args below meth c H locs k n Q (F0 m pc ls (st.map (xv w)))
def XB (w : XW) (h : XH) (U : State) : Prop := HP w h U.heap ∧ XR w U
def XQ (w : XW) (P : Option Value → XH → Prop) : Array Value → State → Outcome → State → Prop := fun _ st o t => (∃ (v : Option Value) (h' : XH), o = .returned (v.map (xv w)) ∧ P v h' ∧ HP w h' t.heap) ∧ va_F (XA w) st t
/-- A METHOD'S CONTRACT: called with these arguments over these cells it returns, and P holds of its answer and of the cells then -/
def CA (w : XW) (M : MD) (args : List Value) (h : XH) (P : Option Value → XH → Prop) : Prop :=
  ∀ l : Launch, Met l (mY M) (mW M) (mRm M) (va_Pc (args.map (xv w)) (XB w h)) (XQ w P) (mmc M) (mms M) (XA w)
/-! the locals -/
theorem xv_cat (w : XW) (v : Value) : (xv w v).category = v.category := by cases v <;> rfl
def xent : Nat → List Value → List Value
  | 0, _ => []
  | n + 1, [] => .null :: xent n []
  | n + 1, v :: r => if v.category = 2 then v :: (match n with | 0 => [] | k + 1 => .null :: xent k r) else v :: xent n r
/-- a value of one slot comes to place i -/
def st1 : List Value → Nat → Value → List Value
  | [], _, _ => []
  | _ :: r, 0, v => v :: r
  | a :: r, 1, v => (if a.category = 2 then .null else a) :: st1 r 0 v
  | a :: r, i + 2, v => a :: st1 r (i + 1) v
def st2 : List Value → Nat → Value → List Value
  | [], _, _ => []
  | [_], 0, _ => [.null]
  | _ :: _ :: r, 0, v => v :: .null :: r
  | a :: r, 1, v => (if a.category = 2 then .null else a) :: st2 r 0 v
  | a :: r, i + 2, v => a :: st2 r (i + 1) v
theorem st1_spec : ∀ (L : List Value) (i : Nat) (x : Value) (j : Nat) (v : Value), (st1 L i x)[j]? = some v → v ≠ .null → (j = i ∧ v = x) ∨ (j ≠ i ∧ L[j]? = some v ∧ ¬ (j + 1 = i ∧ v.category = 2))
  | [], i, x, j, v, h, hn => by simp [st1] at h
  | a :: r, 0, x, 0, v, h, hn => Or.inl ⟨rfl, by simp [st1] at h; exact h.symm⟩
  | a :: r, 0, x, j + 1, v, h, hn => Or.inr ⟨by omega, by simpa [st1] using h, by omega⟩
  | a :: r, 1, x, 0, v, h, hn => by
    by_cases hc : a.category = 2
    · simp [st1, hc] at h; exact absurd h.symm hn
    · simp [st1, hc] at h; subst h; exact Or.inr ⟨by omega, rfl, fun q => hc q.2⟩
  | a :: r, 1, x, j + 1, v, h, hn => by
    have h' : (st1 r 0 x)[j]? = some v := by simpa [st1] using h
    rcases st1_spec r 0 x j v h' hn with ⟨e1, e2⟩ | ⟨e1, e2, e3⟩
    · exact Or.inl ⟨by omega, e2⟩
    · exact Or.inr ⟨by omega, by simpa using e2, by omega⟩
  | a :: r, i + 2, x, 0, v, h, hn => Or.inr ⟨by omega, by simpa [st1] using h, by omega⟩
  | a :: r, i + 2, x, j + 1, v, h, hn => by
    have h' : (st1 r (i + 1) x)[j]? = some v := by simpa [st1] using h
    rcases st1_spec r (i + 1) x j v h' hn with ⟨e1, e2⟩ | ⟨e1, e2, e3⟩
    · exact Or.inl ⟨by omega, e2⟩
    · exact Or.inr ⟨by omega, by simpa using e2, fun q => e3 ⟨by omega, q.2⟩⟩
theorem st2_spec : ∀ (L : List Value) (i : Nat) (x : Value) (j : Nat) (v : Value), (st2 L i x)[j]? = some v → v ≠ .null → (j = i ∧ v = x) ∨ (j ≠ i ∧ j ≠ i + 1 ∧ L[j]? = some v ∧ ¬ (j + 1 = i ∧ v.category = 2))
  | [], i, x, j, v, h, hn => by simp [st2] at h
  | [a], 0, x, 0, v, h, hn => by simp [st2] at h; exact absurd h.symm hn
  | [a], 0, x, j + 1, v, h, hn => by simp [st2] at h
  | a :: b :: r, 0, x, 0, v, h, hn => Or.inl ⟨rfl, by simp [st2] at h; exact h.symm⟩
  | a :: b :: r, 0, x, 1, v, h, hn => by simp [st2] at h; exact absurd h.symm hn
  | a :: b :: r, 0, x, j + 2, v, h, hn => Or.inr ⟨by omega, by omega, by simpa [st2] using h, by omega⟩
  | a :: r, 1, x, 0, v, h, hn => by
    by_cases hc : a.category = 2
    · simp [st2, hc] at h; exact absurd h.symm hn
    · simp [st2, hc] at h; subst h; exact Or.inr ⟨by omega, by omega, rfl, fun q => hc q.2⟩
  | a :: r, 1, x, j + 1, v, h, hn => by
    have h' : (st2 r 0 x)[j]? = some v := by simpa [st2] using h
    rcases st2_spec r 0 x j v h' hn with ⟨e1, e2⟩ | ⟨e1, e4, e2, e3⟩
    · exact Or.inl ⟨by omega, e2⟩
    · exact Or.inr ⟨by omega, by omega, by simpa using e2, by omega⟩
  | a :: r, i + 2, x, 0, v, h, hn => Or.inr ⟨by omega, by omega, by simpa [st2] using h, by omega⟩
  | a :: r, i + 2, x, j + 1, v, h, hn => by
    have h' : (st2 r (i + 1) x)[j]? = some v := by simpa [st2] using h
    rcases st2_spec r (i + 1) x j v h' hn with ⟨e1, e2⟩ | ⟨e1, e4, e2, e3⟩
    · exact Or.inl ⟨by omega, e2⟩
    · exact Or.inr ⟨by omega, by omega, by simpa using e2, fun q => e3 ⟨by omega, q.2⟩⟩
/-- all that the locals hold -/
def xall (ls : Array Slot) : List (Nat × Value) := (List.range ls.size).filterMap (fun j => match ls[j]? with
  | some (Slot.val v) => some (j, v)
  | _ => none)
theorem xall_mem {ls : Array Slot} {j : Nat} {v : Value} : (j, v) ∈ xall ls ↔ ls[j]? = some (.val v) := by
  unfold xall
  rw [List.mem_filterMap]
  constructor
  · rintro ⟨i, -, h⟩
    split at h
    · rename_i u hu
      cases h
      exact hu
    · cases h
  · intro h
    exact ⟨j, List.mem_range.mpr (lv_lt h), by rw [h]⟩
theorem xall_has {ls : Array Slot} {nL : Nat} (hs : ls.size = nL) (hw : lv_wf ls) : lv_has ls nL (xall ls) := ⟨hs, hw, fun q hq => xall_mem.mp hq⟩
theorem XL.at {w : XW} {ls : Array Slot} {nL : Nat} {L : List Value} (h : XL w ls nL L) {j : Nat} {v : Value} (hv : L[j]? = some v) (hn : v ≠ .null) : ls[j]? = some (.val (xv w v)) := h.2.2 j v hv hn
theorem XL.st1 {w : XW} {ls ls' : Array Slot} {nL : Nat} {L : List Value} {i : Nat} {x : Value} (h : XL w ls nL L) (h' : lv_has ls' nL ((i, xv w x) :: (xall ls).filter (fun q => !(q.1 == i) && !(q.1 + 1 == i && q.2.category == 2)))) : XL w ls' nL (st1 L i x) := by
  refine ⟨h'.1, h'.2.1, fun j v hv hn => ?_⟩
  rcases st1_spec L i x j v hv hn with ⟨rfl, rfl⟩ | ⟨e1, e2, e3⟩
  · exact h'.2.2 (j, xv w v) List.mem_cons_self
  · refine h'.2.2 (j, xv w v) (List.mem_cons_of_mem _ (List.mem_filter.mpr ⟨xall_mem.mpr (h.at e2 hn), ?_⟩))
    by_cases hj : j + 1 = i
    · have : ¬ v.category = 2 := fun q => e3 ⟨hj, q⟩
      simp [e1, xv_cat, this]
    · simp [e1, hj]
theorem XL.st2 {w : XW} {ls ls' : Array Slot} {nL : Nat} {L : List Value} {i : Nat} {x : Value} (h : XL w ls nL L) (h' : lv_has ls' nL ((i, xv w x) :: (xall ls).filter (fun q => !(q.1 == i) && (!(q.1 == i + 1) && !(q.1 + 1 == i && q.2.category == 2))))) : XL w ls' nL (st2 L i x) := by
  refine ⟨h'.1, h'.2.1, fun j v hv hn => ?_⟩
  rcases st2_spec L i x j v hv hn with ⟨rfl, rfl⟩ | ⟨e1, e4, e2, e3⟩
  · exact h'.2.2 (j, xv w v) List.mem_cons_self
  · refine h'.2.2 (j, xv w v) (List.mem_cons_of_mem _ (List.mem_filter.mpr ⟨xall_mem.mpr (h.at e2 hn), ?_⟩))
    by_cases hj : j + 1 = i
    · have : ¬ v.category = 2 := fun q => e3 ⟨hj, q⟩
      simp [e1, e4, xv_cat, this]
    · simp [e1, e4, hj]
theorem XL.weaken {w : XW} {ls : Array Slot} {nL : Nat} {L L' : List Value} (h : XL w ls nL L) (hs : ∀ (j : Nat) (v : Value), L'[j]? = some v → v ≠ .null → L[j]? = some v) : XL w ls nL L' := ⟨h.1, h.2.1, fun j v hv hn => h.2.2 j v (hs j v hv hn) hn⟩
theorem xent_spec (w : XW) : ∀ (n : Nat) (vs : List Value) (i : Nat) (j : Nat) (v : Value), (xent n vs)[j]? = some v → v ≠ .null → (i + j, xv w v) ∈ lv_args i (vs.map (xv w))
  | 0, vs, i, j, v, h, hn => by simp [xent] at h
  | n + 1, [], i, 0, v, h, hn => by simp [xent] at h; exact absurd h.symm hn
  | n + 1, [], i, j + 1, v, h, hn => by
    have h' : (xent n [])[j]? = some v := by simpa [xent] using h
    have := xent_spec w n [] (i + 1) j v h' hn
    simp [lv_args] at this
  | n + 1, x :: r, i, 0, v, h, hn => by
    have e : x = v := by
      unfold xent at h
      split at h <;> simpa using h
    subst e
    simp [lv_args]
  | n + 1, x :: r, i, j + 1, v, h, hn => by
    by_cases hc : x.category = 2
    · cases n with
      | zero => simp [xent, hc] at h
      | succ k =>
        cases j with
        | zero => simp [xent, hc] at h; exact absurd h.symm hn
        | succ j =>
          have h' : (xent k r)[j]? = some v := by simpa [xent, hc] using h
          have := xent_spec w k r (i + 2) j v h' hn
          simp only [List.map_cons, lv_args, xv_cat, hc, if_true]
          rw [show i + (j + 1 + 1) = i + 2 + j from by omega]
          exact List.mem_cons_of_mem _ this
    · have h' : (xent n r)[j]? = some v := by
        unfold xent at h
        rw [if_neg hc] at h
        simpa using h
      have := xent_spec w n r (i + 1) j v h' hn
      simp only [List.map_cons, lv_args, xv_cat, hc, if_false]
      rw [show i + (j + 1) = i + 1 + j from by omega]
      exact List.mem_cons_of_mem _ this
theorem XL.entry (w : XW) (vs : List Value) {n : Nat} (h : (lg_sl (vs.map (xv w))).length ≤ n) : XL w ((lg_sl (vs.map (xv w)) ++ List.replicate (n - (lg_sl (vs.map (xv w))).length) Slot.unset).toArray) n (xent n vs) := by
  obtain ⟨h1, h2, h3⟩ := lv_entry (vs.map (xv w)) h
  exact ⟨h1, h2, fun j v hv hn => h3 (j, xv w v) (by simpa using xent_spec w n vs 0 j v hv hn)⟩
