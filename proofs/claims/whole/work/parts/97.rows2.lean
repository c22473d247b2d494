/-! ===== ROWS: new cells ===== -/
def xnew (h : XH) (S : Nat) (e : va_E) : XH := (S + 1, fun k => if k = S then e else h.2 k)
theorem xnew_same (h : XH) (S : Nat) (e : va_E) : (xnew h S e).2 S = e := by simp [xnew]
theorem xnew_ne {h : XH} {S b : Nat} {e : va_E} (hn : b ≠ S) : (xnew h S e).2 b = h.2 b := by simp [xnew, hn]
/-- a row of N rows: it, and the N behind it -/
def xrows (h : XH) (S N t t2 : Nat) (z : vp_A) : XH := (S + 1 + N, fun k => if k < S then h.2 k else if k = S then .inl (t, N, .inr (.inr (.inr (.inr (fun i => if i < N then some (S + 1 + i) else none))))) else .inl (t2, z))
theorem xrows_lo {h : XH} {S N t t2 b : Nat} {z : vp_A} (hb : b < S) : (xrows h S N t t2 z).2 b = h.2 b := by simp [xrows, hb]
theorem xrows_at (h : XH) (S N t t2 : Nat) (z : vp_A) : (xrows h S N t t2 z).2 S = .inl (t, N, .inr (.inr (.inr (.inr (fun i => if i < N then some (S + 1 + i) else none))))) := by simp [xrows]
theorem xrows_hi {h : XH} {S N t t2 b : Nat} {z : vp_A} (hb : S < b) : (xrows h S N t t2 z).2 b = .inl (t2, z) := by
  have h1 : ¬ b < S := by omega
  have h2 : ¬ b = S := by omega
  simp [xrows, h1, h2]
theorem HP.new {w : XW} {h : XH} {H H1 : Heap} {e : va_E} (hH : HP w h H) (z : H1.size = w.1 + h.1 + 1) (he : va_at w.2.2.2.1 vwCl (w.1 + h.1, xe w e) H1) (oq : ∀ q : Nat, q < w.1 + h.1 → H1[q]? = H[q]?) : HP w (xnew h h.1 e) H1 := by
  refine ⟨by rw [z]; show w.1 + h.1 + 1 = w.1 + (h.1 + 1); omega, fun k hk => ?_⟩
  have hk' : k < h.1 + 1 := hk
  by_cases hka : k = h.1
  · subst hka
    rw [xnew_same]
    exact he
  · rw [xnew_ne hka]
    exact (hH.2 k (by omega)).kept (oq _ (by omega))
theorem HP.rows {w : XW} {h : XH} {H H1 : Heap} {N t t2 : Nat} {z : vp_A} (hH : HP w h H) (hz : H1.size = w.1 + h.1 + 1 + N) (h0 : va_at w.2.2.2.1 vwCl (w.1 + h.1, xe w (.inl (t, N, .inr (.inr (.inr (.inr (fun i => if i < N then some (h.1 + 1 + i) else none))))))) H1) (h1 : ∀ j : Nat, j < N → va_at w.2.2.2.1 vwCl (w.1 + h.1 + 1 + j, xe w (.inl (t2, z))) H1) (oq : ∀ q : Nat, q < w.1 + h.1 → H1[q]? = H[q]?) : HP w (xrows h h.1 N t t2 z) H1 := by
  refine ⟨by rw [hz]; show w.1 + h.1 + 1 + N = w.1 + (h.1 + 1 + N); omega, fun k hk => ?_⟩
  have hk' : k < h.1 + 1 + N := hk
  rcases (show k < h.1 ∨ k = h.1 ∨ h.1 < k by omega) with a | a | a
  · rw [xrows_lo a]
    exact (hH.2 k a).kept (oq _ (by omega))
  · subst a
    rw [xrows_at]
    exact h0
  · rw [xrows_hi a]
    have := h1 (k - (h.1 + 1)) (by omega)
    rw [show w.1 + h.1 + 1 + (k - (h.1 + 1)) = w.1 + k by omega] at this
    exact this
section XNEW
variable {w : XW} {M : MD} {k n pc : Nat} {L st : List Value} {h : XH} {P : Option Value → XH → Prop}
theorem nI_nn {N : Nat} (hN : N < 2147483648) : ¬ nI N < 0 := fun q => by
  have := (nI_ltI hN (show 0 < 2147483648 by decide)).mp q
  omega
theorem AX.new {ci idx S : Nat} {C : String} {T : u_T} {N : Nat} {ty : Nat → FieldType} {fs : List Value} (hs : h.1 = S) (hc : vwCl[ci]? = some (C, T, N)) (hin : ∀ x ∈ u_ws C T N, x ∈ mW M) (hty : ∀ j, j < N → parseFieldDescriptor (T j).2.2.1 = some (ty j)) (hcl : Cond.classLink (mY M).cls idx C ∈ mW M) (hinst : Cond.instantiable C N ∈ mW M) (hini : Cond.initialized C ∈ mW M)
    (hfs : ∀ w : XW, ∀ j, j < N → defaultValue (ty j) = vp_V (fs.map (xv w)) j) (hcells : k + 1 ≤ mmc M) (hslots : n + N ≤ mms M) (d : decode (mC M) pc = .ok (.new idx, 3))
    (kk : AX w M (k + 1) (n + N) (pc + 3) L (.ref S :: st) (xnew h S (.inr (ci, fs))) P) : AX w M k n pc L st h P := by
  subst hs
  intro R p l e s m args below meth c H locs ls Q hR hX hH hS hL hw hE
  subst hR
  have hts := hX.2.2.2.2.1
  have hK := hX.2.2.2.2.2.2.2.2.1
  have hKn := hK.1 ci _ hc
  refine W.newcK hX.1 hX.2.1 hX.2.2.2.1 (hts _ hcl) (hts _ hinst) (hts _ hini) (g := F0 m pc ls (st.map (xv w))) rfl d hcells hslots hKn.2.1 hH.1 fun H1 kC hkC e1 z1 o1 => ?_
  refine kk _ p l e s m args below meth c H1 locs ls Q rfl hX (hH.new z1 ⟨_, hc, (u_born ty hts hin hKn hkC e1 hty).to (hfs w)⟩ o1) (hS.push (by rw [z1, hH.1]; omega) (fun q hq => o1 q (by rw [← hH.1]; exact hq))) hL hw hE
theorem AX.newarr {t S N : Nat} {atype : ArrayType} {ty : FieldType} {z : vp_A} (hs : h.1 = S) (ht : ∀ w : XW, (xtys w)[t]? = some (w.2.2.2.2 t, ty)) (hty : newarray.typeOf atype = ty) (hra : ∀ (U : State) (c : ClassId), va_RA U c ty = (U.vm.findClass ("[" ++ ty.toString) = some c)) (harr : Cond.arrayClass ty ∈ mW M)
    (hz : ∀ (w : XW) (cA : ClassId), vp_cell cA (xa w z) = arrV cA N (fun _ => defaultValue ty)) (hN : N < 2147483648) (hb : N * componentBytes ty ≤ 536870912) (hcells : k + 1 ≤ mmc M) (hslots : n + N ≤ mms M) (d : decode (mC M) pc = .ok (.newarray atype, 2))
    (kk : AX w M (k + 1) (n + N) (pc + 2) L (.ref S :: st) (xnew h S (.inl (t, z))) P) : AX w M k n pc L (.int (nI N) :: st) h P := by
  subst hs
  subst hty
  intro R p l e s m args below meth c H locs ls Q hR hX hH hS hL hw hE
  subst hR
  have hts := hX.2.2.2.2.1
  have hK := hX.2.2.2.2.2.2.2.2.1
  have hf := (hK.2 t _ (ht w)).2
  rw [hra] at hf
  refine va_newaK hX.1 hX.2.1 (hts _ harr) (g := F0 m pc ls ((.int (nI N) :: st).map (xv w))) rfl d rfl (nI_nn hN) (nI_nat hN) hb (show k + 1 ≤ (mRm M).cells from hcells) (show n + N ≤ (mRm M).slots from hslots) hH.1 fun H1 cA e1 z1 o1 hAr hNm => ?_
  have ec : w.2.2.2.2 t = cA := Option.some.inj (hf.symm.trans hNm)
  refine kk _ p l e s m args below meth c H1 locs ls Q rfl hX (hH.new z1 ?_ o1) (hS.push (by rw [z1, hH.1]; omega) (fun q hq => o1 q (by rw [← hH.1]; exact hq))) hL hw hE
  show H1[w.1 + h.1]? = some (vp_cell (w.2.2.2.2 t) (xa w z))
  rw [ec, hz]
  exact e1
theorem AX.newI {S N : Nat} (hs : h.1 = S) (harr : Cond.arrayClass .int ∈ mW M) (hN : N < 100000) (hcells : k + 1 ≤ mmc M) (hslots : n + N ≤ mms M) (d : decode (mC M) pc = .ok (.newarray .int, 2)) (kk : AX w M (k + 1) (n + N) (pc + 2) L (.ref S :: st) (xnew h S (.inl (0, N, .inl (fun _ => nI 0)))) P) : AX w M k n pc L (.int (nI N) :: st) h P :=
  AX.newarr (t := 0) (atype := .int) (ty := .int) (z := (N, .inl (fun _ => nI 0))) hs (fun _ => rfl) rfl (fun _ _ => rfl) harr (fun _ _ => rfl) (by omega) (by show N * 4 ≤ _; omega) hcells hslots d kk
theorem AX.newZ {S N : Nat} (hs : h.1 = S) (harr : Cond.arrayClass .boolean ∈ mW M) (hN : N < 100000) (hcells : k + 1 ≤ mmc M) (hslots : n + N ≤ mms M) (d : decode (mC M) pc = .ok (.newarray .boolean, 2)) (kk : AX w M (k + 1) (n + N) (pc + 2) L (.ref S :: st) (xnew h S (.inl (1, N, .inl (fun _ => nI 0)))) P) : AX w M k n pc L (.int (nI N) :: st) h P :=
  AX.newarr (t := 1) (atype := .boolean) (ty := .boolean) (z := (N, .inl (fun _ => nI 0))) hs (fun _ => rfl) rfl (fun _ _ => rfl) harr (fun _ _ => rfl) (by omega) (by show N * 1 ≤ _; omega) hcells hslots d kk
theorem AX.newD {S N : Nat} (hs : h.1 = S) (harr : Cond.arrayClass .double ∈ mW M) (hN : N < 100000) (hcells : k + 1 ≤ mmc M) (hslots : n + N ≤ mms M) (d : decode (mC M) pc = .ok (.newarray .double, 2)) (kk : AX w M (k + 1) (n + N) (pc + 2) L (.ref S :: st) (xnew h S (.inl (2, N, .inr (.inr (.inr (.inl (fun _ => FP.dconst0))))))) P) : AX w M k n pc L (.int (nI N) :: st) h P :=
  AX.newarr (t := 2) (atype := .double) (ty := .double) (z := (N, .inr (.inr (.inr (.inl (fun _ => FP.dconst0)))))) hs (fun _ => rfl) rfl (fun _ _ => rfl) harr (fun _ _ => rfl) (by omega) (by show N * 8 ≤ _; omega) hcells hslots d kk
theorem AX.anew {t S N idx : Nat} {C : String} (hs : h.1 = S) (ht : ∀ w : XW, (xtys w)[t]? = some (w.2.2.2.2 t, .object C)) (hcl : Cond.classLink (mY M).cls idx C ∈ mW M) (hao : ∀ U : State, XN U → va_AO C U) (hN : N < 100000) (hcells : k + 1 ≤ mmc M) (hslots : n + N ≤ mms M) (d : decode (mC M) pc = .ok (.anewarray idx, 3))
    (kk : AX w M (k + 1) (n + N) (pc + 3) L (.ref S :: st) (xnew h S (.inl (t, N, .inr (.inr (.inr (.inr (fun _ => none))))))) P) : AX w M k n pc L (.int (nI N) :: st) h P := by
  subst hs
  intro R p l e s m args below meth c H locs ls Q hR hX hH hS hL hw hE
  subst hR
  have hts := hX.2.2.2.2.1
  have hK := hX.2.2.2.2.2.2.2.2.1
  obtain ⟨kA, comp, k1, k2, k3, k4⟩ := (hK.2 t _ (ht w)).2
  have hNN : (nI N).toNatClampNeg = N := nI_nat (by omega)
  refine W.anew hX.1 hX.2.1 hX.2.2.2.1 (hts _ hcl) (va_AO.use (hao s hX.2.2.2.2.2.2.2.2.2.2.2)) (g := F0 m pc ls ((.int (nI N) :: st).map (xv w))) rfl d rfl (nI_nn (by omega)) (by rw [hNN]; omega) hcells (show n + _ ≤ (mRm M).slots by rw [hNN]; exact hslots) fun cA kA2 comp2 f1 f2 f3 f4 => ?_
  have ec : w.2.2.2.2 t = cA := Option.some.inj (k4.symm.trans f1)
  rw [hNN]
  generalize hH1 : H.push ({ cls := cA, slots := Array.replicate N .null, vm := .none } : Cell) = H1
  have z1 : H1.size = w.1 + h.1 + 1 := by rw [← hH1, Array.size_push, hH.1]
  have e1 : H1[w.1 + h.1]? = some (arrV cA N (fun _ => .null)) := by rw [← hH1, ← hH.1, Array.getElem?_push_size, ← arrV_new]
  have o1 : ∀ q : Nat, q < w.1 + h.1 → H1[q]? = H[q]? := fun q hq => by rw [← hH1, Array.getElem?_push, if_neg (by rw [hH.1]; exact Nat.ne_of_lt hq)]
  have hsz : H.size = w.1 + h.1 := hH.1
  rw [hsz]
  refine kk _ p l e s m args below meth c H1 locs ls Q rfl hX (hH.new z1 ?_ o1) (hS.push (by rw [z1, hH.1]; omega) (fun q hq => o1 q (by rw [← hH.1]; exact hq))) hL hw hE
  show H1[w.1 + h.1]? = some (vp_cell (w.2.2.2.2 t) (N, .inr (.inr (.inr (.inr (fun _ => none))))))
  rw [ec]
  exact e1
theorem xr_outer (c : ClassId) (N h0 : Nat) : ∀ i : Nat, Jvm.Free.Multi.outerC c N h0 i = arrV c N (fun j => va_rf (if j < i then some (h0 + 1 + j) else none))
  | 0 => by
    show ({ cls := c, slots := Array.replicate N .null, vm := .none } : Cell) = _
    rw [arrV_new]
    exact congrArg (arrV c N) (funext fun j => by simp [va_rf])
  | i + 1 => by
    show (Jvm.Free.Multi.outerC c N h0 i).setSlot i (.ref (h0 + 1 + i)) = _
    rw [xr_outer c N h0 i, arrV_store]
    refine congrArg (arrV c N) (funext fun j => ?_)
    rcases (show j = i ∨ j < i ∨ i < j by omega) with e | e | e
    · subst e
      simp [updV, va_rf]
    · simp [updV, show ¬ j = i by omega, e, Nat.lt_succ_of_lt e]
    · simp [updV, show ¬ j = i by omega, show ¬ j < i by omega, show ¬ j < i + 1 by omega]
theorem AX.mna {t t2 S N K idx : Nat} {ty : FieldType} {z : vp_A} (hs : h.1 = S) (ht : ∀ w : XW, (xtys w)[t]? = some (w.2.2.2.2 t, .array ty)) (ht2 : ∀ w : XW, (xtys w)[t2]? = some (w.2.2.2.2 t2, ty)) (hra : ∀ (U : State) (c : ClassId), va_RA U c ty = (U.vm.findClass ("[" ++ ty.toString) = some c)) (hnm : (FieldType.array ty).toString = "[" ++ ty.toString) (hcl : Cond.classLink (mY M).cls idx ("[" ++ (FieldType.array ty).toString) ∈ mW M) (hao : ∀ U : State, XN U → va_AOA ty U) (harr : Cond.arrayClass ty ∈ mW M)
    (hz : ∀ (w : XW) (c : ClassId), Jvm.Free.Multi.innerC c K (defaultValue ty) = vp_cell c (xa w z)) (hdf : fits ty (defaultValue ty) = true) (hdd : (defaultValue ty).isDefault = true) (hN : N < 100000) (hK : K < 100000) (hb : K * componentBytes ty ≤ 536870912) (hcells : k + (1 + N) ≤ mmc M) (hslots : n + (N + N * K) ≤ mms M) (d : decode (mC M) pc = .ok (.multianewarray idx 2, 4))
    (kk : AX w M (k + 1 + N) (n + N + N * K) (pc + 4) L (.ref S :: st) (xrows h S N t t2 z) P) : AX w M k n pc L (.int (nI K) :: .int (nI N) :: st) h P := by
  subst hs
  intro R p l e s m args below meth c H locs ls Q hR hX hH hS hL hw hE
  subst hR
  have hts := hX.2.2.2.2.1
  have hKK := hX.2.2.2.2.2.2.2.2.1
  have hNN : (nI N).toNatClampNeg = N := nI_nat (by omega)
  have hKN : (nI K).toNatClampNeg = K := nI_nat (by omega)
  have c1 : s.vm.findClass ("[" ++ (FieldType.array ty).toString) = some (w.2.2.2.2 t) := (hKK.2 t _ (ht w)).2
  have c2 : s.vm.findClass (FieldType.array ty).toString = some (w.2.2.2.2 t2) := by
    have q := (hKK.2 t2 _ (ht2 w)).2
    rw [hra, ← hnm] at q
    exact q
  intro T hT Xs
  obtain ⟨vm₁, cA, comp, -, fA, fC, -, -, X', step⟩ := Xs.multianewarray2F hX.1 hX.2.2.2.1 (hts _ hcl) (va_AOA.use (hao s hX.2.2.2.2.2.2.2.2.2.2.2)) (hts _ harr) (g := F0 m pc ls ((.int (nI K) :: .int (nI N) :: st).map (xv w))) rfl (by rw [hX.2.1]; exact d) rfl (nI_nn (by omega)) (nI_nn (by omega)) (by rw [hNN]; omega) (by rw [hKN]; exact hb) (by rw [hKN]; omega) hdf hdd (by rw [hNN]; exact hcells) (by rw [hNN, hKN]; exact hslots)
  have eA : w.2.2.2.2 t = cA := Option.some.inj (c1.symm.trans fA)
  have eC : w.2.2.2.2 t2 = comp := Option.some.inj (c2.symm.trans fC)
  rw [hNN, hKN] at X' step
  generalize hF : Jvm.Free.Multi.fill (T.setVm vm₁) cA comp N K (defaultValue ty) N = F at X' step
  have hTh : (T.setVm vm₁).heap = H := hT
  obtain ⟨f1, f2, -, -⟩ := Jvm.Free.Multi.fill_facts (T.setVm vm₁) cA comp N K (defaultValue ty) N
  rw [hF, hTh, hH.1] at f1 f2
  have hold : ∀ x : Nat, x < w.1 + h.1 → F.heap[x]? = H[x]? := fun x hx => by
    have := Jvm.Free.Multi.fill_old (T.setVm vm₁) cA comp N K (defaultValue ty) (a := x) (by rw [hTh, hH.1]; exact hx) N
    rw [hF, hTh] at this
    exact this
  have hrow : ∀ j : Nat, j < N → va_at w.2.2.2.1 vwCl (w.1 + h.1 + 1 + j, xe w (.inl (t2, z))) F.heap := fun j hj => by
    have := Jvm.Free.Multi.fill_inner (T.setVm vm₁) cA comp N K (defaultValue ty) N j hj
    rw [hF, hTh, hz w, hH.1] at this
    show F.heap[w.1 + h.1 + 1 + j]? = some (vp_cell (w.2.2.2.2 t2) (xa w z))
    rw [eC]
    exact this
  have hout : va_at w.2.2.2.1 vwCl (w.1 + h.1, xe w (.inl (t, N, .inr (.inr (.inr (.inr (fun i => if i < N then some (h.1 + 1 + i) else none))))))) F.heap := by
    show F.heap[w.1 + h.1]? = some (vp_cell (w.2.2.2.2 t) (N, .inr (.inr (.inr (.inr (fun i => (if i < N then some (h.1 + 1 + i) else none).map (fun k => w.1 + k)))))))
    rw [f2, eA, vp_cell_q, xr_outer]
    congr 2
    funext j
    by_cases hj : j < N
    · rw [if_pos hj, if_pos hj]
      show va_rf (some (w.1 + h.1 + 1 + j)) = va_rf (some (w.1 + (h.1 + 1 + j)))
      rw [show w.1 + h.1 + 1 + j = w.1 + (h.1 + 1 + j) by omega]
    · rw [if_neg hj, if_neg hj]
      rfl
  obtain ⟨t', a1, b1⟩ := kk _ p l e s m args below meth c F.heap locs ls Q rfl hX (hH.rows f1 hout hrow hold) (hS.push (by rw [f1, hH.1]; omega) (fun q hq => hold q (by rw [← hH.1]; exact hq))) hL hw hE F rfl X'
  refine ⟨t', step t' ?_, b1⟩
  have e9 : T.heap.size = w.1 + h.1 := by rw [hT]; exact hH.1
  rw [e9]
  exact a1
theorem AX.mnaI {S N K idx : Nat} (hs : h.1 = S) (hcl : Cond.classLink (mY M).cls idx "[[I" ∈ mW M) (harr : Cond.arrayClass .int ∈ mW M) (hN : N < 100000) (hK : K < 100000) (hcells : k + (1 + N) ≤ mmc M) (hslots : n + (N + N * K) ≤ mms M) (d : decode (mC M) pc = .ok (.multianewarray idx 2, 4))
    (kk : AX w M (k + 1 + N) (n + N + N * K) (pc + 4) L (.ref S :: st) (xrows h S N 3 0 (K, .inl (fun _ => nI 0))) P) : AX w M k n pc L (.int (nI K) :: .int (nI N) :: st) h P :=
  AX.mna (t := 3) (t2 := 0) (ty := .int) (z := (K, .inl (fun _ => nI 0))) hs (fun _ => rfl) (fun _ => rfl) (fun _ _ => rfl) (by decide +kernel) (by rw [show "[" ++ (FieldType.array .int).toString = "[[I" by decide +kernel]; exact hcl) (fun _ x => x.2.2.2.2.2.2.2.1) harr (fun _ c => arrV_new c K (.int 0)) rfl rfl hN hK (by show K * 4 ≤ _; omega) hcells hslots d kk
theorem AX.mnaD {S N K idx : Nat} (hs : h.1 = S) (hcl : Cond.classLink (mY M).cls idx "[[D" ∈ mW M) (harr : Cond.arrayClass .double ∈ mW M) (hN : N < 100000) (hK : K < 100000) (hcells : k + (1 + N) ≤ mmc M) (hslots : n + (N + N * K) ≤ mms M) (d : decode (mC M) pc = .ok (.multianewarray idx 2, 4))
    (kk : AX w M (k + 1 + N) (n + N + N * K) (pc + 4) L (.ref S :: st) (xrows h S N 4 2 (K, .inr (.inr (.inr (.inl (fun _ => FP.dconst0)))))) P) : AX w M k n pc L (.int (nI K) :: .int (nI N) :: st) h P :=
  AX.mna (t := 4) (t2 := 2) (ty := .double) (z := (K, .inr (.inr (.inr (.inl (fun _ => FP.dconst0)))))) hs (fun _ => rfl) (fun _ => rfl) (fun _ _ => rfl) (by decide +kernel) (by rw [show "[" ++ (FieldType.array .double).toString = "[[D" by decide +kernel]; exact hcl) (fun _ x => x.2.2.2.2.2.2.2.2) harr (fun _ c => arrV_new c K (.double FP.dconst0)) rfl rfl hN hK (by show K * 8 ≤ _; omega) hcells hslots d kk
theorem AX.aast {a b t N N2 ci i : Nat} {C : String} {T : u_T} {f : Nat → Option Nat} {fs : List Value} (ht : ∀ w : XW, (xtys w)[t]? = some (w.2.2.2.2 t, .object C)) (hc : vwCl[ci]? = some (C, T, N2)) (ha : a < h.1) (hb : b < h.1) (he : h.2 a = .inl (t, N, .inr (.inr (.inr (.inr f))))) (hv : h.2 b = .inr (ci, fs)) (hi : i < N) (hN : N < 100000) (d : decode (mC M) pc = .ok (.aastore, 1))
    (kk : AX w M k n (pc + 1) L st (xset h a (.inl (t, N, .inr (.inr (.inr (.inr (fun q => if q = i then some b else f q))))))) P) : AX w M k n pc L (.ref b :: .int (nI i) :: .ref a :: st) h P := by
  intro R p l e s m args below meth c H locs ls Q hR hX hH hS hL hw hE
  have hK := hX.2.2.2.2.2.2.2.2.1
  have h1 := hH.one ha
  rw [he] at h1
  have h2 := hH.one hb
  rw [hv] at h2
  have hNN : (nI i).toNatClampNeg = i := nI_nat (by omega)
  obtain ⟨r', hr', cellV, g1, g2, g3, -⟩ := h2 0 _ rfl
  have er : (C, T, N2) = r' := Option.some.inj (hc.symm.trans hr')
  subst er
  have hcls := (hK.1 ci _ hc).2
  obtain ⟨kA, comp, k1, k2, k3, -⟩ := (hK.2 t _ (ht w)).2
  have hcomp : comp = w.2.2.2.1.1 ci := Option.some.inj (k3.symm.trans hcls.1)
  subst hcomp
  obtain ⟨kC, hkC, -⟩ := hcls.2
  refine W.aast hX.1 hX.2.1 (h1 0 _ rfl) (fun q h => by cases h) (fun h => by cases h) k1 k2 rfl hkC ⟨nI_nn (by omega), by show _ < (arrV _ _ _).slots.size; rw [arrV_size, hNN]; exact hi⟩ g1 (fun q h => by rw [g3] at h; cases h) (by rw [g2]; exact hkC) (by rw [g2]; exact va_assign hcls) rfl rfl d fun H1 e9 z oq => ?_
  refine kk R p l _ s m args below meth c H1 _ ls Q hR hX (hH.set z ?_ oq) (hS.put z oq (Nat.le_add_right _ _)) hL hw hE
  show H1[_]? = some (vp_cell _ (N, .inr (.inr (.inr (.inr (fun q => (if q = i then some b else f q).map (fun k => w.1 + k)))))))
  rw [e9]
  show some ((vp_cell _ (N, .inr (.inr (.inr (.inr (fun q => (f q).map (fun k => w.1 + k))))))).setSlot _ _) = some _
  rw [vp_cell_q, vp_cell_q, arrV_store, hNN]
  congr 2
  funext q
  by_cases hq : q = i
  · subst hq
    simp [updV, va_rf]
  · simp [updV, hq]
end XNEW
