/-! ===== THE LAW'S OWN WALK: the same rows, with what is sure of the start's state ===== -/
def AZ (Z : State → Prop) (w : XW) (M : MD) (k n pc : Nat) (L st : List Value) (h : XH) (P : Option Value → XH → Prop) : Prop :=
  ∀ (R : Room) (p : Program) (l : Launch) (e : Env) (s : State) (m : MethodId) (args : Array Value) (below : List Frame) (meth : Method) (c : Code) (H : Heap) (locs : List Loc) (ls : Array Slot) (Q : State → Prop),
    R = mRm M → XC w M p s m args meth c → HP w h H → va_S (XA w) s.heap H locs → XL w ls (mN M) L → w.1 ≤ s.heap.size → Z s →
    (∀ (H' : Heap) (locs' : List Loc) (ls' : Array Slot) (pc' : Nat) (st' : List Value) (v : Option Value) (h' : XH), XRet M pc' st' v → P v h' → HP w h' H' → va_S (XA w) s.heap H' locs' →
      W p l e R s m args below meth c H' locs' (mmc M) (mms M) Q (F0 m pc' ls' (st'.map (xv w)))) →
    W p l e R s m args below meth c H locs k n Q (F0 m pc ls (st.map (xv w)))
theorem AZ.iconst {Z : State → Prop} {w : XW} {M : MD} {k n pc : Nat} {L st : List Value} {h : XH} {P : Option Value → XH → Prop} {i : Int} {v : Int32} (d : decode (mC M) pc = .ok (.iconst i, 1)) (hv : Int32.ofInt i = v)
    (kk : AZ Z w M k n (pc + 1) L (.int v :: st) h P) : AZ Z w M k n pc L (st) h P := by
  intro R p l e s m args below meth c H locs ls Q hR hX hH hS hL hw hZ hE
  exact lv_iconst hX.1 hX.2.1 d hv (kk R p l e s m args below meth c H locs ls Q hR hX hH hS hL hw hZ hE)
theorem AZ.bipush {Z : State → Prop} {w : XW} {M : MD} {k n pc : Nat} {L st : List Value} {h : XH} {P : Option Value → XH → Prop} {i : Int} {v : Int32} (d : decode (mC M) pc = .ok (.bipush i, 2)) (hv : (Int8.ofInt i).toInt32 = v)
    (kk : AZ Z w M k n (pc + 2) L (.int v :: st) h P) : AZ Z w M k n pc L (st) h P := by
  intro R p l e s m args below meth c H locs ls Q hR hX hH hS hL hw hZ hE
  exact lv_bipush hX.1 hX.2.1 d hv (kk R p l e s m args below meth c H locs ls Q hR hX hH hS hL hw hZ hE)
theorem AZ.lconst {Z : State → Prop} {w : XW} {M : MD} {k n pc : Nat} {L st : List Value} {h : XH} {P : Option Value → XH → Prop} {i : Fin 2} {v : Int64} (d : decode (mC M) pc = .ok (.lconst i, 1)) (hv : Int64.ofNat (i : Nat) = v)
    (kk : AZ Z w M k n (pc + 1) L (.long v :: st) h P) : AZ Z w M k n pc L (st) h P := by
  intro R p l e s m args below meth c H locs ls Q hR hX hH hS hL hw hZ hE
  exact lv_lconst hX.1 hX.2.1 d hv (kk R p l e s m args below meth c H locs ls Q hR hX hH hS hL hw hZ hE)
theorem AZ.iadd {Z : State → Prop} {w : XW} {M : MD} {k n pc : Nat} {L st : List Value} {h : XH} {P : Option Value → XH → Prop} {x y : Int32} (d : decode (mC M) pc = .ok (.iadd, 1))
    (kk : AZ Z w M k n (pc + 1) L (.int (x + y) :: st) h P) : AZ Z w M k n pc L (.int y :: .int x :: st) h P := by
  intro R p l e s m args below meth c H locs ls Q hR hX hH hS hL hw hZ hE
  exact lv_iadd hX.1 hX.2.1 d  (kk R p l e s m args below meth c H locs ls Q hR hX hH hS hL hw hZ hE)
theorem AZ.isub {Z : State → Prop} {w : XW} {M : MD} {k n pc : Nat} {L st : List Value} {h : XH} {P : Option Value → XH → Prop} {x y : Int32} (d : decode (mC M) pc = .ok (.isub, 1))
    (kk : AZ Z w M k n (pc + 1) L (.int (x - y) :: st) h P) : AZ Z w M k n pc L (.int y :: .int x :: st) h P := by
  intro R p l e s m args below meth c H locs ls Q hR hX hH hS hL hw hZ hE
  exact lv_isub hX.1 hX.2.1 d  (kk R p l e s m args below meth c H locs ls Q hR hX hH hS hL hw hZ hE)
theorem AZ.iand {Z : State → Prop} {w : XW} {M : MD} {k n pc : Nat} {L st : List Value} {h : XH} {P : Option Value → XH → Prop} {x y : Int32} (d : decode (mC M) pc = .ok (.iand, 1))
    (kk : AZ Z w M k n (pc + 1) L (.int (x &&& y) :: st) h P) : AZ Z w M k n pc L (.int y :: .int x :: st) h P := by
  intro R p l e s m args below meth c H locs ls Q hR hX hH hS hL hw hZ hE
  exact lv_iand hX.1 hX.2.1 d  (kk R p l e s m args below meth c H locs ls Q hR hX hH hS hL hw hZ hE)
theorem AZ.lcmp {Z : State → Prop} {w : XW} {M : MD} {k n pc : Nat} {L st : List Value} {h : XH} {P : Option Value → XH → Prop} {x y : Int64} (d : decode (mC M) pc = .ok (.lcmp, 1))
    (kk : AZ Z w M k n (pc + 1) L (.int (lg_cmp x y) :: st) h P) : AZ Z w M k n pc L (.long y :: .long x :: st) h P := by
  intro R p l e s m args below meth c H locs ls Q hR hX hH hS hL hw hZ hE
  exact W.lcmp hX.1 hX.2.1 d (kk R p l e s m args below meth c H locs ls Q hR hX hH hS hL hw hZ hE)
theorem AZ.dup {Z : State → Prop} {w : XW} {M : MD} {k n pc : Nat} {L st : List Value} {h : XH} {P : Option Value → XH → Prop} {v : Value} (d : decode (mC M) pc = .ok (.dup, 1)) (hv : v.category = 1)
    (kk : AZ Z w M k n (pc + 1) L (v :: v :: st) h P) : AZ Z w M k n pc L (v :: st) h P := by
  intro R p l e s m args below meth c H locs ls Q hR hX hH hS hL hw hZ hE
  exact lv_dup hX.1 hX.2.1 d (by rw [xv_cat]; exact hv) (kk R p l e s m args below meth c H locs ls Q hR hX hH hS hL hw hZ hE)
theorem AZ.if_eq {Z : State → Prop} {w : XW} {M : MD} {k n pc : Nat} {L st : List Value} {h : XH} {P : Option Value → XH → Prop} {x : Int32} {off : Int} {tgt : Nat} (d : decode (mC M) pc = .ok (.ifCond .eq off, 3)) (ht : (pc : Int) + off = (tgt : Int))
    (kt : x = 0 → AZ Z w M k n tgt L st h P) (kf : ¬ x = 0 → AZ Z w M k n (pc + 3) L st h P) : AZ Z w M k n pc L (.int x :: st) h P := by
  intro R p l e s m args below meth c H locs ls Q hR hX hH hS hL hw hZ hE
  exact lv_if_eq hX.1 hX.2.1 d ht (fun q => kt q R p l e s m args below meth c H locs ls Q hR hX hH hS hL hw hZ hE) (fun q => kf q R p l e s m args below meth c H locs ls Q hR hX hH hS hL hw hZ hE)
theorem AZ.icmp_eq {Z : State → Prop} {w : XW} {M : MD} {k n pc : Nat} {L st : List Value} {h : XH} {P : Option Value → XH → Prop} {x y : Int32} {off : Int} {tgt : Nat} (d : decode (mC M) pc = .ok (.if_icmp .eq off, 3)) (ht : (pc : Int) + off = (tgt : Int))
    (kt : x = y → AZ Z w M k n tgt L st h P) (kf : ¬ x = y → AZ Z w M k n (pc + 3) L st h P) : AZ Z w M k n pc L (.int y :: .int x :: st) h P := by
  intro R p l e s m args below meth c H locs ls Q hR hX hH hS hL hw hZ hE
  exact lv_icmp_eq hX.1 hX.2.1 d ht (fun q => kt q R p l e s m args below meth c H locs ls Q hR hX hH hS hL hw hZ hE) (fun q => kf q R p l e s m args below meth c H locs ls Q hR hX hH hS hL hw hZ hE)
theorem AZ.icmp_gt {Z : State → Prop} {w : XW} {M : MD} {k n pc : Nat} {L st : List Value} {h : XH} {P : Option Value → XH → Prop} {x y : Int32} {off : Int} {tgt : Nat} (d : decode (mC M) pc = .ok (.if_icmp .gt off, 3)) (ht : (pc : Int) + off = (tgt : Int))
    (kt : y < x → AZ Z w M k n tgt L st h P) (kf : ¬ y < x → AZ Z w M k n (pc + 3) L st h P) : AZ Z w M k n pc L (.int y :: .int x :: st) h P := by
  intro R p l e s m args below meth c H locs ls Q hR hX hH hS hL hw hZ hE
  exact lv_icmp_gt hX.1 hX.2.1 d ht (fun q => kt q R p l e s m args below meth c H locs ls Q hR hX hH hS hL hw hZ hE) (fun q => kf q R p l e s m args below meth c H locs ls Q hR hX hH hS hL hw hZ hE)
theorem AZ.icmp_le {Z : State → Prop} {w : XW} {M : MD} {k n pc : Nat} {L st : List Value} {h : XH} {P : Option Value → XH → Prop} {x y : Int32} {off : Int} {tgt : Nat} (d : decode (mC M) pc = .ok (.if_icmp .le off, 3)) (ht : (pc : Int) + off = (tgt : Int))
    (kt : x ≤ y → AZ Z w M k n tgt L st h P) (kf : ¬ x ≤ y → AZ Z w M k n (pc + 3) L st h P) : AZ Z w M k n pc L (.int y :: .int x :: st) h P := by
  intro R p l e s m args below meth c H locs ls Q hR hX hH hS hL hw hZ hE
  exact lv_icmp_le hX.1 hX.2.1 d ht (fun q => kt q R p l e s m args below meth c H locs ls Q hR hX hH hS hL hw hZ hE) (fun q => kf q R p l e s m args below meth c H locs ls Q hR hX hH hS hL hw hZ hE)
theorem AZ.if_ne {Z : State → Prop} {w : XW} {M : MD} {k n pc : Nat} {L st : List Value} {h : XH} {P : Option Value → XH → Prop} {x : Int32} {off : Int} {tgt : Nat} (d : decode (mC M) pc = .ok (.ifCond .ne off, 3)) (ht : (pc : Int) + off = (tgt : Int))
    (kt : ¬ x = 0 → AZ Z w M k n tgt L st h P) (kf : x = 0 → AZ Z w M k n (pc + 3) L st h P) : AZ Z w M k n pc L (.int x :: st) h P := by
  intro R p l e s m args below meth c H locs ls Q hR hX hH hS hL hw hZ hE
  exact lv_if_ne hX.1 hX.2.1 d ht (fun q => kt q R p l e s m args below meth c H locs ls Q hR hX hH hS hL hw hZ hE) (fun q => kf q R p l e s m args below meth c H locs ls Q hR hX hH hS hL hw hZ hE)
theorem AZ.goto {Z : State → Prop} {w : XW} {M : MD} {k n pc : Nat} {L st : List Value} {h : XH} {P : Option Value → XH → Prop} {off : Int} {tgt : Nat} (d : decode (mC M) pc = .ok (.goto off, 3)) (ht : (pc : Int) + off = (tgt : Int))
    (kk : AZ Z w M k n tgt L st h P) : AZ Z w M k n pc L st h P := by
  intro R p l e s m args below meth c H locs ls Q hR hX hH hS hL hw hZ hE
  exact lv_goto hX.1 hX.2.1 d ht (kk R p l e s m args below meth c H locs ls Q hR hX hH hS hL hw hZ hE)
theorem AZ.tableIn {Z : State → Prop} {w : XW} {M : MD} {k n pc : Nat} {L st : List Value} {h : XH} {P : Option Value → XH → Prop} {dflt lo hi : Int} {offs : Array Int} {len : Nat} {x : Int32} {off : Int} {tgt : Nat} (d : decode (mC M) pc = .ok (.tableswitch dflt lo hi offs, len)) (h1 : ¬ x.toInt < lo) (h2 : ¬ hi < x.toInt) (ho : offs[(x.toInt - lo).toNat]? = some off) (ht : (pc : Int) + off = (tgt : Int))
    (kk : AZ Z w M k n tgt L st h P) : AZ Z w M k n pc L (.int x :: st) h P := by
  intro R p l e s m args below meth c H locs ls Q hR hX hH hS hL hw hZ hE
  exact lv_tableIn hX.1 hX.2.1 d h1 h2 ho ht (kk R p l e s m args below meth c H locs ls Q hR hX hH hS hL hw hZ hE)
theorem AZ.tableOut {Z : State → Prop} {w : XW} {M : MD} {k n pc : Nat} {L st : List Value} {h : XH} {P : Option Value → XH → Prop} {dflt lo hi : Int} {offs : Array Int} {len : Nat} {x : Int32} {tgt : Nat} (d : decode (mC M) pc = .ok (.tableswitch dflt lo hi offs, len)) (h1 : x.toInt < lo ∨ hi < x.toInt) (ht : (pc : Int) + dflt = (tgt : Int))
    (kk : AZ Z w M k n tgt L st h P) : AZ Z w M k n pc L (.int x :: st) h P := by
  intro R p l e s m args below meth c H locs ls Q hR hX hH hS hL hw hZ hE
  exact lv_tableOut hX.1 hX.2.1 d h1 ht (kk R p l e s m args below meth c H locs ls Q hR hX hH hS hL hw hZ hE)
theorem AZ.iload_n {Z : State → Prop} {w : XW} {M : MD} {k n pc : Nat} {L st : List Value} {h : XH} {P : Option Value → XH → Prop} {i : Fin 4} {x : Int32} (d : decode (mC M) pc = .ok (.iload_n i, 1)) (hl : L[(i : Nat)]? = some (.int x))
    (kk : AZ Z w M k n (pc + 1) L (.int x :: st) h P) : AZ Z w M k n pc L st h P := by
  intro R p l e s m args below meth c H locs ls Q hR hX hH hS hL hw hZ hE
  exact lv_iload_n hX.1 hX.2.1 d rfl (hL.at hl (fun q => by cases q)) (kk R p l e s m args below meth c H locs ls Q hR hX hH hS hL hw hZ hE)
theorem AZ.aload_n {Z : State → Prop} {w : XW} {M : MD} {k n pc : Nat} {L st : List Value} {h : XH} {P : Option Value → XH → Prop} {i : Fin 4} {x : Nat} (d : decode (mC M) pc = .ok (.aload_n i, 1)) (hl : L[(i : Nat)]? = some (.ref x))
    (kk : AZ Z w M k n (pc + 1) L (.ref x :: st) h P) : AZ Z w M k n pc L st h P := by
  intro R p l e s m args below meth c H locs ls Q hR hX hH hS hL hw hZ hE
  exact lv_aload_n hX.1 hX.2.1 d rfl (hL.at hl (fun q => by cases q)) (kk R p l e s m args below meth c H locs ls Q hR hX hH hS hL hw hZ hE)
theorem AZ.istore_n {Z : State → Prop} {w : XW} {M : MD} {k n pc : Nat} {L st : List Value} {h : XH} {P : Option Value → XH → Prop} {i : Fin 4} {x : Int32} {L' : List Value} (d : decode (mC M) pc = .ok (.istore_n i, 1)) (hn : (i : Nat) < mN M) (hl : st1 L (i : Nat) (.int x) = L')
    (kk : AZ Z w M k n (pc + 1) L' st h P) : AZ Z w M k n pc L (.int x :: st) h P := by
  subst hl
  intro R p l e s m args below meth c H locs ls Q hR hX hH hS hL hw hZ hE
  exact lv_istore_n hX.1 hX.2.1 d rfl (xall_has hL.1 hL.2.1) hn rfl (fun ls' hl' => kk R p l e s m args below meth c H locs ls' Q hR hX hH hS (XL.st1 (x := .int x) hL hl') hw hZ hE)
theorem AZ.astore_n {Z : State → Prop} {w : XW} {M : MD} {k n pc : Nat} {L st : List Value} {h : XH} {P : Option Value → XH → Prop} {i : Fin 4} {x : Nat} {L' : List Value} (d : decode (mC M) pc = .ok (.astore_n i, 1)) (hn : (i : Nat) < mN M) (hl : st1 L (i : Nat) (.ref x) = L')
    (kk : AZ Z w M k n (pc + 1) L' st h P) : AZ Z w M k n pc L (.ref x :: st) h P := by
  subst hl
  intro R p l e s m args below meth c H locs ls Q hR hX hH hS hL hw hZ hE
  exact lv_astore_n hX.1 hX.2.1 d rfl (xall_has hL.1 hL.2.1) hn rfl (fun ls' hl' => kk R p l e s m args below meth c H locs ls' Q hR hX hH hS (XL.st1 (x := .ref x) hL hl') hw hZ hE)
theorem AZ.iinc {Z : State → Prop} {w : XW} {M : MD} {k n pc : Nat} {L st : List Value} {h : XH} {P : Option Value → XH → Prop} {i : Nat} {a : Int} {x v : Int32} {L' : List Value} (d : decode (mC M) pc = .ok (.iinc i a, 3)) (hx : L[i]? = some (.int x)) (hv : x + Int32.ofInt a = v) (hn : i < mN M) (hl : st1 L i (.int v) = L')
    (kk : AZ Z w M k n (pc + 3) L' st h P) : AZ Z w M k n pc L st h P := by
  subst hl
  intro R p l e s m args below meth c H locs ls Q hR hX hH hS hL hw hZ hE
  obtain ⟨j, hj⟩ := List.getElem?_of_mem (xall_mem.mpr (hL.at hx (fun q => by cases q)))
  exact lv_iinc hX.1 hX.2.1 d (xall_has hL.1 hL.2.1) hj hv hn rfl (fun ls' hl' => kk R p l e s m args below meth c H locs ls' Q hR hX hH hS (XL.st1 (x := .int v) hL hl') hw hZ hE)
theorem AZ.ret {Z : State → Prop} {w : XW} {M : MD} {k n pc : Nat} {L st : List Value} {h : XH} {P : Option Value → XH → Prop} {v : Option Value} (hr : XRet M pc st v) (hk : k ≤ mmc M) (hn : n ≤ mms M) (hP : P v h) : AZ Z w M k n pc L st h P := by
  intro R p l e s m args below meth c H locs ls Q hR hX hH hS hL hw hZ hE
  exact W.widen hk hn (hE H locs ls pc st v h hr hP hH hS)
theorem AZ.iret {Z : State → Prop} {w : XW} {M : MD} {k n pc : Nat} {L : List Value} {h : XH} {P : Option Value → XH → Prop} {x : Int32} {ty : FieldType} (d : decode (mC M) pc = .ok (.ireturn, 1)) (hr : mR M = some ty) (hz : narrow ty (.int x) = .int x) (hk : k ≤ mmc M) (hn : n ≤ mms M) (hP : P (some (.int x)) h) : AZ Z w M k n pc L [.int x] h P :=
  AZ.ret (Or.inr (Or.inl ⟨x, ty, hr, hz, rfl, rfl, d⟩)) hk hn hP
theorem AZ.topi {Z : State → Prop} {w : XW} {M : MD} {k n pc : Nat} {L st : List Value} {h : XH} {P : Option Value → XH → Prop} {x y : Int32} (e : x = y) (kk : AZ Z w M k n pc L (.int y :: st) h P) : AZ Z w M k n pc L (.int x :: st) h P := by rw [e]; exact kk
theorem AZ.topl {Z : State → Prop} {w : XW} {M : MD} {k n pc : Nat} {L st : List Value} {h : XH} {P : Option Value → XH → Prop} {x y : Int64} (e : x = y) (kk : AZ Z w M k n pc L (.long y :: st) h P) : AZ Z w M k n pc L (.long x :: st) h P := by rw [e]; exact kk
theorem AZ.atpc {Z : State → Prop} {w : XW} {M : MD} {k n pc : Nat} {L st : List Value} {h : XH} {P : Option Value → XH → Prop} {pc' : Nat} (e : pc = pc') (kk : AZ Z w M k n pc' L st h P) : AZ Z w M k n pc L st h P := by rw [e]; exact kk
theorem AZ.atL {Z : State → Prop} {w : XW} {M : MD} {k n pc : Nat} {L st : List Value} {h : XH} {P : Option Value → XH → Prop} {L' : List Value} (e : L = L') (kk : AZ Z w M k n pc L' st h P) : AZ Z w M k n pc L st h P := by rw [e]; exact kk
theorem AZ.ath {Z : State → Prop} {w : XW} {M : MD} {k n pc : Nat} {L st : List Value} {h : XH} {P : Option Value → XH → Prop} {h' : XH} (e : h = h') (kk : AZ Z w M k n pc L st h' P) : AZ Z w M k n pc L st h P := by rw [e]; exact kk
theorem AZ.iaddN {Z : State → Prop} {w : XW} {M : MD} {k n pc : Nat} {L st : List Value} {h : XH} {P : Option Value → XH → Prop} {a b c : Nat} (d : decode (mC M) pc = .ok (.iadd, 1)) (hc : a + b = c) (kk : AZ Z w M k n (pc + 1) L (.int (nI c) :: st) h P) : AZ Z w M k n pc L (.int (nI b) :: .int (nI a) :: st) h P := by
  subst hc
  exact AZ.iadd d (AZ.topi (nI_add a b) kk)
theorem AZ.isubN {Z : State → Prop} {w : XW} {M : MD} {k n pc : Nat} {L st : List Value} {h : XH} {P : Option Value → XH → Prop} {a b c : Nat} (d : decode (mC M) pc = .ok (.isub, 1)) (hc : c + b = a) (kk : AZ Z w M k n (pc + 1) L (.int (nI c) :: st) h P) : AZ Z w M k n pc L (.int (nI b) :: .int (nI a) :: st) h P := by
  subst hc
  exact AZ.isub d (AZ.topi (by rw [pk_sub (Nat.le_add_left b c), Nat.add_sub_cancel]) kk)
theorem AZ.iincN {Z : State → Prop} {w : XW} {M : MD} {k n pc : Nat} {L st : List Value} {h : XH} {P : Option Value → XH → Prop} {i : Nat} {z : Int} {a c : Nat} {L' : List Value} (d : decode (mC M) pc = .ok (.iinc i z, 3)) (hx : L[i]? = some (.int (nI a))) (hv : nI a + Int32.ofInt z = nI c) (hn : i < mN M) (hl : st1 L i (.int (nI c)) = L') (kk : AZ Z w M k n (pc + 3) L' st h P) : AZ Z w M k n pc L st h P := AZ.iinc d hx hv hn hl kk
theorem AZ.icmp_gtN {Z : State → Prop} {w : XW} {M : MD} {k n pc : Nat} {L st : List Value} {h : XH} {P : Option Value → XH → Prop} {a b : Nat} {off : Int} {tgt : Nat} (d : decode (mC M) pc = .ok (.if_icmp .gt off, 3)) (ht : (pc : Int) + off = (tgt : Int)) (ha : a < 2147483648) (hb : b < 2147483648)
    (kt : b < a → AZ Z w M k n tgt L st h P) (kf : a ≤ b → AZ Z w M k n (pc + 3) L st h P) : AZ Z w M k n pc L (.int (nI b) :: .int (nI a) :: st) h P :=
  AZ.icmp_gt d ht (fun q => kt ((nI_ltI hb ha).mp q)) (fun q => kf (Nat.le_of_not_lt (fun z => q ((nI_ltI hb ha).mpr z))))
section ZCALL
variable {Z : State → Prop} {w : XW} {M M2 : MD} {k n pc : Nat} {L st : List Value} {h : XH} {P P2 : Option Value → XH → Prop}
theorem AZ.callV {ws2 : List Cond} {a ci idx : Nat} {As rest fs : List Value} {T : u_T} {N : Nat} (hM : CA w M2 (.ref a :: As) h P2) (hc : XCall M M2 As.length k n ws2) (hg : GoodIn (mW M) (wsV (mY M).cls idx (mY M2).cls (mY M2) (mW M2))) (hci : vwCl[ci]? = some ((mY M2).cls, T, N)) (ha : a < h.1) (he : h.2 a = .inr (ci, fs)) (hs : st = As.reverse ++ .ref a :: rest) (hst : (rest.map fun v => v.category).sum ≤ 8) (d : decode (mC M) pc = .ok (.invokevirtual idx, 3))
    (kk : ∀ (v : Option Value) (h' : XH), P2 v h' → AZ Z w M (k + mmc M2) (n + mms M2) (pc + 3) L (v.toList ++ rest) h' P) : AZ Z w M k n pc L st h P := by
  subst hs
  intro R p l e s m args below meth c H locs ls Q hR hX hH hS hL hw hZ hE
  subst hR
  obtain ⟨c1, c2, c3, c4, c5⟩ := hc
  have hP1 := hH.one ha
  rw [he] at hP1
  have hrun := va_runV (meth := meth) (below := below) (e := e) (cells := k) (slots := n) (locs := locs) (As := As.map (xv w)) (rest := rest.map (xv w)) (g := F0 m pc ls ((As.reverse ++ .ref a :: rest).map (xv w))) ⟨hX.1, hX.2.1, hX.2.2.1, hX.2.2.2.1, hX.2.2.2.2.1⟩ (hM l)
    (cwV (R := mRm M) As.length hX.2.2.2.2.1 hg c1 rfl rfl ⟨rfl, c2⟩ c3)
    ⟨XB.blind _ _ _, va_recv hX.2.2.2.2.2.2.2.2.1 hP1 (q0 := 0) hci rfl, fun U hU hW => ⟨rfl, by rw [hU]; exact hH, hX.2.2.2.2.2.2.2.2.at hS hU hW⟩⟩ rfl (by simp) (hL.1.trans rfl) (by simp [xv]) (lv_room (by rw [xcats]; exact hst)) d ⟨c4, c5⟩
  refine xcall hrun hS (fun v h' H1 locs1 h1 h2 h3 => ?_)
  rw [xtoList]
  exact kk v h' h1 _ p l e s m args below meth c H1 locs1 ls Q rfl hX h2 h3 hL hw hZ hE
theorem AZ.callI {ws2 : List Cond} {a idx : Nat} {As rest : List Value} (hM : CA w M2 (.ref a :: As) h P2) (hc : XCall M M2 As.length k n ws2) (hr : mR M2 = none) (hnm : (mY M2).name = "<init>") (hg : GoodIn (mW M) (mW M2)) (hl : Cond.methodLink (mY M).cls idx (mY M2) ∈ mW M) (hin : Cond.instanceMethod (mY M2) ∈ mW M) (hini : Cond.initialized (mY M2).cls ∈ mW M) (hs : st = As.reverse ++ .ref a :: rest) (hst : (rest.map fun v => v.category).sum ≤ 8) (d : decode (mC M) pc = .ok (.invokespecial idx, 3))
    (kk : ∀ (v : Option Value) (h' : XH), P2 v h' → AZ Z w M (k + mmc M2) (n + mms M2) (pc + 3) L (v.toList ++ rest) h' P) : AZ Z w M k n pc L st h P := by
  subst hs
  intro R p l e s m args below meth c H locs ls Q hR hX hH hS hL hw hZ hE
  subst hR
  obtain ⟨c1, c2, c3, c4, c5⟩ := hc
  rw [hr] at c1
  have hts := hX.2.2.2.2.1
  have hrun := va_runI (meth := meth) (below := below) (e := e) (cells := k) (slots := n) (locs := locs) (As := As.map (xv w)) (rest := rest.map (xv w)) (g := F0 m pc ls ((As.reverse ++ .ref a :: rest).map (xv w))) ⟨hX.1, hX.2.1, hX.2.2.1, hX.2.2.2.1, hX.2.2.2.2.1⟩ (hM l)
    (cwI (R := mRm M) As.length hts hg c1 rfl rfl (hts _ hini) (hts _ hl) (hts _ hin) hnm c2 c3)
    ⟨XB.blind _ _ _, fun U hU hW => ⟨rfl, by rw [hU]; exact hH, hX.2.2.2.2.2.2.2.2.at hS hU hW⟩⟩ rfl (by simp) (hL.1.trans rfl) (by simp [xv]) (lv_room (by rw [xcats]; exact hst)) d ⟨c4, c5⟩
  refine xcall hrun hS (fun v h' H1 locs1 h1 h2 h3 => ?_)
  rw [xtoList]
  exact kk v h' h1 _ p l e s m args below meth c H1 locs1 ls Q rfl hX h2 h3 hL hw hZ hE
theorem AZ.new {ci idx S : Nat} {C : String} {T : u_T} {N : Nat} {ty : Nat → FieldType} {fs : List Value} (hs : h.1 = S) (hc : vwCl[ci]? = some (C, T, N)) (hin : ∀ x ∈ u_ws C T N, x ∈ mW M) (hty : ∀ j, j < N → parseFieldDescriptor (T j).2.2.1 = some (ty j)) (hcl : Cond.classLink (mY M).cls idx C ∈ mW M) (hinst : Cond.instantiable C N ∈ mW M) (hini : Cond.initialized C ∈ mW M)
    (hfs : ∀ w : XW, ∀ j, j < N → defaultValue (ty j) = vp_V (fs.map (xv w)) j) (hcells : k + 1 ≤ mmc M) (hslots : n + N ≤ mms M) (d : decode (mC M) pc = .ok (.new idx, 3))
    (kk : AZ Z w M (k + 1) (n + N) (pc + 3) L (.ref S :: st) (xnew h S (.inr (ci, fs))) P) : AZ Z w M k n pc L st h P := by
  subst hs
  intro R p l e s m args below meth c H locs ls Q hR hX hH hS hL hw hZ hE
  subst hR
  have hts := hX.2.2.2.2.1
  have hK := hX.2.2.2.2.2.2.2.2.1
  have hKn := hK.1 ci _ hc
  refine W.newcK hX.1 hX.2.1 hX.2.2.2.1 (hts _ hcl) (hts _ hinst) (hts _ hini) (g := F0 m pc ls (st.map (xv w))) rfl d hcells hslots hKn.2.1 hH.1 fun H1 kC hkC e1 z1 o1 => ?_
  refine kk _ p l e s m args below meth c H1 locs ls Q rfl hX (hH.new z1 ⟨_, hc, (u_born ty hts hin hKn hkC e1 hty).to (hfs w)⟩ o1) (hS.push (by rw [z1, hH.1]; omega) (fun q hq => o1 q (by rw [← hH.1]; exact hq))) hL hw hZ hE
end ZCALL
/-- the script: L0 ints xs -/
def ZL (w : XW) (L0 : Nat) (xs : Nat → Int32) : State → Prop := fun s => va_X w.2.2.1 L0 xs s s.heap ∧ w.2.2.1 < s.heap.size ∧ w.2.2.1 < w.1
theorem AZ.slen {w : XW} {L0 : Nat} {xs : Nat → Int32} {M : MD} {k n pc : Nat} {L st : List Value} {h : XH} {P : Option Value → XH → Prop} (d : decode (mC M) pc = .ok (.arraylength, 1)) (kk : AZ (ZL w L0 xs) w M k n (pc + 1) L (.int (nI L0) :: st) h P) : AZ (ZL w L0 xs) w M k n pc L (.retAddr 0 :: st) h P := by
  intro R p l e s m args below meth c H locs ls Q hR hX hH hS hL hw hZ hE
  exact va_slen hX.1 hX.2.1 hZ.1 hZ.2.1 (Nat.not_le.mpr hZ.2.2) hS d (kk R p l e s m args below meth c H locs ls Q hR hX hH hS hL hw hZ hE)
theorem AZ.sld {w : XW} {L0 : Nat} {xs : Nat → Int32} {M : MD} {k n pc i : Nat} {L st : List Value} {h : XH} {P : Option Value → XH → Prop} (hi : i < L0) (hL0 : L0 ≤ 2560) (d : decode (mC M) pc = .ok (.iaload, 1)) (kk : AZ (ZL w L0 xs) w M k n (pc + 1) L (.int (xs i) :: st) h P) : AZ (ZL w L0 xs) w M k n pc L (.int (nI i) :: .retAddr 0 :: st) h P := by
  intro R p l e s m args below meth c H locs ls Q hR hX hH hS hL hw hZ hE
  have hN : (nI i).toNatClampNeg = i := nI_nat (by omega)
  refine va_sld hX.1 hX.2.1 hZ.1 hZ.2.1 (Nat.not_le.mpr hZ.2.2) hS (fun q => q.elim (nI_nn (by omega)) (fun q => by rw [hN] at q; omega)) d ?_
  rw [hN]
  exact kk R p l e s m args below meth c H locs ls Q hR hX hH hS hL hw hZ hE
theorem AZ.sload {Z : State → Prop} {w : XW} {M : MD} {k n pc : Nat} {L st : List Value} {h : XH} {P : Option Value → XH → Prop} {i : Fin 4} (d : decode (mC M) pc = .ok (.aload_n i, 1)) (hx : L[(i : Nat)]? = some (.retAddr 0)) (kk : AZ Z w M k n (pc + 1) L (.retAddr 0 :: st) h P) : AZ Z w M k n pc L st h P := by
  intro R p l e s m args below meth c H locs ls Q hR hX hH hS hL hw hZ hE
  exact lv_aload_n hX.1 hX.2.1 d rfl (hL.at hx (fun q => by cases q)) (kk R p l e s m args below meth c H locs ls Q hR hX hH hS hL hw hZ hE)
