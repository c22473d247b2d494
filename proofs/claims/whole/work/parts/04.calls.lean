/-! ===== CONTRACTS AND CALLS ===== -/
theorem XB.blind (w : XW) (vs : List Value) (h : XH) : FrameBlind (va_Pc vs (XB w h)) := by
  intro a U g mk q
  obtain ⟨q0, q1, q2, q3, q4, q5⟩ := q
  exact ⟨q0, q1, va_K.moved (u := U) (U := U.calling g mk a) (Vm.Alike.refl U.vm) q2, va_Z.moved (u := U) (U := U.calling g mk a) (Vm.Alike.refl U.vm) q3, va_T.moved (u := U) (U := U.calling g mk a) (Vm.Alike.refl U.vm) q4, q5.same (U := U.calling g mk a) rfl⟩
theorem CA.of {w : XW} {M : MD} {as : List Value} {h : XH} {P : Option Value → XH → Prop} {ws' : List Cond} (hy : plainName (mY M).cls = true) (hW : mW M = Cond.code (mY M) (mC M) (mN M) (mR M) :: ws') (hle : ∀ w : XW, (lg_sl (as.map (xv w))).length ≤ mN M)
    (kk : AX w M 0 0 0 (xent (mN M) as) [] h P) : CA w M as h P := by
  intro l
  refine Met.ofW (cc := mC M) (maxL := mN M) (ret := mR M) hy hW ?_
  intro p e s m args below meth c s₁ B hml hv
  obtain ⟨rfl, hH, hXR⟩ := hv
  have hown : s.vm.findClass (mY M).cls = some m.cls := findClass_of_methodNamed B.named
  have hts := atoms_spec (ws := mW M) B.pre
  have hin : meth.name = (mY M).name := (name_of_methodNamed B.named B.method).1
  rw [lg_entry_eq]
  have hl := XL.entry w as (hle w)
  have hE : ∀ (H' : Heap) (locs' : List Loc) (ls' : Array Slot) (pc' : Nat) (st' : List Value) (v : Option Value) (h' : XH), XRet M pc' st' v → P v h' → HP w h' H' → va_S (XA w) s.heap H' locs' →
      W p l e (mRm M) s m (as.map (xv w)).toArray below meth c H' locs' (mmc M) (mms M) (MQ below (XQ w P) (as.map (xv w)).toArray s (mmc M) (mms M) (XA w)) (F0 m pc' ls' (st'.map (xv w))) := by
    intro H' locs' ls' pc' st' v h' hr hP hH' hS'
    have hlocks := B.notSynchronized
    rcases hr with ⟨r1, rfl, rfl, d⟩ | ⟨x, ty, r1, r2, rfl, rfl, d⟩ | ⟨x, r1, rfl, rfl, d⟩ | ⟨x, r1, rfl, rfl, d⟩
    · exact W.vret B.exec B.bytes (B.returns.trans r1) (fun t ht hW => ⟨⟨none, h', rfl, hP, by rw [ht]; exact hH'⟩, hS'.F ht⟩) hS'.2.2 d
    · exact W.zret B.exec B.bytes (B.returns.trans r1) r2 (fun t ht hW => ⟨⟨some (.int x), h', rfl, hP, by rw [ht]; exact hH'⟩, hS'.F ht⟩) hS'.2.2 d
    · exact W.lret B.exec B.bytes (B.returns.trans r1) (fun t ht hW => ⟨⟨some (.long x), h', rfl, hP, by rw [ht]; exact hH'⟩, hS'.F ht⟩) hS'.2.2 d
    · exact W.dret B.exec B.bytes (B.returns.trans r1) (fun t ht hW => ⟨⟨some (.double x), h', rfl, hP, by rw [ht]; exact hH'⟩, hS'.F ht⟩) hS'.2.2 d
  exact kk _ p l e s m _ below meth c s.heap [] _ _ rfl ⟨B.exec, B.bytes, hml, hown, hts, B.returns, B.notSynchronized, hin, hXR⟩ hH va_S.rf hl (by rw [hH.1]; exact Nat.le_add_right _ _) hE
section XCALL
variable {w : XW} {M M2 : MD} {k n pc : Nat} {L st : List Value} {h : XH} {P P2 : Option Value → XH → Prop}
theorem xcall {p : Program} {l : Launch} {e : Env} {R : Room} {s : State} {m : MethodId} {args a : Array Value} {below : List Frame} {meth : Method} {c : Code} {H : Heap} {locs : List Loc} {Q : State → Prop} {ls : Array Slot} {st0 rest : List Value} {mc ms : Nat}
    (hr : va_Run p l e R s m args below meth c H locs k n mc ms (F0 m pc ls st0) rest (XQ w P2 a) (XA w)) (hS : va_S (XA w) s.heap H locs)
    (kk : ∀ (v : Option Value) (h' : XH) (H1 : Heap) (locs1 : List Loc), P2 v h' → HP w h' H1 → va_S (XA w) s.heap H1 locs1 → W p l e R s m args below meth c H1 locs1 (k + mc) (n + ms) Q (F0 m (pc + 3) ls ((v.map (xv w)).toList ++ rest))) : W p l e R s m args below meth c H locs k n Q (F0 m pc ls st0) := by
  intro T hT X
  obtain ⟨v, st₀, t, T', L, h0, X', hL, e1, e2, ⟨⟨r, h', hv, hp, hb⟩, hz, hk⟩, st⟩ := hr T hT X
  cases hv
  rw [h0] at hz hk
  obtain ⟨t2, a1, b1⟩ := kk r h' T'.heap (locs ++ L) hp (by rw [e1]; exact hb)
    ⟨Nat.le_trans hS.1 (by rw [e1]; exact hz), fun q h1 h2 => by rw [e1, hk q (Nat.lt_of_lt_of_le h1 hS.1) h2]; exact hS.2.1 q h1 h2, fun q hq => by
      rcases List.mem_append.mp hq with h | h
      · exact hS.2.2 q h
      · exact hL q h⟩ T' rfl X'
  exact ⟨t2, st t2 a1, b1⟩
/-- what every call asks of the caller's and the callee's numbers: ar arguments -/
abbrev XCall (M M2 : MD) (ar k n : Nat) (ws2 : List Cond) : Prop :=
  mW M2 = Cond.code (mY M2) (mC M2) (mN M2) (mR M2) :: ws2 ∧ ((mY M2).cls ≠ "java/lang/invoke/MethodHandle" ∧ (mY M2).cls ≠ "java/lang/invoke/VarHandle" ∧ (parseMethodDescriptor (mY M2).desc).map (fun d => d.parameters.length) = some ar) ∧ (mfr M2 + 1 ≤ mfr M ∧ 8 + (mN M2 + 11) + mlo M2 ≤ mlo M) ∧ k + mmc M2 ≤ mmc M ∧ n + mms M2 ≤ mms M
theorem xtoList (w : XW) (v : Option Value) (rest : List Value) : (v.map (xv w)).toList ++ rest.map (xv w) = (v.toList ++ rest).map (xv w) := by cases v <;> simp
theorem xcats (w : XW) (rest : List Value) : ((rest.map (xv w)).map fun v => v.category).sum = (rest.map fun v => v.category).sum := by
  rw [List.map_map]
  congr 1
  exact List.map_congr_left fun v _ => xv_cat w v
theorem AX.callV {ws2 : List Cond} {a ci idx : Nat} {As rest fs : List Value} {T : u_T} {N : Nat} (hM : CA w M2 (.ref a :: As) h P2) (hc : XCall M M2 As.length k n ws2) (hg : GoodIn (mW M) (wsV (mY M).cls idx (mY M2).cls (mY M2) (mW M2))) (hci : vwCl[ci]? = some ((mY M2).cls, T, N)) (ha : a < h.1) (he : h.2 a = .inr (ci, fs)) (hs : st = As.reverse ++ .ref a :: rest) (hst : (rest.map fun v => v.category).sum ≤ 8) (d : decode (mC M) pc = .ok (.invokevirtual idx, 3))
    (kk : ∀ (v : Option Value) (h' : XH), P2 v h' → AX w M (k + mmc M2) (n + mms M2) (pc + 3) L (v.toList ++ rest) h' P) : AX w M k n pc L st h P := by
  subst hs
  intro R p l e s m args below meth c H locs ls Q hR hX hH hS hL hw hE
  subst hR
  obtain ⟨c1, c2, c3, c4, c5⟩ := hc
  have hP1 := hH.one ha
  rw [he] at hP1
  have hrun := va_runV (meth := meth) (below := below) (e := e) (cells := k) (slots := n) (locs := locs) (As := As.map (xv w)) (rest := rest.map (xv w)) (g := F0 m pc ls ((As.reverse ++ .ref a :: rest).map (xv w))) ⟨hX.1, hX.2.1, hX.2.2.1, hX.2.2.2.1, hX.2.2.2.2.1⟩ (hM l)
    (cwV (R := mRm M) As.length hX.2.2.2.2.1 hg c1 rfl rfl ⟨rfl, c2⟩ c3)
    ⟨XB.blind _ _ _, va_recv hX.2.2.2.2.2.2.2.2.1 hP1 (q0 := 0) hci rfl, fun U hU hW => ⟨rfl, by rw [hU]; exact hH, hX.2.2.2.2.2.2.2.2.at hS hU hW⟩⟩ rfl (by simp) (hL.1.trans rfl) (by simp [xv]) (lv_room (by rw [xcats]; exact hst)) d ⟨c4, c5⟩
  refine xcall hrun hS (fun v h' H1 locs1 h1 h2 h3 => ?_)
  rw [xtoList]
  exact kk v h' h1 _ p l e s m args below meth c H1 locs1 ls Q rfl hX h2 h3 hL hw hE
theorem AX.callS {ws2 : List Cond} {idx : Nat} {As rest : List Value} (hM : CA w M2 As h P2) (hc : XCall M M2 As.length k n ws2) (hg : GoodIn (mW M) (va_wsS (mY M).cls idx (mY M2) (mW M2))) (hs : st = As.reverse ++ rest) (hst : (rest.map fun v => v.category).sum ≤ 8) (d : decode (mC M) pc = .ok (.invokestatic idx, 3))
    (kk : ∀ (v : Option Value) (h' : XH), P2 v h' → AX w M (k + mmc M2) (n + mms M2) (pc + 3) L (v.toList ++ rest) h' P) : AX w M k n pc L st h P := by
  subst hs
  intro R p l e s m args below meth c H locs ls Q hR hX hH hS hL hw hE
  subst hR
  obtain ⟨c1, c2, c3, c4, c5⟩ := hc
  have hrun := va_runS (meth := meth) (below := below) (e := e) (cells := k) (slots := n) (locs := locs) (As := As.map (xv w)) (rest := rest.map (xv w)) (g := F0 m pc ls ((As.reverse ++ rest).map (xv w))) ⟨hX.1, hX.2.1, hX.2.2.1, hX.2.2.2.1, hX.2.2.2.2.1⟩ (hM l)
    (va_cwS (R := mRm M) As.length hX.2.2.2.2.1 hg c1 rfl rfl c2 c3)
    ⟨XB.blind _ _ _, fun U hU hW => ⟨rfl, by rw [hU]; exact hH, hX.2.2.2.2.2.2.2.2.at hS hU hW⟩⟩ rfl (by simp) (hL.1.trans rfl) (by simp) (lv_room (by rw [xcats]; exact hst)) d ⟨c4, c5⟩
  refine xcall hrun hS (fun v h' H1 locs1 h1 h2 h3 => ?_)
  rw [xtoList]
  exact kk v h' h1 _ p l e s m args below meth c H1 locs1 ls Q rfl hX h2 h3 hL hw hE
/-- a constructor of a class of ours -/
theorem AX.callI {ws2 : List Cond} {a idx : Nat} {As rest : List Value} (hM : CA w M2 (.ref a :: As) h P2) (hc : XCall M M2 As.length k n ws2) (hr : mR M2 = none) (hnm : (mY M2).name = "<init>") (hg : GoodIn (mW M) (mW M2)) (hl : Cond.methodLink (mY M).cls idx (mY M2) ∈ mW M) (hin : Cond.instanceMethod (mY M2) ∈ mW M) (hini : Cond.initialized (mY M2).cls ∈ mW M) (hs : st = As.reverse ++ .ref a :: rest) (hst : (rest.map fun v => v.category).sum ≤ 8) (d : decode (mC M) pc = .ok (.invokespecial idx, 3))
    (kk : ∀ (v : Option Value) (h' : XH), P2 v h' → AX w M (k + mmc M2) (n + mms M2) (pc + 3) L (v.toList ++ rest) h' P) : AX w M k n pc L st h P := by
  subst hs
  intro R p l e s m args below meth c H locs ls Q hR hX hH hS hL hw hE
  subst hR
  obtain ⟨c1, c2, c3, c4, c5⟩ := hc
  rw [hr] at c1
  have hts := hX.2.2.2.2.1
  have hrun := va_runI (meth := meth) (below := below) (e := e) (cells := k) (slots := n) (locs := locs) (As := As.map (xv w)) (rest := rest.map (xv w)) (g := F0 m pc ls ((As.reverse ++ .ref a :: rest).map (xv w))) ⟨hX.1, hX.2.1, hX.2.2.1, hX.2.2.2.1, hX.2.2.2.2.1⟩ (hM l)
    (cwI (R := mRm M) As.length hts hg c1 rfl rfl (hts _ hini) (hts _ hl) (hts _ hin) hnm c2 c3)
    ⟨XB.blind _ _ _, fun U hU hW => ⟨rfl, by rw [hU]; exact hH, hX.2.2.2.2.2.2.2.2.at hS hU hW⟩⟩ rfl (by simp) (hL.1.trans rfl) (by simp [xv]) (lv_room (by rw [xcats]; exact hst)) d ⟨c4, c5⟩
  refine xcall hrun hS (fun v h' H1 locs1 h1 h2 h3 => ?_)
  rw [xtoList]
  exact kk v h' h1 _ p l e s m args below meth c H1 locs1 ls Q rfl hX h2 h3 hL hw hE
/-- a private constructor of a nest mate -/
theorem AX.callIN {ws2 : List Cond} {a idx : Nat} {host : String} {As rest : List Value} (hM : CA w M2 (.ref a :: As) h P2) (hc : XCall M M2 As.length k n ws2) (hr : mR M2 = none) (hnm : (mY M2).name = "<init>") (hg : GoodIn (mW M) (mW M2)) (hl : ∀ U : State, XN U → va_Nw (.methodLinkNest (mY M).cls idx (mY M2) host) U) (hin : Cond.instanceMethod (mY M2) ∈ mW M) (hini : Cond.initialized (mY M2).cls ∈ mW M) (hs : st = As.reverse ++ .ref a :: rest) (hst : (rest.map fun v => v.category).sum ≤ 8) (d : decode (mC M) pc = .ok (.invokespecial idx, 3))
    (kk : ∀ (v : Option Value) (h' : XH), P2 v h' → AX w M (k + mmc M2) (n + mms M2) (pc + 3) L (v.toList ++ rest) h' P) : AX w M k n pc L st h P := by
  subst hs
  intro R p l e s m args below meth c H locs ls Q hR hX hH hS hL hw hE
  subst hR
  obtain ⟨c1, c2, c3, c4, c5⟩ := hc
  rw [hr] at c1
  have hts := hX.2.2.2.2.1
  have hrun := va_runIN (meth := meth) (below := below) (e := e) (cells := k) (slots := n) (locs := locs) (As := As.map (xv w)) (rest := rest.map (xv w)) (g := F0 m pc ls ((As.reverse ++ .ref a :: rest).map (xv w))) ⟨hX.1, hX.2.1, hX.2.2.1, hX.2.2.2.1, hX.2.2.2.2.1⟩ (hM l)
    ⟨va_cnB (R := mRm M) As.length hts hg c1 rfl rfl (hl s hX.2.2.2.2.2.2.2.2.2.2.2) (hts _ hini) c2 c3, hnm, hts _ hin⟩
    ⟨XB.blind _ _ _, fun U hU hW => ⟨rfl, by rw [hU]; exact hH, hX.2.2.2.2.2.2.2.2.at hS hU hW⟩⟩ rfl (by simp) (hL.1.trans rfl) (by simp [xv]) (lv_room (by rw [xcats]; exact hst)) d ⟨c4, c5⟩
  refine xcall hrun hS (fun v h' H1 locs1 h1 h2 h3 => ?_)
  rw [xtoList]
  exact kk v h' h1 _ p l e s m args below meth c H1 locs1 ls Q rfl hX h2 h3 hL hw hE
/-- Object's constructor -/
theorem AX.objInit {a idx : Nat} (hl : Cond.methodLink (mY M).cls idx objectInit ∈ mW M) (hi : Cond.instanceMethod objectInit ∈ mW M) (hc : Cond.code objectInit ⟨#[0xb1]⟩ 1 none ∈ mW M) (hf : 1 ≤ mfr M) (hlo : (st.map fun v => v.category).sum + 12 ≤ mlo M) (d : decode (mC M) pc = .ok (.invokespecial idx, 3))
    (kk : AX w M k n (pc + 3) L st h P) : AX w M k n pc L (.ref a :: st) h P := by
  intro R p l e s m args below meth c H locs ls Q hR hX hH hS hL hw hE
  subst hR
  have hts := hX.2.2.2.2.1
  refine W.objInit hX.1 hX.2.1 hX.2.2.2.1 (hts _ hl) (hts _ hi) (hts _ hc) (g := F0 m pc ls ((.ref a :: st).map (xv w))) rfl (hL.1.trans hX.2.2.1.symm) (a := w.1 + a) rfl d hf ?_ ?_
  · show 2 * 0 + _ + 12 ≤ _
    rw [xcats]
    show 2 * 0 + _ + 12 ≤ mlo M
    omega
  · exact kk _ p l e s m args below meth c H locs ls Q rfl hX hH hS hL hw hE
end XCALL
