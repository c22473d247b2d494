/-! THE CLAIM OUT OF ONE WALK OF THE LAW'S BODY. Your part is whole_start (and what it stands on); all else here is the same for every law, but numbers. -/
def R_law : String := "DartMindLaw"
def lw_P (b : Addr) (xs : List Int32) (args : Array Value) (s : State) : Prop := args = #[.ref b] ∧ s.IntsAt b xs ∧ xs.length ≤ 2560 ∧ (Jvm.Cond.and given_1 narrow_1).before args s = true
/-- what a walk over the start with the record d0 says of its end, said of the start itself -/
theorem lw_closed {s t : State} {o : Outcome} {d0 : Drawn} {L : List Loc} {k n : Nat} (hd0 : s.drawn.sameBut d0 lw_cs) (hv : ∃ v, o = .returned v) (hW : (s.setDrawn d0).WarmedH t.vm) (hs : (s.setDrawn d0).sameButNew ({ t with vm := s.vm } : State) L k n) : State.butDraws s t lw_cs (fun t1 => Framed s o t1 L k n) := by
  have h2 : t.drawn = d0 := congrArg State.drawn hs.1
  refine ⟨⟨hv, hW, State.sameButNew.setDrawn hs s.drawn⟩, ?_, by decide⟩
  rw [h2]
  exact hd0
def lw_Q (_ : Array Value) (s : State) (o : Outcome) (t : State) : Prop := o = .returned (some (.int 1)) ∧ State.butDraws s t lw_cs (fun t1 => Framed s o t1 [] 600000 7302250)
def lw_Z (below : List Frame) (a : Array Value) (s : State) : State → Prop := fun t => ∃ o, t.status = .running ∧ Ended t below o ∧ lw_Q a s o t
/-- the law's own end, with 1 on the stack, nothing written that was there before, its room as the claim has it; d0: the record of draws at this point (at the entry s.drawn: begin with 'refine W.base ?_' and 'have hd0 := Drawn.sameBut.refl s.drawn lw_cs') -/
theorem lw_ret {p : Program} {l : Launch} {e : Env} {s : State} {m : MethodId} {below : List Frame} {meth : Method} {c : Code} {b : Nat} {d0 : Drawn} (hd0 : s.drawn.sameBut d0 lw_cs) (hx : p.tables.exec = Jvm.exec) (hb : c.code = code) (hr : meth.sig.returnType = ret) (hlocks : meth.locks = false) {pc : Nat} {H : Heap} {ls : Array Slot} (hdg : decode code pc = .ok (.ireturn, 1)) : W p l e room_1 (s.setDrawn d0) m #[Value.ref b] below meth c H [] 600000 7302250 (lw_Z below #[Value.ref b] s) (F0 m pc ls [.int 1]) := by
  intro T hT X
  obtain ⟨fs, hret, hrun, hended, hW, hframe⟩ := X.leave (v := some (.int 1)) (hlocks := hlocks) (fun h => by rw [hr] at h; cases h)
  have hmeth' : T.vm.method? m = some meth := X.method'
  refine ⟨T.setFrames fs, ?_, .returned (some (.int 1)), hrun, hended, rfl, lw_closed hd0 ⟨_, rfl⟩ hW hframe⟩
  jvm_step X.here [X.here.top, hx, hb, hdg, hmeth', hr, ret, narrow_b1]
  (try refine ⟨rfl, ?_⟩); (try refine ⟨rfl, ?_⟩)
  first | (intro acts; rw [hret _ acts rfl rfl rfl]) | rw [hret _ _ rfl rfl rfl]
  exact Steps.refl _
/-- what holds at the law's entry: the machine, the code, the tables' words (any of lw_tbl by 'hts w (by decide +kernel)'), the script of L ints xs at the cell b, what the Statement gives of the start (any of its parts by flat_of_before) -/
def lw_At (p : Program) (s : State) (m : MethodId) (meth : Method) (c : Code) (b L : Nat) (xs : Nat → Int32) : Prop :=
  p.tables.exec = Jvm.exec ∧ c.code = code ∧ meth.sig.returnType = ret ∧ c.maxLocals = 4 ∧ s.vm.findClass R_law = some m.cls ∧ (∀ w ∈ lw_tbl, w.before #[Value.ref b] s = true) ∧ va_X b L xs s s.heap ∧ b < s.heap.size ∧ meth.locks = false ∧ (Jvm.Cond.and given_1 narrow_1).before #[Value.ref b] s = true
theorem uL_law_X1 : ∀ x ∈ u_ws RX1 TX1 4, x ∈ mW M_L_law := fun x hx => (goodIn_r (big := mW M_L_law) (u_ws RX1 TX1 4) [177, 179, 181, 183] (by decide +kernel) (by decide +kernel) x hx).1
theorem uL_law_X2 : ∀ x ∈ u_ws RX2 TX2 5, x ∈ mW M_L_law := fun x hx => (goodIn_r (big := mW M_L_law) (u_ws RX2 TX2 5) [308, 310, 312, 314, 316] (by decide +kernel) (by decide +kernel) x hx).1
theorem uL_law_X3 : ∀ x ∈ u_ws RX3 TX3 8, x ∈ mW M_L_law := fun x hx => (goodIn_r (big := mW M_L_law) (u_ws RX3 TX3 8) [383, 385, 387, 389, 391, 393, 395, 397] (by decide +kernel) (by decide +kernel) x hx).1
theorem uL_law_X4 : ∀ x ∈ u_ws RX4 TX4 13, x ∈ mW M_L_law := fun x hx => (goodIn_r (big := mW M_L_law) (u_ws RX4 TX4 13) [230, 232, 234, 236, 238, 240, 242, 244, 246, 248, 250, 252, 254] (by decide +kernel) (by decide +kernel) x hx).1
theorem uL_law_X5 : ∀ x ∈ u_ws RX5 TX5 2, x ∈ mW M_L_law := fun x hx => (goodIn_r (big := mW M_L_law) (u_ws RX5 TX5 2) [435, 437] (by decide +kernel) (by decide +kernel) x hx).1
theorem uL_law_X6 : ∀ x ∈ u_ws RX6 TX6 6, x ∈ mW M_L_law := fun x hx => (goodIn_r (big := mW M_L_law) (u_ws RX6 TX6 6) [346, 348, 350, 352, 354, 356] (by decide +kernel) (by decide +kernel) x hx).1
theorem uL_law_X7 : ∀ x ∈ u_ws RX7 TX7 9, x ∈ mW M_L_law := fun x hx => (goodIn_r (big := mW M_L_law) (u_ws RX7 TX7 9) [275, 277, 279, 281, 283, 285, 287, 289, 291] (by decide +kernel) (by decide +kernel) x hx).1
theorem uL_law_X8 : ∀ x ∈ u_ws RX8 TX8 3, x ∈ mW M_L_law := fun x hx => (goodIn_r (big := mW M_L_law) (u_ws RX8 TX8 3) [453, 455, 457] (by decide +kernel) (by decide +kernel) x hx).1
theorem uL_law_X9 : ∀ x ∈ u_ws RX9 TX9 3, x ∈ mW M_L_law := fun x hx => (goodIn_r (big := mW M_L_law) (u_ws RX9 TX9 3) [136, 138, 140] (by decide +kernel) (by decide +kernel) x hx).1
theorem uL_law_X10 : ∀ x ∈ u_ws RX10 TX10 5, x ∈ mW M_L_law := fun x hx => (goodIn_r (big := mW M_L_law) (u_ws RX10 TX10 5) [414, 416, 418, 420, 422] (by decide +kernel) (by decide +kernel) x hx).1
theorem RS.tr {h h' : XH} (he : RS h) (H : ∀ k, k < 87 → h'.2 k = h.2 k) : RS h' := ⟨(H _ (by omega)).trans he.1, he.2.1.tr (H _ (by omega)), he.2.2.1.tr (H _ (by omega)), he.2.2.2.1.tr (H _ (by omega)), he.2.2.2.2.1.tr (H _ (by omega)), he.2.2.2.2.2.tr (H _ (by omega))⟩
/-- the class's cells as they were, whatever stands behind them -/
theorem CSo.low {h h' : XH} {s : SS} {o : Nat} {a b : Nat × Nat} (c : CSo h s o a b) (hn : 87 ≤ h'.1) (H : ∀ k, k < 87 → h'.2 k = h.2 k) : CSo h' s o a b := by
  have e : ∀ {k : Nat} {z : va_E}, k < 87 → h.2 k = z → h'.2 k = z := fun hk hz => (H _ hk).trans hz
  obtain ⟨sz, kn, f1, f2, f3⟩ := c.fi
  obtain ⟨y, a1, X, ⟨t1, t2, t3, t4, t5⟩, t6⟩ := c.tp
  obtain ⟨⟨cn, w1⟩, w2⟩ := c.rw
  obtain ⟨r0, r1, r2, r3, r4, e0, e1, e2, e3, e4, e5⟩ := c.rk
  refine ⟨hn, e (by omega) c.dm, c.ru.tr (fun k _ _ => H k (by omega)), c.fa.tr (fun k _ _ => H k (by omega)), c.m0.tr (fun k _ _ => H k (by omega)), c.m1.tr (fun k _ _ => H k (by omega)), c.rs.tr H,
    ⟨⟨cn, e (by omega) w1⟩, fun u hu => (w2 u hu).imp fun _ z => z.imp fun _ z => ⟨e (by omega) z.1, e (by omega) z.2⟩⟩, ⟨r0, r1, r2, r3, r4, e (by omega) e0, e (by omega) e1, e (by omega) e2, e (by omega) e3, e (by omega) e4, e5⟩,
    ⟨sz, kn, e (by omega) f1, f2.tr (H _ (by omega)), fun k hk => (f3 k hk).imp fun _ z => ⟨e (by omega) z.1, z.2⟩⟩, c.row.imp fun _ z => e (by omega) z, c.lg.tr (fun k _ _ => H k (by omega)), c.pi.tr (fun k _ _ => H k (by omega)),
    ⟨y, a1, X, ⟨e (by omega) t1, t2, t3, t4.imp fun _ z => ⟨e (by omega) z.1, z.2⟩, t5.imp fun _ z => ⟨e (by omega) z.1, z.2⟩⟩, t6⟩, ⟨e (by omega) c.pt.1, c.pt.2.1, c.pt.2.2.imp fun _ z => ⟨e (by omega) z.1, z.2⟩⟩, c.rr.tr (H _ (by omega)), fun k hk => ?_, c.ro.imp fun _ z => e (by omega) z⟩
  obtain ⟨kd, sz, f, ⟨q1, q2⟩, q3⟩ := c.rq k hk
  exact ⟨kd, sz, f, ⟨e (by omega) q1, e (by omega) q2⟩, q3⟩
theorem LV0 : LV (sq ss0) (12 * 0) 1 (60, 80) (60, 80) := by
  refine ⟨by decide, by decide, by decide, rfl, rfl, rfl, rfl, rfl, fun i hi => ?_, ⟨301, rfl, by decide, by decide⟩, fun i hi => ⟨0, ?_, by decide⟩, fun i hi => ⟨0, ?_, by decide⟩⟩
  · rcases hi with rfl | rfl | rfl
    · exact ⟨301, rfl, by decide, by decide⟩
    · exact ⟨301, rfl, by decide, by decide⟩
    · exact ⟨301, rfl, by decide, by decide⟩
  · rcases hi with rfl | rfl <;> rfl
  · rcases hi with rfl | rfl <;> rfl
theorem c_law (w : XW) {L0 : Nat} {xs : Nat → Int32} (hL0 : L0 ≤ 2560) (h : XH) (hn : h.1 = 0) : AZ (ZL w L0 xs) w M_L_law 0 0 0 [.retAddr 0, .null, .null, .null] [] h (fun v _ => v = some (.int (nI 1))) := by
  refine AZ.new (pc := 0) (S := 0) (ci := 10) (T := TX11) (ty := tyX11) (fs := [.null, .null, .null, .null, .null, .null, .null, .int (nI 0), .null, .null, .null, .null]) hn rfl uL_law_X11 tyX11_ok mL_X11.1 mL_X11.2.1 mL_X11.2.2.1 dfX11 (by decide) (by decide) dL_law_0 ?_
  refine AZ.dup (pc := 3) dL_law_3 rfl ?_
  refine AZ.callI (pc := 4) (M2 := M_X11_init) (As := []) (rest := [.ref 0]) (ws2 := (mW M_X11_init).tail) (c_iClass w _ rfl (xnew_same _ _ _)) ⟨rfl, hd_X11_init, ⟨by decide, by decide⟩, by decide, by decide⟩ rfl rfl gL_law_X11_init mL_X11.2.2.2.1 mL_X11.2.2.2.2 mL_X11.2.2.1 rfl (Nat.le_of_ble_eq_true rfl) dL_law_4 ?_
  rintro _ h1 ⟨rfl, n1, C1⟩
  show AZ (ZL w L0 xs) w M_L_law 87 11931 7 [.retAddr 0, .null, .null, .null] [.ref 0] _ _
  refine AZ.astore_n (pc := 7) (L' := [.retAddr 0, .ref 0, .null, .null]) dL_law_7 (by decide) rfl ?_
  refine AZ.new (pc := 8) (S := 87) (ci := 11) (T := TX12) (ty := tyX12) (fs := [.null, .null, .null, .int (nI 0), .int (nI 0), .null, .null, .null, .null, .null, .null, .null, .null, .null, .null, .null, .int (nI 0), .null, .null, .null, .null, .null, .null, .null, .int (nI 0), .null, .int (nI 0), .null, .null, .int (nI 0), .null, .int (nI 0), .int (nI 0), .int (nI 0), .null, .int (nI 0), .null, .null, .null, .null]) n1 rfl uL_law_X12 tyX12_ok mL_X12.1 mL_X12.2.1 mL_X12.2.2.1 dfX12 (by decide) (by decide) dL_law_8 ?_
  refine AZ.dup (pc := 11) dL_law_11 rfl ?_
  refine AZ.callI (pc := 12) (M2 := M_X12_init) (As := []) (rest := [.ref 87]) (ws2 := (mW M_X12_init).tail) (c_iModel w _ rfl (xnew_same _ _ _)) ⟨rfl, hd_X12_init, ⟨by decide, by decide⟩, by decide, by decide⟩ rfl rfl gL_law_X12_init mL_X12.2.2.2.1 mL_X12.2.2.2.2 mL_X12.2.2.1 rfl (Nat.le_of_ble_eq_true rfl) dL_law_12 ?_
  rintro _ h2 ⟨rfl, n2, o2, M2⟩
  show AZ (ZL w L0 xs) w M_L_law 118 19112 15 [.retAddr 0, .ref 0, .null, .null] [.ref 87] _ _
  refine AZ.astore_n (pc := 15) (L' := [.retAddr 0, .ref 0, .ref 87, .null]) dL_law_15 (by decide) rfl ?_
  refine AZ.iconst (pc := 16) (v := nI 0) dL_law_16 (by decide) ?_
  refine AZ.istore_n (pc := 17) (L' := [.retAddr 0, .ref 0, .ref 87, .int (nI (5 * 0))]) dL_law_17 (by decide) rfl ?_
  have C2 : CSo h2 ss0 1 (60, 80) (60, 80) := C1.low (by omega) (fun k hk => (o2 k hk).trans (xnew_ne (by omega)))
  have L2 : LV (sq ss0) (12 * 0) 1 (60, 80) (60, 80) := LV0
  exact l_law w (xs := xs) hL0 _ (fun _ => rfl) 700 0 h2 (by omega) ⟨by omega, ss0, 1, (60, 80), (60, 80), C2, M2, L2, fun r => trivial, fun q => absurd q (by decide)⟩
theorem whole_start {p : Program} {e : Env} {s : State} {m : MethodId} {below : List Frame} {meth : Method} {c : Code} (l : Launch) (hflags : l.flags = flags0) {b L : Nat} {xs : Nat → Int32} (hL : L ≤ 2560) (hnm : meth.name = (mY M_L_law).name) (C0 : lw_At p s m meth c b L xs) : W p l e room_1 s m #[Value.ref b] below meth c s.heap [] 0 0 (lw_Z below #[Value.ref b] s) (entryFrame m ([Value.ref b] : List Value).toArray 4) := by
  obtain ⟨hx, hb, hr, hml, hown, hts, hX, hbl, hlocks, hgv⟩ := id C0
  obtain ⟨c0, iS0, hKn0⟩ := u_known (C := RX1) (T := TX1) (N := 4) (n := 4) hts uL_law_X1 (hts (.instantiable RX1 4) (List.mem_of_getElem? (i := 146) (by decide +kernel)))
  obtain ⟨c1, iS1, hKn1⟩ := u_known (C := RX2) (T := TX2) (N := 5) (n := 5) hts uL_law_X2 (hts (.instantiable RX2 5) (List.mem_of_getElem? (i := 295) (by decide +kernel)))
  obtain ⟨c2, iS2, hKn2⟩ := u_known (C := RX3) (T := TX3) (N := 8) (n := 8) hts uL_law_X3 (hts (.instantiable RX3 8) (List.mem_of_getElem? (i := 320) (by decide +kernel)))
  obtain ⟨c3, iS3, hKn3⟩ := u_known (C := RX4) (T := TX4) (N := 13) (n := 13) hts uL_law_X4 (hts (.instantiable RX4 13) (List.mem_of_getElem? (i := 188) (by decide +kernel)))
  obtain ⟨c4, iS4, hKn4⟩ := u_known (C := RX5) (T := TX5) (N := 2) (n := 2) hts uL_law_X5 (hts (.instantiable RX5 2) (List.mem_of_getElem? (i := 426) (by decide +kernel)))
  obtain ⟨c5, iS5, hKn5⟩ := u_known (C := RX6) (T := TX6) (N := 6) (n := 6) hts uL_law_X6 (hts (.instantiable RX6 6) (List.mem_of_getElem? (i := 327) (by decide +kernel)))
  obtain ⟨c6, iS6, hKn6⟩ := u_known (C := RX7) (T := TX7) (N := 9) (n := 9) hts uL_law_X7 (hts (.instantiable RX7 9) (List.mem_of_getElem? (i := 259) (by decide +kernel)))
  obtain ⟨c7, iS7, hKn7⟩ := u_known (C := RX8) (T := TX8) (N := 3) (n := 3) hts uL_law_X8 (hts (.instantiable RX8 3) (List.mem_of_getElem? (i := 442) (by decide +kernel)))
  obtain ⟨c8, iS8, hKn8⟩ := u_known (C := RX9) (T := TX9) (N := 3) (n := 3) hts uL_law_X9 (hts (.instantiable RX9 3) (List.mem_of_getElem? (i := 109) (by decide +kernel)))
  obtain ⟨c9, iS9, hKn9⟩ := u_known (C := RX10) (T := TX10) (N := 5) (n := 5) hts uL_law_X10 (hts (.instantiable RX10 5) (List.mem_of_getElem? (i := 401) (by decide +kernel)))
  obtain ⟨c10, iS10, hKn10⟩ := u_known (C := RX11) (T := TX11) (N := 12) (n := 12) hts uL_law_X11 (hts (.instantiable RX11 12) (List.mem_of_getElem? (i := 101) (by decide +kernel)))
  obtain ⟨c11, iS11, hKn11⟩ := u_known (C := RX12) (T := TX12) (N := 40) (n := 40) hts uL_law_X12 (hts (.instantiable RX12 40) (List.mem_of_getElem? (i := 964) (by decide +kernel)))
  obtain ⟨D, hKc⟩ : ∃ D : va_G, ∀ (k : Nat) (q : vw_C), vwCl[k]? = some q → u_Kn s q.1 q.2.1 q.2.2 (D.1 k) (D.2 k) := by
    refine ⟨(fun k => if k = 0 then c0 else if k = 1 then c1 else if k = 2 then c2 else if k = 3 then c3 else if k = 4 then c4 else if k = 5 then c5 else if k = 6 then c6 else if k = 7 then c7 else if k = 8 then c8 else if k = 9 then c9 else if k = 10 then c10 else c11, fun k => if k = 0 then iS0 else if k = 1 then iS1 else if k = 2 then iS2 else if k = 3 then iS3 else if k = 4 then iS4 else if k = 5 then iS5 else if k = 6 then iS6 else if k = 7 then iS7 else if k = 8 then iS8 else if k = 9 then iS9 else if k = 10 then iS10 else iS11), ?_⟩
    intro k q hq
    match k, hq with
    | 0, hq => cases hq; exact hKn0
    | 1, hq => cases hq; exact hKn1
    | 2, hq => cases hq; exact hKn2
    | 3, hq => cases hq; exact hKn3
    | 4, hq => cases hq; exact hKn4
    | 5, hq => cases hq; exact hKn5
    | 6, hq => cases hq; exact hKn6
    | 7, hq => cases hq; exact hKn7
    | 8, hq => cases hq; exact hKn8
    | 9, hq => cases hq; exact hKn9
    | 10, hq => cases hq; exact hKn10
    | 11, hq => cases hq; exact hKn11
    | k + 12, hq => simp [vwCl] at hq
  obtain ⟨a0, ka0, cp0, f0, g0, q0⟩ := Cond.arrayClass_spec (hts (.arrayClass .int) (List.mem_of_getElem? (i := 143) (by decide +kernel)))
  obtain ⟨a1, ka1, cp1, f1, g1, q1⟩ := Cond.arrayClass_spec (hts (.arrayClass .boolean) (List.mem_of_getElem? (i := 144) (by decide +kernel)))
  obtain ⟨a2, ka2, cp2, f2, g2, q2⟩ := Cond.arrayClass_spec (hts (.arrayClass .double) (List.mem_of_getElem? (i := 257) (by decide +kernel)))
  have o3 := va_AOA.of (ty := .int) (hts (.arrayOver (.array .int)) (List.mem_of_getElem? (i := 196) (by decide +kernel)))
  obtain ⟨cp3, a3, ka3, f3, -, g3, q3, nm3⟩ := o3.spec
  have o4 := va_AOA.of (ty := .double) (hts (.arrayOver (.array .double)) (List.mem_of_getElem? (i := 194) (by decide +kernel)))
  obtain ⟨cp4, a4, ka4, f4, -, g4, q4, nm4⟩ := o4.spec
  have o5 := hts (.arrayOver (.object "DartMind$Mind")) (List.mem_of_getElem? (i := 187) (by decide +kernel))
  obtain ⟨cp5, a5, ka5, f5, -, g5, q5, nm5⟩ := Cond.arrayOver_spec o5
  have o6 := hts (.arrayOver (.object "DartMind$Player")) (List.mem_of_getElem? (i := 326) (by decide +kernel))
  obtain ⟨cp6, a6, ka6, f6, -, g6, q6, nm6⟩ := Cond.arrayOver_spec o6
  have o7 := hts (.arrayOver (.object "DartMind$Rack")) (List.mem_of_getElem? (i := 441) (by decide +kernel))
  obtain ⟨cp7, a7, ka7, f7, -, g7, q7, nm7⟩ := Cond.arrayOver_spec o7
  have hs := flat_of_before _ hgv
  have hA : ∀ a : Nat, a < s.heap.size → ¬ s.heap.size ≤ a := fun _ h => Nat.not_le.mpr h
  obtain ⟨t, ht, hT⟩ := va_Tof (tm := (.static "DartMind$Board" "RING" "[I")) (ty := .int) (N := 20) (f := fun j => .int (ringF j)) (A := fun q => s.heap.size ≤ q) (by decide) (hs (Cond.arrayOf (.static "DartMind$Board" "RING" "[I") .int) (by decide +kernel)) (va_eqt (hs (Cond.eq (.length (.static "DartMind$Board" "RING" "[I")) (.int 20)) (by decide +kernel))) (fun j hj => by
    rcases (show j = 0 ∨ j = 1 ∨ j = 2 ∨ j = 3 ∨ j = 4 ∨ j = 5 ∨ j = 6 ∨ j = 7 ∨ j = 8 ∨ j = 9 ∨ j = 10 ∨ j = 11 ∨ j = 12 ∨ j = 13 ∨ j = 14 ∨ j = 15 ∨ j = 16 ∨ j = 17 ∨ j = 18 ∨ j = 19 by omega) with rfl | rfl | rfl | rfl | rfl | rfl | rfl | rfl | rfl | rfl | rfl | rfl | rfl | rfl | rfl | rfl | rfl | rfl | rfl | rfl
    · exact va_eqt (z := 20) (hs (Cond.eq (.elem (.static "DartMind$Board" "RING" "[I") (.int 0)) (.int 20)) (by decide +kernel))
    · exact va_eqt (z := 1) (hs (Cond.eq (.elem (.static "DartMind$Board" "RING" "[I") (.int 1)) (.int 1)) (by decide +kernel))
    · exact va_eqt (z := 18) (hs (Cond.eq (.elem (.static "DartMind$Board" "RING" "[I") (.int 2)) (.int 18)) (by decide +kernel))
    · exact va_eqt (z := 4) (hs (Cond.eq (.elem (.static "DartMind$Board" "RING" "[I") (.int 3)) (.int 4)) (by decide +kernel))
    · exact va_eqt (z := 13) (hs (Cond.eq (.elem (.static "DartMind$Board" "RING" "[I") (.int 4)) (.int 13)) (by decide +kernel))
    · exact va_eqt (z := 6) (hs (Cond.eq (.elem (.static "DartMind$Board" "RING" "[I") (.int 5)) (.int 6)) (by decide +kernel))
    · exact va_eqt (z := 10) (hs (Cond.eq (.elem (.static "DartMind$Board" "RING" "[I") (.int 6)) (.int 10)) (by decide +kernel))
    · exact va_eqt (z := 15) (hs (Cond.eq (.elem (.static "DartMind$Board" "RING" "[I") (.int 7)) (.int 15)) (by decide +kernel))
    · exact va_eqt (z := 2) (hs (Cond.eq (.elem (.static "DartMind$Board" "RING" "[I") (.int 8)) (.int 2)) (by decide +kernel))
    · exact va_eqt (z := 17) (hs (Cond.eq (.elem (.static "DartMind$Board" "RING" "[I") (.int 9)) (.int 17)) (by decide +kernel))
    · exact va_eqt (z := 3) (hs (Cond.eq (.elem (.static "DartMind$Board" "RING" "[I") (.int 10)) (.int 3)) (by decide +kernel))
    · exact va_eqt (z := 19) (hs (Cond.eq (.elem (.static "DartMind$Board" "RING" "[I") (.int 11)) (.int 19)) (by decide +kernel))
    · exact va_eqt (z := 7) (hs (Cond.eq (.elem (.static "DartMind$Board" "RING" "[I") (.int 12)) (.int 7)) (by decide +kernel))
    · exact va_eqt (z := 16) (hs (Cond.eq (.elem (.static "DartMind$Board" "RING" "[I") (.int 13)) (.int 16)) (by decide +kernel))
    · exact va_eqt (z := 8) (hs (Cond.eq (.elem (.static "DartMind$Board" "RING" "[I") (.int 14)) (.int 8)) (by decide +kernel))
    · exact va_eqt (z := 11) (hs (Cond.eq (.elem (.static "DartMind$Board" "RING" "[I") (.int 15)) (.int 11)) (by decide +kernel))
    · exact va_eqt (z := 14) (hs (Cond.eq (.elem (.static "DartMind$Board" "RING" "[I") (.int 16)) (.int 14)) (by decide +kernel))
    · exact va_eqt (z := 9) (hs (Cond.eq (.elem (.static "DartMind$Board" "RING" "[I") (.int 17)) (.int 9)) (by decide +kernel))
    · exact va_eqt (z := 12) (hs (Cond.eq (.elem (.static "DartMind$Board" "RING" "[I") (.int 18)) (.int 12)) (by decide +kernel))
    · exact va_eqt (z := 5) (hs (Cond.eq (.elem (.static "DartMind$Board" "RING" "[I") (.int 19)) (.int 5)) (by decide +kernel))) hA
  have hZr := va_Zref (A := fun q => s.heap.size ≤ q) (hts (.laysStatic "DartMind$Board" "RING" "[I") (List.mem_of_getElem? (i := 163) (by decide +kernel))) (hts (.initialized "DartMind$Board") (List.mem_of_getElem? (i := 83) (by decide +kernel))) ht hA
  obtain ⟨w, hw⟩ : ∃ w : XW, w = (s.heap.size, t, b, D, fun k => if k = 0 then a0 else if k = 1 then a1 else if k = 2 then a2 else if k = 3 then a3 else if k = 4 then a4 else if k = 5 then a5 else if k = 6 then a6 else a7) := ⟨_, rfl⟩
  have hK : va_K w.2.2.2.1 vwCl (xtys w) s := by
    subst hw
    refine ⟨hKc, fun k q hq => ?_⟩
    match k, hq with
    | 0, hq => cases hq; exact ⟨fun n z => ⟨fun k h => (by cases h), ka0, g0, cp0, q0⟩, f0⟩
    | 1, hq => cases hq; exact ⟨fun n z => ⟨fun k h => (by cases h), ka1, g1, cp1, q1⟩, f1⟩
    | 2, hq => cases hq; exact ⟨fun n z => ⟨fun k h => (by cases h), ka2, g2, cp2, q2⟩, f2⟩
    | 3, hq => cases hq; exact ⟨fun n z => ⟨fun k h => (by cases h), ka3, g3, cp3, q3⟩, nm3⟩
    | 4, hq => cases hq; exact ⟨fun n z => ⟨fun k h => (by cases h), ka4, g4, cp4, q4⟩, nm4⟩
    | 5, hq => cases hq; exact ⟨fun n z => ⟨fun k h => (by cases h), ka5, g5, cp5, q5⟩, ka5, cp5, g5, q5, f5, nm5⟩
    | 6, hq => cases hq; exact ⟨fun n z => ⟨fun k h => (by cases h), ka6, g6, cp6, q6⟩, ka6, cp6, g6, q6, f6, nm6⟩
    | 7, hq => cases hq; exact ⟨fun n z => ⟨fun k h => (by cases h), ka7, g7, cp7, q7⟩, ka7, cp7, g7, q7, f7, nm7⟩
    | k + 8, hq => simp [xtys] at hq
  have hN : XN s := ⟨va_Nw.of rfl (hts _ (List.mem_of_getElem? (i := 328) (by decide +kernel))), va_Nw.of rfl (hts _ (List.mem_of_getElem? (i := 402) (by decide +kernel))), va_Nw.of rfl (hts _ (List.mem_of_getElem? (i := 427) (by decide +kernel))), va_Nw.of rfl (hts _ (List.mem_of_getElem? (i := 443) (by decide +kernel))), va_AO.of o5, va_AO.of o6, va_AO.of o7, o3, o4⟩
  have e1 : w.1 = s.heap.size := by rw [hw]
  have e2 : w.2.1 = t := by rw [hw]
  have e3 : w.2.2.1 = b := by rw [hw]
  have hXA : XA w = fun q => s.heap.size ≤ q := by funext q; show (w.1 ≤ q) = _; rw [e1]
  have hXR : XR w s := ⟨hK, by rw [e2, hXA]; exact hZr, by rw [e2, hXA]; exact hT, hN⟩
  have hl := XL.entry w [.retAddr 0] (n := 4) (Nat.le_of_ble_eq_true rfl)
  have hv : xv w (.retAddr 0) = .ref b := by show Value.ref (if (0 : Nat) = 0 then w.2.2.1 else w.2.1) = _; rw [if_pos rfl, e3]
  rw [List.map_singleton, hv] at hl
  rw [lg_entry_eq]
  have key := c_law w (L0 := L) (xs := xs) hL (0, fun _ => .inl (0, 0, .inl (fun _ => nI 0))) rfl
  refine key room_1 p l e s m #[Value.ref b] below meth c s.heap [] _ _ rfl ⟨hx, hb, hml, hown, hts, hr, hlocks, hnm, hXR⟩ ⟨by rw [e1]; rfl, fun k hk => absurd hk (Nat.not_lt_zero _)⟩ va_S.rf hl (by rw [e1]; exact Nat.le_refl _) ⟨by rw [e3]; exact hX, by rw [e3]; exact hbl, by rw [e3, e1]; exact hbl⟩ ?_
  rintro H' locs' ls' pc' st' v h' hret rfl - hS'
  have hd0 := Drawn.sameBut.refl s.drawn lw_cs
  rcases hret with ⟨r1, -, r3, -⟩ | ⟨x, ty, r1, r2, rfl, r4, d⟩ | ⟨x, r1, -, r4, -⟩ | ⟨x, r1, -, r4, -⟩
  · cases r3
  · have ex : x = nI 1 := (Value.int.inj (Option.some.inj r4)).symm
    subst ex
    refine va_forget (fun q hq => by have := hS'.2.2 q hq; rw [hXA] at this; exact this) ?_
    exact lw_ret (d0 := s.drawn) hd0 hx hb hr hlocks d
  · cases r4
  · cases r4
set_option maxHeartbeats 4000000 in
theorem lw_walk (l : Launch) (hflags : l.flags = flags0) (b : Addr) (xs : List Int32) : MetFree l x (headSpec (Jvm.Cond.code x code maxLocals ret :: tables_1) room_1) (lw_P b xs) (fun _ _ _ _ _ => True) lw_Q := by
  refine MetFree.of_bodyS (code := code) (maxLocals := maxLocals) (ret := ret) (by decide) ?_ ?_
  · intro args s m h hn
    obtain ⟨meth, c, h1, h2, h3, h4, h5, h6, -, -⟩ := Cond.code_spec hn (atoms_spec (ws := Jvm.Cond.code x code maxLocals ret :: tables_1) h _ List.mem_cons_self)
    exact ⟨meth, c, h1, h2, h3, h4, h5, h6⟩
  · intro p e s m args below meth c s₁ B hml0 hP _
    obtain ⟨rfl, hx, hbd, hgv⟩ := hP
    obtain ⟨scr, harrAt, hlist, hof, hsmall⟩ := hx
    obtain ⟨hcb, hkn, -, -⟩ := State.arrayAt?_spec harrAt
    have hown : s.vm.findClass R_law = some m.cls := findClass_of_methodNamed B.named
    have hts0 : ∀ c ∈ (Jvm.Cond.code x code maxLocals ret :: tables_1), c.before #[Value.ref b] s = true := atoms_spec (ws := Jvm.Cond.code x code maxLocals ret :: tables_1) B.pre
    have hts : ∀ w ∈ lw_tbl, w.before #[Value.ref b] s = true := k2_hts_sels lw_privs (fun w hw => hts0 w (List.mem_cons_of_mem _ hw)) lw_privs_ok
    have hml : c.maxLocals = 4 := B.maxLocals_eq (hts0 _ List.mem_cons_self)
    have X₀ : Stand p l e room_1 s m #[Value.ref b] below meth c s₁ [] 0 0 := Stand.of_body B
    have hh0 : s₁.heap = s.heap := by rw [B.state]; rfl
    have hsz : scr.slots.size = xs.length := by rw [← Array.length_toList, hlist, List.length_map]
    have hval : ∀ j : Nat, j < xs.length → scr.slots[j]? = some (.int (xs.getD j 0)) := fun j hj => by
      rw [← Array.getElem?_toList, hlist]
      simp [hj]
    have hbl : b < s.heap.size := (Array.getElem?_eq_some_iff.mp hcb).1
    have hX : va_X b xs.length (fun j => xs.getD j 0) s s.heap := ⟨scr, hcb, hof, hkn, hsz, hval⟩
    have K : W p l e room_1 s m #[Value.ref b] below meth c s₁.heap [] 0 0 (lw_Z below #[Value.ref b] s) (entryFrame m ([Value.ref b] : List Value).toArray 4) := by
      rw [hh0]
      exact whole_start l hflags hbd (name_of_methodNamed B.named B.method).1 ⟨B.exec, B.bytes, B.returns, hml, hown, hts, hX, hbl, B.notSynchronized, hgv⟩
    obtain ⟨t, a1, o, b1, b2, b3⟩ := K s₁ rfl X₀
    exact ⟨t, o, a1, b1, b2, b3⟩
theorem lw_pre_spec {args : Array Value} {s : State} (h : (Jvm.Cond.and given_1 narrow_1).before args s = true) (hr : rest_1_c.before args s = true) : ∃ (b : Addr) (xs : List Int32), lw_P b xs args s := by
  have hs := flat_of_before _ h
  have hq := flat_of_before _ hr
  have hc : (Cond.count 1).before args s = true := hs _ (by decide +kernel)
  have harr : (Cond.arrayOf (.arg 0) .int).before args s = true := hs _ (by decide +kernel)
  have hle : (Cond.le (.length (.arg 0)) (.int 2560)).before args s = true := hs _ (by decide +kernel)
  have hlen : (Cond.isInt (.length (.arg 0))).before args s = true := hq _ (by decide +kernel)
  have hall : (Cond.all (.arg 0) (.isInt (.elem (.arg 0) (.index 0)))).before args s = true := hq _ (by decide +kernel)
  obtain ⟨b, xs, hb, hx⟩ := State.ints_of_pre rfl harr hlen hall
  have hsm : xs.length < 2 ^ 31 := hx.choose_spec.2.2.2
  have hev : (Term.length (.arg 0)).eval args s none [] s = some (.int xs.length.toInt32) := hx.length_eval hb
  have hv := Cond.le_ints hev (show (Term.int 2560).eval args s none [] s = some (.int 2560) from rfl)
  have hd : xs.length.toInt32 ≤ 2560 := by
    simpa [Cond.before, Cond.holds, hv] using hle
  have hN : xs.length ≤ 2560 := (Int32.ofNat_le_ofNat hsm (by decide)).mp (show Int32.ofNat xs.length ≤ Int32.ofNat 2560 from hd)
  exact ⟨b, xs, Cond.one_arg hc (show args[0]? = some (.ref b) from hb), hx, hN, h⟩
theorem lw_comes (l : Launch) (hflags : l.flags = flags0) : Comes l x (Jvm.Cond.code x code maxLocals ret :: tables_1) room_1 (fun tb e args s => Calls_1 tb e args s ∧ rest_1 tb e args s ∧ Pre_1 tb e args s)
    (fun _ _ args s o t => lw_Q args s o t) := by
  intro p e ha hc hk s m args below hf hfit hheap happ hpre
  obtain ⟨b, xs, hP⟩ := lw_pre_spec hpre.2.2 hpre.2.1
  obtain ⟨k, o, h1, h2, h3, hQ⟩ := lw_walk l hflags b xs p e ha hc hk s m args below hf ((Spec.applies_iff_loose hf).mp happ).1 hP trivial
  exact ⟨k, o, h1, h2, h3, hQ⟩
theorem lw_frame {s t : State} {o : Outcome} {args : Array Value} (h : State.butDraws s t lw_cs (fun t1 => Framed s o t1 [] 600000 7302250)) :
    State.butDraws s t [Jvm.Choice.named "NaN.bits"] (fun t1 => Framed s o t1 (fieldLocs frame_1_writes args s ++ arrayLocs frame_1_arrays args s ++ staticLocs frame_1_statics s) 600000 7302250) := h
theorem lw_limb (L : Cond) (hL : ∀ (args : Array Value) (s t : State), L.after args s (.returned (some (.int 1))) t = true) :
    ArmFor flags0 classFile x code maxLocals ret World_1 tables_1 room_1 Calls_1 rest_1 Pre_1
      (fun tb e a s o t => postC L tb e a s o t ∧ State.butDraws s t [Jvm.Choice.named "NaN.bits"] (fun t1 => Framed s o t1 (fieldLocs frame_1_writes a s ++ arrayLocs frame_1_arrays a s ++ staticLocs frame_1_statics s) 600000 7302250)) := by
  intro l hflags _ _ p e ha hc hk s m args below hf hfit hheap happ hpre
  obtain ⟨k, o, h1, h2, h3, rfl, hF⟩ := lw_comes l hflags p e ha hc hk s m args below hf hfit hheap happ hpre
  exact ⟨k, _, h1, h2, h3, hL args s _, lw_frame hF⟩
theorem i_vc : Claimed_1_1 ∧ Claimed_1_2 := ⟨lw_limb limb_1_1 (fun args s t => by simp [limb_1_1, Cond.after, Cond.holds, Cond.value]), lw_limb limb_1_2 (fun args s t => Cond.after_iff.mpr (by
  first | (rw [show limb_1_2 = Cond.eq .result (.int 1) from rfl, Cond.eq_ints (x := 1) (y := 1) rfl rfl]; simp; done) | (simp [limb_1_2, Cond.value, Term.eval]; done)))⟩

