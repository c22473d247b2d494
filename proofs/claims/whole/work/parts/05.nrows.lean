/-! ===== ROWS over natural numbers ===== -/
theorem x31 {a : Nat} (h : a < 2147483648) : a < 2 ^ 31 := h
theorem lt_h {h : XH} {N a : Nat} (hn : h.1 = N) (ha : a < N) : a < h.1 := by rw [hn]; exact ha
theorem AX.topi {w : XW} {M : MD} {k n pc : Nat} {L st : List Value} {h : XH} {P : Option Value → XH → Prop} {x y : Int32} (e : x = y) (kk : AX w M k n pc L (.int y :: st) h P) : AX w M k n pc L (.int x :: st) h P := by rw [e]; exact kk
theorem AX.topd {w : XW} {M : MD} {k n pc : Nat} {L st : List Value} {h : XH} {P : Option Value → XH → Prop} {x y : UInt64} (e : x = y) (kk : AX w M k n pc L (.double y :: st) h P) : AX w M k n pc L (.double x :: st) h P := by rw [e]; exact kk
theorem AX.topl {w : XW} {M : MD} {k n pc : Nat} {L st : List Value} {h : XH} {P : Option Value → XH → Prop} {x y : Int64} (e : x = y) (kk : AX w M k n pc L (.long y :: st) h P) : AX w M k n pc L (.long x :: st) h P := by rw [e]; exact kk
theorem AX.topf {w : XW} {M : MD} {k n pc : Nat} {L st : List Value} {h : XH} {P : Option Value → XH → Prop} {x y : UInt32} (e : x = y) (kk : AX w M k n pc L (.float y :: st) h P) : AX w M k n pc L (.float x :: st) h P := by rw [e]; exact kk
theorem AX.atpc {w : XW} {M : MD} {k n pc : Nat} {L st : List Value} {h : XH} {P : Option Value → XH → Prop} {pc' : Nat} (e : pc = pc') (kk : AX w M k n pc' L st h P) : AX w M k n pc L st h P := by rw [e]; exact kk
theorem AX.atL {w : XW} {M : MD} {k n pc : Nat} {L st : List Value} {h : XH} {P : Option Value → XH → Prop} {L' : List Value} (e : L = L') (kk : AX w M k n pc L' st h P) : AX w M k n pc L st h P := by rw [e]; exact kk
theorem AX.ath {w : XW} {M : MD} {k n pc : Nat} {L st : List Value} {h : XH} {P : Option Value → XH → Prop} {h' : XH} (e : h = h') (kk : AX w M k n pc L st h' P) : AX w M k n pc L st h P := by rw [e]; exact kk
theorem AX.iaddN {w : XW} {M : MD} {k n pc : Nat} {L st : List Value} {h : XH} {P : Option Value → XH → Prop} {a b c : Nat} (d : decode (mC M) pc = .ok (.iadd, 1)) (hc : a + b = c) (kk : AX w M k n (pc + 1) L (.int (nI c) :: st) h P) : AX w M k n pc L (.int (nI b) :: .int (nI a) :: st) h P := by
  subst hc
  exact AX.iadd d (AX.topi (nI_add a b) kk)
theorem AX.imulN {w : XW} {M : MD} {k n pc : Nat} {L st : List Value} {h : XH} {P : Option Value → XH → Prop} {a b c : Nat} (d : decode (mC M) pc = .ok (.imul, 1)) (hc : a * b = c) (kk : AX w M k n (pc + 1) L (.int (nI c) :: st) h P) : AX w M k n pc L (.int (nI b) :: .int (nI a) :: st) h P := by
  subst hc
  exact AX.imul d (AX.topi (pk_mul a b) kk)
theorem AX.isubN {w : XW} {M : MD} {k n pc : Nat} {L st : List Value} {h : XH} {P : Option Value → XH → Prop} {a b c : Nat} (d : decode (mC M) pc = .ok (.isub, 1)) (hc : c + b = a) (kk : AX w M k n (pc + 1) L (.int (nI c) :: st) h P) : AX w M k n pc L (.int (nI b) :: .int (nI a) :: st) h P := by
  subst hc
  exact AX.isub d (AX.topi (by rw [pk_sub (Nat.le_add_left b c), Nat.add_sub_cancel]) kk)
theorem AX.idivN {w : XW} {M : MD} {k n pc : Nat} {L st : List Value} {h : XH} {P : Option Value → XH → Prop} {a b c : Nat} (d : decode (mC M) pc = .ok (.idiv, 1)) (ha : a < 2147483648) (h0 : 0 < b) (hb : b < 2147483648) (hc : a / b = c) (kk : AX w M k n (pc + 1) L (.int (nI c) :: st) h P) : AX w M k n pc L (.int (nI b) :: .int (nI a) :: st) h P := by
  subst hc
  exact AX.idiv d (nI_ne0 h0 hb) (AX.topi (pk_div ha h0 hb) kk)
theorem AX.iremN {w : XW} {M : MD} {k n pc : Nat} {L st : List Value} {h : XH} {P : Option Value → XH → Prop} {a b c : Nat} (d : decode (mC M) pc = .ok (.irem, 1)) (ha : a < 2147483648) (h0 : 0 < b) (hb : b < 2147483648) (hc : a % b = c) (kk : AX w M k n (pc + 1) L (.int (nI c) :: st) h P) : AX w M k n pc L (.int (nI b) :: .int (nI a) :: st) h P := by
  subst hc
  exact AX.irem d (nI_ne0 h0 hb) (AX.topi (pk_rem ha h0 hb) kk)
theorem AX.iincN {w : XW} {M : MD} {k n pc : Nat} {L st : List Value} {h : XH} {P : Option Value → XH → Prop} {i : Nat} {z : Int} {a c : Nat} {L' : List Value} (d : decode (mC M) pc = .ok (.iinc i z, 3)) (hx : L[i]? = some (.int (nI a))) (hv : nI a + Int32.ofInt z = nI c) (hn : i < mN M) (hl : st1 L i (.int (nI c)) = L') (kk : AX w M k n (pc + 3) L' st h P) : AX w M k n pc L st h P := AX.iinc d hx hv hn hl kk
theorem inc1 (a : Nat) : nI a + Int32.ofInt 1 = nI (a + 1) := nI_1 a
theorem dec1 (a : Nat) : nI (a + 1) + Int32.ofInt (-1) = nI a := pk_m1 a
theorem AX.icmp_ltN {w : XW} {M : MD} {k n pc : Nat} {L st : List Value} {h : XH} {P : Option Value → XH → Prop} {a b : Nat} {off : Int} {tgt : Nat} (d : decode (mC M) pc = .ok (.if_icmp .lt off, 3)) (ht : (pc : Int) + off = (tgt : Int)) (ha : a < 2147483648) (hb : b < 2147483648)
    (kt : a < b → AX w M k n tgt L st h P) (kf : b ≤ a → AX w M k n (pc + 3) L st h P) : AX w M k n pc L (.int (nI b) :: .int (nI a) :: st) h P :=
  AX.icmp_lt d ht (fun q => kt ((nI_ltI ha hb).mp q)) (fun q => kf (Nat.le_of_not_lt (fun z => q ((nI_ltI ha hb).mpr z))))
theorem AX.if_ltN {w : XW} {M : MD} {k n pc : Nat} {L st : List Value} {h : XH} {P : Option Value → XH → Prop} {a : Nat} {off : Int} {tgt : Nat} (d : decode (mC M) pc = .ok (.ifCond .lt off, 3)) (ht : (pc : Int) + off = (tgt : Int)) (ha : a < 2147483648)
    (kt : a < 0 → AX w M k n tgt L st h P) (kf : 0 ≤ a → AX w M k n (pc + 3) L st h P) : AX w M k n pc L (.int (nI a) :: st) h P := by
  have hb : (0 : Nat) < 2147483648 := by decide
  have e0 : nI 0 = 0 := rfl
  exact AX.if_lt d ht (fun q => by rw [← e0] at q; exact kt ((nI_ltI ha hb).mp q)) (fun q => by rw [← e0] at q; exact kf (Nat.le_of_not_lt (fun z => q ((nI_ltI ha hb).mpr z))))
theorem AX.icmp_geN {w : XW} {M : MD} {k n pc : Nat} {L st : List Value} {h : XH} {P : Option Value → XH → Prop} {a b : Nat} {off : Int} {tgt : Nat} (d : decode (mC M) pc = .ok (.if_icmp .ge off, 3)) (ht : (pc : Int) + off = (tgt : Int)) (ha : a < 2147483648) (hb : b < 2147483648)
    (kt : b ≤ a → AX w M k n tgt L st h P) (kf : a < b → AX w M k n (pc + 3) L st h P) : AX w M k n pc L (.int (nI b) :: .int (nI a) :: st) h P :=
  AX.icmp_ge d ht (fun q => kt ((nI_leI hb ha).mp q)) (fun q => kf (Nat.lt_of_not_le (fun z => q ((nI_leI hb ha).mpr z))))
theorem AX.if_geN {w : XW} {M : MD} {k n pc : Nat} {L st : List Value} {h : XH} {P : Option Value → XH → Prop} {a : Nat} {off : Int} {tgt : Nat} (d : decode (mC M) pc = .ok (.ifCond .ge off, 3)) (ht : (pc : Int) + off = (tgt : Int)) (ha : a < 2147483648)
    (kt : 0 ≤ a → AX w M k n tgt L st h P) (kf : a < 0 → AX w M k n (pc + 3) L st h P) : AX w M k n pc L (.int (nI a) :: st) h P := by
  have hb : (0 : Nat) < 2147483648 := by decide
  have e0 : nI 0 = 0 := rfl
  exact AX.if_ge d ht (fun q => by rw [← e0] at q; exact kt ((nI_leI hb ha).mp q)) (fun q => by rw [← e0] at q; exact kf (Nat.lt_of_not_le (fun z => q ((nI_leI hb ha).mpr z))))
theorem AX.icmp_gtN {w : XW} {M : MD} {k n pc : Nat} {L st : List Value} {h : XH} {P : Option Value → XH → Prop} {a b : Nat} {off : Int} {tgt : Nat} (d : decode (mC M) pc = .ok (.if_icmp .gt off, 3)) (ht : (pc : Int) + off = (tgt : Int)) (ha : a < 2147483648) (hb : b < 2147483648)
    (kt : b < a → AX w M k n tgt L st h P) (kf : a ≤ b → AX w M k n (pc + 3) L st h P) : AX w M k n pc L (.int (nI b) :: .int (nI a) :: st) h P :=
  AX.icmp_gt d ht (fun q => kt ((nI_ltI hb ha).mp q)) (fun q => kf (Nat.le_of_not_lt (fun z => q ((nI_ltI hb ha).mpr z))))
theorem AX.if_gtN {w : XW} {M : MD} {k n pc : Nat} {L st : List Value} {h : XH} {P : Option Value → XH → Prop} {a : Nat} {off : Int} {tgt : Nat} (d : decode (mC M) pc = .ok (.ifCond .gt off, 3)) (ht : (pc : Int) + off = (tgt : Int)) (ha : a < 2147483648)
    (kt : 0 < a → AX w M k n tgt L st h P) (kf : a ≤ 0 → AX w M k n (pc + 3) L st h P) : AX w M k n pc L (.int (nI a) :: st) h P := by
  have hb : (0 : Nat) < 2147483648 := by decide
  have e0 : nI 0 = 0 := rfl
  exact AX.if_gt d ht (fun q => by rw [← e0] at q; exact kt ((nI_ltI hb ha).mp q)) (fun q => by rw [← e0] at q; exact kf (Nat.le_of_not_lt (fun z => q ((nI_ltI hb ha).mpr z))))
theorem AX.icmp_leN {w : XW} {M : MD} {k n pc : Nat} {L st : List Value} {h : XH} {P : Option Value → XH → Prop} {a b : Nat} {off : Int} {tgt : Nat} (d : decode (mC M) pc = .ok (.if_icmp .le off, 3)) (ht : (pc : Int) + off = (tgt : Int)) (ha : a < 2147483648) (hb : b < 2147483648)
    (kt : a ≤ b → AX w M k n tgt L st h P) (kf : b < a → AX w M k n (pc + 3) L st h P) : AX w M k n pc L (.int (nI b) :: .int (nI a) :: st) h P :=
  AX.icmp_le d ht (fun q => kt ((nI_leI ha hb).mp q)) (fun q => kf (Nat.lt_of_not_le (fun z => q ((nI_leI ha hb).mpr z))))
theorem AX.if_leN {w : XW} {M : MD} {k n pc : Nat} {L st : List Value} {h : XH} {P : Option Value → XH → Prop} {a : Nat} {off : Int} {tgt : Nat} (d : decode (mC M) pc = .ok (.ifCond .le off, 3)) (ht : (pc : Int) + off = (tgt : Int)) (ha : a < 2147483648)
    (kt : a ≤ 0 → AX w M k n tgt L st h P) (kf : 0 < a → AX w M k n (pc + 3) L st h P) : AX w M k n pc L (.int (nI a) :: st) h P := by
  have hb : (0 : Nat) < 2147483648 := by decide
  have e0 : nI 0 = 0 := rfl
  exact AX.if_le d ht (fun q => by rw [← e0] at q; exact kt ((nI_leI ha hb).mp q)) (fun q => by rw [← e0] at q; exact kf (Nat.lt_of_not_le (fun z => q ((nI_leI ha hb).mpr z))))
theorem AX.icmp_eqN {w : XW} {M : MD} {k n pc : Nat} {L st : List Value} {h : XH} {P : Option Value → XH → Prop} {a b : Nat} {off : Int} {tgt : Nat} (d : decode (mC M) pc = .ok (.if_icmp .eq off, 3)) (ht : (pc : Int) + off = (tgt : Int)) (ha : a < 2147483648) (hb : b < 2147483648)
    (kt : a = b → AX w M k n tgt L st h P) (kf : a ≠ b → AX w M k n (pc + 3) L st h P) : AX w M k n pc L (.int (nI b) :: .int (nI a) :: st) h P :=
  AX.icmp_eq d ht (fun q => kt ((nI_eq ha hb).mp q)) (fun q => kf (fun z => q ((nI_eq ha hb).mpr z)))
theorem AX.if_eqN {w : XW} {M : MD} {k n pc : Nat} {L st : List Value} {h : XH} {P : Option Value → XH → Prop} {a : Nat} {off : Int} {tgt : Nat} (d : decode (mC M) pc = .ok (.ifCond .eq off, 3)) (ht : (pc : Int) + off = (tgt : Int)) (ha : a < 2147483648)
    (kt : a = 0 → AX w M k n tgt L st h P) (kf : a ≠ 0 → AX w M k n (pc + 3) L st h P) : AX w M k n pc L (.int (nI a) :: st) h P := by
  have hb : (0 : Nat) < 2147483648 := by decide
  have e0 : nI 0 = 0 := rfl
  exact AX.if_eq d ht (fun q => by rw [← e0] at q; exact kt ((nI_eq ha hb).mp q)) (fun q => by rw [← e0] at q; exact kf (fun z => q ((nI_eq ha hb).mpr z)))
theorem AX.icmp_neN {w : XW} {M : MD} {k n pc : Nat} {L st : List Value} {h : XH} {P : Option Value → XH → Prop} {a b : Nat} {off : Int} {tgt : Nat} (d : decode (mC M) pc = .ok (.if_icmp .ne off, 3)) (ht : (pc : Int) + off = (tgt : Int)) (ha : a < 2147483648) (hb : b < 2147483648)
    (kt : a ≠ b → AX w M k n tgt L st h P) (kf : a = b → AX w M k n (pc + 3) L st h P) : AX w M k n pc L (.int (nI b) :: .int (nI a) :: st) h P :=
  AX.icmp_ne d ht (fun q => kt (fun z => q ((nI_eq ha hb).mpr z))) (fun q => kf ((nI_eq ha hb).mp q))
theorem AX.if_neN {w : XW} {M : MD} {k n pc : Nat} {L st : List Value} {h : XH} {P : Option Value → XH → Prop} {a : Nat} {off : Int} {tgt : Nat} (d : decode (mC M) pc = .ok (.ifCond .ne off, 3)) (ht : (pc : Int) + off = (tgt : Int)) (ha : a < 2147483648)
    (kt : a ≠ 0 → AX w M k n tgt L st h P) (kf : a = 0 → AX w M k n (pc + 3) L st h P) : AX w M k n pc L (.int (nI a) :: st) h P := by
  have hb : (0 : Nat) < 2147483648 := by decide
  have e0 : nI 0 = 0 := rfl
  exact AX.if_ne d ht (fun q => by rw [← e0] at q; exact kt (fun z => q ((nI_eq ha hb).mpr z))) (fun q => by rw [← e0] at q; exact kf ((nI_eq ha hb).mp q))
def bI (b : Bool) : Int32 := if b then 1 else 0
theorem bI_nar (b : Bool) : narrow .boolean (.int (bI b)) = .int (bI b) := by cases b <;> rfl
theorem AX.if_eqB {w : XW} {M : MD} {k n pc : Nat} {L st : List Value} {h : XH} {P : Option Value → XH → Prop} {b : Bool} {off : Int} {tgt : Nat} (d : decode (mC M) pc = .ok (.ifCond .eq off, 3)) (ht : (pc : Int) + off = (tgt : Int))
    (kt : b = false → AX w M k n tgt L st h P) (kf : b = true → AX w M k n (pc + 3) L st h P) : AX w M k n pc L (.int (bI b) :: st) h P :=
  AX.if_eq d ht (fun q => kt (by cases b <;> first | rfl | exact absurd q (by decide) | exact absurd rfl q)) (fun q => kf (by cases b <;> first | rfl | exact absurd q (by decide) | exact absurd rfl q))
theorem AX.if_neB {w : XW} {M : MD} {k n pc : Nat} {L st : List Value} {h : XH} {P : Option Value → XH → Prop} {b : Bool} {off : Int} {tgt : Nat} (d : decode (mC M) pc = .ok (.ifCond .ne off, 3)) (ht : (pc : Int) + off = (tgt : Int))
    (kt : b = true → AX w M k n tgt L st h P) (kf : b = false → AX w M k n (pc + 3) L st h P) : AX w M k n pc L (.int (bI b) :: st) h P :=
  AX.if_ne d ht (fun q => kt (by cases b <;> first | rfl | exact absurd q (by decide) | exact absurd rfl q)) (fun q => kf (by cases b <;> first | rfl | exact absurd q (by decide) | exact absurd rfl q))
theorem vin {i N : Nat} (hi : i < N) (hN : N < 2147483648) : vp_in (nI i) N := vp_in_nI hi hN
theorem AX.ialdN {w : XW} {M : MD} {k n pc : Nat} {L st : List Value} {h : XH} {P : Option Value → XH → Prop} {a N i : Nat} {f : Nat → Int32} {v : Int32} (ha : a < h.1) (he : h.2 a = .inl (0, N, .inl f)) (hN : N < 2147483648) (hi : i < N) (hv : f i = v) (d : decode (mC M) pc = .ok (.iaload, 1)) (kk : AX w M k n (pc + 1) L (.int v :: st) h P) : AX w M k n pc L (.int (nI i) :: .ref a :: st) h P := by
  subst hv
  refine AX.iald ha he (vin hi hN) d ?_
  rw [nI_clamp (Nat.lt_trans hi hN)]
  exact kk
theorem AX.zaldN {w : XW} {M : MD} {k n pc : Nat} {L st : List Value} {h : XH} {P : Option Value → XH → Prop} {a N i : Nat} {f : Nat → Int32} {v : Int32} (ha : a < h.1) (he : h.2 a = .inl (1, N, .inl f)) (hN : N < 2147483648) (hi : i < N) (hv : f i = v) (d : decode (mC M) pc = .ok (.baload, 1)) (kk : AX w M k n (pc + 1) L (.int v :: st) h P) : AX w M k n pc L (.int (nI i) :: .ref a :: st) h P := by
  subst hv
  refine AX.zald ha he (vin hi hN) d ?_
  rw [nI_clamp (Nat.lt_trans hi hN)]
  exact kk
theorem AX.daldN {w : XW} {M : MD} {k n pc : Nat} {L st : List Value} {h : XH} {P : Option Value → XH → Prop} {a N i : Nat} {f : Nat → UInt64} {v : UInt64} (ha : a < h.1) (he : h.2 a = .inl (2, N, .inr (.inr (.inr (.inl f))))) (hN : N < 2147483648) (hi : i < N) (hv : f i = v) (d : decode (mC M) pc = .ok (.daload, 1)) (kk : AX w M k n (pc + 1) L (.double v :: st) h P) : AX w M k n pc L (.int (nI i) :: .ref a :: st) h P := by
  subst hv
  refine AX.dald ha he (vin hi hN) d ?_
  rw [nI_clamp (Nat.lt_trans hi hN)]
  exact kk
theorem AX.aaldN {w : XW} {M : MD} {k n pc : Nat} {L st : List Value} {h : XH} {P : Option Value → XH → Prop} {a t N b i : Nat} {f : Nat → Option Nat} (ht : 3 ≤ t ∧ t ≤ 7) (ha : a < h.1) (he : h.2 a = .inl (t, N, .inr (.inr (.inr (.inr f))))) (hN : N < 2147483648) (hi : i < N) (hv : f i = some b) (d : decode (mC M) pc = .ok (.aaload, 1)) (kk : AX w M k n (pc + 1) L (.ref b :: st) h P) : AX w M k n pc L (.int (nI i) :: .ref a :: st) h P :=
  AX.aald ht ha he (vin hi hN) (by rw [nI_clamp (Nat.lt_trans hi hN)]; exact hv) d kk
theorem AX.iastN {w : XW} {M : MD} {k n pc : Nat} {L st : List Value} {h : XH} {P : Option Value → XH → Prop} {a N i : Nat} {f g : Nat → Int32} {x : Int32} (ha : a < h.1) (he : h.2 a = .inl (0, N, .inl f)) (hN : N < 2147483648) (hi : i < N) (hg : upd f i x = g) (d : decode (mC M) pc = .ok (.iastore, 1)) (kk : AX w M k n (pc + 1) L st (xset h a (.inl (0, N, .inl g))) P) : AX w M k n pc L (.int x :: .int (nI i) :: .ref a :: st) h P := by
  subst hg
  refine AX.iast ha he (vin hi hN) d ?_
  rw [nI_clamp (Nat.lt_trans hi hN)]
  exact kk
theorem AX.zastN {w : XW} {M : MD} {k n pc : Nat} {L st : List Value} {h : XH} {P : Option Value → XH → Prop} {a N i : Nat} {f g : Nat → Int32} {x : Int32} (ha : a < h.1) (he : h.2 a = .inl (1, N, .inl f)) (hN : N < 2147483648) (hi : i < N) (hz : narrow .boolean (.int x) = .int x) (hg : upd f i x = g) (d : decode (mC M) pc = .ok (.bastore, 1)) (kk : AX w M k n (pc + 1) L st (xset h a (.inl (1, N, .inl g))) P) : AX w M k n pc L (.int x :: .int (nI i) :: .ref a :: st) h P := by
  subst hg
  refine AX.zast ha he (vin hi hN) hz d ?_
  rw [nI_clamp (Nat.lt_trans hi hN)]
  exact kk
theorem AX.dastN {w : XW} {M : MD} {k n pc : Nat} {L st : List Value} {h : XH} {P : Option Value → XH → Prop} {a N i : Nat} {f g : Nat → UInt64} {x : UInt64} (ha : a < h.1) (he : h.2 a = .inl (2, N, .inr (.inr (.inr (.inl f))))) (hN : N < 2147483648) (hi : i < N) (hg : vf_upd f i x = g) (d : decode (mC M) pc = .ok (.dastore, 1)) (kk : AX w M k n (pc + 1) L st (xset h a (.inl (2, N, .inr (.inr (.inr (.inl g)))))) P) : AX w M k n pc L (.double x :: .int (nI i) :: .ref a :: st) h P := by
  subst hg
  refine AX.dast ha he (vin hi hN) d ?_
  rw [nI_clamp (Nat.lt_trans hi hN)]
  exact kk
theorem AX.ringAtN {w : XW} {M : MD} {k n pc : Nat} {L st : List Value} {h : XH} {P : Option Value → XH → Prop} {i : Nat} {v : Int32} (hi : i < 20) (hv : ringF i = v) (d : decode (mC M) pc = .ok (.iaload, 1)) (kk : AX w M k n (pc + 1) L (.int v :: st) h P) : AX w M k n pc L (.int (nI i) :: .retAddr 1 :: st) h P := by
  subst hv
  refine AX.ringAt (vin hi (by decide)) d ?_
  rw [nI_clamp (Nat.lt_trans hi (by decide))]
  exact kk
/-- a contract with one answer and one heap -/
abbrev CE (w : XW) (M : MD) (as : List Value) (h : XH) (v : Option Value) (h' : XH) : Prop := CA w M as h (fun v' h'' => v' = v ∧ h'' = h')
theorem CA.mono {w : XW} {M : MD} {as : List Value} {h : XH} {P P' : Option Value → XH → Prop} (hp : ∀ v h', P v h' → P' v h') (hM : CA w M as h P) : CA w M as h P' := by
  intro l p e ha hc hk s m args below hf happ hPc hK
  obtain ⟨kk, o, h1, h2, h3, ⟨⟨⟨v, h', e1, e2, e3⟩, hF⟩, hL⟩⟩ := hM l p e ha hc hk s m args below hf happ hPc hK
  exact ⟨kk, o, h1, h2, h3, ⟨⟨⟨v, h', e1, hp v h' e2, e3⟩, hF⟩, hL⟩⟩
