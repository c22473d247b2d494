/-! ===== ROWS: an instruction over the abstract world ===== -/
theorem AX.iconst {w : XW} {M : MD} {k n pc : Nat} {L st : List Value} {h : XH} {P : Option Value → XH → Prop} {i : Int} {v : Int32} (d : decode (mC M) pc = .ok (.iconst i, 1)) (hv : Int32.ofInt i = v)
    (kk : AX w M k n (pc + 1) L (.int v :: st) h P) : AX w M k n pc L (st) h P := by
  intro R p l e s m args below meth c H locs ls Q hR hX hH hS hL hw hE
  exact lv_iconst hX.1 hX.2.1 d hv (kk R p l e s m args below meth c H locs ls Q hR hX hH hS hL hw hE)
theorem AX.bipush {w : XW} {M : MD} {k n pc : Nat} {L st : List Value} {h : XH} {P : Option Value → XH → Prop} {i : Int} {v : Int32} (d : decode (mC M) pc = .ok (.bipush i, 2)) (hv : (Int8.ofInt i).toInt32 = v)
    (kk : AX w M k n (pc + 2) L (.int v :: st) h P) : AX w M k n pc L (st) h P := by
  intro R p l e s m args below meth c H locs ls Q hR hX hH hS hL hw hE
  exact lv_bipush hX.1 hX.2.1 d hv (kk R p l e s m args below meth c H locs ls Q hR hX hH hS hL hw hE)
theorem AX.sipush {w : XW} {M : MD} {k n pc : Nat} {L st : List Value} {h : XH} {P : Option Value → XH → Prop} {i : Int} {v : Int32} (d : decode (mC M) pc = .ok (.sipush i, 3)) (hv : (Int16.ofInt i).toInt32 = v)
    (kk : AX w M k n (pc + 3) L (.int v :: st) h P) : AX w M k n pc L (st) h P := by
  intro R p l e s m args below meth c H locs ls Q hR hX hH hS hL hw hE
  exact lv_sipush hX.1 hX.2.1 d hv (kk R p l e s m args below meth c H locs ls Q hR hX hH hS hL hw hE)
theorem AX.lconst {w : XW} {M : MD} {k n pc : Nat} {L st : List Value} {h : XH} {P : Option Value → XH → Prop} {i : Fin 2} {v : Int64} (d : decode (mC M) pc = .ok (.lconst i, 1)) (hv : Int64.ofNat (i : Nat) = v)
    (kk : AX w M k n (pc + 1) L (.long v :: st) h P) : AX w M k n pc L (st) h P := by
  intro R p l e s m args below meth c H locs ls Q hR hX hH hS hL hw hE
  exact lv_lconst hX.1 hX.2.1 d hv (kk R p l e s m args below meth c H locs ls Q hR hX hH hS hL hw hE)
theorem AX.fconst0 {w : XW} {M : MD} {k n pc : Nat} {L st : List Value} {h : XH} {P : Option Value → XH → Prop} (d : decode (mC M) pc = .ok (.fconst 0, 1))
    (kk : AX w M k n (pc + 1) L (.float FP.fconst0 :: st) h P) : AX w M k n pc L (st) h P := by
  intro R p l e s m args below meth c H locs ls Q hR hX hH hS hL hw hE
  exact lv_fconst0 hX.1 hX.2.1 d  (kk R p l e s m args below meth c H locs ls Q hR hX hH hS hL hw hE)
theorem AX.dconst0 {w : XW} {M : MD} {k n pc : Nat} {L st : List Value} {h : XH} {P : Option Value → XH → Prop} (d : decode (mC M) pc = .ok (.dconst 0, 1))
    (kk : AX w M k n (pc + 1) L (.double FP.dconst0 :: st) h P) : AX w M k n pc L (st) h P := by
  intro R p l e s m args below meth c H locs ls Q hR hX hH hS hL hw hE
  exact lv_dconst0 hX.1 hX.2.1 d  (kk R p l e s m args below meth c H locs ls Q hR hX hH hS hL hw hE)
theorem AX.dconst1 {w : XW} {M : MD} {k n pc : Nat} {L st : List Value} {h : XH} {P : Option Value → XH → Prop} (d : decode (mC M) pc = .ok (.dconst 1, 1))
    (kk : AX w M k n (pc + 1) L (.double FP.dconst1 :: st) h P) : AX w M k n pc L (st) h P := by
  intro R p l e s m args below meth c H locs ls Q hR hX hH hS hL hw hE
  exact lv_dconst1 hX.1 hX.2.1 d  (kk R p l e s m args below meth c H locs ls Q hR hX hH hS hL hw hE)
theorem AX.ldcf {w : XW} {M : MD} {k n pc : Nat} {L st : List Value} {h : XH} {P : Option Value → XH → Prop} {i : Nat} {v : UInt32} (d : decode (mC M) pc = .ok (.ldc i, 2)) (hc : Cond.constantFloat (mY M).cls i v ∈ mW M)
    (kk : AX w M k n (pc + 2) L (.float v :: st) h P) : AX w M k n pc L st h P := by
  intro R p l e s m args below meth c H locs ls Q hR hX hH hS hL hw hE
  exact lv_ldcf hX.1 hX.2.1 hX.2.2.2.1 (hX.2.2.2.2.1 _ hc) d (kk R p l e s m args below meth c H locs ls Q hR hX hH hS hL hw hE)
theorem AX.ldcw {w : XW} {M : MD} {k n pc : Nat} {L st : List Value} {h : XH} {P : Option Value → XH → Prop} {i : Nat} {v : Int32} (d : decode (mC M) pc = .ok (.ldc_w i, 3)) (hc : Cond.constant (mY M).cls i v ∈ mW M)
    (kk : AX w M k n (pc + 3) L (.int v :: st) h P) : AX w M k n pc L st h P := by
  intro R p l e s m args below meth c H locs ls Q hR hX hH hS hL hw hE
  exact lv_ldcw hX.1 hX.2.1 hX.2.2.2.1 (hX.2.2.2.2.1 _ hc) d (kk R p l e s m args below meth c H locs ls Q hR hX hH hS hL hw hE)
theorem AX.ldc {w : XW} {M : MD} {k n pc : Nat} {L st : List Value} {h : XH} {P : Option Value → XH → Prop} {i : Nat} {v : Int32} (d : decode (mC M) pc = .ok (.ldc i, 2)) (hc : Cond.constant (mY M).cls i v ∈ mW M)
    (kk : AX w M k n (pc + 2) L (.int v :: st) h P) : AX w M k n pc L st h P := by
  intro R p l e s m args below meth c H locs ls Q hR hX hH hS hL hw hE
  exact lv_ldc hX.1 hX.2.1 hX.2.2.2.1 (hX.2.2.2.2.1 _ hc) d (kk R p l e s m args below meth c H locs ls Q hR hX hH hS hL hw hE)
theorem AX.ldc2 {w : XW} {M : MD} {k n pc : Nat} {L st : List Value} {h : XH} {P : Option Value → XH → Prop} {i : Nat} {v : Int64} (d : decode (mC M) pc = .ok (.ldc2_w i, 3)) (hc : Cond.constantLong (mY M).cls i v ∈ mW M)
    (kk : AX w M k n (pc + 3) L (.long v :: st) h P) : AX w M k n pc L st h P := by
  intro R p l e s m args below meth c H locs ls Q hR hX hH hS hL hw hE
  exact lv_ldc2 hX.1 hX.2.1 hX.2.2.2.1 (hX.2.2.2.2.1 _ hc) d (kk R p l e s m args below meth c H locs ls Q hR hX hH hS hL hw hE)
theorem AX.ldc2d {w : XW} {M : MD} {k n pc : Nat} {L st : List Value} {h : XH} {P : Option Value → XH → Prop} {i : Nat} {v : UInt64} (d : decode (mC M) pc = .ok (.ldc2_w i, 3)) (hc : Cond.constantDouble (mY M).cls i v ∈ mW M)
    (kk : AX w M k n (pc + 3) L (.double v :: st) h P) : AX w M k n pc L st h P := by
  intro R p l e s m args below meth c H locs ls Q hR hX hH hS hL hw hE
  exact lv_ldc2d hX.1 hX.2.1 hX.2.2.2.1 (hX.2.2.2.2.1 _ hc) d (kk R p l e s m args below meth c H locs ls Q hR hX hH hS hL hw hE)
theorem AX.iadd {w : XW} {M : MD} {k n pc : Nat} {L st : List Value} {h : XH} {P : Option Value → XH → Prop} {x y : Int32} (d : decode (mC M) pc = .ok (.iadd, 1))
    (kk : AX w M k n (pc + 1) L (.int (x + y) :: st) h P) : AX w M k n pc L (.int y :: .int x :: st) h P := by
  intro R p l e s m args below meth c H locs ls Q hR hX hH hS hL hw hE
  exact lv_iadd hX.1 hX.2.1 d  (kk R p l e s m args below meth c H locs ls Q hR hX hH hS hL hw hE)
theorem AX.isub {w : XW} {M : MD} {k n pc : Nat} {L st : List Value} {h : XH} {P : Option Value → XH → Prop} {x y : Int32} (d : decode (mC M) pc = .ok (.isub, 1))
    (kk : AX w M k n (pc + 1) L (.int (x - y) :: st) h P) : AX w M k n pc L (.int y :: .int x :: st) h P := by
  intro R p l e s m args below meth c H locs ls Q hR hX hH hS hL hw hE
  exact lv_isub hX.1 hX.2.1 d  (kk R p l e s m args below meth c H locs ls Q hR hX hH hS hL hw hE)
theorem AX.imul {w : XW} {M : MD} {k n pc : Nat} {L st : List Value} {h : XH} {P : Option Value → XH → Prop} {x y : Int32} (d : decode (mC M) pc = .ok (.imul, 1))
    (kk : AX w M k n (pc + 1) L (.int (x * y) :: st) h P) : AX w M k n pc L (.int y :: .int x :: st) h P := by
  intro R p l e s m args below meth c H locs ls Q hR hX hH hS hL hw hE
  exact lv_imul hX.1 hX.2.1 d  (kk R p l e s m args below meth c H locs ls Q hR hX hH hS hL hw hE)
theorem AX.iand {w : XW} {M : MD} {k n pc : Nat} {L st : List Value} {h : XH} {P : Option Value → XH → Prop} {x y : Int32} (d : decode (mC M) pc = .ok (.iand, 1))
    (kk : AX w M k n (pc + 1) L (.int (x &&& y) :: st) h P) : AX w M k n pc L (.int y :: .int x :: st) h P := by
  intro R p l e s m args below meth c H locs ls Q hR hX hH hS hL hw hE
  exact lv_iand hX.1 hX.2.1 d  (kk R p l e s m args below meth c H locs ls Q hR hX hH hS hL hw hE)
theorem AX.ior {w : XW} {M : MD} {k n pc : Nat} {L st : List Value} {h : XH} {P : Option Value → XH → Prop} {x y : Int32} (d : decode (mC M) pc = .ok (.ior, 1))
    (kk : AX w M k n (pc + 1) L (.int (x ||| y) :: st) h P) : AX w M k n pc L (.int y :: .int x :: st) h P := by
  intro R p l e s m args below meth c H locs ls Q hR hX hH hS hL hw hE
  exact lv_ior hX.1 hX.2.1 d  (kk R p l e s m args below meth c H locs ls Q hR hX hH hS hL hw hE)
theorem AX.ixor {w : XW} {M : MD} {k n pc : Nat} {L st : List Value} {h : XH} {P : Option Value → XH → Prop} {x y : Int32} (d : decode (mC M) pc = .ok (.ixor, 1))
    (kk : AX w M k n (pc + 1) L (.int (x ^^^ y) :: st) h P) : AX w M k n pc L (.int y :: .int x :: st) h P := by
  intro R p l e s m args below meth c H locs ls Q hR hX hH hS hL hw hE
  exact lv_ixor hX.1 hX.2.1 d  (kk R p l e s m args below meth c H locs ls Q hR hX hH hS hL hw hE)
theorem AX.ladd {w : XW} {M : MD} {k n pc : Nat} {L st : List Value} {h : XH} {P : Option Value → XH → Prop} {x y : Int64} (d : decode (mC M) pc = .ok (.ladd, 1))
    (kk : AX w M k n (pc + 1) L (.long (x + y) :: st) h P) : AX w M k n pc L (.long y :: .long x :: st) h P := by
  intro R p l e s m args below meth c H locs ls Q hR hX hH hS hL hw hE
  exact lv_ladd hX.1 hX.2.1 d  (kk R p l e s m args below meth c H locs ls Q hR hX hH hS hL hw hE)
theorem AX.lsub {w : XW} {M : MD} {k n pc : Nat} {L st : List Value} {h : XH} {P : Option Value → XH → Prop} {x y : Int64} (d : decode (mC M) pc = .ok (.lsub, 1))
    (kk : AX w M k n (pc + 1) L (.long (x - y) :: st) h P) : AX w M k n pc L (.long y :: .long x :: st) h P := by
  intro R p l e s m args below meth c H locs ls Q hR hX hH hS hL hw hE
  exact lv_lsub hX.1 hX.2.1 d  (kk R p l e s m args below meth c H locs ls Q hR hX hH hS hL hw hE)
theorem AX.lor {w : XW} {M : MD} {k n pc : Nat} {L st : List Value} {h : XH} {P : Option Value → XH → Prop} {x y : Int64} (d : decode (mC M) pc = .ok (.lor, 1))
    (kk : AX w M k n (pc + 1) L (.long (x ||| y) :: st) h P) : AX w M k n pc L (.long y :: .long x :: st) h P := by
  intro R p l e s m args below meth c H locs ls Q hR hX hH hS hL hw hE
  exact lv_lor hX.1 hX.2.1 d  (kk R p l e s m args below meth c H locs ls Q hR hX hH hS hL hw hE)
theorem AX.land {w : XW} {M : MD} {k n pc : Nat} {L st : List Value} {h : XH} {P : Option Value → XH → Prop} {x y : Int64} (d : decode (mC M) pc = .ok (.land, 1))
    (kk : AX w M k n (pc + 1) L (.long (x &&& y) :: st) h P) : AX w M k n pc L (.long y :: .long x :: st) h P := by
  intro R p l e s m args below meth c H locs ls Q hR hX hH hS hL hw hE
  exact lv_land hX.1 hX.2.1 d  (kk R p l e s m args below meth c H locs ls Q hR hX hH hS hL hw hE)
theorem AX.idiv {w : XW} {M : MD} {k n pc : Nat} {L st : List Value} {h : XH} {P : Option Value → XH → Prop} {x y : Int32} (d : decode (mC M) pc = .ok (.idiv, 1)) (hy : ¬ y = 0)
    (kk : AX w M k n (pc + 1) L (.int (x / y) :: st) h P) : AX w M k n pc L (.int y :: .int x :: st) h P := by
  intro R p l e s m args below meth c H locs ls Q hR hX hH hS hL hw hE
  exact lv_idiv hX.1 hX.2.1 d hy (kk R p l e s m args below meth c H locs ls Q hR hX hH hS hL hw hE)
theorem AX.irem {w : XW} {M : MD} {k n pc : Nat} {L st : List Value} {h : XH} {P : Option Value → XH → Prop} {x y : Int32} (d : decode (mC M) pc = .ok (.irem, 1)) (hy : ¬ y = 0)
    (kk : AX w M k n (pc + 1) L (.int (x - x / y * y) :: st) h P) : AX w M k n pc L (.int y :: .int x :: st) h P := by
  intro R p l e s m args below meth c H locs ls Q hR hX hH hS hL hw hE
  exact lv_irem hX.1 hX.2.1 d hy (kk R p l e s m args below meth c H locs ls Q hR hX hH hS hL hw hE)
theorem AX.ineg {w : XW} {M : MD} {k n pc : Nat} {L st : List Value} {h : XH} {P : Option Value → XH → Prop} {x : Int32} (d : decode (mC M) pc = .ok (.ineg, 1))
    (kk : AX w M k n (pc + 1) L (.int (-x) :: st) h P) : AX w M k n pc L (.int x :: st) h P := by
  intro R p l e s m args below meth c H locs ls Q hR hX hH hS hL hw hE
  exact lv_ineg hX.1 hX.2.1 d  (kk R p l e s m args below meth c H locs ls Q hR hX hH hS hL hw hE)
theorem AX.iushr {w : XW} {M : MD} {k n pc : Nat} {L st : List Value} {h : XH} {P : Option Value → XH → Prop} {x y : Int32} (d : decode (mC M) pc = .ok (.iushr, 1))
    (kk : AX w M k n (pc + 1) L (.int (x.toUInt32 >>> (y.toUInt32 &&& Int32.toUInt32 31)).toInt32 :: st) h P) : AX w M k n pc L (.int y :: .int x :: st) h P := by
  intro R p l e s m args below meth c H locs ls Q hR hX hH hS hL hw hE
  exact lv_iushr hX.1 hX.2.1 d rfl (kk R p l e s m args below meth c H locs ls Q hR hX hH hS hL hw hE)
theorem AX.lshl {w : XW} {M : MD} {k n pc : Nat} {L st : List Value} {h : XH} {P : Option Value → XH → Prop} {x : Int64} {y : Int32} (d : decode (mC M) pc = .ok (.lshl, 1))
    (kk : AX w M k n (pc + 1) L (.long (x <<< (y.toInt64 &&& 63)) :: st) h P) : AX w M k n pc L (.int y :: .long x :: st) h P := by
  intro R p l e s m args below meth c H locs ls Q hR hX hH hS hL hw hE
  exact lv_lshl hX.1 hX.2.1 d rfl (kk R p l e s m args below meth c H locs ls Q hR hX hH hS hL hw hE)
theorem AX.i2l {w : XW} {M : MD} {k n pc : Nat} {L st : List Value} {h : XH} {P : Option Value → XH → Prop} {x : Int32} (d : decode (mC M) pc = .ok (.i2l, 1))
    (kk : AX w M k n (pc + 1) L (.long x.toInt64 :: st) h P) : AX w M k n pc L (.int x :: st) h P := by
  intro R p l e s m args below meth c H locs ls Q hR hX hH hS hL hw hE
  exact lv_i2l hX.1 hX.2.1 d rfl (kk R p l e s m args below meth c H locs ls Q hR hX hH hS hL hw hE)
theorem AX.l2i {w : XW} {M : MD} {k n pc : Nat} {L st : List Value} {h : XH} {P : Option Value → XH → Prop} {x : Int64} (d : decode (mC M) pc = .ok (.l2i, 1))
    (kk : AX w M k n (pc + 1) L (.int x.toInt32 :: st) h P) : AX w M k n pc L (.long x :: st) h P := by
  intro R p l e s m args below meth c H locs ls Q hR hX hH hS hL hw hE
  exact lv_l2i hX.1 hX.2.1 d rfl (kk R p l e s m args below meth c H locs ls Q hR hX hH hS hL hw hE)
theorem AX.i2d {w : XW} {M : MD} {k n pc : Nat} {L st : List Value} {h : XH} {P : Option Value → XH → Prop} {x : Int32} (d : decode (mC M) pc = .ok (.i2d, 1))
    (kk : AX w M k n (pc + 1) L (.double (FP.i2d x) :: st) h P) : AX w M k n pc L (.int x :: st) h P := by
  intro R p l e s m args below meth c H locs ls Q hR hX hH hS hL hw hE
  exact lv_i2d hX.1 hX.2.1 d  (kk R p l e s m args below meth c H locs ls Q hR hX hH hS hL hw hE)
theorem AX.i2f {w : XW} {M : MD} {k n pc : Nat} {L st : List Value} {h : XH} {P : Option Value → XH → Prop} {x : Int32} (d : decode (mC M) pc = .ok (.i2f, 1))
    (kk : AX w M k n (pc + 1) L (.float (FP.i2f x) :: st) h P) : AX w M k n pc L (.int x :: st) h P := by
  intro R p l e s m args below meth c H locs ls Q hR hX hH hS hL hw hE
  exact lv_i2f hX.1 hX.2.1 d  (kk R p l e s m args below meth c H locs ls Q hR hX hH hS hL hw hE)
theorem AX.l2d {w : XW} {M : MD} {k n pc : Nat} {L st : List Value} {h : XH} {P : Option Value → XH → Prop} {x : Int64} (d : decode (mC M) pc = .ok (.l2d, 1))
    (kk : AX w M k n (pc + 1) L (.double (FP.l2d x) :: st) h P) : AX w M k n pc L (.long x :: st) h P := by
  intro R p l e s m args below meth c H locs ls Q hR hX hH hS hL hw hE
  exact lv_l2d hX.1 hX.2.1 d  (kk R p l e s m args below meth c H locs ls Q hR hX hH hS hL hw hE)
theorem AX.d2i {w : XW} {M : MD} {k n pc : Nat} {L st : List Value} {h : XH} {P : Option Value → XH → Prop} {x : UInt64} (d : decode (mC M) pc = .ok (.d2i, 1))
    (kk : AX w M k n (pc + 1) L (.int (FP.d2i x) :: st) h P) : AX w M k n pc L (.double x :: st) h P := by
  intro R p l e s m args below meth c H locs ls Q hR hX hH hS hL hw hE
  exact lv_d2i hX.1 hX.2.1 d  (kk R p l e s m args below meth c H locs ls Q hR hX hH hS hL hw hE)
theorem AX.d2l {w : XW} {M : MD} {k n pc : Nat} {L st : List Value} {h : XH} {P : Option Value → XH → Prop} {x : UInt64} (d : decode (mC M) pc = .ok (.d2l, 1))
    (kk : AX w M k n (pc + 1) L (.long (FP.d2l x) :: st) h P) : AX w M k n pc L (.double x :: st) h P := by
  intro R p l e s m args below meth c H locs ls Q hR hX hH hS hL hw hE
  exact lv_d2l hX.1 hX.2.1 d  (kk R p l e s m args below meth c H locs ls Q hR hX hH hS hL hw hE)
theorem AX.f2i {w : XW} {M : MD} {k n pc : Nat} {L st : List Value} {h : XH} {P : Option Value → XH → Prop} {x : UInt32} (d : decode (mC M) pc = .ok (.f2i, 1))
    (kk : AX w M k n (pc + 1) L (.int (FP.f2i x) :: st) h P) : AX w M k n pc L (.float x :: st) h P := by
  intro R p l e s m args below meth c H locs ls Q hR hX hH hS hL hw hE
  exact lv_f2i hX.1 hX.2.1 d  (kk R p l e s m args below meth c H locs ls Q hR hX hH hS hL hw hE)
theorem AX.dneg {w : XW} {M : MD} {k n pc : Nat} {L st : List Value} {h : XH} {P : Option Value → XH → Prop} {x : UInt64} (d : decode (mC M) pc = .ok (.dneg, 1))
    (kk : AX w M k n (pc + 1) L (.double (FP.dneg x) :: st) h P) : AX w M k n pc L (.double x :: st) h P := by
  intro R p l e s m args below meth c H locs ls Q hR hX hH hS hL hw hE
  exact lv_dneg hX.1 hX.2.1 d  (kk R p l e s m args below meth c H locs ls Q hR hX hH hS hL hw hE)
theorem AX.fneg {w : XW} {M : MD} {k n pc : Nat} {L st : List Value} {h : XH} {P : Option Value → XH → Prop} {x : UInt32} (d : decode (mC M) pc = .ok (.fneg, 1))
    (kk : AX w M k n (pc + 1) L (.float (FP.fneg x) :: st) h P) : AX w M k n pc L (.float x :: st) h P := by
  intro R p l e s m args below meth c H locs ls Q hR hX hH hS hL hw hE
  exact lv_fneg hX.1 hX.2.1 d  (kk R p l e s m args below meth c H locs ls Q hR hX hH hS hL hw hE)
theorem AX.f2d {w : XW} {M : MD} {k n pc : Nat} {L st : List Value} {h : XH} {P : Option Value → XH → Prop} {x : UInt32} (d : decode (mC M) pc = .ok (.f2d, 1)) (hne : vf_n64 (FP.f2d x))
    (kk : AX w M k n (pc + 1) L (.double (FP.f2d x) :: st) h P) : AX w M k n pc L (.float x :: st) h P := by
  intro R p l e s m args below meth c H locs ls Q hR hX hH hS hL hw hE
  exact lv_f2d hX.1 hX.2.1 d hne (kk R p l e s m args below meth c H locs ls Q hR hX hH hS hL hw hE)
theorem AX.d2f {w : XW} {M : MD} {k n pc : Nat} {L st : List Value} {h : XH} {P : Option Value → XH → Prop} {x : UInt64} (d : decode (mC M) pc = .ok (.d2f, 1)) (hne : vf_n32 (FP.d2f x))
    (kk : AX w M k n (pc + 1) L (.float (FP.d2f x) :: st) h P) : AX w M k n pc L (.double x :: st) h P := by
  intro R p l e s m args below meth c H locs ls Q hR hX hH hS hL hw hE
  exact lv_d2f hX.1 hX.2.1 d hne (kk R p l e s m args below meth c H locs ls Q hR hX hH hS hL hw hE)
theorem AX.dadd {w : XW} {M : MD} {k n pc : Nat} {L st : List Value} {h : XH} {P : Option Value → XH → Prop} {x y : UInt64} (d : decode (mC M) pc = .ok (.dadd, 1)) (hne : vf_n64 (FP.dadd x y))
    (kk : AX w M k n (pc + 1) L (.double (FP.dadd x y) :: st) h P) : AX w M k n pc L (.double y :: .double x :: st) h P := by
  intro R p l e s m args below meth c H locs ls Q hR hX hH hS hL hw hE
  exact lv_dadd hX.1 hX.2.1 d hne (kk R p l e s m args below meth c H locs ls Q hR hX hH hS hL hw hE)
theorem AX.dsub {w : XW} {M : MD} {k n pc : Nat} {L st : List Value} {h : XH} {P : Option Value → XH → Prop} {x y : UInt64} (d : decode (mC M) pc = .ok (.dsub, 1)) (hne : vf_n64 (FP.dsub x y))
    (kk : AX w M k n (pc + 1) L (.double (FP.dsub x y) :: st) h P) : AX w M k n pc L (.double y :: .double x :: st) h P := by
  intro R p l e s m args below meth c H locs ls Q hR hX hH hS hL hw hE
  exact lv_dsub hX.1 hX.2.1 d hne (kk R p l e s m args below meth c H locs ls Q hR hX hH hS hL hw hE)
theorem AX.dmul {w : XW} {M : MD} {k n pc : Nat} {L st : List Value} {h : XH} {P : Option Value → XH → Prop} {x y : UInt64} (d : decode (mC M) pc = .ok (.dmul, 1)) (hne : vf_n64 (FP.dmul x y))
    (kk : AX w M k n (pc + 1) L (.double (FP.dmul x y) :: st) h P) : AX w M k n pc L (.double y :: .double x :: st) h P := by
  intro R p l e s m args below meth c H locs ls Q hR hX hH hS hL hw hE
  exact lv_dmul hX.1 hX.2.1 d hne (kk R p l e s m args below meth c H locs ls Q hR hX hH hS hL hw hE)
theorem AX.ddiv {w : XW} {M : MD} {k n pc : Nat} {L st : List Value} {h : XH} {P : Option Value → XH → Prop} {x y : UInt64} (d : decode (mC M) pc = .ok (.ddiv, 1)) (hne : vf_n64 (FP.ddiv x y))
    (kk : AX w M k n (pc + 1) L (.double (FP.ddiv x y) :: st) h P) : AX w M k n pc L (.double y :: .double x :: st) h P := by
  intro R p l e s m args below meth c H locs ls Q hR hX hH hS hL hw hE
  exact lv_ddiv hX.1 hX.2.1 d hne (kk R p l e s m args below meth c H locs ls Q hR hX hH hS hL hw hE)
theorem AX.fmul {w : XW} {M : MD} {k n pc : Nat} {L st : List Value} {h : XH} {P : Option Value → XH → Prop} {x y : UInt32} (d : decode (mC M) pc = .ok (.fmul, 1)) (hne : vf_n32 (FP.fmul x y))
    (kk : AX w M k n (pc + 1) L (.float (FP.fmul x y) :: st) h P) : AX w M k n pc L (.float y :: .float x :: st) h P := by
  intro R p l e s m args below meth c H locs ls Q hR hX hH hS hL hw hE
  exact lv_fmul hX.1 hX.2.1 d hne (kk R p l e s m args below meth c H locs ls Q hR hX hH hS hL hw hE)
theorem AX.fdiv {w : XW} {M : MD} {k n pc : Nat} {L st : List Value} {h : XH} {P : Option Value → XH → Prop} {x y : UInt32} (d : decode (mC M) pc = .ok (.fdiv, 1)) (hne : vf_n32 (FP.fdiv x y))
    (kk : AX w M k n (pc + 1) L (.float (FP.fdiv x y) :: st) h P) : AX w M k n pc L (.float y :: .float x :: st) h P := by
  intro R p l e s m args below meth c H locs ls Q hR hX hH hS hL hw hE
  exact lv_fdiv hX.1 hX.2.1 d hne (kk R p l e s m args below meth c H locs ls Q hR hX hH hS hL hw hE)
theorem AX.dcmp {w : XW} {M : MD} {k n pc : Nat} {L st : List Value} {h : XH} {P : Option Value → XH → Prop} {x y : UInt64} {op : CmpOp} (d : decode (mC M) pc = .ok (.dcmp op, 1))
    (kk : AX w M k n (pc + 1) L (.int (Op.cmpValue (FP.dcmp x y) op) :: st) h P) : AX w M k n pc L (.double y :: .double x :: st) h P := by
  intro R p l e s m args below meth c H locs ls Q hR hX hH hS hL hw hE
  exact lv_dcmp hX.1 hX.2.1 d  (kk R p l e s m args below meth c H locs ls Q hR hX hH hS hL hw hE)
theorem AX.fcmp {w : XW} {M : MD} {k n pc : Nat} {L st : List Value} {h : XH} {P : Option Value → XH → Prop} {x y : UInt32} {op : CmpOp} (d : decode (mC M) pc = .ok (.fcmp op, 1))
    (kk : AX w M k n (pc + 1) L (.int (Op.cmpValue (FP.fcmp x y) op) :: st) h P) : AX w M k n pc L (.float y :: .float x :: st) h P := by
  intro R p l e s m args below meth c H locs ls Q hR hX hH hS hL hw hE
  exact lv_fcmp hX.1 hX.2.1 d  (kk R p l e s m args below meth c H locs ls Q hR hX hH hS hL hw hE)
theorem AX.lcmp {w : XW} {M : MD} {k n pc : Nat} {L st : List Value} {h : XH} {P : Option Value → XH → Prop} {x y : Int64} (d : decode (mC M) pc = .ok (.lcmp, 1))
    (kk : AX w M k n (pc + 1) L (.int (lg_cmp x y) :: st) h P) : AX w M k n pc L (.long y :: .long x :: st) h P := by
  intro R p l e s m args below meth c H locs ls Q hR hX hH hS hL hw hE
  exact W.lcmp hX.1 hX.2.1 d (kk R p l e s m args below meth c H locs ls Q hR hX hH hS hL hw hE)
theorem AX.dup {w : XW} {M : MD} {k n pc : Nat} {L st : List Value} {h : XH} {P : Option Value → XH → Prop} {v : Value} (d : decode (mC M) pc = .ok (.dup, 1)) (hv : v.category = 1)
    (kk : AX w M k n (pc + 1) L (v :: v :: st) h P) : AX w M k n pc L (v :: st) h P := by
  intro R p l e s m args below meth c H locs ls Q hR hX hH hS hL hw hE
  exact lv_dup hX.1 hX.2.1 d (by rw [xv_cat]; exact hv) (kk R p l e s m args below meth c H locs ls Q hR hX hH hS hL hw hE)
theorem AX.dup2 {w : XW} {M : MD} {k n pc : Nat} {L st : List Value} {h : XH} {P : Option Value → XH → Prop} {u v : Value} (d : decode (mC M) pc = .ok (.dup2, 1)) (hv : v.category = 1) (hu : u.category = 1)
    (kk : AX w M k n (pc + 1) L (v :: u :: v :: u :: st) h P) : AX w M k n pc L (v :: u :: st) h P := by
  intro R p l e s m args below meth c H locs ls Q hR hX hH hS hL hw hE
  exact lv_dup2_11 hX.1 hX.2.1 d (by rw [xv_cat]; exact hv) (by rw [xv_cat]; exact hu) (kk R p l e s m args below meth c H locs ls Q hR hX hH hS hL hw hE)
theorem AX.dup2_2 {w : XW} {M : MD} {k n pc : Nat} {L st : List Value} {h : XH} {P : Option Value → XH → Prop} {v : Value} (d : decode (mC M) pc = .ok (.dup2, 1)) (hv : v.category = 2)
    (kk : AX w M k n (pc + 1) L (v :: v :: st) h P) : AX w M k n pc L (v :: st) h P := by
  intro R p l e s m args below meth c H locs ls Q hR hX hH hS hL hw hE
  exact lv_dup2_2 hX.1 hX.2.1 d (by rw [xv_cat]; exact hv) (kk R p l e s m args below meth c H locs ls Q hR hX hH hS hL hw hE)
theorem AX.pop {w : XW} {M : MD} {k n pc : Nat} {L st : List Value} {h : XH} {P : Option Value → XH → Prop} {v : Value} (d : decode (mC M) pc = .ok (.pop, 1)) (hv : v.category = 1)
    (kk : AX w M k n (pc + 1) L st h P) : AX w M k n pc L (v :: st) h P := by
  intro R p l e s m args below meth c H locs ls Q hR hX hH hS hL hw hE
  exact lv_pop hX.1 hX.2.1 d (by rw [xv_cat]; exact hv) (kk R p l e s m args below meth c H locs ls Q hR hX hH hS hL hw hE)
theorem AX.pop2 {w : XW} {M : MD} {k n pc : Nat} {L st : List Value} {h : XH} {P : Option Value → XH → Prop} {v : Value} (d : decode (mC M) pc = .ok (.pop2, 1)) (hv : v.category = 2)
    (kk : AX w M k n (pc + 1) L st h P) : AX w M k n pc L (v :: st) h P := by
  intro R p l e s m args below meth c H locs ls Q hR hX hH hS hL hw hE
  exact lv_pop2_2 hX.1 hX.2.1 d (by rw [xv_cat]; exact hv) (kk R p l e s m args below meth c H locs ls Q hR hX hH hS hL hw hE)
theorem AX.if_eq {w : XW} {M : MD} {k n pc : Nat} {L st : List Value} {h : XH} {P : Option Value → XH → Prop} {x : Int32} {off : Int} {tgt : Nat} (d : decode (mC M) pc = .ok (.ifCond .eq off, 3)) (ht : (pc : Int) + off = (tgt : Int))
    (kt : x = 0 → AX w M k n tgt L st h P) (kf : ¬ x = 0 → AX w M k n (pc + 3) L st h P) : AX w M k n pc L (.int x :: st) h P := by
  intro R p l e s m args below meth c H locs ls Q hR hX hH hS hL hw hE
  exact lv_if_eq hX.1 hX.2.1 d ht (fun q => kt q R p l e s m args below meth c H locs ls Q hR hX hH hS hL hw hE) (fun q => kf q R p l e s m args below meth c H locs ls Q hR hX hH hS hL hw hE)
theorem AX.icmp_eq {w : XW} {M : MD} {k n pc : Nat} {L st : List Value} {h : XH} {P : Option Value → XH → Prop} {x y : Int32} {off : Int} {tgt : Nat} (d : decode (mC M) pc = .ok (.if_icmp .eq off, 3)) (ht : (pc : Int) + off = (tgt : Int))
    (kt : x = y → AX w M k n tgt L st h P) (kf : ¬ x = y → AX w M k n (pc + 3) L st h P) : AX w M k n pc L (.int y :: .int x :: st) h P := by
  intro R p l e s m args below meth c H locs ls Q hR hX hH hS hL hw hE
  exact lv_icmp_eq hX.1 hX.2.1 d ht (fun q => kt q R p l e s m args below meth c H locs ls Q hR hX hH hS hL hw hE) (fun q => kf q R p l e s m args below meth c H locs ls Q hR hX hH hS hL hw hE)
theorem AX.if_lt {w : XW} {M : MD} {k n pc : Nat} {L st : List Value} {h : XH} {P : Option Value → XH → Prop} {x : Int32} {off : Int} {tgt : Nat} (d : decode (mC M) pc = .ok (.ifCond .lt off, 3)) (ht : (pc : Int) + off = (tgt : Int))
    (kt : x < 0 → AX w M k n tgt L st h P) (kf : ¬ x < 0 → AX w M k n (pc + 3) L st h P) : AX w M k n pc L (.int x :: st) h P := by
  intro R p l e s m args below meth c H locs ls Q hR hX hH hS hL hw hE
  exact lv_if_lt hX.1 hX.2.1 d ht (fun q => kt q R p l e s m args below meth c H locs ls Q hR hX hH hS hL hw hE) (fun q => kf q R p l e s m args below meth c H locs ls Q hR hX hH hS hL hw hE)
theorem AX.icmp_lt {w : XW} {M : MD} {k n pc : Nat} {L st : List Value} {h : XH} {P : Option Value → XH → Prop} {x y : Int32} {off : Int} {tgt : Nat} (d : decode (mC M) pc = .ok (.if_icmp .lt off, 3)) (ht : (pc : Int) + off = (tgt : Int))
    (kt : x < y → AX w M k n tgt L st h P) (kf : ¬ x < y → AX w M k n (pc + 3) L st h P) : AX w M k n pc L (.int y :: .int x :: st) h P := by
  intro R p l e s m args below meth c H locs ls Q hR hX hH hS hL hw hE
  exact lv_icmp_lt hX.1 hX.2.1 d ht (fun q => kt q R p l e s m args below meth c H locs ls Q hR hX hH hS hL hw hE) (fun q => kf q R p l e s m args below meth c H locs ls Q hR hX hH hS hL hw hE)
theorem AX.if_ge {w : XW} {M : MD} {k n pc : Nat} {L st : List Value} {h : XH} {P : Option Value → XH → Prop} {x : Int32} {off : Int} {tgt : Nat} (d : decode (mC M) pc = .ok (.ifCond .ge off, 3)) (ht : (pc : Int) + off = (tgt : Int))
    (kt : 0 ≤ x → AX w M k n tgt L st h P) (kf : ¬ 0 ≤ x → AX w M k n (pc + 3) L st h P) : AX w M k n pc L (.int x :: st) h P := by
  intro R p l e s m args below meth c H locs ls Q hR hX hH hS hL hw hE
  exact lv_if_ge hX.1 hX.2.1 d ht (fun q => kt q R p l e s m args below meth c H locs ls Q hR hX hH hS hL hw hE) (fun q => kf q R p l e s m args below meth c H locs ls Q hR hX hH hS hL hw hE)
theorem AX.icmp_ge {w : XW} {M : MD} {k n pc : Nat} {L st : List Value} {h : XH} {P : Option Value → XH → Prop} {x y : Int32} {off : Int} {tgt : Nat} (d : decode (mC M) pc = .ok (.if_icmp .ge off, 3)) (ht : (pc : Int) + off = (tgt : Int))
    (kt : y ≤ x → AX w M k n tgt L st h P) (kf : ¬ y ≤ x → AX w M k n (pc + 3) L st h P) : AX w M k n pc L (.int y :: .int x :: st) h P := by
  intro R p l e s m args below meth c H locs ls Q hR hX hH hS hL hw hE
  exact lv_icmp_ge hX.1 hX.2.1 d ht (fun q => kt q R p l e s m args below meth c H locs ls Q hR hX hH hS hL hw hE) (fun q => kf q R p l e s m args below meth c H locs ls Q hR hX hH hS hL hw hE)
theorem AX.if_gt {w : XW} {M : MD} {k n pc : Nat} {L st : List Value} {h : XH} {P : Option Value → XH → Prop} {x : Int32} {off : Int} {tgt : Nat} (d : decode (mC M) pc = .ok (.ifCond .gt off, 3)) (ht : (pc : Int) + off = (tgt : Int))
    (kt : 0 < x → AX w M k n tgt L st h P) (kf : ¬ 0 < x → AX w M k n (pc + 3) L st h P) : AX w M k n pc L (.int x :: st) h P := by
  intro R p l e s m args below meth c H locs ls Q hR hX hH hS hL hw hE
  exact lv_if_gt hX.1 hX.2.1 d ht (fun q => kt q R p l e s m args below meth c H locs ls Q hR hX hH hS hL hw hE) (fun q => kf q R p l e s m args below meth c H locs ls Q hR hX hH hS hL hw hE)
theorem AX.icmp_gt {w : XW} {M : MD} {k n pc : Nat} {L st : List Value} {h : XH} {P : Option Value → XH → Prop} {x y : Int32} {off : Int} {tgt : Nat} (d : decode (mC M) pc = .ok (.if_icmp .gt off, 3)) (ht : (pc : Int) + off = (tgt : Int))
    (kt : y < x → AX w M k n tgt L st h P) (kf : ¬ y < x → AX w M k n (pc + 3) L st h P) : AX w M k n pc L (.int y :: .int x :: st) h P := by
  intro R p l e s m args below meth c H locs ls Q hR hX hH hS hL hw hE
  exact lv_icmp_gt hX.1 hX.2.1 d ht (fun q => kt q R p l e s m args below meth c H locs ls Q hR hX hH hS hL hw hE) (fun q => kf q R p l e s m args below meth c H locs ls Q hR hX hH hS hL hw hE)
theorem AX.if_le {w : XW} {M : MD} {k n pc : Nat} {L st : List Value} {h : XH} {P : Option Value → XH → Prop} {x : Int32} {off : Int} {tgt : Nat} (d : decode (mC M) pc = .ok (.ifCond .le off, 3)) (ht : (pc : Int) + off = (tgt : Int))
    (kt : x ≤ 0 → AX w M k n tgt L st h P) (kf : ¬ x ≤ 0 → AX w M k n (pc + 3) L st h P) : AX w M k n pc L (.int x :: st) h P := by
  intro R p l e s m args below meth c H locs ls Q hR hX hH hS hL hw hE
  exact lv_if_le hX.1 hX.2.1 d ht (fun q => kt q R p l e s m args below meth c H locs ls Q hR hX hH hS hL hw hE) (fun q => kf q R p l e s m args below meth c H locs ls Q hR hX hH hS hL hw hE)
theorem AX.icmp_le {w : XW} {M : MD} {k n pc : Nat} {L st : List Value} {h : XH} {P : Option Value → XH → Prop} {x y : Int32} {off : Int} {tgt : Nat} (d : decode (mC M) pc = .ok (.if_icmp .le off, 3)) (ht : (pc : Int) + off = (tgt : Int))
    (kt : x ≤ y → AX w M k n tgt L st h P) (kf : ¬ x ≤ y → AX w M k n (pc + 3) L st h P) : AX w M k n pc L (.int y :: .int x :: st) h P := by
  intro R p l e s m args below meth c H locs ls Q hR hX hH hS hL hw hE
  exact lv_icmp_le hX.1 hX.2.1 d ht (fun q => kt q R p l e s m args below meth c H locs ls Q hR hX hH hS hL hw hE) (fun q => kf q R p l e s m args below meth c H locs ls Q hR hX hH hS hL hw hE)
theorem AX.if_ne {w : XW} {M : MD} {k n pc : Nat} {L st : List Value} {h : XH} {P : Option Value → XH → Prop} {x : Int32} {off : Int} {tgt : Nat} (d : decode (mC M) pc = .ok (.ifCond .ne off, 3)) (ht : (pc : Int) + off = (tgt : Int))
    (kt : ¬ x = 0 → AX w M k n tgt L st h P) (kf : x = 0 → AX w M k n (pc + 3) L st h P) : AX w M k n pc L (.int x :: st) h P := by
  intro R p l e s m args below meth c H locs ls Q hR hX hH hS hL hw hE
  exact lv_if_ne hX.1 hX.2.1 d ht (fun q => kt q R p l e s m args below meth c H locs ls Q hR hX hH hS hL hw hE) (fun q => kf q R p l e s m args below meth c H locs ls Q hR hX hH hS hL hw hE)
theorem AX.icmp_ne {w : XW} {M : MD} {k n pc : Nat} {L st : List Value} {h : XH} {P : Option Value → XH → Prop} {x y : Int32} {off : Int} {tgt : Nat} (d : decode (mC M) pc = .ok (.if_icmp .ne off, 3)) (ht : (pc : Int) + off = (tgt : Int))
    (kt : ¬ x = y → AX w M k n tgt L st h P) (kf : x = y → AX w M k n (pc + 3) L st h P) : AX w M k n pc L (.int y :: .int x :: st) h P := by
  intro R p l e s m args below meth c H locs ls Q hR hX hH hS hL hw hE
  exact lv_icmp_ne hX.1 hX.2.1 d ht (fun q => kt q R p l e s m args below meth c H locs ls Q hR hX hH hS hL hw hE) (fun q => kf q R p l e s m args below meth c H locs ls Q hR hX hH hS hL hw hE)
theorem AX.goto {w : XW} {M : MD} {k n pc : Nat} {L st : List Value} {h : XH} {P : Option Value → XH → Prop} {off : Int} {tgt : Nat} (d : decode (mC M) pc = .ok (.goto off, 3)) (ht : (pc : Int) + off = (tgt : Int))
    (kk : AX w M k n tgt L st h P) : AX w M k n pc L st h P := by
  intro R p l e s m args below meth c H locs ls Q hR hX hH hS hL hw hE
  exact lv_goto hX.1 hX.2.1 d ht (kk R p l e s m args below meth c H locs ls Q hR hX hH hS hL hw hE)
theorem AX.tableIn {w : XW} {M : MD} {k n pc : Nat} {L st : List Value} {h : XH} {P : Option Value → XH → Prop} {dflt lo hi : Int} {offs : Array Int} {len : Nat} {x : Int32} {off : Int} {tgt : Nat} (d : decode (mC M) pc = .ok (.tableswitch dflt lo hi offs, len)) (h1 : ¬ x.toInt < lo) (h2 : ¬ hi < x.toInt) (ho : offs[(x.toInt - lo).toNat]? = some off) (ht : (pc : Int) + off = (tgt : Int))
    (kk : AX w M k n tgt L st h P) : AX w M k n pc L (.int x :: st) h P := by
  intro R p l e s m args below meth c H locs ls Q hR hX hH hS hL hw hE
  exact lv_tableIn hX.1 hX.2.1 d h1 h2 ho ht (kk R p l e s m args below meth c H locs ls Q hR hX hH hS hL hw hE)
theorem AX.tableOut {w : XW} {M : MD} {k n pc : Nat} {L st : List Value} {h : XH} {P : Option Value → XH → Prop} {dflt lo hi : Int} {offs : Array Int} {len : Nat} {x : Int32} {tgt : Nat} (d : decode (mC M) pc = .ok (.tableswitch dflt lo hi offs, len)) (h1 : x.toInt < lo ∨ hi < x.toInt) (ht : (pc : Int) + dflt = (tgt : Int))
    (kk : AX w M k n tgt L st h P) : AX w M k n pc L (.int x :: st) h P := by
  intro R p l e s m args below meth c H locs ls Q hR hX hH hS hL hw hE
  exact lv_tableOut hX.1 hX.2.1 d h1 ht (kk R p l e s m args below meth c H locs ls Q hR hX hH hS hL hw hE)
theorem AX.lookup {w : XW} {M : MD} {k n pc : Nat} {L st : List Value} {h : XH} {P : Option Value → XH → Prop} {dflt : Int} {ps : Array (Int × Int)} {len : Nat} {x : Int32} {off : Int} {tgt : Nat} (d : decode (mC M) pc = .ok (.lookupswitch dflt ps, len)) (hp : (ps.toList.zip (ps.toList.drop 1)).all (fun (a, next) => a.1 < next.1) = true) (ho : Op.lookupswitch.offset ps.toList dflt x.toInt = off) (ht : (pc : Int) + off = (tgt : Int))
    (kk : AX w M k n tgt L st h P) : AX w M k n pc L (.int x :: st) h P := by
  intro R p l e s m args below meth c H locs ls Q hR hX hH hS hL hw hE
  exact lv_lookup hX.1 hX.2.1 d hp ho ht (kk R p l e s m args below meth c H locs ls Q hR hX hH hS hL hw hE)
theorem AX.iload {w : XW} {M : MD} {k n pc : Nat} {L st : List Value} {h : XH} {P : Option Value → XH → Prop} {i : Nat} {x : Int32} (d : decode (mC M) pc = .ok (.iload i, 2)) (hl : L[i]? = some (.int x))
    (kk : AX w M k n (pc + 2) L (.int x :: st) h P) : AX w M k n pc L st h P := by
  intro R p l e s m args below meth c H locs ls Q hR hX hH hS hL hw hE
  exact lv_iload hX.1 hX.2.1 d (hL.at hl (fun q => by cases q)) (kk R p l e s m args below meth c H locs ls Q hR hX hH hS hL hw hE)
theorem AX.iload_n {w : XW} {M : MD} {k n pc : Nat} {L st : List Value} {h : XH} {P : Option Value → XH → Prop} {i : Fin 4} {x : Int32} (d : decode (mC M) pc = .ok (.iload_n i, 1)) (hl : L[(i : Nat)]? = some (.int x))
    (kk : AX w M k n (pc + 1) L (.int x :: st) h P) : AX w M k n pc L st h P := by
  intro R p l e s m args below meth c H locs ls Q hR hX hH hS hL hw hE
  exact lv_iload_n hX.1 hX.2.1 d rfl (hL.at hl (fun q => by cases q)) (kk R p l e s m args below meth c H locs ls Q hR hX hH hS hL hw hE)
theorem AX.lload {w : XW} {M : MD} {k n pc : Nat} {L st : List Value} {h : XH} {P : Option Value → XH → Prop} {i : Nat} {x : Int64} (d : decode (mC M) pc = .ok (.lload i, 2)) (hl : L[i]? = some (.long x))
    (kk : AX w M k n (pc + 2) L (.long x :: st) h P) : AX w M k n pc L st h P := by
  intro R p l e s m args below meth c H locs ls Q hR hX hH hS hL hw hE
  exact lv_lload hX.1 hX.2.1 d (hL.at hl (fun q => by cases q)) (kk R p l e s m args below meth c H locs ls Q hR hX hH hS hL hw hE)
theorem AX.lload_n {w : XW} {M : MD} {k n pc : Nat} {L st : List Value} {h : XH} {P : Option Value → XH → Prop} {i : Fin 4} {x : Int64} (d : decode (mC M) pc = .ok (.lload_n i, 1)) (hl : L[(i : Nat)]? = some (.long x))
    (kk : AX w M k n (pc + 1) L (.long x :: st) h P) : AX w M k n pc L st h P := by
  intro R p l e s m args below meth c H locs ls Q hR hX hH hS hL hw hE
  exact lv_lload_n hX.1 hX.2.1 d rfl (hL.at hl (fun q => by cases q)) (kk R p l e s m args below meth c H locs ls Q hR hX hH hS hL hw hE)
theorem AX.aload {w : XW} {M : MD} {k n pc : Nat} {L st : List Value} {h : XH} {P : Option Value → XH → Prop} {i : Nat} {x : Nat} (d : decode (mC M) pc = .ok (.aload i, 2)) (hl : L[i]? = some (.ref x))
    (kk : AX w M k n (pc + 2) L (.ref x :: st) h P) : AX w M k n pc L st h P := by
  intro R p l e s m args below meth c H locs ls Q hR hX hH hS hL hw hE
  exact lv_aload hX.1 hX.2.1 d (hL.at hl (fun q => by cases q)) (kk R p l e s m args below meth c H locs ls Q hR hX hH hS hL hw hE)
theorem AX.aload_n {w : XW} {M : MD} {k n pc : Nat} {L st : List Value} {h : XH} {P : Option Value → XH → Prop} {i : Fin 4} {x : Nat} (d : decode (mC M) pc = .ok (.aload_n i, 1)) (hl : L[(i : Nat)]? = some (.ref x))
    (kk : AX w M k n (pc + 1) L (.ref x :: st) h P) : AX w M k n pc L st h P := by
  intro R p l e s m args below meth c H locs ls Q hR hX hH hS hL hw hE
  exact lv_aload_n hX.1 hX.2.1 d rfl (hL.at hl (fun q => by cases q)) (kk R p l e s m args below meth c H locs ls Q hR hX hH hS hL hw hE)
theorem AX.dload {w : XW} {M : MD} {k n pc : Nat} {L st : List Value} {h : XH} {P : Option Value → XH → Prop} {i : Nat} {x : UInt64} (d : decode (mC M) pc = .ok (.dload i, 2)) (hl : L[i]? = some (.double x))
    (kk : AX w M k n (pc + 2) L (.double x :: st) h P) : AX w M k n pc L st h P := by
  intro R p l e s m args below meth c H locs ls Q hR hX hH hS hL hw hE
  exact lv_dload hX.1 hX.2.1 d (hL.at hl (fun q => by cases q)) (kk R p l e s m args below meth c H locs ls Q hR hX hH hS hL hw hE)
theorem AX.dload_n {w : XW} {M : MD} {k n pc : Nat} {L st : List Value} {h : XH} {P : Option Value → XH → Prop} {i : Fin 4} {x : UInt64} (d : decode (mC M) pc = .ok (.dload_n i, 1)) (hl : L[(i : Nat)]? = some (.double x))
    (kk : AX w M k n (pc + 1) L (.double x :: st) h P) : AX w M k n pc L st h P := by
  intro R p l e s m args below meth c H locs ls Q hR hX hH hS hL hw hE
  exact lv_dload_n hX.1 hX.2.1 d rfl (hL.at hl (fun q => by cases q)) (kk R p l e s m args below meth c H locs ls Q hR hX hH hS hL hw hE)
theorem AX.fload_n {w : XW} {M : MD} {k n pc : Nat} {L st : List Value} {h : XH} {P : Option Value → XH → Prop} {i : Fin 4} {x : UInt32} (d : decode (mC M) pc = .ok (.fload_n i, 1)) (hl : L[(i : Nat)]? = some (.float x))
    (kk : AX w M k n (pc + 1) L (.float x :: st) h P) : AX w M k n pc L st h P := by
  intro R p l e s m args below meth c H locs ls Q hR hX hH hS hL hw hE
  exact lv_fload_n hX.1 hX.2.1 d rfl (hL.at hl (fun q => by cases q)) (kk R p l e s m args below meth c H locs ls Q hR hX hH hS hL hw hE)
theorem AX.istore {w : XW} {M : MD} {k n pc : Nat} {L st : List Value} {h : XH} {P : Option Value → XH → Prop} {i : Nat} {x : Int32} {L' : List Value} (d : decode (mC M) pc = .ok (.istore i, 2)) (hn : i < mN M) (hl : st1 L i (.int x) = L')
    (kk : AX w M k n (pc + 2) L' st h P) : AX w M k n pc L (.int x :: st) h P := by
  subst hl
  intro R p l e s m args below meth c H locs ls Q hR hX hH hS hL hw hE
  exact lv_istore hX.1 hX.2.1 d (xall_has hL.1 hL.2.1) hn rfl (fun ls' hl' => kk R p l e s m args below meth c H locs ls' Q hR hX hH hS (XL.st1 (x := .int x) hL hl') hw hE)
theorem AX.istore_n {w : XW} {M : MD} {k n pc : Nat} {L st : List Value} {h : XH} {P : Option Value → XH → Prop} {i : Fin 4} {x : Int32} {L' : List Value} (d : decode (mC M) pc = .ok (.istore_n i, 1)) (hn : (i : Nat) < mN M) (hl : st1 L (i : Nat) (.int x) = L')
    (kk : AX w M k n (pc + 1) L' st h P) : AX w M k n pc L (.int x :: st) h P := by
  subst hl
  intro R p l e s m args below meth c H locs ls Q hR hX hH hS hL hw hE
  exact lv_istore_n hX.1 hX.2.1 d rfl (xall_has hL.1 hL.2.1) hn rfl (fun ls' hl' => kk R p l e s m args below meth c H locs ls' Q hR hX hH hS (XL.st1 (x := .int x) hL hl') hw hE)
theorem AX.astore {w : XW} {M : MD} {k n pc : Nat} {L st : List Value} {h : XH} {P : Option Value → XH → Prop} {i : Nat} {x : Nat} {L' : List Value} (d : decode (mC M) pc = .ok (.astore i, 2)) (hn : i < mN M) (hl : st1 L i (.ref x) = L')
    (kk : AX w M k n (pc + 2) L' st h P) : AX w M k n pc L (.ref x :: st) h P := by
  subst hl
  intro R p l e s m args below meth c H locs ls Q hR hX hH hS hL hw hE
  exact lv_astore hX.1 hX.2.1 d (xall_has hL.1 hL.2.1) hn rfl (fun ls' hl' => kk R p l e s m args below meth c H locs ls' Q hR hX hH hS (XL.st1 (x := .ref x) hL hl') hw hE)
theorem AX.astore_n {w : XW} {M : MD} {k n pc : Nat} {L st : List Value} {h : XH} {P : Option Value → XH → Prop} {i : Fin 4} {x : Nat} {L' : List Value} (d : decode (mC M) pc = .ok (.astore_n i, 1)) (hn : (i : Nat) < mN M) (hl : st1 L (i : Nat) (.ref x) = L')
    (kk : AX w M k n (pc + 1) L' st h P) : AX w M k n pc L (.ref x :: st) h P := by
  subst hl
  intro R p l e s m args below meth c H locs ls Q hR hX hH hS hL hw hE
  exact lv_astore_n hX.1 hX.2.1 d rfl (xall_has hL.1 hL.2.1) hn rfl (fun ls' hl' => kk R p l e s m args below meth c H locs ls' Q hR hX hH hS (XL.st1 (x := .ref x) hL hl') hw hE)
theorem AX.lstore {w : XW} {M : MD} {k n pc : Nat} {L st : List Value} {h : XH} {P : Option Value → XH → Prop} {i : Nat} {x : Int64} {L' : List Value} (d : decode (mC M) pc = .ok (.lstore i, 2)) (hn : i + 1 < mN M) (hl : st2 L i (.long x) = L')
    (kk : AX w M k n (pc + 2) L' st h P) : AX w M k n pc L (.long x :: st) h P := by
  subst hl
  intro R p l e s m args below meth c H locs ls Q hR hX hH hS hL hw hE
  exact lv_lstore hX.1 hX.2.1 d (xall_has hL.1 hL.2.1) hn rfl (fun ls' hl' => kk R p l e s m args below meth c H locs ls' Q hR hX hH hS (XL.st2 (x := .long x) hL hl') hw hE)
theorem AX.lstore_n {w : XW} {M : MD} {k n pc : Nat} {L st : List Value} {h : XH} {P : Option Value → XH → Prop} {i : Fin 4} {x : Int64} {L' : List Value} (d : decode (mC M) pc = .ok (.lstore_n i, 1)) (hn : (i : Nat) + 1 < mN M) (hl : st2 L (i : Nat) (.long x) = L')
    (kk : AX w M k n (pc + 1) L' st h P) : AX w M k n pc L (.long x :: st) h P := by
  subst hl
  intro R p l e s m args below meth c H locs ls Q hR hX hH hS hL hw hE
  exact lv_lstore_n hX.1 hX.2.1 d rfl (xall_has hL.1 hL.2.1) hn rfl (fun ls' hl' => kk R p l e s m args below meth c H locs ls' Q hR hX hH hS (XL.st2 (x := .long x) hL hl') hw hE)
theorem AX.dstore {w : XW} {M : MD} {k n pc : Nat} {L st : List Value} {h : XH} {P : Option Value → XH → Prop} {i : Nat} {x : UInt64} {L' : List Value} (d : decode (mC M) pc = .ok (.dstore i, 2)) (hn : i + 1 < mN M) (hl : st2 L i (.double x) = L')
    (kk : AX w M k n (pc + 2) L' st h P) : AX w M k n pc L (.double x :: st) h P := by
  subst hl
  intro R p l e s m args below meth c H locs ls Q hR hX hH hS hL hw hE
  exact lv_dstore hX.1 hX.2.1 d (xall_has hL.1 hL.2.1) hn rfl (fun ls' hl' => kk R p l e s m args below meth c H locs ls' Q hR hX hH hS (XL.st2 (x := .double x) hL hl') hw hE)
theorem AX.dstore_n {w : XW} {M : MD} {k n pc : Nat} {L st : List Value} {h : XH} {P : Option Value → XH → Prop} {i : Fin 4} {x : UInt64} {L' : List Value} (d : decode (mC M) pc = .ok (.dstore_n i, 1)) (hn : (i : Nat) + 1 < mN M) (hl : st2 L (i : Nat) (.double x) = L')
    (kk : AX w M k n (pc + 1) L' st h P) : AX w M k n pc L (.double x :: st) h P := by
  subst hl
  intro R p l e s m args below meth c H locs ls Q hR hX hH hS hL hw hE
  exact lv_dstore_n hX.1 hX.2.1 d rfl (xall_has hL.1 hL.2.1) hn rfl (fun ls' hl' => kk R p l e s m args below meth c H locs ls' Q hR hX hH hS (XL.st2 (x := .double x) hL hl') hw hE)
theorem AX.fstore_n {w : XW} {M : MD} {k n pc : Nat} {L st : List Value} {h : XH} {P : Option Value → XH → Prop} {i : Fin 4} {x : UInt32} {L' : List Value} (d : decode (mC M) pc = .ok (.fstore_n i, 1)) (hn : (i : Nat) < mN M) (hl : st1 L (i : Nat) (.float x) = L')
    (kk : AX w M k n (pc + 1) L' st h P) : AX w M k n pc L (.float x :: st) h P := by
  subst hl
  intro R p l e s m args below meth c H locs ls Q hR hX hH hS hL hw hE
  exact lv_fstore_n hX.1 hX.2.1 d rfl (xall_has hL.1 hL.2.1) hn rfl (fun ls' hl' => kk R p l e s m args below meth c H locs ls' Q hR hX hH hS (XL.st1 (x := .float x) hL hl') hw hE)
theorem AX.iinc {w : XW} {M : MD} {k n pc : Nat} {L st : List Value} {h : XH} {P : Option Value → XH → Prop} {i : Nat} {a : Int} {x v : Int32} {L' : List Value} (d : decode (mC M) pc = .ok (.iinc i a, 3)) (hx : L[i]? = some (.int x)) (hv : x + Int32.ofInt a = v) (hn : i < mN M) (hl : st1 L i (.int v) = L')
    (kk : AX w M k n (pc + 3) L' st h P) : AX w M k n pc L st h P := by
  subst hl
  intro R p l e s m args below meth c H locs ls Q hR hX hH hS hL hw hE
  obtain ⟨j, hj⟩ := List.getElem?_of_mem (xall_mem.mpr (hL.at hx (fun q => by cases q)))
  exact lv_iinc hX.1 hX.2.1 d (xall_has hL.1 hL.2.1) hj hv hn rfl (fun ls' hl' => kk R p l e s m args below meth c H locs ls' Q hR hX hH hS (XL.st1 (x := .int v) hL hl') hw hE)
theorem AX.ret {w : XW} {M : MD} {k n pc : Nat} {L st : List Value} {h : XH} {P : Option Value → XH → Prop} {v : Option Value} (hr : XRet M pc st v) (hk : k ≤ mmc M) (hn : n ≤ mms M) (hP : P v h) : AX w M k n pc L st h P := by
  intro R p l e s m args below meth c H locs ls Q hR hX hH hS hL hw hE
  exact W.widen hk hn (hE H locs ls pc st v h hr hP hH hS)
theorem AX.iret {w : XW} {M : MD} {k n pc : Nat} {L : List Value} {h : XH} {P : Option Value → XH → Prop} {x : Int32} {ty : FieldType} (d : decode (mC M) pc = .ok (.ireturn, 1)) (hr : mR M = some ty) (hz : narrow ty (.int x) = .int x) (hk : k ≤ mmc M) (hn : n ≤ mms M) (hP : P (some (.int x)) h) : AX w M k n pc L [.int x] h P :=
  AX.ret (Or.inr (Or.inl ⟨x, ty, hr, hz, rfl, rfl, d⟩)) hk hn hP
theorem AX.lret {w : XW} {M : MD} {k n pc : Nat} {L : List Value} {h : XH} {P : Option Value → XH → Prop} {x : Int64} (d : decode (mC M) pc = .ok (.lreturn, 1)) (hr : mR M = some .long) (hk : k ≤ mmc M) (hn : n ≤ mms M) (hP : P (some (.long x)) h) : AX w M k n pc L [.long x] h P :=
  AX.ret (Or.inr (Or.inr (Or.inl ⟨x, hr, rfl, rfl, d⟩))) hk hn hP
theorem AX.dret {w : XW} {M : MD} {k n pc : Nat} {L : List Value} {h : XH} {P : Option Value → XH → Prop} {x : UInt64} (d : decode (mC M) pc = .ok (.dreturn, 1)) (hr : mR M = some .double) (hk : k ≤ mmc M) (hn : n ≤ mms M) (hP : P (some (.double x)) h) : AX w M k n pc L [.double x] h P :=
  AX.ret (Or.inr (Or.inr (Or.inr ⟨x, hr, rfl, rfl, d⟩))) hk hn hP
theorem AX.vret {w : XW} {M : MD} {k n pc : Nat} {L : List Value} {h : XH} {P : Option Value → XH → Prop} (d : decode (mC M) pc = .ok (.return_, 1)) (hr : mR M = none) (hk : k ≤ mmc M) (hn : n ≤ mms M) (hP : P none h) : AX w M k n pc L [] h P :=
  AX.ret (Or.inl ⟨hr, rfl, rfl, d⟩) hk hn hP
theorem AX.weaken {w : XW} {M : MD} {k n pc : Nat} {L L' st : List Value} {h : XH} {P : Option Value → XH → Prop} (hs : ∀ (j : Nat) (v : Value), L'[j]? = some v → v ≠ .null → L[j]? = some v) (kk : AX w M k n pc L' st h P) : AX w M k n pc L st h P := by
  intro R p l e s m args below meth c H locs ls Q hR hX hH hS hL hw hE
  exact kk R p l e s m args below meth c H locs ls Q hR hX hH hS (hL.weaken hs) hw hE
theorem AX.mono {w : XW} {M : MD} {k n pc : Nat} {L st : List Value} {h : XH} {P P' : Option Value → XH → Prop} (hp : ∀ v h', P v h' → P' v h') (kk : AX w M k n pc L st h P) : AX w M k n pc L st h P' := by
  intro R p l e s m args below meth c H locs ls Q hR hX hH hS hL hw hE
  exact kk R p l e s m args below meth c H locs ls Q hR hX hH hS hL hw (fun H' locs' ls' pc' st' v h' h1 h2 => hE H' locs' ls' pc' st' v h' h1 (hp v h' h2))
