/-! ===== THE LAW: the cases 2 ===== -/
theorem l_case20 (w : XW) {L0 : Nat} {xs : Nat → Int32} (hL0 : L0 ≤ 2560) (P : Option Value → XH → Prop) {c : Nat} {h : XH} (hi : INV c h) (hc : 5 * c + 5 ≤ L0) (kk : ∀ h', INV (c + 1) h' → AZ (ZL w L0 xs) w M_L_law 118 19112 1377 [.retAddr 0, .ref 0, .ref 87, .int (nI (5 * c))] [] h' P) : AZ (ZL w L0 xs) w M_L_law 118 19112 923 [.retAddr 0, .ref 0, .ref 87, .int (nI (5 * c))] [] h P := by
  obtain ⟨hn, s, o, a, b, C, M0, Lv, Tr, Im⟩ := hi
  obtain ⟨x1, ex1⟩ : ∃ z, z = xs (5 * c + 1) := ⟨_, rfl⟩
  refine AZ.aload_n (pc := 923) dL_law_923 rfl ?_
  refine AZ.sload (pc := 924) dL_law_924 rfl ?_
  refine AZ.iload_n (pc := 925) dL_law_925 rfl ?_
  refine AZ.iconst (pc := 926) (v := nI 1) dL_law_926 (by decide) ?_
  refine AZ.iaddN (pc := 927) (c := 5 * c + 1) dL_law_927 rfl ?_
  refine AZ.sld (pc := 928) (i := 5 * c + 1) (by omega) hL0 dL_law_928 ?_
  rw [← ex1]
  refine AZ.callV (pc := 929) (M2 := M_X11_thrown) (As := [.int x1]) (rest := []) (c_thrown w h C Lv x1) ⟨xc_L_law__X11_thrown.1, xc_L_law__X11_thrown.2.1, xc_L_law__X11_thrown.2.2.1, Nat.le_of_ble_eq_true rfl, Nat.le_of_ble_eq_true rfl⟩ gL_law_X11_thrown (ci := 10) rfl (lt_k hn (by omega)) C.dm rfl (Nat.le_of_ble_eq_true rfl) dL_law_929 ?_
  rintro _ h1 ⟨rfl, s1, C1⟩
  have M1 : MS h1 s := M0.far s1 s1.cl
  have n1 := s1.le hn
  obtain ⟨vv1, O1, -⟩ := id M1.ob
  show AZ (ZL w L0 xs) w M_L_law 118 19112 932 [.retAddr 0, .ref 0, .ref 87, .int (nI (5 * c))] (_ :: []) _ _
  refine AZ.aload_n (pc := 932) dL_law_932 rfl ?_
  refine AZ.sload (pc := 933) dL_law_933 rfl ?_
  refine AZ.iload_n (pc := 934) dL_law_934 rfl ?_
  refine AZ.iconst (pc := 935) (v := nI 1) dL_law_935 (by decide) ?_
  refine AZ.iaddN (pc := 936) (c := 5 * c + 1) dL_law_936 rfl ?_
  refine AZ.sld (pc := 937) (i := 5 * c + 1) (by omega) hL0 dL_law_937 ?_
  rw [← ex1]
  refine AZ.callV (pc := 938) (M2 := M_X12_thrown) (As := [.int x1]) (rest := [_]) (c_mThrown w h1 M1 Lv x1) ⟨xc_L_law__X12_thrown.1, xc_L_law__X12_thrown.2.1, xc_L_law__X12_thrown.2.2.1, Nat.le_of_ble_eq_true rfl, Nat.le_of_ble_eq_true rfl⟩ gL_law_X12_thrown (ci := 11) rfl (lt_k n1 (by omega)) O1 rfl (Nat.le_of_ble_eq_true rfl) dL_law_938 ?_
  rintro _ h2 ⟨rfl, s2, M2⟩
  have C2 := C1.far s2 s2.md
  have n2 := s2.le n1
  show AZ (ZL w L0 xs) w M_L_law 118 19112 941 [.retAddr 0, .ref 0, .ref 87, .int (nI (5 * c))] (_ :: _ :: []) _ _
  refine AZ.icmp_eq (pc := 941) (tgt := 1377) dL_law_941 (by decide) (fun _ => ?_) (fun q => absurd rfl q)
  exact kk h2 ⟨n2, (wq s (nThrown o (sq s) x1)), o, a, b, C2, M2, (show LV _ (12 * (c + 1)) o a b from by rw [show 12 * (c + 1) = 12 * c + 12 by omega]; exact Lv.thrown1 x1), Tr, fun q => (Im q).imp fun _ z => z.imp fun _ z => z.imp fun _ z => z.more (by omega)⟩
theorem l_case21 (w : XW) {L0 : Nat} {xs : Nat → Int32} (hL0 : L0 ≤ 2560) (P : Option Value → XH → Prop) {c : Nat} {h : XH} (hi : INV c h) (hc : 5 * c + 5 ≤ L0) (kk : ∀ h', INV (c + 1) h' → AZ (ZL w L0 xs) w M_L_law 118 19112 1377 [.retAddr 0, .ref 0, .ref 87, .int (nI (5 * c))] [] h' P) : AZ (ZL w L0 xs) w M_L_law 118 19112 946 [.retAddr 0, .ref 0, .ref 87, .int (nI (5 * c))] [] h P := by
  obtain ⟨hn, s, o, a, b, C, M0, Lv, Tr, Im⟩ := hi
  obtain ⟨x1, ex1⟩ : ∃ z, z = xs (5 * c + 1) := ⟨_, rfl⟩
  refine AZ.aload_n (pc := 946) dL_law_946 rfl ?_
  refine AZ.sload (pc := 947) dL_law_947 rfl ?_
  refine AZ.iload_n (pc := 948) dL_law_948 rfl ?_
  refine AZ.iconst (pc := 949) (v := nI 1) dL_law_949 (by decide) ?_
  refine AZ.iaddN (pc := 950) (c := 5 * c + 1) dL_law_950 rfl ?_
  refine AZ.sld (pc := 951) (i := 5 * c + 1) (by omega) hL0 dL_law_951 ?_
  rw [← ex1]
  refine AZ.callV (pc := 952) (M2 := M_X11_throwsAt) (As := [.int x1]) (rest := []) (c_throwsAt w h C Lv x1) ⟨xc_L_law__X11_throwsAt.1, xc_L_law__X11_throwsAt.2.1, xc_L_law__X11_throwsAt.2.2.1, Nat.le_of_ble_eq_true rfl, Nat.le_of_ble_eq_true rfl⟩ gL_law_X11_throwsAt (ci := 10) rfl (lt_k hn (by omega)) C.dm rfl (Nat.le_of_ble_eq_true rfl) dL_law_952 ?_
  rintro _ h1 ⟨rfl, s1, C1⟩
  have M1 : MS h1 s := M0.far s1 s1.cl
  have n1 := s1.le hn
  obtain ⟨vv1, O1, -⟩ := id M1.ob
  show AZ (ZL w L0 xs) w M_L_law 118 19112 955 [.retAddr 0, .ref 0, .ref 87, .int (nI (5 * c))] (_ :: []) _ _
  refine AZ.aload_n (pc := 955) dL_law_955 rfl ?_
  refine AZ.sload (pc := 956) dL_law_956 rfl ?_
  refine AZ.iload_n (pc := 957) dL_law_957 rfl ?_
  refine AZ.iconst (pc := 958) (v := nI 1) dL_law_958 (by decide) ?_
  refine AZ.iaddN (pc := 959) (c := 5 * c + 1) dL_law_959 rfl ?_
  refine AZ.sld (pc := 960) (i := 5 * c + 1) (by omega) hL0 dL_law_960 ?_
  rw [← ex1]
  refine AZ.callV (pc := 961) (M2 := M_X12_throwsAt) (As := [.int x1]) (rest := [_]) (c_mAt w h1 M1 Lv x1) ⟨xc_L_law__X12_throwsAt.1, xc_L_law__X12_throwsAt.2.1, xc_L_law__X12_throwsAt.2.2.1, Nat.le_of_ble_eq_true rfl, Nat.le_of_ble_eq_true rfl⟩ gL_law_X12_throwsAt (ci := 11) rfl (lt_k n1 (by omega)) O1 rfl (Nat.le_of_ble_eq_true rfl) dL_law_961 ?_
  rintro _ h2 ⟨rfl, s2, M2⟩
  have C2 := C1.far s2 s2.md
  have n2 := s2.le n1
  show AZ (ZL w L0 xs) w M_L_law 118 19112 964 [.retAddr 0, .ref 0, .ref 87, .int (nI (5 * c))] (_ :: _ :: []) _ _
  refine AZ.icmp_eq (pc := 964) (tgt := 1377) dL_law_964 (by decide) (fun _ => ?_) (fun q => absurd rfl q)
  exact kk h2 ⟨n2, (wq s (nAt o a b (sq s) x1)), o, a, b, C2, M2, (show LV _ (12 * (c + 1)) o a b from by rw [show 12 * (c + 1) = 12 * c + 12 by omega]; exact Lv.nat1 x1), Tr, fun q => (Im q).imp fun _ z => z.imp fun _ z => z.imp fun _ z => z.more (by omega)⟩
theorem l_case22 (w : XW) {L0 : Nat} {xs : Nat → Int32} (hL0 : L0 ≤ 2560) (P : Option Value → XH → Prop) {c : Nat} {h : XH} (hi : INV c h) (hc : 5 * c + 5 ≤ L0) (kk : ∀ h', INV (c + 1) h' → AZ (ZL w L0 xs) w M_L_law 118 19112 1377 [.retAddr 0, .ref 0, .ref 87, .int (nI (5 * c))] [] h' P) : AZ (ZL w L0 xs) w M_L_law 118 19112 969 [.retAddr 0, .ref 0, .ref 87, .int (nI (5 * c))] [] h P := by
  obtain ⟨hn, s, o, a, b, C, M0, Lv, Tr, Im⟩ := hi
  obtain ⟨x1, ex1⟩ : ∃ z, z = xs (5 * c + 1) := ⟨_, rfl⟩
  refine AZ.aload_n (pc := 969) dL_law_969 rfl ?_
  refine AZ.sload (pc := 970) dL_law_970 rfl ?_
  refine AZ.iload_n (pc := 971) dL_law_971 rfl ?_
  refine AZ.iconst (pc := 972) (v := nI 1) dL_law_972 (by decide) ?_
  refine AZ.iaddN (pc := 973) (c := 5 * c + 1) dL_law_973 rfl ?_
  refine AZ.sld (pc := 974) (i := 5 * c + 1) (by omega) hL0 dL_law_974 ?_
  rw [← ex1]
  refine AZ.callV (pc := 975) (M2 := M_X11_minds) (As := [.int x1]) (rest := []) (c_minds w h C Lv x1) ⟨xc_L_law__X11_minds.1, xc_L_law__X11_minds.2.1, xc_L_law__X11_minds.2.2.1, Nat.le_of_ble_eq_true rfl, Nat.le_of_ble_eq_true rfl⟩ gL_law_X11_minds (ci := 10) rfl (lt_k hn (by omega)) C.dm rfl (Nat.le_of_ble_eq_true rfl) dL_law_975 ?_
  rintro _ h1 ⟨rfl, s1, C1⟩
  have M1 : MS h1 s := M0.far s1 s1.cl
  have n1 := s1.le hn
  obtain ⟨vv1, O1, -⟩ := id M1.ob
  show AZ (ZL w L0 xs) w M_L_law 118 19112 978 [.retAddr 0, .ref 0, .ref 87, .int (nI (5 * c))] (_ :: []) _ _
  refine AZ.aload_n (pc := 978) dL_law_978 rfl ?_
  refine AZ.sload (pc := 979) dL_law_979 rfl ?_
  refine AZ.iload_n (pc := 980) dL_law_980 rfl ?_
  refine AZ.iconst (pc := 981) (v := nI 1) dL_law_981 (by decide) ?_
  refine AZ.iaddN (pc := 982) (c := 5 * c + 1) dL_law_982 rfl ?_
  refine AZ.sld (pc := 983) (i := 5 * c + 1) (by omega) hL0 dL_law_983 ?_
  rw [← ex1]
  refine AZ.callV (pc := 984) (M2 := M_X12_minds) (As := [.int x1]) (rest := [_]) (c_mMinds w h1 M1 Lv x1) ⟨xc_L_law__X12_minds.1, xc_L_law__X12_minds.2.1, xc_L_law__X12_minds.2.2.1, Nat.le_of_ble_eq_true rfl, Nat.le_of_ble_eq_true rfl⟩ gL_law_X12_minds (ci := 11) rfl (lt_k n1 (by omega)) O1 rfl (Nat.le_of_ble_eq_true rfl) dL_law_984 ?_
  rintro _ h2 ⟨rfl, s2, M2⟩
  have C2 := C1.far s2 s2.md
  have n2 := s2.le n1
  show AZ (ZL w L0 xs) w M_L_law 118 19112 987 [.retAddr 0, .ref 0, .ref 87, .int (nI (5 * c))] (_ :: _ :: []) _ _
  refine AZ.icmp_eq (pc := 987) (tgt := 1377) dL_law_987 (by decide) (fun _ => ?_) (fun q => absurd rfl q)
  exact kk h2 ⟨n2, (wq s (nMinds o a b (sq s) x1)), o, a, b, C2, M2, (show LV _ (12 * (c + 1)) o a b from by rw [show 12 * (c + 1) = 12 * c + 12 by omega]; exact Lv.minds1 x1), Tr, fun q => (Im q).imp fun _ z => z.imp fun _ z => z.imp fun _ z => z.more (by omega)⟩
theorem l_case23 (w : XW) {L0 : Nat} {xs : Nat → Int32} (hL0 : L0 ≤ 2560) (P : Option Value → XH → Prop) {c : Nat} {h : XH} (hi : INV c h) (hc : 5 * c + 5 ≤ L0) (kk : ∀ h', INV (c + 1) h' → AZ (ZL w L0 xs) w M_L_law 118 19112 1377 [.retAddr 0, .ref 0, .ref 87, .int (nI (5 * c))] [] h' P) : AZ (ZL w L0 xs) w M_L_law 118 19112 992 [.retAddr 0, .ref 0, .ref 87, .int (nI (5 * c))] [] h P := by
  obtain ⟨hn, s, o, a, b, C, M0, Lv, Tr, Im⟩ := hi
  obtain ⟨x1, ex1⟩ : ∃ z, z = xs (5 * c + 1) := ⟨_, rfl⟩
  refine AZ.aload_n (pc := 992) dL_law_992 rfl ?_
  refine AZ.sload (pc := 993) dL_law_993 rfl ?_
  refine AZ.iload_n (pc := 994) dL_law_994 rfl ?_
  refine AZ.iconst (pc := 995) (v := nI 1) dL_law_995 (by decide) ?_
  refine AZ.iaddN (pc := 996) (c := 5 * c + 1) dL_law_996 rfl ?_
  refine AZ.sld (pc := 997) (i := 5 * c + 1) (by omega) hL0 dL_law_997 ?_
  rw [← ex1]
  refine AZ.callV (pc := 998) (M2 := M_X11_seed) (As := [.int x1]) (rest := []) (c_seed w h C x1) ⟨xc_L_law__X11_seed.1, xc_L_law__X11_seed.2.1, xc_L_law__X11_seed.2.2.1, Nat.le_of_ble_eq_true rfl, Nat.le_of_ble_eq_true rfl⟩ gL_law_X11_seed (ci := 10) rfl (lt_k hn (by omega)) C.dm rfl (Nat.le_of_ble_eq_true rfl) dL_law_998 ?_
  rintro _ h1 ⟨rfl, s1, C1⟩
  have M1 : MS h1 s := M0.far s1 s1.cl
  have n1 := s1.le hn
  obtain ⟨vv1, O1, -⟩ := id M1.ob
  show AZ (ZL w L0 xs) w M_L_law 118 19112 1001 [.retAddr 0, .ref 0, .ref 87, .int (nI (5 * c))] (_ :: []) _ _
  refine AZ.aload_n (pc := 1001) dL_law_1001 rfl ?_
  refine AZ.sload (pc := 1002) dL_law_1002 rfl ?_
  refine AZ.iload_n (pc := 1003) dL_law_1003 rfl ?_
  refine AZ.iconst (pc := 1004) (v := nI 1) dL_law_1004 (by decide) ?_
  refine AZ.iaddN (pc := 1005) (c := 5 * c + 1) dL_law_1005 rfl ?_
  refine AZ.sld (pc := 1006) (i := 5 * c + 1) (by omega) hL0 dL_law_1006 ?_
  rw [← ex1]
  refine AZ.callV (pc := 1007) (M2 := M_X12_seed) (As := [.int x1]) (rest := [_]) (c_mSeed w h1 M1 Lv x1) ⟨xc_L_law__X12_seed.1, xc_L_law__X12_seed.2.1, xc_L_law__X12_seed.2.2.1, Nat.le_of_ble_eq_true rfl, Nat.le_of_ble_eq_true rfl⟩ gL_law_X12_seed (ci := 11) rfl (lt_k n1 (by omega)) O1 rfl (Nat.le_of_ble_eq_true rfl) dL_law_1007 ?_
  rintro _ h2 ⟨rfl, s2, M2⟩
  have C2 := C1.far s2 s2.md
  have n2 := s2.le n1
  show AZ (ZL w L0 xs) w M_L_law 118 19112 1010 [.retAddr 0, .ref 0, .ref 87, .int (nI (5 * c))] (_ :: _ :: []) _ _
  refine AZ.icmp_eq (pc := 1010) (tgt := 1377) dL_law_1010 (by decide) (fun _ => ?_) (fun q => absurd rfl q)
  exact kk h2 ⟨n2, (wq s (nSeed (sq s) x1)), o, a, b, C2, M2, (Lv.seed x1).more (by omega), Tr, fun q => (Im q).imp fun _ z => z.imp fun _ z => z.imp fun _ z => z.more (by omega)⟩
theorem l_case24 (w : XW) {L0 : Nat} {xs : Nat → Int32} (hL0 : L0 ≤ 2560) (P : Option Value → XH → Prop) {c : Nat} {h : XH} (hi : INV c h) (hc : 5 * c + 5 ≤ L0) (kk : ∀ h', INV (c + 1) h' → AZ (ZL w L0 xs) w M_L_law 118 19112 1377 [.retAddr 0, .ref 0, .ref 87, .int (nI (5 * c))] [] h' P) : AZ (ZL w L0 xs) w M_L_law 118 19112 1015 [.retAddr 0, .ref 0, .ref 87, .int (nI (5 * c))] [] h P := by
  obtain ⟨hn, s, o, a, b, C, M0, Lv, Tr, Im⟩ := hi
  obtain ⟨x1, ex1⟩ : ∃ z, z = xs (5 * c + 1) := ⟨_, rfl⟩
  refine AZ.aload_n (pc := 1015) dL_law_1015 rfl ?_
  refine AZ.sload (pc := 1016) dL_law_1016 rfl ?_
  refine AZ.iload_n (pc := 1017) dL_law_1017 rfl ?_
  refine AZ.iconst (pc := 1018) (v := nI 1) dL_law_1018 (by decide) ?_
  refine AZ.iaddN (pc := 1019) (c := 5 * c + 1) dL_law_1019 rfl ?_
  refine AZ.sld (pc := 1020) (i := 5 * c + 1) (by omega) hL0 dL_law_1020 ?_
  rw [← ex1]
  refine AZ.callV (pc := 1021) (M2 := M_X11_average) (As := [.int x1]) (rest := []) (c_average w h C Lv (by omega) x1) ⟨xc_L_law__X11_average.1, xc_L_law__X11_average.2.1, xc_L_law__X11_average.2.2.1, Nat.le_of_ble_eq_true rfl, Nat.le_of_ble_eq_true rfl⟩ gL_law_X11_average (ci := 10) rfl (lt_k hn (by omega)) C.dm rfl (Nat.le_of_ble_eq_true rfl) dL_law_1021 ?_
  rintro _ h9 ⟨rfl, e9⟩
  have e9 := e9.symm
  subst e9
  have C1 := C
  have M1 := M0
  have n1 := hn
  obtain ⟨vv1, O1, -⟩ := id M1.ob
  show AZ (ZL w L0 xs) w M_L_law 118 19112 1024 [.retAddr 0, .ref 0, .ref 87, .int (nI (5 * c))] (_ :: []) _ _
  refine AZ.aload_n (pc := 1024) dL_law_1024 rfl ?_
  refine AZ.sload (pc := 1025) dL_law_1025 rfl ?_
  refine AZ.iload_n (pc := 1026) dL_law_1026 rfl ?_
  refine AZ.iconst (pc := 1027) (v := nI 1) dL_law_1027 (by decide) ?_
  refine AZ.iaddN (pc := 1028) (c := 5 * c + 1) dL_law_1028 rfl ?_
  refine AZ.sld (pc := 1029) (i := 5 * c + 1) (by omega) hL0 dL_law_1029 ?_
  rw [← ex1]
  refine AZ.callV (pc := 1030) (M2 := M_X12_average) (As := [.int x1]) (rest := [_]) (c_mAvg w h M1 Lv (by omega) x1) ⟨xc_L_law__X12_average.1, xc_L_law__X12_average.2.1, xc_L_law__X12_average.2.2.1, Nat.le_of_ble_eq_true rfl, Nat.le_of_ble_eq_true rfl⟩ gL_law_X12_average (ci := 11) rfl (lt_k n1 (by omega)) O1 rfl (Nat.le_of_ble_eq_true rfl) dL_law_1030 ?_
  rintro _ h8 ⟨rfl, e8⟩
  have e8 := e8.symm
  subst e8
  have M2 := M1
  have C2 := C1
  have n2 := n1
  show AZ (ZL w L0 xs) w M_L_law 118 19112 1033 [.retAddr 0, .ref 0, .ref 87, .int (nI (5 * c))] (_ :: _ :: []) _ _
  refine AZ.icmp_eq (pc := 1033) (tgt := 1377) dL_law_1033 (by decide) (fun _ => ?_) (fun q => absurd rfl q)
  exact kk h ⟨n2, s, o, a, b, C2, M2, Lv.more (by omega), Tr, fun q => (Im q).imp fun _ z => z.imp fun _ z => z.imp fun _ z => z.more (by omega)⟩
theorem l_case25 (w : XW) {L0 : Nat} {xs : Nat → Int32} (hL0 : L0 ≤ 2560) (P : Option Value → XH → Prop) {c : Nat} {h : XH} (hi : INV c h) (hc : 5 * c + 5 ≤ L0) (kk : ∀ h', INV (c + 1) h' → AZ (ZL w L0 xs) w M_L_law 118 19112 1377 [.retAddr 0, .ref 0, .ref 87, .int (nI (5 * c))] [] h' P) : AZ (ZL w L0 xs) w M_L_law 118 19112 1038 [.retAddr 0, .ref 0, .ref 87, .int (nI (5 * c))] [] h P := by
  obtain ⟨hn, s, o, a, b, C, M0, Lv, Tr, Im⟩ := hi
  obtain ⟨x1, ex1⟩ : ∃ z, z = xs (5 * c + 1) := ⟨_, rfl⟩
  refine AZ.aload_n (pc := 1038) dL_law_1038 rfl ?_
  refine AZ.sload (pc := 1039) dL_law_1039 rfl ?_
  refine AZ.iload_n (pc := 1040) dL_law_1040 rfl ?_
  refine AZ.iconst (pc := 1041) (v := nI 1) dL_law_1041 (by decide) ?_
  refine AZ.iaddN (pc := 1042) (c := 5 * c + 1) dL_law_1042 rfl ?_
  refine AZ.sld (pc := 1043) (i := 5 * c + 1) (by omega) hL0 dL_law_1043 ?_
  rw [← ex1]
  refine AZ.callV (pc := 1044) (M2 := M_X11_told) (As := [.int x1]) (rest := []) (c_told w h C x1) ⟨xc_L_law__X11_told.1, xc_L_law__X11_told.2.1, xc_L_law__X11_told.2.2.1, Nat.le_of_ble_eq_true rfl, Nat.le_of_ble_eq_true rfl⟩ gL_law_X11_told (ci := 10) rfl (lt_k hn (by omega)) C.dm rfl (Nat.le_of_ble_eq_true rfl) dL_law_1044 ?_
  rintro _ h9 ⟨rfl, e9⟩
  have e9 := e9.symm
  subst e9
  have C1 := C
  have M1 := M0
  have n1 := hn
  obtain ⟨vv1, O1, -⟩ := id M1.ob
  show AZ (ZL w L0 xs) w M_L_law 118 19112 1047 [.retAddr 0, .ref 0, .ref 87, .int (nI (5 * c))] (_ :: []) _ _
  refine AZ.aload_n (pc := 1047) dL_law_1047 rfl ?_
  refine AZ.sload (pc := 1048) dL_law_1048 rfl ?_
  refine AZ.iload_n (pc := 1049) dL_law_1049 rfl ?_
  refine AZ.iconst (pc := 1050) (v := nI 1) dL_law_1050 (by decide) ?_
  refine AZ.iaddN (pc := 1051) (c := 5 * c + 1) dL_law_1051 rfl ?_
  refine AZ.sld (pc := 1052) (i := 5 * c + 1) (by omega) hL0 dL_law_1052 ?_
  rw [← ex1]
  refine AZ.callV (pc := 1053) (M2 := M_X12_told) (As := [.int x1]) (rest := [_]) (c_mTold w h M1 Lv x1) ⟨xc_L_law__X12_told.1, xc_L_law__X12_told.2.1, xc_L_law__X12_told.2.2.1, Nat.le_of_ble_eq_true rfl, Nat.le_of_ble_eq_true rfl⟩ gL_law_X12_told (ci := 11) rfl (lt_k n1 (by omega)) O1 rfl (Nat.le_of_ble_eq_true rfl) dL_law_1053 ?_
  rintro _ h8 ⟨rfl, e8⟩
  have e8 := e8.symm
  subst e8
  have M2 := M1
  have C2 := C1
  have n2 := n1
  show AZ (ZL w L0 xs) w M_L_law 118 19112 1056 [.retAddr 0, .ref 0, .ref 87, .int (nI (5 * c))] (_ :: _ :: []) _ _
  refine AZ.icmp_eq (pc := 1056) (tgt := 1377) dL_law_1056 (by decide) (fun _ => ?_) (fun q => absurd rfl q)
  exact kk h ⟨n2, s, o, a, b, C2, M2, Lv.more (by omega), Tr, fun q => (Im q).imp fun _ z => z.imp fun _ z => z.imp fun _ z => z.more (by omega)⟩
theorem l_case26 (w : XW) {L0 : Nat} {xs : Nat → Int32} (hL0 : L0 ≤ 2560) (P : Option Value → XH → Prop) {c : Nat} {h : XH} (hi : INV c h) (hc : 5 * c + 5 ≤ L0) (kk : ∀ h', INV (c + 1) h' → AZ (ZL w L0 xs) w M_L_law 118 19112 1377 [.retAddr 0, .ref 0, .ref 87, .int (nI (5 * c))] [] h' P) : AZ (ZL w L0 xs) w M_L_law 118 19112 1061 [.retAddr 0, .ref 0, .ref 87, .int (nI (5 * c))] [] h P := by
  obtain ⟨hn, s, o, a, b, C, M0, Lv, Tr, Im⟩ := hi
  obtain ⟨x1, ex1⟩ : ∃ z, z = xs (5 * c + 1) := ⟨_, rfl⟩
  refine AZ.aload_n (pc := 1061) dL_law_1061 rfl ?_
  refine AZ.sload (pc := 1062) dL_law_1062 rfl ?_
  refine AZ.iload_n (pc := 1063) dL_law_1063 rfl ?_
  refine AZ.iconst (pc := 1064) (v := nI 1) dL_law_1064 (by decide) ?_
  refine AZ.iaddN (pc := 1065) (c := 5 * c + 1) dL_law_1065 rfl ?_
  refine AZ.sld (pc := 1066) (i := 5 * c + 1) (by omega) hL0 dL_law_1066 ?_
  rw [← ex1]
  refine AZ.callV (pc := 1067) (M2 := M_X11_feed) (As := [.int x1]) (rest := []) (c_feed w h C x1) ⟨xc_L_law__X11_feed.1, xc_L_law__X11_feed.2.1, xc_L_law__X11_feed.2.2.1, Nat.le_of_ble_eq_true rfl, Nat.le_of_ble_eq_true rfl⟩ gL_law_X11_feed (ci := 10) rfl (lt_k hn (by omega)) C.dm rfl (Nat.le_of_ble_eq_true rfl) dL_law_1067 ?_
  rintro _ h1 ⟨rfl, s1, C1⟩
  have M1 : MS h1 s := M0.far s1 s1.cl
  have n1 := s1.le hn
  obtain ⟨vv1, O1, -⟩ := id M1.ob
  show AZ (ZL w L0 xs) w M_L_law 118 19112 1070 [.retAddr 0, .ref 0, .ref 87, .int (nI (5 * c))] (_ :: []) _ _
  refine AZ.aload_n (pc := 1070) dL_law_1070 rfl ?_
  refine AZ.sload (pc := 1071) dL_law_1071 rfl ?_
  refine AZ.iload_n (pc := 1072) dL_law_1072 rfl ?_
  refine AZ.iconst (pc := 1073) (v := nI 1) dL_law_1073 (by decide) ?_
  refine AZ.iaddN (pc := 1074) (c := 5 * c + 1) dL_law_1074 rfl ?_
  refine AZ.sld (pc := 1075) (i := 5 * c + 1) (by omega) hL0 dL_law_1075 ?_
  rw [← ex1]
  refine AZ.callV (pc := 1076) (M2 := M_X12_feed) (As := [.int x1]) (rest := [_]) (c_mFeed w h1 M1 Lv x1) ⟨xc_L_law__X12_feed.1, xc_L_law__X12_feed.2.1, xc_L_law__X12_feed.2.2.1, Nat.le_of_ble_eq_true rfl, Nat.le_of_ble_eq_true rfl⟩ gL_law_X12_feed (ci := 11) rfl (lt_k n1 (by omega)) O1 rfl (Nat.le_of_ble_eq_true rfl) dL_law_1076 ?_
  rintro _ h2 ⟨rfl, s2, M2⟩
  have C2 := C1.far s2 s2.md
  have n2 := s2.le n1
  show AZ (ZL w L0 xs) w M_L_law 118 19112 1079 [.retAddr 0, .ref 0, .ref 87, .int (nI (5 * c))] (_ :: _ :: []) _ _
  refine AZ.icmp_eq (pc := 1079) (tgt := 1377) dL_law_1079 (by decide) (fun _ => ?_) (fun q => absurd rfl q)
  exact kk h2 ⟨n2, (wT s (nFeed (sT s) x1)), o, a, b, C2, M2, Lv.more (by omega), Tr, fun q => (Im q).imp fun _ z => z.imp fun _ z => z.imp fun _ z => z.more (by omega)⟩
theorem l_case27 (w : XW) {L0 : Nat} {xs : Nat → Int32} (hL0 : L0 ≤ 2560) (P : Option Value → XH → Prop) {c : Nat} {h : XH} (hi : INV c h) (hc : 5 * c + 5 ≤ L0) (kk : ∀ h', INV (c + 1) h' → AZ (ZL w L0 xs) w M_L_law 118 19112 1377 [.retAddr 0, .ref 0, .ref 87, .int (nI (5 * c))] [] h' P) : AZ (ZL w L0 xs) w M_L_law 118 19112 1084 [.retAddr 0, .ref 0, .ref 87, .int (nI (5 * c))] [] h P := by
  obtain ⟨hn, s, o, a, b, C, M0, Lv, Tr, Im⟩ := hi
  refine AZ.aload_n (pc := 1084) dL_law_1084 rfl ?_
  refine AZ.callV (pc := 1085) (M2 := M_X11_clear) (As := []) (rest := []) (c_clear w h C) ⟨xc_L_law__X11_clear.1, xc_L_law__X11_clear.2.1, xc_L_law__X11_clear.2.2.1, Nat.le_of_ble_eq_true rfl, Nat.le_of_ble_eq_true rfl⟩ gL_law_X11_clear (ci := 10) rfl (lt_k hn (by omega)) C.dm rfl (Nat.le_of_ble_eq_true rfl) dL_law_1085 ?_
  rintro _ h1 ⟨rfl, s1, C1⟩
  have M1 : MS h1 s := M0.far s1 s1.cl
  have n1 := s1.le hn
  obtain ⟨vv1, O1, -⟩ := id M1.ob
  show AZ (ZL w L0 xs) w M_L_law 118 19112 1088 [.retAddr 0, .ref 0, .ref 87, .int (nI (5 * c))] (_ :: []) _ _
  refine AZ.aload_n (pc := 1088) dL_law_1088 rfl ?_
  refine AZ.callV (pc := 1089) (M2 := M_X12_clear) (As := []) (rest := [_]) (c_mClear w h1 M1) ⟨xc_L_law__X12_clear.1, xc_L_law__X12_clear.2.1, xc_L_law__X12_clear.2.2.1, Nat.le_of_ble_eq_true rfl, Nat.le_of_ble_eq_true rfl⟩ gL_law_X12_clear (ci := 11) rfl (lt_k n1 (by omega)) O1 rfl (Nat.le_of_ble_eq_true rfl) dL_law_1089 ?_
  rintro _ h2 ⟨rfl, s2, M2⟩
  have C2 := C1.far s2 s2.md
  have n2 := s2.le n1
  show AZ (ZL w L0 xs) w M_L_law 118 19112 1092 [.retAddr 0, .ref 0, .ref 87, .int (nI (5 * c))] (_ :: _ :: []) _ _
  refine AZ.icmp_eq (pc := 1092) (tgt := 1377) dL_law_1092 (by decide) (fun _ => ?_) (fun q => absurd rfl q)
  exact kk h2 ⟨n2, (wT s []), o, a, b, C2, M2, Lv.more (by omega), Tr, fun q => (Im q).imp fun _ z => z.imp fun _ z => z.imp fun _ z => z.more (by omega)⟩
theorem l_case28 (w : XW) {L0 : Nat} {xs : Nat → Int32} (hL0 : L0 ≤ 2560) (P : Option Value → XH → Prop) {c : Nat} {h : XH} (hi : INV c h) (hc : 5 * c + 5 ≤ L0) (kk : ∀ h', INV (c + 1) h' → AZ (ZL w L0 xs) w M_L_law 118 19112 1377 [.retAddr 0, .ref 0, .ref 87, .int (nI (5 * c))] [] h' P) : AZ (ZL w L0 xs) w M_L_law 118 19112 1097 [.retAddr 0, .ref 0, .ref 87, .int (nI (5 * c))] [] h P := by
  obtain ⟨hn, s, o, a, b, C, M0, Lv, Tr, Im⟩ := hi
  obtain ⟨x1, ex1⟩ : ∃ z, z = xs (5 * c + 1) := ⟨_, rfl⟩
  refine AZ.aload_n (pc := 1097) dL_law_1097 rfl ?_
  refine AZ.sload (pc := 1098) dL_law_1098 rfl ?_
  refine AZ.iload_n (pc := 1099) dL_law_1099 rfl ?_
  refine AZ.iconst (pc := 1100) (v := nI 1) dL_law_1100 (by decide) ?_
  refine AZ.iaddN (pc := 1101) (c := 5 * c + 1) dL_law_1101 rfl ?_
  refine AZ.sld (pc := 1102) (i := 5 * c + 1) (by omega) hL0 dL_law_1102 ?_
  rw [← ex1]
  refine AZ.callV (pc := 1103) (M2 := M_X11_judge) (As := [.int x1]) (rest := []) (c_judge w h C x1) ⟨xc_L_law__X11_judge.1, xc_L_law__X11_judge.2.1, xc_L_law__X11_judge.2.2.1, Nat.le_of_ble_eq_true rfl, Nat.le_of_ble_eq_true rfl⟩ gL_law_X11_judge (ci := 10) rfl (lt_k hn (by omega)) C.dm rfl (Nat.le_of_ble_eq_true rfl) dL_law_1103 ?_
  rintro _ h1 ⟨rfl, s1, C1⟩
  have M1 : MS h1 s := M0.far s1 s1.cl
  have n1 := s1.le hn
  obtain ⟨vv1, O1, -⟩ := id M1.ob
  show AZ (ZL w L0 xs) w M_L_law 118 19112 1106 [.retAddr 0, .ref 0, .ref 87, .int (nI (5 * c))] (_ :: []) _ _
  refine AZ.aload_n (pc := 1106) dL_law_1106 rfl ?_
  refine AZ.sload (pc := 1107) dL_law_1107 rfl ?_
  refine AZ.iload_n (pc := 1108) dL_law_1108 rfl ?_
  refine AZ.iconst (pc := 1109) (v := nI 1) dL_law_1109 (by decide) ?_
  refine AZ.iaddN (pc := 1110) (c := 5 * c + 1) dL_law_1110 rfl ?_
  refine AZ.sld (pc := 1111) (i := 5 * c + 1) (by omega) hL0 dL_law_1111 ?_
  rw [← ex1]
  refine AZ.callV (pc := 1112) (M2 := M_X12_judge) (As := [.int x1]) (rest := [_]) (c_mJudge w h1 M1 Lv C.tb x1) ⟨xc_L_law__X12_judge.1, xc_L_law__X12_judge.2.1, xc_L_law__X12_judge.2.2.1, Nat.le_of_ble_eq_true rfl, Nat.le_of_ble_eq_true rfl⟩ gL_law_X12_judge (ci := 11) rfl (lt_k n1 (by omega)) O1 rfl (Nat.le_of_ble_eq_true rfl) dL_law_1112 ?_
  rintro _ h2 ⟨rfl, s2, M2⟩
  have C2 := C1.far s2 s2.md
  have n2 := s2.le n1
  show AZ (ZL w L0 xs) w M_L_law 118 19112 1115 [.retAddr 0, .ref 0, .ref 87, .int (nI (5 * c))] (_ :: _ :: []) _ _
  refine AZ.icmp_eq (pc := 1115) (tgt := 1377) dL_law_1115 (by decide) (fun _ => ?_) (fun q => absurd rfl q)
  exact kk h2 ⟨n2, (wT s (nJudge o (sT s) x1)), o, a, b, C2, M2, Lv.more (by omega), Tr, fun q => (Im q).imp fun _ z => z.imp fun _ z => z.imp fun _ z => z.more (by omega)⟩
theorem l_case29 (w : XW) {L0 : Nat} {xs : Nat → Int32} (hL0 : L0 ≤ 2560) (P : Option Value → XH → Prop) {c : Nat} {h : XH} (hi : INV c h) (hc : 5 * c + 5 ≤ L0) (kk : ∀ h', INV (c + 1) h' → AZ (ZL w L0 xs) w M_L_law 118 19112 1377 [.retAddr 0, .ref 0, .ref 87, .int (nI (5 * c))] [] h' P) : AZ (ZL w L0 xs) w M_L_law 118 19112 1120 [.retAddr 0, .ref 0, .ref 87, .int (nI (5 * c))] [] h P := by
  obtain ⟨hn, s, o, a, b, C, M0, Lv, Tr, Im⟩ := hi
  refine AZ.aload_n (pc := 1120) dL_law_1120 rfl ?_
  refine AZ.callV (pc := 1121) (M2 := M_X11_play) (As := []) (rest := []) (c_play w h C Lv) ⟨xc_L_law__X11_play.1, xc_L_law__X11_play.2.1, xc_L_law__X11_play.2.2.1, Nat.le_of_ble_eq_true rfl, Nat.le_of_ble_eq_true rfl⟩ gL_law_X11_play (ci := 10) rfl (lt_k hn (by omega)) C.dm rfl (Nat.le_of_ble_eq_true rfl) dL_law_1121 ?_
  rintro _ h1 ⟨rfl, s1, C1⟩
  have M1 : MS h1 s := M0.far s1 s1.cl
  have n1 := s1.le hn
  obtain ⟨vv1, O1, -⟩ := id M1.ob
  show AZ (ZL w L0 xs) w M_L_law 118 19112 1124 [.retAddr 0, .ref 0, .ref 87, .int (nI (5 * c))] (_ :: []) _ _
  refine AZ.aload_n (pc := 1124) dL_law_1124 rfl ?_
  refine AZ.callV (pc := 1125) (M2 := M_X12_play) (As := []) (rest := [_]) (c_mPlay w h1 M1 Lv C.tb) ⟨xc_L_law__X12_play.1, xc_L_law__X12_play.2.1, xc_L_law__X12_play.2.2.1, Nat.le_of_ble_eq_true rfl, Nat.le_of_ble_eq_true rfl⟩ gL_law_X12_play (ci := 11) rfl (lt_k n1 (by omega)) O1 rfl (Nat.le_of_ble_eq_true rfl) dL_law_1125 ?_
  rintro _ h2 ⟨rfl, s2, M2⟩
  have C2 := C1.far s2 s2.md
  have n2 := s2.le n1
  show AZ (ZL w L0 xs) w M_L_law 118 19112 1128 [.retAddr 0, .ref 0, .ref 87, .int (nI (5 * c))] (_ :: _ :: []) _ _
  refine AZ.icmp_eq (pc := 1128) (tgt := 1377) dL_law_1128 (by decide) (fun _ => ?_) (fun q => absurd rfl q)
  exact kk h2 ⟨n2, (wq (wT s []) (nPlay o (sT s) (sq s))), o, a, b, C2, M2, (show LV _ (12 * (c + 1)) o a b from by rw [show 12 * (c + 1) = 12 * c + 12 by omega]; exact Lv.play1 C.t60), Tr, fun q => (Im q).imp fun _ z => z.imp fun _ z => z.imp fun _ z => z.more (by omega)⟩
