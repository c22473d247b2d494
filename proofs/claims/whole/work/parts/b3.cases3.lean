/-! ===== THE LAW: the cases 3 ===== -/
theorem l_case30 (w : XW) {L0 : Nat} {xs : Nat → Int32} (hL0 : L0 ≤ 2560) (P : Option Value → XH → Prop) {c : Nat} {h : XH} (hi : INV c h) (hc : 5 * c + 5 ≤ L0) (kk : ∀ h', INV (c + 1) h' → AZ (ZL w L0 xs) w M_L_law 118 19112 1377 [.retAddr 0, .ref 0, .ref 87, .int (nI (5 * c))] [] h' P) : AZ (ZL w L0 xs) w M_L_law 118 19112 1133 [.retAddr 0, .ref 0, .ref 87, .int (nI (5 * c))] [] h P := by
  obtain ⟨hn, s, o, a, b, C, M0, Lv, Tr, Im⟩ := hi
  obtain ⟨x1, ex1⟩ : ∃ z, z = xs (5 * c + 1) := ⟨_, rfl⟩
  refine AZ.aload_n (pc := 1133) dL_law_1133 rfl ?_
  refine AZ.sload (pc := 1134) dL_law_1134 rfl ?_
  refine AZ.iload_n (pc := 1135) dL_law_1135 rfl ?_
  refine AZ.iconst (pc := 1136) (v := nI 1) dL_law_1136 (by decide) ?_
  refine AZ.iaddN (pc := 1137) (c := 5 * c + 1) dL_law_1137 rfl ?_
  refine AZ.sld (pc := 1138) (i := 5 * c + 1) (by omega) hL0 dL_law_1138 ?_
  rw [← ex1]
  refine AZ.callV (pc := 1139) (M2 := M_X11_paper) (As := [.int x1]) (rest := []) (c_paper w h C x1) ⟨xc_L_law__X11_paper.1, xc_L_law__X11_paper.2.1, xc_L_law__X11_paper.2.2.1, Nat.le_of_ble_eq_true rfl, Nat.le_of_ble_eq_true rfl⟩ gL_law_X11_paper (ci := 10) rfl (lt_k hn (by omega)) C.dm rfl (Nat.le_of_ble_eq_true rfl) dL_law_1139 ?_
  rintro _ h9 ⟨rfl, e9⟩
  have e9 := e9.symm
  subst e9
  have C1 := C
  have M1 := M0
  have n1 := hn
  obtain ⟨vv1, O1, -⟩ := id M1.ob
  show AZ (ZL w L0 xs) w M_L_law 118 19112 1142 [.retAddr 0, .ref 0, .ref 87, .int (nI (5 * c))] (_ :: []) _ _
  refine AZ.aload_n (pc := 1142) dL_law_1142 rfl ?_
  refine AZ.sload (pc := 1143) dL_law_1143 rfl ?_
  refine AZ.iload_n (pc := 1144) dL_law_1144 rfl ?_
  refine AZ.iconst (pc := 1145) (v := nI 1) dL_law_1145 (by decide) ?_
  refine AZ.iaddN (pc := 1146) (c := 5 * c + 1) dL_law_1146 rfl ?_
  refine AZ.sld (pc := 1147) (i := 5 * c + 1) (by omega) hL0 dL_law_1147 ?_
  rw [← ex1]
  refine AZ.callV (pc := 1148) (M2 := M_X12_paper) (As := [.int x1]) (rest := [_]) (c_mPaper w h M1 x1) ⟨xc_L_law__X12_paper.1, xc_L_law__X12_paper.2.1, xc_L_law__X12_paper.2.2.1, Nat.le_of_ble_eq_true rfl, Nat.le_of_ble_eq_true rfl⟩ gL_law_X12_paper (ci := 11) rfl (lt_k n1 (by omega)) O1 rfl (Nat.le_of_ble_eq_true rfl) dL_law_1148 ?_
  rintro _ h8 ⟨rfl, e8⟩
  have e8 := e8.symm
  subst e8
  have M2 := M1
  have C2 := C1
  have n2 := n1
  show AZ (ZL w L0 xs) w M_L_law 118 19112 1151 [.retAddr 0, .ref 0, .ref 87, .int (nI (5 * c))] (_ :: _ :: []) _ _
  refine AZ.icmp_eq (pc := 1151) (tgt := 1377) dL_law_1151 (by decide) (fun _ => ?_) (fun q => absurd rfl q)
  exact kk h ⟨n2, s, o, a, b, C2, M2, Lv.more (by omega), Tr, fun q => (Im q).imp fun _ z => z.imp fun _ z => z.imp fun _ z => z.more (by omega)⟩
theorem l_case31 (w : XW) {L0 : Nat} {xs : Nat → Int32} (hL0 : L0 ≤ 2560) (P : Option Value → XH → Prop) {c : Nat} {h : XH} (hi : INV c h) (hc : 5 * c + 5 ≤ L0) (kk : ∀ h', INV (c + 1) h' → AZ (ZL w L0 xs) w M_L_law 118 19112 1377 [.retAddr 0, .ref 0, .ref 87, .int (nI (5 * c))] [] h' P) : AZ (ZL w L0 xs) w M_L_law 118 19112 1156 [.retAddr 0, .ref 0, .ref 87, .int (nI (5 * c))] [] h P := by
  obtain ⟨hn, s, o, a, b, C, M0, Lv, Tr, Im⟩ := hi
  obtain ⟨x1, ex1⟩ : ∃ z, z = xs (5 * c + 1) := ⟨_, rfl⟩
  obtain ⟨x2, ex2⟩ : ∃ z, z = xs (5 * c + 2) := ⟨_, rfl⟩
  obtain ⟨x3, ex3⟩ : ∃ z, z = xs (5 * c + 3) := ⟨_, rfl⟩
  refine AZ.aload_n (pc := 1156) dL_law_1156 rfl ?_
  refine AZ.sload (pc := 1157) dL_law_1157 rfl ?_
  refine AZ.iload_n (pc := 1158) dL_law_1158 rfl ?_
  refine AZ.iconst (pc := 1159) (v := nI 1) dL_law_1159 (by decide) ?_
  refine AZ.iaddN (pc := 1160) (c := 5 * c + 1) dL_law_1160 rfl ?_
  refine AZ.sld (pc := 1161) (i := 5 * c + 1) (by omega) hL0 dL_law_1161 ?_
  rw [← ex1]
  refine AZ.sload (pc := 1162) dL_law_1162 rfl ?_
  refine AZ.iload_n (pc := 1163) dL_law_1163 rfl ?_
  refine AZ.iconst (pc := 1164) (v := nI 2) dL_law_1164 (by decide) ?_
  refine AZ.iaddN (pc := 1165) (c := 5 * c + 2) dL_law_1165 rfl ?_
  refine AZ.sld (pc := 1166) (i := 5 * c + 2) (by omega) hL0 dL_law_1166 ?_
  rw [← ex2]
  refine AZ.sload (pc := 1167) dL_law_1167 rfl ?_
  refine AZ.iload_n (pc := 1168) dL_law_1168 rfl ?_
  refine AZ.iconst (pc := 1169) (v := nI 3) dL_law_1169 (by decide) ?_
  refine AZ.iaddN (pc := 1170) (c := 5 * c + 3) dL_law_1170 rfl ?_
  refine AZ.sld (pc := 1171) (i := 5 * c + 3) (by omega) hL0 dL_law_1171 ?_
  rw [← ex3]
  refine AZ.callV (pc := 1172) (M2 := M_X11_rack) (As := [.int x1, .int x2, .int x3]) (rest := []) (c_rack w h C Tr x1 x2 x3) ⟨xc_L_law__X11_rack.1, xc_L_law__X11_rack.2.1, xc_L_law__X11_rack.2.2.1, Nat.le_of_ble_eq_true rfl, Nat.le_of_ble_eq_true rfl⟩ gL_law_X11_rack (ci := 10) rfl (lt_k hn (by omega)) C.dm rfl (Nat.le_of_ble_eq_true rfl) dL_law_1172 ?_
  rintro _ h1 ⟨rfl, s1, C1⟩
  have M1 : MS h1 s := M0.far s1 s1.cl
  have n1 := s1.le hn
  obtain ⟨vv1, O1, -⟩ := id M1.ob
  show AZ (ZL w L0 xs) w M_L_law 118 19112 1175 [.retAddr 0, .ref 0, .ref 87, .int (nI (5 * c))] (_ :: []) _ _
  refine AZ.aload_n (pc := 1175) dL_law_1175 rfl ?_
  refine AZ.sload (pc := 1176) dL_law_1176 rfl ?_
  refine AZ.iload_n (pc := 1177) dL_law_1177 rfl ?_
  refine AZ.iconst (pc := 1178) (v := nI 1) dL_law_1178 (by decide) ?_
  refine AZ.iaddN (pc := 1179) (c := 5 * c + 1) dL_law_1179 rfl ?_
  refine AZ.sld (pc := 1180) (i := 5 * c + 1) (by omega) hL0 dL_law_1180 ?_
  rw [← ex1]
  refine AZ.sload (pc := 1181) dL_law_1181 rfl ?_
  refine AZ.iload_n (pc := 1182) dL_law_1182 rfl ?_
  refine AZ.iconst (pc := 1183) (v := nI 2) dL_law_1183 (by decide) ?_
  refine AZ.iaddN (pc := 1184) (c := 5 * c + 2) dL_law_1184 rfl ?_
  refine AZ.sld (pc := 1185) (i := 5 * c + 2) (by omega) hL0 dL_law_1185 ?_
  rw [← ex2]
  refine AZ.sload (pc := 1186) dL_law_1186 rfl ?_
  refine AZ.iload_n (pc := 1187) dL_law_1187 rfl ?_
  refine AZ.iconst (pc := 1188) (v := nI 3) dL_law_1188 (by decide) ?_
  refine AZ.iaddN (pc := 1189) (c := 5 * c + 3) dL_law_1189 rfl ?_
  refine AZ.sld (pc := 1190) (i := 5 * c + 3) (by omega) hL0 dL_law_1190 ?_
  rw [← ex3]
  refine AZ.callV (pc := 1191) (M2 := M_X12_rack) (As := [.int x1, .int x2, .int x3]) (rest := [_]) (c_mRacks w h1 M1 Tr x1 x2 x3) ⟨xc_L_law__X12_rack.1, xc_L_law__X12_rack.2.1, xc_L_law__X12_rack.2.2.1, Nat.le_of_ble_eq_true rfl, Nat.le_of_ble_eq_true rfl⟩ gL_law_X12_rack (ci := 11) rfl (lt_k n1 (by omega)) O1 rfl (Nat.le_of_ble_eq_true rfl) dL_law_1191 ?_
  rintro _ h2 ⟨rfl, s2, M2⟩
  have C2 := C1.far s2 s2.md
  have n2 := s2.le n1
  show AZ (ZL w L0 xs) w M_L_law 118 19112 1194 [.retAddr 0, .ref 0, .ref 87, .int (nI (5 * c))] (_ :: _ :: []) _ _
  refine AZ.icmp_eq (pc := 1194) (tgt := 1377) dL_law_1194 (by decide) (fun _ => ?_) (fun q => absurd rfl q)
  exact kk h2 ⟨n2, (wk s (nRack (sk s) x1 x2 x3)), o, a, b, C2, M2, Lv.more (by omega), TR.rack Tr x1 x2 x3, fun q => (Im q).imp fun _ z => z.imp fun _ z => z.imp fun _ z => z.more (by omega)⟩
theorem l_case32 (w : XW) {L0 : Nat} {xs : Nat → Int32} (hL0 : L0 ≤ 2560) (P : Option Value → XH → Prop) {c : Nat} {h : XH} (hi : INV c h) (hc : 5 * c + 5 ≤ L0) (kk : ∀ h', INV (c + 1) h' → AZ (ZL w L0 xs) w M_L_law 118 19112 1377 [.retAddr 0, .ref 0, .ref 87, .int (nI (5 * c))] [] h' P) : AZ (ZL w L0 xs) w M_L_law 118 19112 1199 [.retAddr 0, .ref 0, .ref 87, .int (nI (5 * c))] [] h P := by
  obtain ⟨hn, s, o, a, b, C, M0, Lv, Tr, Im⟩ := hi
  obtain ⟨x1, ex1⟩ : ∃ z, z = xs (5 * c + 1) := ⟨_, rfl⟩
  obtain ⟨x2, ex2⟩ : ∃ z, z = xs (5 * c + 2) := ⟨_, rfl⟩
  obtain ⟨x3, ex3⟩ : ∃ z, z = xs (5 * c + 3) := ⟨_, rfl⟩
  refine AZ.aload_n (pc := 1199) dL_law_1199 rfl ?_
  refine AZ.sload (pc := 1200) dL_law_1200 rfl ?_
  refine AZ.iload_n (pc := 1201) dL_law_1201 rfl ?_
  refine AZ.iconst (pc := 1202) (v := nI 1) dL_law_1202 (by decide) ?_
  refine AZ.iaddN (pc := 1203) (c := 5 * c + 1) dL_law_1203 rfl ?_
  refine AZ.sld (pc := 1204) (i := 5 * c + 1) (by omega) hL0 dL_law_1204 ?_
  rw [← ex1]
  refine AZ.sload (pc := 1205) dL_law_1205 rfl ?_
  refine AZ.iload_n (pc := 1206) dL_law_1206 rfl ?_
  refine AZ.iconst (pc := 1207) (v := nI 2) dL_law_1207 (by decide) ?_
  refine AZ.iaddN (pc := 1208) (c := 5 * c + 2) dL_law_1208 rfl ?_
  refine AZ.sld (pc := 1209) (i := 5 * c + 2) (by omega) hL0 dL_law_1209 ?_
  rw [← ex2]
  refine AZ.sload (pc := 1210) dL_law_1210 rfl ?_
  refine AZ.iload_n (pc := 1211) dL_law_1211 rfl ?_
  refine AZ.iconst (pc := 1212) (v := nI 3) dL_law_1212 (by decide) ?_
  refine AZ.iaddN (pc := 1213) (c := 5 * c + 3) dL_law_1213 rfl ?_
  refine AZ.sld (pc := 1214) (i := 5 * c + 3) (by omega) hL0 dL_law_1214 ?_
  rw [← ex3]
  refine AZ.callV (pc := 1215) (M2 := M_X11_lays) (As := [.int x1, .int x2, .int x3]) (rest := []) (c_lays w h C Tr x1 x2 x3) ⟨xc_L_law__X11_lays.1, xc_L_law__X11_lays.2.1, xc_L_law__X11_lays.2.2.1, Nat.le_of_ble_eq_true rfl, Nat.le_of_ble_eq_true rfl⟩ gL_law_X11_lays (ci := 10) rfl (lt_k hn (by omega)) C.dm rfl (Nat.le_of_ble_eq_true rfl) dL_law_1215 ?_
  rintro _ h1 ⟨rfl, s1, C1⟩
  have M1 : MS h1 s := M0.far s1 s1.cl
  have n1 := s1.le hn
  obtain ⟨vv1, O1, -⟩ := id M1.ob
  show AZ (ZL w L0 xs) w M_L_law 118 19112 1218 [.retAddr 0, .ref 0, .ref 87, .int (nI (5 * c))] (_ :: []) _ _
  refine AZ.aload_n (pc := 1218) dL_law_1218 rfl ?_
  refine AZ.sload (pc := 1219) dL_law_1219 rfl ?_
  refine AZ.iload_n (pc := 1220) dL_law_1220 rfl ?_
  refine AZ.iconst (pc := 1221) (v := nI 1) dL_law_1221 (by decide) ?_
  refine AZ.iaddN (pc := 1222) (c := 5 * c + 1) dL_law_1222 rfl ?_
  refine AZ.sld (pc := 1223) (i := 5 * c + 1) (by omega) hL0 dL_law_1223 ?_
  rw [← ex1]
  refine AZ.sload (pc := 1224) dL_law_1224 rfl ?_
  refine AZ.iload_n (pc := 1225) dL_law_1225 rfl ?_
  refine AZ.iconst (pc := 1226) (v := nI 2) dL_law_1226 (by decide) ?_
  refine AZ.iaddN (pc := 1227) (c := 5 * c + 2) dL_law_1227 rfl ?_
  refine AZ.sld (pc := 1228) (i := 5 * c + 2) (by omega) hL0 dL_law_1228 ?_
  rw [← ex2]
  refine AZ.sload (pc := 1229) dL_law_1229 rfl ?_
  refine AZ.iload_n (pc := 1230) dL_law_1230 rfl ?_
  refine AZ.iconst (pc := 1231) (v := nI 3) dL_law_1231 (by decide) ?_
  refine AZ.iaddN (pc := 1232) (c := 5 * c + 3) dL_law_1232 rfl ?_
  refine AZ.sld (pc := 1233) (i := 5 * c + 3) (by omega) hL0 dL_law_1233 ?_
  rw [← ex3]
  refine AZ.callV (pc := 1234) (M2 := M_X12_lays) (As := [.int x1, .int x2, .int x3]) (rest := [_]) (c_mLays w h1 M1 Tr x1 x2 x3) ⟨xc_L_law__X12_lays.1, xc_L_law__X12_lays.2.1, xc_L_law__X12_lays.2.2.1, Nat.le_of_ble_eq_true rfl, Nat.le_of_ble_eq_true rfl⟩ gL_law_X12_lays (ci := 11) rfl (lt_k n1 (by omega)) O1 rfl (Nat.le_of_ble_eq_true rfl) dL_law_1234 ?_
  rintro _ h2 ⟨rfl, s2, M2⟩
  have C2 := C1.far s2 s2.md
  have n2 := s2.le n1
  show AZ (ZL w L0 xs) w M_L_law 118 19112 1237 [.retAddr 0, .ref 0, .ref 87, .int (nI (5 * c))] (_ :: _ :: []) _ _
  refine AZ.icmp_eq (pc := 1237) (tgt := 1377) dL_law_1237 (by decide) (fun _ => ?_) (fun q => absurd rfl q)
  exact kk h2 ⟨n2, (wk s (nLays (sk s) x1 x2 x3)), o, a, b, C2, M2, Lv.more (by omega), TR.lays Tr x1 x2 x3, fun q => (Im q).imp fun _ z => z.imp fun _ z => z.imp fun _ z => z.more (by omega)⟩
theorem l_case33 (w : XW) {L0 : Nat} {xs : Nat → Int32} (hL0 : L0 ≤ 2560) (P : Option Value → XH → Prop) {c : Nat} {h : XH} (hi : INV c h) (hc : 5 * c + 5 ≤ L0) (kk : ∀ h', INV (c + 1) h' → AZ (ZL w L0 xs) w M_L_law 118 19112 1377 [.retAddr 0, .ref 0, .ref 87, .int (nI (5 * c))] [] h' P) : AZ (ZL w L0 xs) w M_L_law 118 19112 1242 [.retAddr 0, .ref 0, .ref 87, .int (nI (5 * c))] [] h P := by
  obtain ⟨hn, s, o, a, b, C, M0, Lv, Tr, Im⟩ := hi
  obtain ⟨x1, ex1⟩ : ∃ z, z = xs (5 * c + 1) := ⟨_, rfl⟩
  obtain ⟨x2, ex2⟩ : ∃ z, z = xs (5 * c + 2) := ⟨_, rfl⟩
  refine AZ.aload_n (pc := 1242) dL_law_1242 rfl ?_
  refine AZ.sload (pc := 1243) dL_law_1243 rfl ?_
  refine AZ.iload_n (pc := 1244) dL_law_1244 rfl ?_
  refine AZ.iconst (pc := 1245) (v := nI 1) dL_law_1245 (by decide) ?_
  refine AZ.iaddN (pc := 1246) (c := 5 * c + 1) dL_law_1246 rfl ?_
  refine AZ.sld (pc := 1247) (i := 5 * c + 1) (by omega) hL0 dL_law_1247 ?_
  rw [← ex1]
  refine AZ.sload (pc := 1248) dL_law_1248 rfl ?_
  refine AZ.iload_n (pc := 1249) dL_law_1249 rfl ?_
  refine AZ.iconst (pc := 1250) (v := nI 2) dL_law_1250 (by decide) ?_
  refine AZ.iaddN (pc := 1251) (c := 5 * c + 2) dL_law_1251 rfl ?_
  refine AZ.sld (pc := 1252) (i := 5 * c + 2) (by omega) hL0 dL_law_1252 ?_
  rw [← ex2]
  refine AZ.callV (pc := 1253) (M2 := M_X11_laid) (As := [.int x1, .int x2]) (rest := []) (c_laid w h C Tr x1 x2) ⟨xc_L_law__X11_laid.1, xc_L_law__X11_laid.2.1, xc_L_law__X11_laid.2.2.1, Nat.le_of_ble_eq_true rfl, Nat.le_of_ble_eq_true rfl⟩ gL_law_X11_laid (ci := 10) rfl (lt_k hn (by omega)) C.dm rfl (Nat.le_of_ble_eq_true rfl) dL_law_1253 ?_
  rintro _ h9 ⟨rfl, e9⟩
  have e9 := e9.symm
  subst e9
  have C1 := C
  have M1 := M0
  have n1 := hn
  obtain ⟨vv1, O1, -⟩ := id M1.ob
  show AZ (ZL w L0 xs) w M_L_law 118 19112 1256 [.retAddr 0, .ref 0, .ref 87, .int (nI (5 * c))] (_ :: []) _ _
  refine AZ.aload_n (pc := 1256) dL_law_1256 rfl ?_
  refine AZ.sload (pc := 1257) dL_law_1257 rfl ?_
  refine AZ.iload_n (pc := 1258) dL_law_1258 rfl ?_
  refine AZ.iconst (pc := 1259) (v := nI 1) dL_law_1259 (by decide) ?_
  refine AZ.iaddN (pc := 1260) (c := 5 * c + 1) dL_law_1260 rfl ?_
  refine AZ.sld (pc := 1261) (i := 5 * c + 1) (by omega) hL0 dL_law_1261 ?_
  rw [← ex1]
  refine AZ.sload (pc := 1262) dL_law_1262 rfl ?_
  refine AZ.iload_n (pc := 1263) dL_law_1263 rfl ?_
  refine AZ.iconst (pc := 1264) (v := nI 2) dL_law_1264 (by decide) ?_
  refine AZ.iaddN (pc := 1265) (c := 5 * c + 2) dL_law_1265 rfl ?_
  refine AZ.sld (pc := 1266) (i := 5 * c + 2) (by omega) hL0 dL_law_1266 ?_
  rw [← ex2]
  refine AZ.callV (pc := 1267) (M2 := M_X12_laid) (As := [.int x1, .int x2]) (rest := [_]) (c_mLaid w h M1 Tr x1 x2) ⟨xc_L_law__X12_laid.1, xc_L_law__X12_laid.2.1, xc_L_law__X12_laid.2.2.1, Nat.le_of_ble_eq_true rfl, Nat.le_of_ble_eq_true rfl⟩ gL_law_X12_laid (ci := 11) rfl (lt_k n1 (by omega)) O1 rfl (Nat.le_of_ble_eq_true rfl) dL_law_1267 ?_
  rintro _ h8 ⟨rfl, e8⟩
  have e8 := e8.symm
  subst e8
  have M2 := M1
  have C2 := C1
  have n2 := n1
  show AZ (ZL w L0 xs) w M_L_law 118 19112 1270 [.retAddr 0, .ref 0, .ref 87, .int (nI (5 * c))] (_ :: _ :: []) _ _
  refine AZ.icmp_eq (pc := 1270) (tgt := 1377) dL_law_1270 (by decide) (fun _ => ?_) (fun q => absurd rfl q)
  exact kk h ⟨n2, s, o, a, b, C2, M2, Lv.more (by omega), Tr, fun q => (Im q).imp fun _ z => z.imp fun _ z => z.imp fun _ z => z.more (by omega)⟩
theorem l_case34 (w : XW) {L0 : Nat} {xs : Nat → Int32} (hL0 : L0 ≤ 2560) (P : Option Value → XH → Prop) {c : Nat} {h : XH} (hi : INV c h) (hc : 5 * c + 5 ≤ L0) (kk : ∀ h', INV (c + 1) h' → AZ (ZL w L0 xs) w M_L_law 118 19112 1377 [.retAddr 0, .ref 0, .ref 87, .int (nI (5 * c))] [] h' P) : AZ (ZL w L0 xs) w M_L_law 118 19112 1275 [.retAddr 0, .ref 0, .ref 87, .int (nI (5 * c))] [] h P := by
  obtain ⟨hn, s, o, a, b, C, M0, Lv, Tr, Im⟩ := hi
  obtain ⟨x1, ex1⟩ : ∃ z, z = xs (5 * c + 1) := ⟨_, rfl⟩
  obtain ⟨x2, ex2⟩ : ∃ z, z = xs (5 * c + 2) := ⟨_, rfl⟩
  refine AZ.aload_n (pc := 1275) dL_law_1275 rfl ?_
  refine AZ.sload (pc := 1276) dL_law_1276 rfl ?_
  refine AZ.iload_n (pc := 1277) dL_law_1277 rfl ?_
  refine AZ.iconst (pc := 1278) (v := nI 1) dL_law_1278 (by decide) ?_
  refine AZ.iaddN (pc := 1279) (c := 5 * c + 1) dL_law_1279 rfl ?_
  refine AZ.sld (pc := 1280) (i := 5 * c + 1) (by omega) hL0 dL_law_1280 ?_
  rw [← ex1]
  refine AZ.sload (pc := 1281) dL_law_1281 rfl ?_
  refine AZ.iload_n (pc := 1282) dL_law_1282 rfl ?_
  refine AZ.iconst (pc := 1283) (v := nI 2) dL_law_1283 (by decide) ?_
  refine AZ.iaddN (pc := 1284) (c := 5 * c + 2) dL_law_1284 rfl ?_
  refine AZ.sld (pc := 1285) (i := 5 * c + 2) (by omega) hL0 dL_law_1285 ?_
  rw [← ex2]
  refine AZ.callV (pc := 1286) (M2 := M_X11_like) (As := [.int x1, .int x2]) (rest := []) (c_like w h C Tr x1 x2) ⟨xc_L_law__X11_like.1, xc_L_law__X11_like.2.1, xc_L_law__X11_like.2.2.1, Nat.le_of_ble_eq_true rfl, Nat.le_of_ble_eq_true rfl⟩ gL_law_X11_like (ci := 10) rfl (lt_k hn (by omega)) C.dm rfl (Nat.le_of_ble_eq_true rfl) dL_law_1286 ?_
  rintro _ h1 ⟨rfl, s1, C1⟩
  have M1 : MS h1 s := M0.far s1 s1.cl
  have n1 := s1.le hn
  obtain ⟨vv1, O1, -⟩ := id M1.ob
  show AZ (ZL w L0 xs) w M_L_law 118 19112 1289 [.retAddr 0, .ref 0, .ref 87, .int (nI (5 * c))] (_ :: []) _ _
  refine AZ.aload_n (pc := 1289) dL_law_1289 rfl ?_
  refine AZ.sload (pc := 1290) dL_law_1290 rfl ?_
  refine AZ.iload_n (pc := 1291) dL_law_1291 rfl ?_
  refine AZ.iconst (pc := 1292) (v := nI 1) dL_law_1292 (by decide) ?_
  refine AZ.iaddN (pc := 1293) (c := 5 * c + 1) dL_law_1293 rfl ?_
  refine AZ.sld (pc := 1294) (i := 5 * c + 1) (by omega) hL0 dL_law_1294 ?_
  rw [← ex1]
  refine AZ.sload (pc := 1295) dL_law_1295 rfl ?_
  refine AZ.iload_n (pc := 1296) dL_law_1296 rfl ?_
  refine AZ.iconst (pc := 1297) (v := nI 2) dL_law_1297 (by decide) ?_
  refine AZ.iaddN (pc := 1298) (c := 5 * c + 2) dL_law_1298 rfl ?_
  refine AZ.sld (pc := 1299) (i := 5 * c + 2) (by omega) hL0 dL_law_1299 ?_
  rw [← ex2]
  refine AZ.callV (pc := 1300) (M2 := M_X12_like) (As := [.int x1, .int x2]) (rest := [_]) (c_mLike w h1 M1 Tr x1 x2) ⟨xc_L_law__X12_like.1, xc_L_law__X12_like.2.1, xc_L_law__X12_like.2.2.1, Nat.le_of_ble_eq_true rfl, Nat.le_of_ble_eq_true rfl⟩ gL_law_X12_like (ci := 11) rfl (lt_k n1 (by omega)) O1 rfl (Nat.le_of_ble_eq_true rfl) dL_law_1300 ?_
  rintro _ h2 ⟨rfl, s2, M2⟩
  have C2 := C1.far s2 s2.md
  have n2 := s2.le n1
  show AZ (ZL w L0 xs) w M_L_law 118 19112 1303 [.retAddr 0, .ref 0, .ref 87, .int (nI (5 * c))] (_ :: _ :: []) _ _
  refine AZ.icmp_eq (pc := 1303) (tgt := 1377) dL_law_1303 (by decide) (fun _ => ?_) (fun q => absurd rfl q)
  exact kk h2 ⟨n2, (wk s (nLike (sk s) x1 x2)), o, a, b, C2, M2, Lv.more (by omega), TR.like Tr x1 x2, fun q => (Im q).imp fun _ z => z.imp fun _ z => z.imp fun _ z => z.more (by omega)⟩
theorem l_case35 (w : XW) {L0 : Nat} {xs : Nat → Int32} (hL0 : L0 ≤ 2560) (P : Option Value → XH → Prop) {c : Nat} {h : XH} (hi : INV c h) (hc : 5 * c + 5 ≤ L0) (kk : ∀ h', INV (c + 1) h' → AZ (ZL w L0 xs) w M_L_law 118 19112 1377 [.retAddr 0, .ref 0, .ref 87, .int (nI (5 * c))] [] h' P) : AZ (ZL w L0 xs) w M_L_law 118 19112 1308 [.retAddr 0, .ref 0, .ref 87, .int (nI (5 * c))] [] h P := by
  obtain ⟨hn, s, o, a, b, C, M0, Lv, Tr, Im⟩ := hi
  obtain ⟨x1, ex1⟩ : ∃ z, z = xs (5 * c + 1) := ⟨_, rfl⟩
  obtain ⟨x2, ex2⟩ : ∃ z, z = xs (5 * c + 2) := ⟨_, rfl⟩
  obtain ⟨x3, ex3⟩ : ∃ z, z = xs (5 * c + 3) := ⟨_, rfl⟩
  refine AZ.aload_n (pc := 1308) dL_law_1308 rfl ?_
  refine AZ.sload (pc := 1309) dL_law_1309 rfl ?_
  refine AZ.iload_n (pc := 1310) dL_law_1310 rfl ?_
  refine AZ.iconst (pc := 1311) (v := nI 1) dL_law_1311 (by decide) ?_
  refine AZ.iaddN (pc := 1312) (c := 5 * c + 1) dL_law_1312 rfl ?_
  refine AZ.sld (pc := 1313) (i := 5 * c + 1) (by omega) hL0 dL_law_1313 ?_
  rw [← ex1]
  refine AZ.sload (pc := 1314) dL_law_1314 rfl ?_
  refine AZ.iload_n (pc := 1315) dL_law_1315 rfl ?_
  refine AZ.iconst (pc := 1316) (v := nI 2) dL_law_1316 (by decide) ?_
  refine AZ.iaddN (pc := 1317) (c := 5 * c + 2) dL_law_1317 rfl ?_
  refine AZ.sld (pc := 1318) (i := 5 * c + 2) (by omega) hL0 dL_law_1318 ?_
  rw [← ex2]
  refine AZ.sload (pc := 1319) dL_law_1319 rfl ?_
  refine AZ.iload_n (pc := 1320) dL_law_1320 rfl ?_
  refine AZ.iconst (pc := 1321) (v := nI 3) dL_law_1321 (by decide) ?_
  refine AZ.iaddN (pc := 1322) (c := 5 * c + 3) dL_law_1322 rfl ?_
  refine AZ.sld (pc := 1323) (i := 5 * c + 3) (by omega) hL0 dL_law_1323 ?_
  rw [← ex3]
  refine AZ.callV (pc := 1324) (M2 := M_X11_judged) (As := [.int x1, .int x2, .int x3]) (rest := []) (c_judged w h C Tr x1 x2 x3) ⟨xc_L_law__X11_judged.1, xc_L_law__X11_judged.2.1, xc_L_law__X11_judged.2.2.1, Nat.le_of_ble_eq_true rfl, Nat.le_of_ble_eq_true rfl⟩ gL_law_X11_judged (ci := 10) rfl (lt_k hn (by omega)) C.dm rfl (Nat.le_of_ble_eq_true rfl) dL_law_1324 ?_
  rintro _ h1 ⟨rfl, s1, C1⟩
  have M1 : MS h1 s := M0.far s1 s1.cl
  have n1 := s1.le hn
  obtain ⟨vv1, O1, -⟩ := id M1.ob
  show AZ (ZL w L0 xs) w M_L_law 118 19112 1327 [.retAddr 0, .ref 0, .ref 87, .int (nI (5 * c))] (_ :: []) _ _
  refine AZ.aload_n (pc := 1327) dL_law_1327 rfl ?_
  refine AZ.sload (pc := 1328) dL_law_1328 rfl ?_
  refine AZ.iload_n (pc := 1329) dL_law_1329 rfl ?_
  refine AZ.iconst (pc := 1330) (v := nI 1) dL_law_1330 (by decide) ?_
  refine AZ.iaddN (pc := 1331) (c := 5 * c + 1) dL_law_1331 rfl ?_
  refine AZ.sld (pc := 1332) (i := 5 * c + 1) (by omega) hL0 dL_law_1332 ?_
  rw [← ex1]
  refine AZ.sload (pc := 1333) dL_law_1333 rfl ?_
  refine AZ.iload_n (pc := 1334) dL_law_1334 rfl ?_
  refine AZ.iconst (pc := 1335) (v := nI 2) dL_law_1335 (by decide) ?_
  refine AZ.iaddN (pc := 1336) (c := 5 * c + 2) dL_law_1336 rfl ?_
  refine AZ.sld (pc := 1337) (i := 5 * c + 2) (by omega) hL0 dL_law_1337 ?_
  rw [← ex2]
  refine AZ.sload (pc := 1338) dL_law_1338 rfl ?_
  refine AZ.iload_n (pc := 1339) dL_law_1339 rfl ?_
  refine AZ.iconst (pc := 1340) (v := nI 3) dL_law_1340 (by decide) ?_
  refine AZ.iaddN (pc := 1341) (c := 5 * c + 3) dL_law_1341 rfl ?_
  refine AZ.sld (pc := 1342) (i := 5 * c + 3) (by omega) hL0 dL_law_1342 ?_
  rw [← ex3]
  refine AZ.callV (pc := 1343) (M2 := M_X12_judged) (As := [.int x1, .int x2, .int x3]) (rest := [_]) (c_mJudged w h1 M1 Lv Tr x1 x2 x3) ⟨xc_L_law__X12_judged.1, xc_L_law__X12_judged.2.1, xc_L_law__X12_judged.2.2.1, Nat.le_of_ble_eq_true rfl, Nat.le_of_ble_eq_true rfl⟩ gL_law_X12_judged (ci := 11) rfl (lt_k n1 (by omega)) O1 rfl (Nat.le_of_ble_eq_true rfl) dL_law_1343 ?_
  rintro _ h2 ⟨rfl, s2, M2⟩
  have C2 := C1.far s2 s2.md
  have n2 := s2.le n1
  show AZ (ZL w L0 xs) w M_L_law 118 19112 1346 [.retAddr 0, .ref 0, .ref 87, .int (nI (5 * c))] (_ :: _ :: []) _ _
  refine AZ.icmp_eq (pc := 1346) (tgt := 1377) dL_law_1346 (by decide) (fun _ => ?_) (fun q => absurd rfl q)
  exact kk h2 ⟨n2, s, o, a, b, C2, M2, Lv.more (by omega), Tr, fun q => (Im q).imp fun _ z => z.imp fun _ z => z.imp fun _ z => z.more (by omega)⟩
theorem l_case36 (w : XW) {L0 : Nat} {xs : Nat → Int32} (hL0 : L0 ≤ 2560) (P : Option Value → XH → Prop) {c : Nat} {h : XH} (hi : INV c h) (hc : 5 * c + 5 ≤ L0) (kk : ∀ h', INV (c + 1) h' → AZ (ZL w L0 xs) w M_L_law 118 19112 1377 [.retAddr 0, .ref 0, .ref 87, .int (nI (5 * c))] [] h' P) : AZ (ZL w L0 xs) w M_L_law 118 19112 1351 [.retAddr 0, .ref 0, .ref 87, .int (nI (5 * c))] [] h P := by
  obtain ⟨hn, s, o, a, b, C, M0, Lv, Tr, Im⟩ := hi
  refine AZ.aload_n (pc := 1351) dL_law_1351 rfl ?_
  refine AZ.callV (pc := 1352) (M2 := M_X11_image) (As := []) (rest := []) (c_image w h C) ⟨xc_L_law__X11_image.1, xc_L_law__X11_image.2.1, xc_L_law__X11_image.2.2.1, Nat.le_of_ble_eq_true rfl, Nat.le_of_ble_eq_true rfl⟩ gL_law_X11_image (ci := 10) rfl (lt_k hn (by omega)) C.dm rfl (Nat.le_of_ble_eq_true rfl) dL_law_1352 ?_
  rintro _ h1 ⟨rfl, s1, C1⟩
  have M1 : MS h1 s := M0.far s1 s1.cl
  have n1 := s1.le hn
  obtain ⟨vv1, O1, -⟩ := id M1.ob
  show AZ (ZL w L0 xs) w M_L_law 118 19112 1355 [.retAddr 0, .ref 0, .ref 87, .int (nI (5 * c))] (_ :: []) _ _
  refine AZ.aload_n (pc := 1355) dL_law_1355 rfl ?_
  refine AZ.callV (pc := 1356) (M2 := M_X12_image) (As := []) (rest := [_]) (c_mImage w h1 M1) ⟨xc_L_law__X12_image.1, xc_L_law__X12_image.2.1, xc_L_law__X12_image.2.2.1, Nat.le_of_ble_eq_true rfl, Nat.le_of_ble_eq_true rfl⟩ gL_law_X12_image (ci := 11) rfl (lt_k n1 (by omega)) O1 rfl (Nat.le_of_ble_eq_true rfl) dL_law_1356 ?_
  rintro _ h2 ⟨rfl, s2, M2⟩
  have C2 := C1.far s2 s2.md
  have n2 := s2.le n1
  show AZ (ZL w L0 xs) w M_L_law 118 19112 1359 [.retAddr 0, .ref 0, .ref 87, .int (nI (5 * c))] (_ :: _ :: []) _ _
  refine AZ.icmp_eq (pc := 1359) (tgt := 1377) dL_law_1359 (by decide) (fun _ => ?_) (fun q => absurd rfl q)
  exact kk h2 ⟨n2, (wb (wp s (sq s)) true), o, a, b, C2, M2, Lv.more (by omega), Tr, fun _ => ⟨o, a, b, Lv.more (by omega)⟩⟩
theorem l_case37 (w : XW) {L0 : Nat} {xs : Nat → Int32} (hL0 : L0 ≤ 2560) (P : Option Value → XH → Prop) {c : Nat} {h : XH} (hi : INV c h) (hc : 5 * c + 5 ≤ L0) (kk : ∀ h', INV (c + 1) h' → AZ (ZL w L0 xs) w M_L_law 118 19112 1377 [.retAddr 0, .ref 0, .ref 87, .int (nI (5 * c))] [] h' P) : AZ (ZL w L0 xs) w M_L_law 118 19112 1364 [.retAddr 0, .ref 0, .ref 87, .int (nI (5 * c))] [] h P := by
  obtain ⟨hn, s, o, a, b, C, M0, Lv, Tr, Im⟩ := hi
  obtain ⟨o', a', b', L2⟩ : ∃ o' a' b', LV (nUndo s) (12 * c) o' a' b' := by
    by_cases hb : sb s = true
    · rw [show nUndo s = sp_ s from if_pos hb]; exact Im hb
    · rw [show nUndo s = sq s from if_neg hb]; exact ⟨o, a, b, Lv⟩
  refine AZ.aload_n (pc := 1364) dL_law_1364 rfl ?_
  refine AZ.callV (pc := 1365) (M2 := M_X11_undo) (As := []) (rest := []) (c_undo w h C Lv L2) ⟨xc_L_law__X11_undo.1, xc_L_law__X11_undo.2.1, xc_L_law__X11_undo.2.2.1, Nat.le_of_ble_eq_true rfl, Nat.le_of_ble_eq_true rfl⟩ gL_law_X11_undo (ci := 10) rfl (lt_k hn (by omega)) C.dm rfl (Nat.le_of_ble_eq_true rfl) dL_law_1365 ?_
  rintro _ h1 ⟨rfl, s1, C1⟩
  have M1 : MS h1 s := M0.far s1 s1.cl
  have n1 := s1.le hn
  obtain ⟨vv1, O1, -⟩ := id M1.ob
  show AZ (ZL w L0 xs) w M_L_law 118 19112 1368 [.retAddr 0, .ref 0, .ref 87, .int (nI (5 * c))] (_ :: []) _ _
  refine AZ.aload_n (pc := 1368) dL_law_1368 rfl ?_
  refine AZ.callV (pc := 1369) (M2 := M_X12_undo) (As := []) (rest := [_]) (c_mUndo w h1 M1) ⟨xc_L_law__X12_undo.1, xc_L_law__X12_undo.2.1, xc_L_law__X12_undo.2.2.1, Nat.le_of_ble_eq_true rfl, Nat.le_of_ble_eq_true rfl⟩ gL_law_X12_undo (ci := 11) rfl (lt_k n1 (by omega)) O1 rfl (Nat.le_of_ble_eq_true rfl) dL_law_1369 ?_
  rintro _ h2 ⟨rfl, s2, M2⟩
  have C2 := C1.far s2 s2.md
  have n2 := s2.le n1
  show AZ (ZL w L0 xs) w M_L_law 118 19112 1372 [.retAddr 0, .ref 0, .ref 87, .int (nI (5 * c))] (_ :: _ :: []) _ _
  refine AZ.icmp_eq (pc := 1372) (tgt := 1377) dL_law_1372 (by decide) (fun _ => ?_) (fun q => absurd rfl q)
  exact kk h2 ⟨n2, (wq s (nUndo s)), o', a', b', C2, M2, L2.more (by omega), Tr, fun q => (Im q).imp fun _ z => z.imp fun _ z => z.imp fun _ z => z.more (by omega)⟩
