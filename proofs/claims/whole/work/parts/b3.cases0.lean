/-! ===== THE LAW: the cases 0 ===== -/
theorem l_case0 (w : XW) {L0 : Nat} {xs : Nat → Int32} (hL0 : L0 ≤ 2560) (P : Option Value → XH → Prop) {c : Nat} {h : XH} (hi : INV c h) (hc : 5 * c + 5 ≤ L0) (kk : ∀ h', INV (c + 1) h' → AZ (ZL w L0 xs) w M_L_law 118 19112 1377 [.retAddr 0, .ref 0, .ref 87, .int (nI (5 * c))] [] h' P) : AZ (ZL w L0 xs) w M_L_law 118 19112 200 [.retAddr 0, .ref 0, .ref 87, .int (nI (5 * c))] [] h P := by
  obtain ⟨hn, s, o, a, b, C, M0, Lv, Tr, Im⟩ := hi
  obtain ⟨x1, ex1⟩ : ∃ z, z = xs (5 * c + 1) := ⟨_, rfl⟩
  obtain ⟨x2, ex2⟩ : ∃ z, z = xs (5 * c + 2) := ⟨_, rfl⟩
  refine AZ.aload_n (pc := 200) dL_law_200 rfl ?_
  refine AZ.sload (pc := 201) dL_law_201 rfl ?_
  refine AZ.iload_n (pc := 202) dL_law_202 rfl ?_
  refine AZ.iconst (pc := 203) (v := nI 1) dL_law_203 (by decide) ?_
  refine AZ.iaddN (pc := 204) (c := 5 * c + 1) dL_law_204 rfl ?_
  refine AZ.sld (pc := 205) (i := 5 * c + 1) (by omega) hL0 dL_law_205 ?_
  rw [← ex1]
  refine AZ.sload (pc := 206) dL_law_206 rfl ?_
  refine AZ.iload_n (pc := 207) dL_law_207 rfl ?_
  refine AZ.iconst (pc := 208) (v := nI 2) dL_law_208 (by decide) ?_
  refine AZ.iaddN (pc := 209) (c := 5 * c + 2) dL_law_209 rfl ?_
  refine AZ.sld (pc := 210) (i := 5 * c + 2) (by omega) hL0 dL_law_210 ?_
  rw [← ex2]
  refine AZ.callV (pc := 211) (M2 := M_X11_spot) (As := [.int x1, .int x2]) (rest := []) (c_spot w h C x1 x2) ⟨xc_L_law__X11_spot.1, xc_L_law__X11_spot.2.1, xc_L_law__X11_spot.2.2.1, Nat.le_of_ble_eq_true rfl, Nat.le_of_ble_eq_true rfl⟩ gL_law_X11_spot (ci := 10) rfl (lt_k hn (by omega)) C.dm rfl (Nat.le_of_ble_eq_true rfl) dL_law_211 ?_
  rintro _ h9 ⟨rfl, e9⟩
  have e9 := e9.symm
  subst e9
  have C1 := C
  have M1 := M0
  have n1 := hn
  obtain ⟨vv1, O1, -⟩ := id M1.ob
  show AZ (ZL w L0 xs) w M_L_law 118 19112 214 [.retAddr 0, .ref 0, .ref 87, .int (nI (5 * c))] (_ :: []) _ _
  refine AZ.aload_n (pc := 214) dL_law_214 rfl ?_
  refine AZ.sload (pc := 215) dL_law_215 rfl ?_
  refine AZ.iload_n (pc := 216) dL_law_216 rfl ?_
  refine AZ.iconst (pc := 217) (v := nI 1) dL_law_217 (by decide) ?_
  refine AZ.iaddN (pc := 218) (c := 5 * c + 1) dL_law_218 rfl ?_
  refine AZ.sld (pc := 219) (i := 5 * c + 1) (by omega) hL0 dL_law_219 ?_
  rw [← ex1]
  refine AZ.sload (pc := 220) dL_law_220 rfl ?_
  refine AZ.iload_n (pc := 221) dL_law_221 rfl ?_
  refine AZ.iconst (pc := 222) (v := nI 2) dL_law_222 (by decide) ?_
  refine AZ.iaddN (pc := 223) (c := 5 * c + 2) dL_law_223 rfl ?_
  refine AZ.sld (pc := 224) (i := 5 * c + 2) (by omega) hL0 dL_law_224 ?_
  rw [← ex2]
  refine AZ.callV (pc := 225) (M2 := M_X12_spot) (As := [.int x1, .int x2]) (rest := [_]) (c_mSpot w h M1 Lv x1 x2) ⟨xc_L_law__X12_spot.1, xc_L_law__X12_spot.2.1, xc_L_law__X12_spot.2.2.1, Nat.le_of_ble_eq_true rfl, Nat.le_of_ble_eq_true rfl⟩ gL_law_X12_spot (ci := 11) rfl (lt_k n1 (by omega)) O1 rfl (Nat.le_of_ble_eq_true rfl) dL_law_225 ?_
  rintro _ h8 ⟨rfl, e8⟩
  have e8 := e8.symm
  subst e8
  have M2 := M1
  have C2 := C1
  have n2 := n1
  show AZ (ZL w L0 xs) w M_L_law 118 19112 228 [.retAddr 0, .ref 0, .ref 87, .int (nI (5 * c))] (_ :: _ :: []) _ _
  refine AZ.icmp_eq (pc := 228) (tgt := 1377) dL_law_228 (by decide) (fun _ => ?_) (fun q => absurd rfl q)
  exact kk h ⟨n2, s, o, a, b, C2, M2, Lv.more (by omega), Tr, fun q => (Im q).imp fun _ z => z.imp fun _ z => z.imp fun _ z => z.more (by omega)⟩
theorem l_case1 (w : XW) {L0 : Nat} {xs : Nat → Int32} (hL0 : L0 ≤ 2560) (P : Option Value → XH → Prop) {c : Nat} {h : XH} (hi : INV c h) (hc : 5 * c + 5 ≤ L0) (kk : ∀ h', INV (c + 1) h' → AZ (ZL w L0 xs) w M_L_law 118 19112 1377 [.retAddr 0, .ref 0, .ref 87, .int (nI (5 * c))] [] h' P) : AZ (ZL w L0 xs) w M_L_law 118 19112 233 [.retAddr 0, .ref 0, .ref 87, .int (nI (5 * c))] [] h P := by
  obtain ⟨hn, s, o, a, b, C, M0, Lv, Tr, Im⟩ := hi
  obtain ⟨x1, ex1⟩ : ∃ z, z = xs (5 * c + 1) := ⟨_, rfl⟩
  obtain ⟨x2, ex2⟩ : ∃ z, z = xs (5 * c + 2) := ⟨_, rfl⟩
  refine AZ.aload_n (pc := 233) dL_law_233 rfl ?_
  refine AZ.sload (pc := 234) dL_law_234 rfl ?_
  refine AZ.iload_n (pc := 235) dL_law_235 rfl ?_
  refine AZ.iconst (pc := 236) (v := nI 1) dL_law_236 (by decide) ?_
  refine AZ.iaddN (pc := 237) (c := 5 * c + 1) dL_law_237 rfl ?_
  refine AZ.sld (pc := 238) (i := 5 * c + 1) (by omega) hL0 dL_law_238 ?_
  rw [← ex1]
  refine AZ.sload (pc := 239) dL_law_239 rfl ?_
  refine AZ.iload_n (pc := 240) dL_law_240 rfl ?_
  refine AZ.iconst (pc := 241) (v := nI 2) dL_law_241 (by decide) ?_
  refine AZ.iaddN (pc := 242) (c := 5 * c + 2) dL_law_242 rfl ?_
  refine AZ.sld (pc := 243) (i := 5 * c + 2) (by omega) hL0 dL_law_243 ?_
  rw [← ex2]
  refine AZ.callV (pc := 244) (M2 := M_X11_under) (As := [.int x1, .int x2]) (rest := []) (c_under w h C x1 x2) ⟨xc_L_law__X11_under.1, xc_L_law__X11_under.2.1, xc_L_law__X11_under.2.2.1, Nat.le_of_ble_eq_true rfl, Nat.le_of_ble_eq_true rfl⟩ gL_law_X11_under (ci := 10) rfl (lt_k hn (by omega)) C.dm rfl (Nat.le_of_ble_eq_true rfl) dL_law_244 ?_
  rintro _ h9 ⟨rfl, e9⟩
  have e9 := e9.symm
  subst e9
  have C1 := C
  have M1 := M0
  have n1 := hn
  obtain ⟨vv1, O1, -⟩ := id M1.ob
  show AZ (ZL w L0 xs) w M_L_law 118 19112 247 [.retAddr 0, .ref 0, .ref 87, .int (nI (5 * c))] (_ :: []) _ _
  refine AZ.aload_n (pc := 247) dL_law_247 rfl ?_
  refine AZ.sload (pc := 248) dL_law_248 rfl ?_
  refine AZ.iload_n (pc := 249) dL_law_249 rfl ?_
  refine AZ.iconst (pc := 250) (v := nI 1) dL_law_250 (by decide) ?_
  refine AZ.iaddN (pc := 251) (c := 5 * c + 1) dL_law_251 rfl ?_
  refine AZ.sld (pc := 252) (i := 5 * c + 1) (by omega) hL0 dL_law_252 ?_
  rw [← ex1]
  refine AZ.sload (pc := 253) dL_law_253 rfl ?_
  refine AZ.iload_n (pc := 254) dL_law_254 rfl ?_
  refine AZ.iconst (pc := 255) (v := nI 2) dL_law_255 (by decide) ?_
  refine AZ.iaddN (pc := 256) (c := 5 * c + 2) dL_law_256 rfl ?_
  refine AZ.sld (pc := 257) (i := 5 * c + 2) (by omega) hL0 dL_law_257 ?_
  rw [← ex2]
  refine AZ.callV (pc := 258) (M2 := M_X12_under) (As := [.int x1, .int x2]) (rest := [_]) (c_mUnder2 w h M1 Lv x1 x2) ⟨xc_L_law__X12_under.1, xc_L_law__X12_under.2.1, xc_L_law__X12_under.2.2.1, Nat.le_of_ble_eq_true rfl, Nat.le_of_ble_eq_true rfl⟩ gL_law_X12_under (ci := 11) rfl (lt_k n1 (by omega)) O1 rfl (Nat.le_of_ble_eq_true rfl) dL_law_258 ?_
  rintro _ h8 ⟨rfl, e8⟩
  have e8 := e8.symm
  subst e8
  have M2 := M1
  have C2 := C1
  have n2 := n1
  show AZ (ZL w L0 xs) w M_L_law 118 19112 261 [.retAddr 0, .ref 0, .ref 87, .int (nI (5 * c))] (_ :: _ :: []) _ _
  refine AZ.icmp_eq (pc := 261) (tgt := 1377) dL_law_261 (by decide) (fun _ => ?_) (fun q => absurd rfl q)
  exact kk h ⟨n2, s, o, a, b, C2, M2, Lv.more (by omega), Tr, fun q => (Im q).imp fun _ z => z.imp fun _ z => z.imp fun _ z => z.more (by omega)⟩
theorem l_case2 (w : XW) {L0 : Nat} {xs : Nat → Int32} (hL0 : L0 ≤ 2560) (P : Option Value → XH → Prop) {c : Nat} {h : XH} (hi : INV c h) (hc : 5 * c + 5 ≤ L0) (kk : ∀ h', INV (c + 1) h' → AZ (ZL w L0 xs) w M_L_law 118 19112 1377 [.retAddr 0, .ref 0, .ref 87, .int (nI (5 * c))] [] h' P) : AZ (ZL w L0 xs) w M_L_law 118 19112 266 [.retAddr 0, .ref 0, .ref 87, .int (nI (5 * c))] [] h P := by
  obtain ⟨hn, s, o, a, b, C, M0, Lv, Tr, Im⟩ := hi
  obtain ⟨x1, ex1⟩ : ∃ z, z = xs (5 * c + 1) := ⟨_, rfl⟩
  obtain ⟨x2, ex2⟩ : ∃ z, z = xs (5 * c + 2) := ⟨_, rfl⟩
  obtain ⟨x3, ex3⟩ : ∃ z, z = xs (5 * c + 3) := ⟨_, rfl⟩
  obtain ⟨a', b', L2⟩ := Lv.hand1 x1 x2 x3
  refine AZ.aload_n (pc := 266) dL_law_266 rfl ?_
  refine AZ.sload (pc := 267) dL_law_267 rfl ?_
  refine AZ.iload_n (pc := 268) dL_law_268 rfl ?_
  refine AZ.iconst (pc := 269) (v := nI 1) dL_law_269 (by decide) ?_
  refine AZ.iaddN (pc := 270) (c := 5 * c + 1) dL_law_270 rfl ?_
  refine AZ.sld (pc := 271) (i := 5 * c + 1) (by omega) hL0 dL_law_271 ?_
  rw [← ex1]
  refine AZ.sload (pc := 272) dL_law_272 rfl ?_
  refine AZ.iload_n (pc := 273) dL_law_273 rfl ?_
  refine AZ.iconst (pc := 274) (v := nI 2) dL_law_274 (by decide) ?_
  refine AZ.iaddN (pc := 275) (c := 5 * c + 2) dL_law_275 rfl ?_
  refine AZ.sld (pc := 276) (i := 5 * c + 2) (by omega) hL0 dL_law_276 ?_
  rw [← ex2]
  refine AZ.sload (pc := 277) dL_law_277 rfl ?_
  refine AZ.iload_n (pc := 278) dL_law_278 rfl ?_
  refine AZ.iconst (pc := 279) (v := nI 3) dL_law_279 (by decide) ?_
  refine AZ.iaddN (pc := 280) (c := 5 * c + 3) dL_law_280 rfl ?_
  refine AZ.sld (pc := 281) (i := 5 * c + 3) (by omega) hL0 dL_law_281 ?_
  rw [← ex3]
  refine AZ.callV (pc := 282) (M2 := M_X11_hand) (As := [.int x1, .int x2, .int x3]) (rest := []) (c_hand w h C Lv x1 x2 x3 L2) ⟨xc_L_law__X11_hand.1, xc_L_law__X11_hand.2.1, xc_L_law__X11_hand.2.2.1, Nat.le_of_ble_eq_true rfl, Nat.le_of_ble_eq_true rfl⟩ gL_law_X11_hand (ci := 10) rfl (lt_k hn (by omega)) C.dm rfl (Nat.le_of_ble_eq_true rfl) dL_law_282 ?_
  rintro _ h1 ⟨rfl, s1, C1⟩
  have M1 : MS h1 s := M0.far s1 s1.cl
  have n1 := s1.le hn
  obtain ⟨vv1, O1, -⟩ := id M1.ob
  show AZ (ZL w L0 xs) w M_L_law 118 19112 285 [.retAddr 0, .ref 0, .ref 87, .int (nI (5 * c))] (_ :: []) _ _
  refine AZ.aload_n (pc := 285) dL_law_285 rfl ?_
  refine AZ.sload (pc := 286) dL_law_286 rfl ?_
  refine AZ.iload_n (pc := 287) dL_law_287 rfl ?_
  refine AZ.iconst (pc := 288) (v := nI 1) dL_law_288 (by decide) ?_
  refine AZ.iaddN (pc := 289) (c := 5 * c + 1) dL_law_289 rfl ?_
  refine AZ.sld (pc := 290) (i := 5 * c + 1) (by omega) hL0 dL_law_290 ?_
  rw [← ex1]
  refine AZ.sload (pc := 291) dL_law_291 rfl ?_
  refine AZ.iload_n (pc := 292) dL_law_292 rfl ?_
  refine AZ.iconst (pc := 293) (v := nI 2) dL_law_293 (by decide) ?_
  refine AZ.iaddN (pc := 294) (c := 5 * c + 2) dL_law_294 rfl ?_
  refine AZ.sld (pc := 295) (i := 5 * c + 2) (by omega) hL0 dL_law_295 ?_
  rw [← ex2]
  refine AZ.sload (pc := 296) dL_law_296 rfl ?_
  refine AZ.iload_n (pc := 297) dL_law_297 rfl ?_
  refine AZ.iconst (pc := 298) (v := nI 3) dL_law_298 (by decide) ?_
  refine AZ.iaddN (pc := 299) (c := 5 * c + 3) dL_law_299 rfl ?_
  refine AZ.sld (pc := 300) (i := 5 * c + 3) (by omega) hL0 dL_law_300 ?_
  rw [← ex3]
  refine AZ.callV (pc := 301) (M2 := M_X12_hand) (As := [.int x1, .int x2, .int x3]) (rest := [_]) (c_mHand w h1 M1 Lv x1 x2 x3) ⟨xc_L_law__X12_hand.1, xc_L_law__X12_hand.2.1, xc_L_law__X12_hand.2.2.1, Nat.le_of_ble_eq_true rfl, Nat.le_of_ble_eq_true rfl⟩ gL_law_X12_hand (ci := 11) rfl (lt_k n1 (by omega)) O1 rfl (Nat.le_of_ble_eq_true rfl) dL_law_301 ?_
  rintro _ h2 ⟨rfl, s2, M2⟩
  have C2 := C1.far s2 s2.md
  have n2 := s2.le n1
  show AZ (ZL w L0 xs) w M_L_law 118 19112 304 [.retAddr 0, .ref 0, .ref 87, .int (nI (5 * c))] (_ :: _ :: []) _ _
  refine AZ.icmp_eq (pc := 304) (tgt := 1377) dL_law_304 (by decide) (fun _ => ?_) (fun q => absurd rfl q)
  exact kk h2 ⟨n2, (wq s (nHand (sq s) x1 x2 x3)), o, a', b', C2, M2, L2.more (by omega), Tr, fun q => (Im q).imp fun _ z => z.imp fun _ z => z.imp fun _ z => z.more (by omega)⟩
theorem l_case3 (w : XW) {L0 : Nat} {xs : Nat → Int32} (hL0 : L0 ≤ 2560) (P : Option Value → XH → Prop) {c : Nat} {h : XH} (hi : INV c h) (hc : 5 * c + 5 ≤ L0) (kk : ∀ h', INV (c + 1) h' → AZ (ZL w L0 xs) w M_L_law 118 19112 1377 [.retAddr 0, .ref 0, .ref 87, .int (nI (5 * c))] [] h' P) : AZ (ZL w L0 xs) w M_L_law 118 19112 309 [.retAddr 0, .ref 0, .ref 87, .int (nI (5 * c))] [] h P := by
  obtain ⟨hn, s, o, a, b, C, M0, Lv, Tr, Im⟩ := hi
  obtain ⟨x1, ex1⟩ : ∃ z, z = xs (5 * c + 1) := ⟨_, rfl⟩
  obtain ⟨x2, ex2⟩ : ∃ z, z = xs (5 * c + 2) := ⟨_, rfl⟩
  obtain ⟨x3, ex3⟩ : ∃ z, z = xs (5 * c + 3) := ⟨_, rfl⟩
  obtain ⟨x4, ex4⟩ : ∃ z, z = xs (5 * c + 4) := ⟨_, rfl⟩
  refine AZ.aload_n (pc := 309) dL_law_309 rfl ?_
  refine AZ.sload (pc := 310) dL_law_310 rfl ?_
  refine AZ.iload_n (pc := 311) dL_law_311 rfl ?_
  refine AZ.iconst (pc := 312) (v := nI 1) dL_law_312 (by decide) ?_
  refine AZ.iaddN (pc := 313) (c := 5 * c + 1) dL_law_313 rfl ?_
  refine AZ.sld (pc := 314) (i := 5 * c + 1) (by omega) hL0 dL_law_314 ?_
  rw [← ex1]
  refine AZ.sload (pc := 315) dL_law_315 rfl ?_
  refine AZ.iload_n (pc := 316) dL_law_316 rfl ?_
  refine AZ.iconst (pc := 317) (v := nI 2) dL_law_317 (by decide) ?_
  refine AZ.iaddN (pc := 318) (c := 5 * c + 2) dL_law_318 rfl ?_
  refine AZ.sld (pc := 319) (i := 5 * c + 2) (by omega) hL0 dL_law_319 ?_
  rw [← ex2]
  refine AZ.sload (pc := 320) dL_law_320 rfl ?_
  refine AZ.iload_n (pc := 321) dL_law_321 rfl ?_
  refine AZ.iconst (pc := 322) (v := nI 3) dL_law_322 (by decide) ?_
  refine AZ.iaddN (pc := 323) (c := 5 * c + 3) dL_law_323 rfl ?_
  refine AZ.sld (pc := 324) (i := 5 * c + 3) (by omega) hL0 dL_law_324 ?_
  rw [← ex3]
  refine AZ.sload (pc := 325) dL_law_325 rfl ?_
  refine AZ.iload_n (pc := 326) dL_law_326 rfl ?_
  refine AZ.iconst (pc := 327) (v := nI 4) dL_law_327 (by decide) ?_
  refine AZ.iaddN (pc := 328) (c := 5 * c + 4) dL_law_328 rfl ?_
  refine AZ.sld (pc := 329) (i := 5 * c + 4) (by omega) hL0 dL_law_329 ?_
  rw [← ex4]
  refine AZ.callV (pc := 330) (M2 := M_X11_fall) (As := [.int x1, .int x2, .int x3, .int x4]) (rest := []) (c_fall w h C x1 x2 x3 x4) ⟨xc_L_law__X11_fall.1, xc_L_law__X11_fall.2.1, xc_L_law__X11_fall.2.2.1, Nat.le_of_ble_eq_true rfl, Nat.le_of_ble_eq_true rfl⟩ gL_law_X11_fall (ci := 10) rfl (lt_k hn (by omega)) C.dm rfl (Nat.le_of_ble_eq_true rfl) dL_law_330 ?_
  rintro _ h9 ⟨rfl, e9⟩
  have e9 := e9.symm
  subst e9
  have C1 := C
  have M1 := M0
  have n1 := hn
  obtain ⟨vv1, O1, -⟩ := id M1.ob
  show AZ (ZL w L0 xs) w M_L_law 118 19112 333 [.retAddr 0, .ref 0, .ref 87, .int (nI (5 * c))] (_ :: []) _ _
  refine AZ.aload_n (pc := 333) dL_law_333 rfl ?_
  refine AZ.sload (pc := 334) dL_law_334 rfl ?_
  refine AZ.iload_n (pc := 335) dL_law_335 rfl ?_
  refine AZ.iconst (pc := 336) (v := nI 1) dL_law_336 (by decide) ?_
  refine AZ.iaddN (pc := 337) (c := 5 * c + 1) dL_law_337 rfl ?_
  refine AZ.sld (pc := 338) (i := 5 * c + 1) (by omega) hL0 dL_law_338 ?_
  rw [← ex1]
  refine AZ.sload (pc := 339) dL_law_339 rfl ?_
  refine AZ.iload_n (pc := 340) dL_law_340 rfl ?_
  refine AZ.iconst (pc := 341) (v := nI 2) dL_law_341 (by decide) ?_
  refine AZ.iaddN (pc := 342) (c := 5 * c + 2) dL_law_342 rfl ?_
  refine AZ.sld (pc := 343) (i := 5 * c + 2) (by omega) hL0 dL_law_343 ?_
  rw [← ex2]
  refine AZ.sload (pc := 344) dL_law_344 rfl ?_
  refine AZ.iload_n (pc := 345) dL_law_345 rfl ?_
  refine AZ.iconst (pc := 346) (v := nI 3) dL_law_346 (by decide) ?_
  refine AZ.iaddN (pc := 347) (c := 5 * c + 3) dL_law_347 rfl ?_
  refine AZ.sld (pc := 348) (i := 5 * c + 3) (by omega) hL0 dL_law_348 ?_
  rw [← ex3]
  refine AZ.sload (pc := 349) dL_law_349 rfl ?_
  refine AZ.iload_n (pc := 350) dL_law_350 rfl ?_
  refine AZ.iconst (pc := 351) (v := nI 4) dL_law_351 (by decide) ?_
  refine AZ.iaddN (pc := 352) (c := 5 * c + 4) dL_law_352 rfl ?_
  refine AZ.sld (pc := 353) (i := 5 * c + 4) (by omega) hL0 dL_law_353 ?_
  rw [← ex4]
  refine AZ.callV (pc := 354) (M2 := M_X12_fall) (As := [.int x1, .int x2, .int x3, .int x4]) (rest := [_]) (c_mFall w h M1 Lv x1 x2 x3 x4) ⟨xc_L_law__X12_fall.1, xc_L_law__X12_fall.2.1, xc_L_law__X12_fall.2.2.1, Nat.le_of_ble_eq_true rfl, Nat.le_of_ble_eq_true rfl⟩ gL_law_X12_fall (ci := 11) rfl (lt_k n1 (by omega)) O1 rfl (Nat.le_of_ble_eq_true rfl) dL_law_354 ?_
  rintro _ h2 ⟨rfl, s2, M2⟩
  have C2 := C1.far s2 s2.md
  have n2 := s2.le n1
  show AZ (ZL w L0 xs) w M_L_law 118 19112 357 [.retAddr 0, .ref 0, .ref 87, .int (nI (5 * c))] (_ :: _ :: []) _ _
  refine AZ.icmp_eq (pc := 357) (tgt := 1377) dL_law_357 (by decide) (fun _ => ?_) (fun q => absurd rfl q)
  exact kk h2 ⟨n2, s, o, a, b, C2, M2, Lv.more (by omega), Tr, fun q => (Im q).imp fun _ z => z.imp fun _ z => z.imp fun _ z => z.more (by omega)⟩
theorem l_case4 (w : XW) {L0 : Nat} {xs : Nat → Int32} (hL0 : L0 ≤ 2560) (P : Option Value → XH → Prop) {c : Nat} {h : XH} (hi : INV c h) (hc : 5 * c + 5 ≤ L0) (kk : ∀ h', INV (c + 1) h' → AZ (ZL w L0 xs) w M_L_law 118 19112 1377 [.retAddr 0, .ref 0, .ref 87, .int (nI (5 * c))] [] h' P) : AZ (ZL w L0 xs) w M_L_law 118 19112 362 [.retAddr 0, .ref 0, .ref 87, .int (nI (5 * c))] [] h P := by
  obtain ⟨hn, s, o, a, b, C, M0, Lv, Tr, Im⟩ := hi
  obtain ⟨x1, ex1⟩ : ∃ z, z = xs (5 * c + 1) := ⟨_, rfl⟩
  obtain ⟨o', L2⟩ := Lv.out1 x1
  refine AZ.aload_n (pc := 362) dL_law_362 rfl ?_
  refine AZ.sload (pc := 363) dL_law_363 rfl ?_
  refine AZ.iload_n (pc := 364) dL_law_364 rfl ?_
  refine AZ.iconst (pc := 365) (v := nI 1) dL_law_365 (by decide) ?_
  refine AZ.iaddN (pc := 366) (c := 5 * c + 1) dL_law_366 rfl ?_
  refine AZ.sld (pc := 367) (i := 5 * c + 1) (by omega) hL0 dL_law_367 ?_
  rw [← ex1]
  refine AZ.callV (pc := 368) (M2 := M_X11_out) (As := [.int x1]) (rest := []) (c_out w h C Lv x1 L2) ⟨xc_L_law__X11_out.1, xc_L_law__X11_out.2.1, xc_L_law__X11_out.2.2.1, Nat.le_of_ble_eq_true rfl, Nat.le_of_ble_eq_true rfl⟩ gL_law_X11_out (ci := 10) rfl (lt_k hn (by omega)) C.dm rfl (Nat.le_of_ble_eq_true rfl) dL_law_368 ?_
  rintro _ h1 ⟨rfl, s1, C1⟩
  have M1 : MS h1 s := M0.far s1 s1.cl
  have n1 := s1.le hn
  obtain ⟨vv1, O1, -⟩ := id M1.ob
  show AZ (ZL w L0 xs) w M_L_law 118 19112 371 [.retAddr 0, .ref 0, .ref 87, .int (nI (5 * c))] (_ :: []) _ _
  refine AZ.aload_n (pc := 371) dL_law_371 rfl ?_
  refine AZ.sload (pc := 372) dL_law_372 rfl ?_
  refine AZ.iload_n (pc := 373) dL_law_373 rfl ?_
  refine AZ.iconst (pc := 374) (v := nI 1) dL_law_374 (by decide) ?_
  refine AZ.iaddN (pc := 375) (c := 5 * c + 1) dL_law_375 rfl ?_
  refine AZ.sld (pc := 376) (i := 5 * c + 1) (by omega) hL0 dL_law_376 ?_
  rw [← ex1]
  refine AZ.callV (pc := 377) (M2 := M_X12_out) (As := [.int x1]) (rest := [_]) (c_mOut w h1 M1 Lv x1) ⟨xc_L_law__X12_out.1, xc_L_law__X12_out.2.1, xc_L_law__X12_out.2.2.1, Nat.le_of_ble_eq_true rfl, Nat.le_of_ble_eq_true rfl⟩ gL_law_X12_out (ci := 11) rfl (lt_k n1 (by omega)) O1 rfl (Nat.le_of_ble_eq_true rfl) dL_law_377 ?_
  rintro _ h2 ⟨rfl, s2, M2⟩
  have C2 := C1.far s2 s2.md
  have n2 := s2.le n1
  show AZ (ZL w L0 xs) w M_L_law 118 19112 380 [.retAddr 0, .ref 0, .ref 87, .int (nI (5 * c))] (_ :: _ :: []) _ _
  refine AZ.icmp_eq (pc := 380) (tgt := 1377) dL_law_380 (by decide) (fun _ => ?_) (fun q => absurd rfl q)
  exact kk h2 ⟨n2, (wq s (nOut (sq s) x1)), o', a, b, C2, M2, L2.more (by omega), Tr, fun q => (Im q).imp fun _ z => z.imp fun _ z => z.imp fun _ z => z.more (by omega)⟩
theorem l_case5 (w : XW) {L0 : Nat} {xs : Nat → Int32} (hL0 : L0 ≤ 2560) (P : Option Value → XH → Prop) {c : Nat} {h : XH} (hi : INV c h) (hc : 5 * c + 5 ≤ L0) (kk : ∀ h', INV (c + 1) h' → AZ (ZL w L0 xs) w M_L_law 118 19112 1377 [.retAddr 0, .ref 0, .ref 87, .int (nI (5 * c))] [] h' P) : AZ (ZL w L0 xs) w M_L_law 118 19112 385 [.retAddr 0, .ref 0, .ref 87, .int (nI (5 * c))] [] h P := by
  obtain ⟨hn, s, o, a, b, C, M0, Lv, Tr, Im⟩ := hi
  obtain ⟨x1, ex1⟩ : ∃ z, z = xs (5 * c + 1) := ⟨_, rfl⟩
  obtain ⟨x2, ex2⟩ : ∃ z, z = xs (5 * c + 2) := ⟨_, rfl⟩
  refine AZ.aload_n (pc := 385) dL_law_385 rfl ?_
  refine AZ.sload (pc := 386) dL_law_386 rfl ?_
  refine AZ.iload_n (pc := 387) dL_law_387 rfl ?_
  refine AZ.iconst (pc := 388) (v := nI 1) dL_law_388 (by decide) ?_
  refine AZ.iaddN (pc := 389) (c := 5 * c + 1) dL_law_389 rfl ?_
  refine AZ.sld (pc := 390) (i := 5 * c + 1) (by omega) hL0 dL_law_390 ?_
  rw [← ex1]
  refine AZ.sload (pc := 391) dL_law_391 rfl ?_
  refine AZ.iload_n (pc := 392) dL_law_392 rfl ?_
  refine AZ.iconst (pc := 393) (v := nI 2) dL_law_393 (by decide) ?_
  refine AZ.iaddN (pc := 394) (c := 5 * c + 2) dL_law_394 rfl ?_
  refine AZ.sld (pc := 395) (i := 5 * c + 2) (by omega) hL0 dL_law_395 ?_
  rw [← ex2]
  refine AZ.callV (pc := 396) (M2 := M_X11_falls) (As := [.int x1, .int x2]) (rest := []) (c_falls w h C x1 x2) ⟨xc_L_law__X11_falls.1, xc_L_law__X11_falls.2.1, xc_L_law__X11_falls.2.2.1, Nat.le_of_ble_eq_true rfl, Nat.le_of_ble_eq_true rfl⟩ gL_law_X11_falls (ci := 10) rfl (lt_k hn (by omega)) C.dm rfl (Nat.le_of_ble_eq_true rfl) dL_law_396 ?_
  rintro _ h9 ⟨rfl, e9⟩
  have e9 := e9.symm
  subst e9
  have C1 := C
  have M1 := M0
  have n1 := hn
  obtain ⟨vv1, O1, -⟩ := id M1.ob
  show AZ (ZL w L0 xs) w M_L_law 118 19112 399 [.retAddr 0, .ref 0, .ref 87, .int (nI (5 * c))] (_ :: []) _ _
  refine AZ.aload_n (pc := 399) dL_law_399 rfl ?_
  refine AZ.sload (pc := 400) dL_law_400 rfl ?_
  refine AZ.iload_n (pc := 401) dL_law_401 rfl ?_
  refine AZ.iconst (pc := 402) (v := nI 1) dL_law_402 (by decide) ?_
  refine AZ.iaddN (pc := 403) (c := 5 * c + 1) dL_law_403 rfl ?_
  refine AZ.sld (pc := 404) (i := 5 * c + 1) (by omega) hL0 dL_law_404 ?_
  rw [← ex1]
  refine AZ.sload (pc := 405) dL_law_405 rfl ?_
  refine AZ.iload_n (pc := 406) dL_law_406 rfl ?_
  refine AZ.iconst (pc := 407) (v := nI 2) dL_law_407 (by decide) ?_
  refine AZ.iaddN (pc := 408) (c := 5 * c + 2) dL_law_408 rfl ?_
  refine AZ.sld (pc := 409) (i := 5 * c + 2) (by omega) hL0 dL_law_409 ?_
  rw [← ex2]
  refine AZ.callV (pc := 410) (M2 := M_X12_falls) (As := [.int x1, .int x2]) (rest := [_]) (c_mFalls w h M1 Lv x1 x2) ⟨xc_L_law__X12_falls.1, xc_L_law__X12_falls.2.1, xc_L_law__X12_falls.2.2.1, Nat.le_of_ble_eq_true rfl, Nat.le_of_ble_eq_true rfl⟩ gL_law_X12_falls (ci := 11) rfl (lt_k n1 (by omega)) O1 rfl (Nat.le_of_ble_eq_true rfl) dL_law_410 ?_
  rintro _ h8 ⟨rfl, e8⟩
  have e8 := e8.symm
  subst e8
  have M2 := M1
  have C2 := C1
  have n2 := n1
  show AZ (ZL w L0 xs) w M_L_law 118 19112 413 [.retAddr 0, .ref 0, .ref 87, .int (nI (5 * c))] (_ :: _ :: []) _ _
  refine AZ.icmp_eq (pc := 413) (tgt := 1377) dL_law_413 (by decide) (fun _ => ?_) (fun q => absurd rfl q)
  exact kk h ⟨n2, s, o, a, b, C2, M2, Lv.more (by omega), Tr, fun q => (Im q).imp fun _ z => z.imp fun _ z => z.imp fun _ z => z.more (by omega)⟩
theorem l_case6 (w : XW) {L0 : Nat} {xs : Nat → Int32} (hL0 : L0 ≤ 2560) (P : Option Value → XH → Prop) {c : Nat} {h : XH} (hi : INV c h) (hc : 5 * c + 5 ≤ L0) (kk : ∀ h', INV (c + 1) h' → AZ (ZL w L0 xs) w M_L_law 118 19112 1377 [.retAddr 0, .ref 0, .ref 87, .int (nI (5 * c))] [] h' P) : AZ (ZL w L0 xs) w M_L_law 118 19112 418 [.retAddr 0, .ref 0, .ref 87, .int (nI (5 * c))] [] h P := by
  obtain ⟨hn, s, o, a, b, C, M0, Lv, Tr, Im⟩ := hi
  obtain ⟨x1, ex1⟩ : ∃ z, z = xs (5 * c + 1) := ⟨_, rfl⟩
  obtain ⟨x2, ex2⟩ : ∃ z, z = xs (5 * c + 2) := ⟨_, rfl⟩
  refine AZ.aload_n (pc := 418) dL_law_418 rfl ?_
  refine AZ.sload (pc := 419) dL_law_419 rfl ?_
  refine AZ.iload_n (pc := 420) dL_law_420 rfl ?_
  refine AZ.iconst (pc := 421) (v := nI 1) dL_law_421 (by decide) ?_
  refine AZ.iaddN (pc := 422) (c := 5 * c + 1) dL_law_422 rfl ?_
  refine AZ.sld (pc := 423) (i := 5 * c + 1) (by omega) hL0 dL_law_423 ?_
  rw [← ex1]
  refine AZ.sload (pc := 424) dL_law_424 rfl ?_
  refine AZ.iload_n (pc := 425) dL_law_425 rfl ?_
  refine AZ.iconst (pc := 426) (v := nI 2) dL_law_426 (by decide) ?_
  refine AZ.iaddN (pc := 427) (c := 5 * c + 2) dL_law_427 rfl ?_
  refine AZ.sld (pc := 428) (i := 5 * c + 2) (by omega) hL0 dL_law_428 ?_
  rw [← ex2]
  refine AZ.callV (pc := 429) (M2 := M_X11_darts) (As := [.int x1, .int x2]) (rest := []) (c_darts w h C x1 x2) ⟨xc_L_law__X11_darts.1, xc_L_law__X11_darts.2.1, xc_L_law__X11_darts.2.2.1, Nat.le_of_ble_eq_true rfl, Nat.le_of_ble_eq_true rfl⟩ gL_law_X11_darts (ci := 10) rfl (lt_k hn (by omega)) C.dm rfl (Nat.le_of_ble_eq_true rfl) dL_law_429 ?_
  rintro _ h1 ⟨rfl, s1, C1⟩
  have M1 : MS h1 s := M0.far s1 s1.cl
  have n1 := s1.le hn
  obtain ⟨vv1, O1, -⟩ := id M1.ob
  show AZ (ZL w L0 xs) w M_L_law 118 19112 432 [.retAddr 0, .ref 0, .ref 87, .int (nI (5 * c))] (_ :: []) _ _
  refine AZ.aload_n (pc := 432) dL_law_432 rfl ?_
  refine AZ.sload (pc := 433) dL_law_433 rfl ?_
  refine AZ.iload_n (pc := 434) dL_law_434 rfl ?_
  refine AZ.iconst (pc := 435) (v := nI 1) dL_law_435 (by decide) ?_
  refine AZ.iaddN (pc := 436) (c := 5 * c + 1) dL_law_436 rfl ?_
  refine AZ.sld (pc := 437) (i := 5 * c + 1) (by omega) hL0 dL_law_437 ?_
  rw [← ex1]
  refine AZ.sload (pc := 438) dL_law_438 rfl ?_
  refine AZ.iload_n (pc := 439) dL_law_439 rfl ?_
  refine AZ.iconst (pc := 440) (v := nI 2) dL_law_440 (by decide) ?_
  refine AZ.iaddN (pc := 441) (c := 5 * c + 2) dL_law_441 rfl ?_
  refine AZ.sld (pc := 442) (i := 5 * c + 2) (by omega) hL0 dL_law_442 ?_
  rw [← ex2]
  refine AZ.callV (pc := 443) (M2 := M_X12_darts) (As := [.int x1, .int x2]) (rest := [_]) (c_mDarts w h1 M1 Lv x1 x2) ⟨xc_L_law__X12_darts.1, xc_L_law__X12_darts.2.1, xc_L_law__X12_darts.2.2.1, Nat.le_of_ble_eq_true rfl, Nat.le_of_ble_eq_true rfl⟩ gL_law_X12_darts (ci := 11) rfl (lt_k n1 (by omega)) O1 rfl (Nat.le_of_ble_eq_true rfl) dL_law_443 ?_
  rintro _ h2 ⟨rfl, s2, M2⟩
  have C2 := C1.far s2 s2.md
  have n2 := s2.le n1
  show AZ (ZL w L0 xs) w M_L_law 118 19112 446 [.retAddr 0, .ref 0, .ref 87, .int (nI (5 * c))] (_ :: _ :: []) _ _
  refine AZ.lcmp (pc := 446) dL_law_446 ?_
  refine AZ.if_eq (pc := 447) (tgt := 1377) dL_law_447 (by decide) (fun _ => ?_) (fun q => absurd (lg_same _) q)
  exact kk h2 ⟨n2, s, o, a, b, C2, M2, Lv.more (by omega), Tr, fun q => (Im q).imp fun _ z => z.imp fun _ z => z.imp fun _ z => z.more (by omega)⟩
theorem l_case7 (w : XW) {L0 : Nat} {xs : Nat → Int32} (hL0 : L0 ≤ 2560) (P : Option Value → XH → Prop) {c : Nat} {h : XH} (hi : INV c h) (hc : 5 * c + 5 ≤ L0) (kk : ∀ h', INV (c + 1) h' → AZ (ZL w L0 xs) w M_L_law 118 19112 1377 [.retAddr 0, .ref 0, .ref 87, .int (nI (5 * c))] [] h' P) : AZ (ZL w L0 xs) w M_L_law 118 19112 452 [.retAddr 0, .ref 0, .ref 87, .int (nI (5 * c))] [] h P := by
  obtain ⟨hn, s, o, a, b, C, M0, Lv, Tr, Im⟩ := hi
  obtain ⟨x1, ex1⟩ : ∃ z, z = xs (5 * c + 1) := ⟨_, rfl⟩
  obtain ⟨x2, ex2⟩ : ∃ z, z = xs (5 * c + 2) := ⟨_, rfl⟩
  refine AZ.aload_n (pc := 452) dL_law_452 rfl ?_
  refine AZ.sload (pc := 453) dL_law_453 rfl ?_
  refine AZ.iload_n (pc := 454) dL_law_454 rfl ?_
  refine AZ.iconst (pc := 455) (v := nI 1) dL_law_455 (by decide) ?_
  refine AZ.iaddN (pc := 456) (c := 5 * c + 1) dL_law_456 rfl ?_
  refine AZ.sld (pc := 457) (i := 5 * c + 1) (by omega) hL0 dL_law_457 ?_
  rw [← ex1]
  refine AZ.sload (pc := 458) dL_law_458 rfl ?_
  refine AZ.iload_n (pc := 459) dL_law_459 rfl ?_
  refine AZ.iconst (pc := 460) (v := nI 2) dL_law_460 (by decide) ?_
  refine AZ.iaddN (pc := 461) (c := 5 * c + 2) dL_law_461 rfl ?_
  refine AZ.sld (pc := 462) (i := 5 * c + 2) (by omega) hL0 dL_law_462 ?_
  rw [← ex2]
  refine AZ.callV (pc := 463) (M2 := M_X11_dartsCut) (As := [.int x1, .int x2]) (rest := []) (c_dartsCut w h C x1 x2) ⟨xc_L_law__X11_dartsCut.1, xc_L_law__X11_dartsCut.2.1, xc_L_law__X11_dartsCut.2.2.1, Nat.le_of_ble_eq_true rfl, Nat.le_of_ble_eq_true rfl⟩ gL_law_X11_dartsCut (ci := 10) rfl (lt_k hn (by omega)) C.dm rfl (Nat.le_of_ble_eq_true rfl) dL_law_463 ?_
  rintro _ h1 ⟨rfl, s1, C1⟩
  have M1 : MS h1 s := M0.far s1 s1.cl
  have n1 := s1.le hn
  obtain ⟨vv1, O1, -⟩ := id M1.ob
  show AZ (ZL w L0 xs) w M_L_law 118 19112 466 [.retAddr 0, .ref 0, .ref 87, .int (nI (5 * c))] (_ :: []) _ _
  refine AZ.aload_n (pc := 466) dL_law_466 rfl ?_
  refine AZ.sload (pc := 467) dL_law_467 rfl ?_
  refine AZ.iload_n (pc := 468) dL_law_468 rfl ?_
  refine AZ.iconst (pc := 469) (v := nI 1) dL_law_469 (by decide) ?_
  refine AZ.iaddN (pc := 470) (c := 5 * c + 1) dL_law_470 rfl ?_
  refine AZ.sld (pc := 471) (i := 5 * c + 1) (by omega) hL0 dL_law_471 ?_
  rw [← ex1]
  refine AZ.sload (pc := 472) dL_law_472 rfl ?_
  refine AZ.iload_n (pc := 473) dL_law_473 rfl ?_
  refine AZ.iconst (pc := 474) (v := nI 2) dL_law_474 (by decide) ?_
  refine AZ.iaddN (pc := 475) (c := 5 * c + 2) dL_law_475 rfl ?_
  refine AZ.sld (pc := 476) (i := 5 * c + 2) (by omega) hL0 dL_law_476 ?_
  rw [← ex2]
  refine AZ.callV (pc := 477) (M2 := M_X12_dartsCut) (As := [.int x1, .int x2]) (rest := [_]) (c_mCut w h1 M1 Lv x1 x2) ⟨xc_L_law__X12_dartsCut.1, xc_L_law__X12_dartsCut.2.1, xc_L_law__X12_dartsCut.2.2.1, Nat.le_of_ble_eq_true rfl, Nat.le_of_ble_eq_true rfl⟩ gL_law_X12_dartsCut (ci := 11) rfl (lt_k n1 (by omega)) O1 rfl (Nat.le_of_ble_eq_true rfl) dL_law_477 ?_
  rintro _ h2 ⟨rfl, s2, M2⟩
  have C2 := C1.far s2 s2.md
  have n2 := s2.le n1
  show AZ (ZL w L0 xs) w M_L_law 118 19112 480 [.retAddr 0, .ref 0, .ref 87, .int (nI (5 * c))] (_ :: _ :: []) _ _
  refine AZ.icmp_eq (pc := 480) (tgt := 1377) dL_law_480 (by decide) (fun _ => ?_) (fun q => absurd rfl q)
  exact kk h2 ⟨n2, s, o, a, b, C2, M2, Lv.more (by omega), Tr, fun q => (Im q).imp fun _ z => z.imp fun _ z => z.imp fun _ z => z.more (by omega)⟩
theorem l_case8 (w : XW) {L0 : Nat} {xs : Nat → Int32} (hL0 : L0 ≤ 2560) (P : Option Value → XH → Prop) {c : Nat} {h : XH} (hi : INV c h) (hc : 5 * c + 5 ≤ L0) (kk : ∀ h', INV (c + 1) h' → AZ (ZL w L0 xs) w M_L_law 118 19112 1377 [.retAddr 0, .ref 0, .ref 87, .int (nI (5 * c))] [] h' P) : AZ (ZL w L0 xs) w M_L_law 118 19112 485 [.retAddr 0, .ref 0, .ref 87, .int (nI (5 * c))] [] h P := by
  obtain ⟨hn, s, o, a, b, C, M0, Lv, Tr, Im⟩ := hi
  obtain ⟨x1, ex1⟩ : ∃ z, z = xs (5 * c + 1) := ⟨_, rfl⟩
  obtain ⟨x2, ex2⟩ : ∃ z, z = xs (5 * c + 2) := ⟨_, rfl⟩
  refine AZ.aload_n (pc := 485) dL_law_485 rfl ?_
  refine AZ.sload (pc := 486) dL_law_486 rfl ?_
  refine AZ.iload_n (pc := 487) dL_law_487 rfl ?_
  refine AZ.iconst (pc := 488) (v := nI 1) dL_law_488 (by decide) ?_
  refine AZ.iaddN (pc := 489) (c := 5 * c + 1) dL_law_489 rfl ?_
  refine AZ.sld (pc := 490) (i := 5 * c + 1) (by omega) hL0 dL_law_490 ?_
  rw [← ex1]
  refine AZ.sload (pc := 491) dL_law_491 rfl ?_
  refine AZ.iload_n (pc := 492) dL_law_492 rfl ?_
  refine AZ.iconst (pc := 493) (v := nI 2) dL_law_493 (by decide) ?_
  refine AZ.iaddN (pc := 494) (c := 5 * c + 2) dL_law_494 rfl ?_
  refine AZ.sld (pc := 495) (i := 5 * c + 2) (by omega) hL0 dL_law_495 ?_
  rw [← ex2]
  refine AZ.callV (pc := 496) (M2 := M_X11_thousandths) (As := [.int x1, .int x2]) (rest := []) (c_thousandths w h C x1 x2) ⟨xc_L_law__X11_thousandths.1, xc_L_law__X11_thousandths.2.1, xc_L_law__X11_thousandths.2.2.1, Nat.le_of_ble_eq_true rfl, Nat.le_of_ble_eq_true rfl⟩ gL_law_X11_thousandths (ci := 10) rfl (lt_k hn (by omega)) C.dm rfl (Nat.le_of_ble_eq_true rfl) dL_law_496 ?_
  rintro _ h1 ⟨rfl, s1, C1⟩
  have M1 : MS h1 s := M0.far s1 s1.cl
  have n1 := s1.le hn
  obtain ⟨vv1, O1, -⟩ := id M1.ob
  show AZ (ZL w L0 xs) w M_L_law 118 19112 499 [.retAddr 0, .ref 0, .ref 87, .int (nI (5 * c))] (_ :: []) _ _
  refine AZ.aload_n (pc := 499) dL_law_499 rfl ?_
  refine AZ.sload (pc := 500) dL_law_500 rfl ?_
  refine AZ.iload_n (pc := 501) dL_law_501 rfl ?_
  refine AZ.iconst (pc := 502) (v := nI 1) dL_law_502 (by decide) ?_
  refine AZ.iaddN (pc := 503) (c := 5 * c + 1) dL_law_503 rfl ?_
  refine AZ.sld (pc := 504) (i := 5 * c + 1) (by omega) hL0 dL_law_504 ?_
  rw [← ex1]
  refine AZ.sload (pc := 505) dL_law_505 rfl ?_
  refine AZ.iload_n (pc := 506) dL_law_506 rfl ?_
  refine AZ.iconst (pc := 507) (v := nI 2) dL_law_507 (by decide) ?_
  refine AZ.iaddN (pc := 508) (c := 5 * c + 2) dL_law_508 rfl ?_
  refine AZ.sld (pc := 509) (i := 5 * c + 2) (by omega) hL0 dL_law_509 ?_
  rw [← ex2]
  refine AZ.callV (pc := 510) (M2 := M_X12_thousandths) (As := [.int x1, .int x2]) (rest := [_]) (c_mThou w h1 M1 Lv x1 x2) ⟨xc_L_law__X12_thousandths.1, xc_L_law__X12_thousandths.2.1, xc_L_law__X12_thousandths.2.2.1, Nat.le_of_ble_eq_true rfl, Nat.le_of_ble_eq_true rfl⟩ gL_law_X12_thousandths (ci := 11) rfl (lt_k n1 (by omega)) O1 rfl (Nat.le_of_ble_eq_true rfl) dL_law_510 ?_
  rintro _ h2 ⟨rfl, s2, M2⟩
  have C2 := C1.far s2 s2.md
  have n2 := s2.le n1
  show AZ (ZL w L0 xs) w M_L_law 118 19112 513 [.retAddr 0, .ref 0, .ref 87, .int (nI (5 * c))] (_ :: _ :: []) _ _
  refine AZ.icmp_eq (pc := 513) (tgt := 1377) dL_law_513 (by decide) (fun _ => ?_) (fun q => absurd rfl q)
  exact kk h2 ⟨n2, s, o, a, b, C2, M2, Lv.more (by omega), Tr, fun q => (Im q).imp fun _ z => z.imp fun _ z => z.imp fun _ z => z.more (by omega)⟩
theorem l_case9 (w : XW) {L0 : Nat} {xs : Nat → Int32} (hL0 : L0 ≤ 2560) (P : Option Value → XH → Prop) {c : Nat} {h : XH} (hi : INV c h) (hc : 5 * c + 5 ≤ L0) (kk : ∀ h', INV (c + 1) h' → AZ (ZL w L0 xs) w M_L_law 118 19112 1377 [.retAddr 0, .ref 0, .ref 87, .int (nI (5 * c))] [] h' P) : AZ (ZL w L0 xs) w M_L_law 118 19112 518 [.retAddr 0, .ref 0, .ref 87, .int (nI (5 * c))] [] h P := by
  obtain ⟨hn, s, o, a, b, C, M0, Lv, Tr, Im⟩ := hi
  obtain ⟨x1, ex1⟩ : ∃ z, z = xs (5 * c + 1) := ⟨_, rfl⟩
  obtain ⟨x2, ex2⟩ : ∃ z, z = xs (5 * c + 2) := ⟨_, rfl⟩
  refine AZ.aload_n (pc := 518) dL_law_518 rfl ?_
  refine AZ.sload (pc := 519) dL_law_519 rfl ?_
  refine AZ.iload_n (pc := 520) dL_law_520 rfl ?_
  refine AZ.iconst (pc := 521) (v := nI 1) dL_law_521 (by decide) ?_
  refine AZ.iaddN (pc := 522) (c := 5 * c + 1) dL_law_522 rfl ?_
  refine AZ.sld (pc := 523) (i := 5 * c + 1) (by omega) hL0 dL_law_523 ?_
  rw [← ex1]
  refine AZ.sload (pc := 524) dL_law_524 rfl ?_
  refine AZ.iload_n (pc := 525) dL_law_525 rfl ?_
  refine AZ.iconst (pc := 526) (v := nI 2) dL_law_526 (by decide) ?_
  refine AZ.iaddN (pc := 527) (c := 5 * c + 2) dL_law_527 rfl ?_
  refine AZ.sld (pc := 528) (i := 5 * c + 2) (by omega) hL0 dL_law_528 ?_
  rw [← ex2]
  refine AZ.callV (pc := 529) (M2 := M_X11_aim) (As := [.int x1, .int x2]) (rest := []) (c_aim w h C x1 x2) ⟨xc_L_law__X11_aim.1, xc_L_law__X11_aim.2.1, xc_L_law__X11_aim.2.2.1, Nat.le_of_ble_eq_true rfl, Nat.le_of_ble_eq_true rfl⟩ gL_law_X11_aim (ci := 10) rfl (lt_k hn (by omega)) C.dm rfl (Nat.le_of_ble_eq_true rfl) dL_law_529 ?_
  rintro _ h1 ⟨rfl, s1, C1⟩
  have M1 : MS h1 s := M0.far s1 s1.cl
  have n1 := s1.le hn
  obtain ⟨vv1, O1, -⟩ := id M1.ob
  show AZ (ZL w L0 xs) w M_L_law 118 19112 532 [.retAddr 0, .ref 0, .ref 87, .int (nI (5 * c))] (_ :: []) _ _
  refine AZ.aload_n (pc := 532) dL_law_532 rfl ?_
  refine AZ.sload (pc := 533) dL_law_533 rfl ?_
  refine AZ.iload_n (pc := 534) dL_law_534 rfl ?_
  refine AZ.iconst (pc := 535) (v := nI 1) dL_law_535 (by decide) ?_
  refine AZ.iaddN (pc := 536) (c := 5 * c + 1) dL_law_536 rfl ?_
  refine AZ.sld (pc := 537) (i := 5 * c + 1) (by omega) hL0 dL_law_537 ?_
  rw [← ex1]
  refine AZ.sload (pc := 538) dL_law_538 rfl ?_
  refine AZ.iload_n (pc := 539) dL_law_539 rfl ?_
  refine AZ.iconst (pc := 540) (v := nI 2) dL_law_540 (by decide) ?_
  refine AZ.iaddN (pc := 541) (c := 5 * c + 2) dL_law_541 rfl ?_
  refine AZ.sld (pc := 542) (i := 5 * c + 2) (by omega) hL0 dL_law_542 ?_
  rw [← ex2]
  refine AZ.callV (pc := 543) (M2 := M_X12_aim) (As := [.int x1, .int x2]) (rest := [_]) (c_mAim w h1 M1 Lv x1 x2) ⟨xc_L_law__X12_aim.1, xc_L_law__X12_aim.2.1, xc_L_law__X12_aim.2.2.1, Nat.le_of_ble_eq_true rfl, Nat.le_of_ble_eq_true rfl⟩ gL_law_X12_aim (ci := 11) rfl (lt_k n1 (by omega)) O1 rfl (Nat.le_of_ble_eq_true rfl) dL_law_543 ?_
  rintro _ h2 ⟨rfl, s2, M2⟩
  have C2 := C1.far s2 s2.md
  have n2 := s2.le n1
  show AZ (ZL w L0 xs) w M_L_law 118 19112 546 [.retAddr 0, .ref 0, .ref 87, .int (nI (5 * c))] (_ :: _ :: []) _ _
  refine AZ.icmp_eq (pc := 546) (tgt := 1377) dL_law_546 (by decide) (fun _ => ?_) (fun q => absurd rfl q)
  exact kk h2 ⟨n2, s, o, a, b, C2, M2, Lv.more (by omega), Tr, fun q => (Im q).imp fun _ z => z.imp fun _ z => z.imp fun _ z => z.more (by omega)⟩
