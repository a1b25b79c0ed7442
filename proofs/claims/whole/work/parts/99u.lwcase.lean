/-! the law's cases -/
set_option maxRecDepth 100000 in
set_option maxHeartbeats 2000000 in
theorem lc_0 {p : Program} {l : Launch} {e : Env} {s : State} {m : MethodId} {args : Array Value} {below : List Frame} {meth : Method} {c : Code} {H : Heap} {locs : List Loc} {cells slots : Nat} {Q : State → Prop} {ls : Array Slot} {g : gE} {b0 bs L : Nat} {f : gF} {xs : Nat → Int32} {i v cd : Int} (C : LWC p l s m args c g b0 bs L xs) (hM : gH g b0 622 f s.heap H locs) (hI : lwI g b0 v cd f) (hv0 : 0 ≤ v) (hv1 : v ≤ 20000000) (hi : 0 ≤ i ∧ i + 5 ≤ L) (hl : lv_has ls 9 (lwL bs b0 i)) (hcs : cells + 3 ≤ 603072 ∧ slots + 18 ≤ 7186538) (kk : ∀ (f1 : gF) (H1 : Heap) (locs1 : List Loc) (ls1 : Array Slot) (cd1 : Int), gH g b0 622 f1 s.heap H1 locs1 → lwI g b0 (v + 33542) cd1 f1 → lv_has ls1 9 (lwL bs b0 i) → W p l e room_1 s m args below meth c H1 locs1 (cells + 3) (slots + 18) Q (F0 m 2508 ls1 [])) : W p l e room_1 s m args below meth c H locs cells slots Q (F0 m 212 ls []) := by
  obtain ⟨hx, hb, hml, hown, hts, hK, hE, hX, hbs, hbb, hl9, hL⟩ := id C
  refine lv_aload_n hx hb dL_law_212 rfl (lv_at hl 4 rfl) ?_
  refine lr_arg (j := 1) C hM (lv_at hl 5 rfl) (lv_at hl 0 rfl) (by omega) (by omega) dL_law_213 dL_law_214 dL_law_216 dL_law_217 dL_law_218 ?_
  refine lr_arg (j := 2) C hM (lv_at hl 5 rfl) (lv_at hl 0 rfl) (by omega) (by omega) dL_law_219 dL_law_220 dL_law_222 dL_law_223 dL_law_224 ?_
  refine lv_aload_n hx hb dL_law_225 rfl (lv_at hl 2 rfl) ?_
  obtain ⟨postH, hH, hn⟩ := j_addEnvelope l g b0 f v cd ((xs (i + 1).toNat).toInt) (rI_self _) ((xs (i + 2).toNat).toInt) (rI_self _) hl9 hv0 hv1 hI
  refine gh_callS (As := .ref b0 :: ([.int (zI ((xs (i + 1).toNat).toInt)), .int (zI ((xs (i + 2).toNat).toInt))] ++ [.ref (b0 + 620)])) (rest := []) ⟨hx, hb, hml, hown, hts⟩ hK hM hE hH (cuH (n := 4) hts uw_addEnvelope u_589 u_0 (by decide) u_590 ⟨Nat.le_of_ble_eq_true rfl, Nat.le_of_ble_eq_true rfl⟩) rfl hl.1 rfl (Nat.le_of_ble_eq_true rfl) dL_law_226 ⟨rm_c (by omega), rm_s (by omega)⟩ (fun k f1 H locs hM hk => ?_)
  obtain ⟨⟨fs, hfs⟩, postM, hMo, hn⟩ := hn k f1 hk
  refine lv_istore (lv' := (6, .int k) :: lwL bs b0 i) hx hb dL_law_229 hl (by decide) rfl (fun ls hl => ?_)
  refine lv_aload_n hx hb dL_law_231 rfl (lv_at hl 4 rfl) ?_
  refine lr_arg (j := 1) C hM (lv_at hl 6 rfl) (lv_at hl 1 rfl) (by omega) (by omega) dL_law_232 dL_law_233 dL_law_235 dL_law_236 dL_law_237 ?_
  refine lr_arg (j := 2) C hM (lv_at hl 6 rfl) (lv_at hl 1 rfl) (by omega) (by omega) dL_law_238 dL_law_239 dL_law_241 dL_law_242 dL_law_243 ?_
  refine g_callVi (ci := 11) (C := RX9) (T := TX9) (N := 24) (As := [.int (zI ((xs (i + 1).toNat).toInt)), .int (zI ((xs (i + 2).toNat).toInt))]) (rest := []) ⟨hx, hb, hml, hown, hts⟩ hK hM hMo (cuV (n := 2) hts u_1221 u_1218 u_10 (by decide) u_1219 u_1220 ⟨Nat.le_of_ble_eq_true rfl, Nat.le_of_ble_eq_true rfl⟩) ⟨by omega, by omega⟩ hfs rfl rfl hl.1 rfl (Nat.le_of_ble_eq_true rfl) dL_law_244 ⟨rm_c (by omega), rm_s (by omega)⟩ (fun r f2 H locs hM hr => ?_)
  refine lv_istore (lv' := (7, .int r) :: (6, .int k) :: lwL bs b0 i) hx hb dL_law_247 hl (by decide) rfl (fun ls hl => ?_)
  obtain ⟨cd1, hcd, rfl, hI1, hv⟩ := hn r f2 hr
  refine lr_tell C hM hI1 hcd hl.1 (lv_at hl 5 rfl) (lv_at hl 1 rfl) ⟨by omega, by omega⟩ dL_law_249 dL_law_250 dL_law_253 dL_law_255 (fun H locs hM => ?_)
  exact lr_valI (tgt := 2508) C hM hcd hv (lv_at hl 4 rfl) (lv_at hl 1 rfl) (lv_at hl 0 rfl) dL_law_260 dL_law_262 dL_law_265 dL_law_266 dL_law_267 dL_law_268 dL_law_270 dL_law_271 dL_law_272 dL_law_277 (by decide) (W.widen (k := cells + 3) (n := slots + 18) (by omega) (by omega) (kk f2 H locs ls cd1 hM hI1 (lv_sub hl [2, 3, 4, 5, 6, 7] rfl)))
set_option maxRecDepth 100000 in
set_option maxHeartbeats 2000000 in
theorem lc_1 {p : Program} {l : Launch} {e : Env} {s : State} {m : MethodId} {args : Array Value} {below : List Frame} {meth : Method} {c : Code} {H : Heap} {locs : List Loc} {cells slots : Nat} {Q : State → Prop} {ls : Array Slot} {g : gE} {b0 bs L : Nat} {f : gF} {xs : Nat → Int32} {i v cd : Int} (C : LWC p l s m args c g b0 bs L xs) (hM : gH g b0 622 f s.heap H locs) (hI : lwI g b0 v cd f) (hv0 : 0 ≤ v) (hv1 : v ≤ 20000000) (hi : 0 ≤ i ∧ i + 5 ≤ L) (hl : lv_has ls 9 (lwL bs b0 i)) (hcs : cells + 3 ≤ 603072 ∧ slots + 18 ≤ 7186538) (kk : ∀ (f1 : gF) (H1 : Heap) (locs1 : List Loc) (ls1 : Array Slot) (cd1 : Int), gH g b0 622 f1 s.heap H1 locs1 → lwI g b0 (v + 33542) cd1 f1 → lv_has ls1 9 (lwL bs b0 i) → W p l e room_1 s m args below meth c H1 locs1 (cells + 3) (slots + 18) Q (F0 m 2508 ls1 [])) : W p l e room_1 s m args below meth c H locs cells slots Q (F0 m 280 ls []) := by
  obtain ⟨hx, hb, hml, hown, hts, hK, hE, hX, hbs, hbb, hl9, hL⟩ := id C
  refine lv_aload_n hx hb dL_law_280 rfl (lv_at hl 4 rfl) ?_
  refine lr_arg (j := 1) C hM (lv_at hl 5 rfl) (lv_at hl 0 rfl) (by omega) (by omega) dL_law_281 dL_law_282 dL_law_284 dL_law_285 dL_law_286 ?_
  refine lr_arg (j := 2) C hM (lv_at hl 5 rfl) (lv_at hl 0 rfl) (by omega) (by omega) dL_law_287 dL_law_288 dL_law_290 dL_law_291 dL_law_292 ?_
  refine lv_aload_n hx hb dL_law_293 rfl (lv_at hl 2 rfl) ?_
  obtain ⟨postH, hH, hn⟩ := j_setCap l g b0 f v cd ((xs (i + 1).toNat).toInt) (rI_self _) ((xs (i + 2).toNat).toInt) (rI_self _) hl9 hv0 hv1 hI
  refine gh_callS (As := .ref b0 :: ([.int (zI ((xs (i + 1).toNat).toInt)), .int (zI ((xs (i + 2).toNat).toInt))] ++ [.ref (b0 + 620)])) (rest := []) ⟨hx, hb, hml, hown, hts⟩ hK hM hE hH (cuH (n := 4) hts uw_setCap u_707 u_0 (by decide) u_708 ⟨Nat.le_of_ble_eq_true rfl, Nat.le_of_ble_eq_true rfl⟩) rfl hl.1 rfl (Nat.le_of_ble_eq_true rfl) dL_law_294 ⟨rm_c (by omega), rm_s (by omega)⟩ (fun k f1 H locs hM hk => ?_)
  obtain ⟨⟨fs, hfs⟩, postM, hMo, hn⟩ := hn k f1 hk
  refine lv_istore (lv' := (6, .int k) :: lwL bs b0 i) hx hb dL_law_297 hl (by decide) rfl (fun ls hl => ?_)
  refine lv_aload_n hx hb dL_law_299 rfl (lv_at hl 4 rfl) ?_
  refine lr_arg (j := 1) C hM (lv_at hl 6 rfl) (lv_at hl 1 rfl) (by omega) (by omega) dL_law_300 dL_law_301 dL_law_303 dL_law_304 dL_law_305 ?_
  refine lr_arg (j := 2) C hM (lv_at hl 6 rfl) (lv_at hl 1 rfl) (by omega) (by omega) dL_law_306 dL_law_307 dL_law_309 dL_law_310 dL_law_311 ?_
  refine g_callVi (ci := 11) (C := RX9) (T := TX9) (N := 24) (As := [.int (zI ((xs (i + 1).toNat).toInt)), .int (zI ((xs (i + 2).toNat).toInt))]) (rest := []) ⟨hx, hb, hml, hown, hts⟩ hK hM hMo (cuV (n := 2) hts u_1356 u_1353 u_10 (by decide) u_1354 u_1355 ⟨Nat.le_of_ble_eq_true rfl, Nat.le_of_ble_eq_true rfl⟩) ⟨by omega, by omega⟩ hfs rfl rfl hl.1 rfl (Nat.le_of_ble_eq_true rfl) dL_law_312 ⟨rm_c (by omega), rm_s (by omega)⟩ (fun r f2 H locs hM hr => ?_)
  refine lv_istore (lv' := (7, .int r) :: (6, .int k) :: lwL bs b0 i) hx hb dL_law_315 hl (by decide) rfl (fun ls hl => ?_)
  obtain ⟨cd1, hcd, rfl, hI1, hv⟩ := hn r f2 hr
  refine lr_tell C hM hI1 hcd hl.1 (lv_at hl 5 rfl) (lv_at hl 1 rfl) ⟨by omega, by omega⟩ dL_law_317 dL_law_318 dL_law_321 dL_law_323 (fun H locs hM => ?_)
  exact lr_valI (tgt := 2508) C hM hcd hv (lv_at hl 4 rfl) (lv_at hl 1 rfl) (lv_at hl 0 rfl) dL_law_328 dL_law_330 dL_law_333 dL_law_334 dL_law_335 dL_law_336 dL_law_338 dL_law_339 dL_law_340 dL_law_345 (by decide) (W.widen (k := cells + 3) (n := slots + 18) (by omega) (by omega) (kk f2 H locs ls cd1 hM hI1 (lv_sub hl [2, 3, 4, 5, 6, 7] rfl)))
set_option maxRecDepth 100000 in
set_option maxHeartbeats 2000000 in
theorem lc_2 {p : Program} {l : Launch} {e : Env} {s : State} {m : MethodId} {args : Array Value} {below : List Frame} {meth : Method} {c : Code} {H : Heap} {locs : List Loc} {cells slots : Nat} {Q : State → Prop} {ls : Array Slot} {g : gE} {b0 bs L : Nat} {f : gF} {xs : Nat → Int32} {i v cd : Int} (C : LWC p l s m args c g b0 bs L xs) (hM : gH g b0 622 f s.heap H locs) (hI : lwI g b0 v cd f) (hv0 : 0 ≤ v) (hv1 : v ≤ 20000000) (hi : 0 ≤ i ∧ i + 5 ≤ L) (hl : lv_has ls 9 (lwL bs b0 i)) (hcs : cells + 3 ≤ 603072 ∧ slots + 18 ≤ 7186538) (kk : ∀ (f1 : gF) (H1 : Heap) (locs1 : List Loc) (ls1 : Array Slot) (cd1 : Int), gH g b0 622 f1 s.heap H1 locs1 → lwI g b0 (v + 33542) cd1 f1 → lv_has ls1 9 (lwL bs b0 i) → W p l e room_1 s m args below meth c H1 locs1 (cells + 3) (slots + 18) Q (F0 m 2508 ls1 [])) : W p l e room_1 s m args below meth c H locs cells slots Q (F0 m 348 ls []) := by
  obtain ⟨hx, hb, hml, hown, hts, hK, hE, hX, hbs, hbb, hl9, hL⟩ := id C
  refine lv_aload_n hx hb dL_law_348 rfl (lv_at hl 4 rfl) ?_
  refine lr_arg (j := 1) C hM (lv_at hl 5 rfl) (lv_at hl 0 rfl) (by omega) (by omega) dL_law_349 dL_law_350 dL_law_352 dL_law_353 dL_law_354 ?_
  refine lr_arg (j := 2) C hM (lv_at hl 5 rfl) (lv_at hl 0 rfl) (by omega) (by omega) dL_law_355 dL_law_356 dL_law_358 dL_law_359 dL_law_360 ?_
  refine lv_aload_n hx hb dL_law_361 rfl (lv_at hl 2 rfl) ?_
  obtain ⟨postH, hH, hn⟩ := j_setRollover l g b0 f v cd ((xs (i + 1).toNat).toInt) (rI_self _) ((xs (i + 2).toNat).toInt) (rI_self _) hl9 hv0 hv1 hI
  refine gh_callS (As := .ref b0 :: ([.int (zI ((xs (i + 1).toNat).toInt)), .int (zI ((xs (i + 2).toNat).toInt))] ++ [.ref (b0 + 620)])) (rest := []) ⟨hx, hb, hml, hown, hts⟩ hK hM hE hH (cuH (n := 4) hts uw_setRollover u_735 u_0 (by decide) u_736 ⟨Nat.le_of_ble_eq_true rfl, Nat.le_of_ble_eq_true rfl⟩) rfl hl.1 rfl (Nat.le_of_ble_eq_true rfl) dL_law_362 ⟨rm_c (by omega), rm_s (by omega)⟩ (fun k f1 H locs hM hk => ?_)
  obtain ⟨⟨fs, hfs⟩, postM, hMo, hn⟩ := hn k f1 hk
  refine lv_istore (lv' := (6, .int k) :: lwL bs b0 i) hx hb dL_law_365 hl (by decide) rfl (fun ls hl => ?_)
  refine lv_aload_n hx hb dL_law_367 rfl (lv_at hl 4 rfl) ?_
  refine lr_arg (j := 1) C hM (lv_at hl 6 rfl) (lv_at hl 1 rfl) (by omega) (by omega) dL_law_368 dL_law_369 dL_law_371 dL_law_372 dL_law_373 ?_
  refine lr_arg (j := 2) C hM (lv_at hl 6 rfl) (lv_at hl 1 rfl) (by omega) (by omega) dL_law_374 dL_law_375 dL_law_377 dL_law_378 dL_law_379 ?_
  refine g_callVi (ci := 11) (C := RX9) (T := TX9) (N := 24) (As := [.int (zI ((xs (i + 1).toNat).toInt)), .int (zI ((xs (i + 2).toNat).toInt))]) (rest := []) ⟨hx, hb, hml, hown, hts⟩ hK hM hMo (cuV (n := 2) hts u_1360 u_1357 u_10 (by decide) u_1358 u_1359 ⟨Nat.le_of_ble_eq_true rfl, Nat.le_of_ble_eq_true rfl⟩) ⟨by omega, by omega⟩ hfs rfl rfl hl.1 rfl (Nat.le_of_ble_eq_true rfl) dL_law_380 ⟨rm_c (by omega), rm_s (by omega)⟩ (fun r f2 H locs hM hr => ?_)
  refine lv_istore (lv' := (7, .int r) :: (6, .int k) :: lwL bs b0 i) hx hb dL_law_383 hl (by decide) rfl (fun ls hl => ?_)
  obtain ⟨cd1, hcd, rfl, hI1, hv⟩ := hn r f2 hr
  refine lr_tell C hM hI1 hcd hl.1 (lv_at hl 5 rfl) (lv_at hl 1 rfl) ⟨by omega, by omega⟩ dL_law_385 dL_law_386 dL_law_389 dL_law_391 (fun H locs hM => ?_)
  exact lr_valI (tgt := 2508) C hM hcd hv (lv_at hl 4 rfl) (lv_at hl 1 rfl) (lv_at hl 0 rfl) dL_law_396 dL_law_398 dL_law_401 dL_law_402 dL_law_403 dL_law_404 dL_law_406 dL_law_407 dL_law_408 dL_law_413 (by decide) (W.widen (k := cells + 3) (n := slots + 18) (by omega) (by omega) (kk f2 H locs ls cd1 hM hI1 (lv_sub hl [2, 3, 4, 5, 6, 7] rfl)))
set_option maxRecDepth 100000 in
set_option maxHeartbeats 2000000 in
theorem lc_3 {p : Program} {l : Launch} {e : Env} {s : State} {m : MethodId} {args : Array Value} {below : List Frame} {meth : Method} {c : Code} {H : Heap} {locs : List Loc} {cells slots : Nat} {Q : State → Prop} {ls : Array Slot} {g : gE} {b0 bs L : Nat} {f : gF} {xs : Nat → Int32} {i v cd : Int} (C : LWC p l s m args c g b0 bs L xs) (hM : gH g b0 622 f s.heap H locs) (hI : lwI g b0 v cd f) (hv0 : 0 ≤ v) (hv1 : v ≤ 20000000) (hi : 0 ≤ i ∧ i + 5 ≤ L) (hl : lv_has ls 9 (lwL bs b0 i)) (hcs : cells + 3 ≤ 603072 ∧ slots + 18 ≤ 7186538) (kk : ∀ (f1 : gF) (H1 : Heap) (locs1 : List Loc) (ls1 : Array Slot) (cd1 : Int), gH g b0 622 f1 s.heap H1 locs1 → lwI g b0 (v + 33542) cd1 f1 → lv_has ls1 9 (lwL bs b0 i) → W p l e room_1 s m args below meth c H1 locs1 (cells + 3) (slots + 18) Q (F0 m 2508 ls1 [])) : W p l e room_1 s m args below meth c H locs cells slots Q (F0 m 416 ls []) := by
  obtain ⟨hx, hb, hml, hown, hts, hK, hE, hX, hbs, hbb, hl9, hL⟩ := id C
  refine lv_aload_n hx hb dL_law_416 rfl (lv_at hl 4 rfl) ?_
  refine lr_arg (j := 1) C hM (lv_at hl 5 rfl) (lv_at hl 0 rfl) (by omega) (by omega) dL_law_417 dL_law_418 dL_law_420 dL_law_421 dL_law_422 ?_
  refine lr_arg (j := 2) C hM (lv_at hl 5 rfl) (lv_at hl 0 rfl) (by omega) (by omega) dL_law_423 dL_law_424 dL_law_426 dL_law_427 dL_law_428 ?_
  refine lr_arg (j := 3) C hM (lv_at hl 5 rfl) (lv_at hl 0 rfl) (by omega) (by omega) dL_law_429 dL_law_430 dL_law_432 dL_law_433 dL_law_434 ?_
  refine lv_aload_n hx hb dL_law_435 rfl (lv_at hl 2 rfl) ?_
  obtain ⟨postH, hH, hn⟩ := j_addRule l g b0 f v cd ((xs (i + 1).toNat).toInt) (rI_self _) ((xs (i + 2).toNat).toInt) (rI_self _) ((xs (i + 3).toNat).toInt) (rI_self _) hl9 hv0 hv1 hI
  refine gh_callS (As := .ref b0 :: ([.int (zI ((xs (i + 1).toNat).toInt)), .int (zI ((xs (i + 2).toNat).toInt)), .int (zI ((xs (i + 3).toNat).toInt))] ++ [.ref (b0 + 620)])) (rest := []) ⟨hx, hb, hml, hown, hts⟩ hK hM hE hH (cuH (n := 5) hts uw_addRule u_742 u_0 (by decide) u_743 ⟨Nat.le_of_ble_eq_true rfl, Nat.le_of_ble_eq_true rfl⟩) rfl hl.1 rfl (Nat.le_of_ble_eq_true rfl) dL_law_436 ⟨rm_c (by omega), rm_s (by omega)⟩ (fun k f1 H locs hM hk => ?_)
  obtain ⟨⟨fs, hfs⟩, postM, hMo, hn⟩ := hn k f1 hk
  refine lv_istore (lv' := (6, .int k) :: lwL bs b0 i) hx hb dL_law_439 hl (by decide) rfl (fun ls hl => ?_)
  refine lv_aload_n hx hb dL_law_441 rfl (lv_at hl 4 rfl) ?_
  refine lr_arg (j := 1) C hM (lv_at hl 6 rfl) (lv_at hl 1 rfl) (by omega) (by omega) dL_law_442 dL_law_443 dL_law_445 dL_law_446 dL_law_447 ?_
  refine lr_arg (j := 2) C hM (lv_at hl 6 rfl) (lv_at hl 1 rfl) (by omega) (by omega) dL_law_448 dL_law_449 dL_law_451 dL_law_452 dL_law_453 ?_
  refine lr_arg (j := 3) C hM (lv_at hl 6 rfl) (lv_at hl 1 rfl) (by omega) (by omega) dL_law_454 dL_law_455 dL_law_457 dL_law_458 dL_law_459 ?_
  refine g_callVi (ci := 11) (C := RX9) (T := TX9) (N := 24) (As := [.int (zI ((xs (i + 1).toNat).toInt)), .int (zI ((xs (i + 2).toNat).toInt)), .int (zI ((xs (i + 3).toNat).toInt))]) (rest := []) ⟨hx, hb, hml, hown, hts⟩ hK hM hMo (cuV (n := 3) hts u_1364 u_1361 u_10 (by decide) u_1362 u_1363 ⟨Nat.le_of_ble_eq_true rfl, Nat.le_of_ble_eq_true rfl⟩) ⟨by omega, by omega⟩ hfs rfl rfl hl.1 rfl (Nat.le_of_ble_eq_true rfl) dL_law_460 ⟨rm_c (by omega), rm_s (by omega)⟩ (fun r f2 H locs hM hr => ?_)
  refine lv_istore (lv' := (7, .int r) :: (6, .int k) :: lwL bs b0 i) hx hb dL_law_463 hl (by decide) rfl (fun ls hl => ?_)
  obtain ⟨cd1, hcd, rfl, hI1, hv⟩ := hn r f2 hr
  refine lr_tell C hM hI1 hcd hl.1 (lv_at hl 5 rfl) (lv_at hl 1 rfl) ⟨by omega, by omega⟩ dL_law_465 dL_law_466 dL_law_469 dL_law_471 (fun H locs hM => ?_)
  exact lr_valI (tgt := 2508) C hM hcd hv (lv_at hl 4 rfl) (lv_at hl 1 rfl) (lv_at hl 0 rfl) dL_law_476 dL_law_478 dL_law_481 dL_law_482 dL_law_483 dL_law_484 dL_law_486 dL_law_487 dL_law_488 dL_law_493 (by decide) (W.widen (k := cells + 3) (n := slots + 18) (by omega) (by omega) (kk f2 H locs ls cd1 hM hI1 (lv_sub hl [2, 3, 4, 5, 6, 7] rfl)))
set_option maxRecDepth 100000 in
set_option maxHeartbeats 2000000 in
theorem lc_4 {p : Program} {l : Launch} {e : Env} {s : State} {m : MethodId} {args : Array Value} {below : List Frame} {meth : Method} {c : Code} {H : Heap} {locs : List Loc} {cells slots : Nat} {Q : State → Prop} {ls : Array Slot} {g : gE} {b0 bs L : Nat} {f : gF} {xs : Nat → Int32} {i v cd : Int} (C : LWC p l s m args c g b0 bs L xs) (hM : gH g b0 622 f s.heap H locs) (hI : lwI g b0 v cd f) (hv0 : 0 ≤ v) (hv1 : v ≤ 20000000) (hi : 0 ≤ i ∧ i + 5 ≤ L) (hl : lv_has ls 9 (lwL bs b0 i)) (hcs : cells + 3 ≤ 603072 ∧ slots + 18 ≤ 7186538) (kk : ∀ (f1 : gF) (H1 : Heap) (locs1 : List Loc) (ls1 : Array Slot) (cd1 : Int), gH g b0 622 f1 s.heap H1 locs1 → lwI g b0 (v + 33542) cd1 f1 → lv_has ls1 9 (lwL bs b0 i) → W p l e room_1 s m args below meth c H1 locs1 (cells + 3) (slots + 18) Q (F0 m 2508 ls1 [])) : W p l e room_1 s m args below meth c H locs cells slots Q (F0 m 496 ls []) := by
  obtain ⟨hx, hb, hml, hown, hts, hK, hE, hX, hbs, hbb, hl9, hL⟩ := id C
  refine lv_aload_n hx hb dL_law_496 rfl (lv_at hl 4 rfl) ?_
  refine lr_arg (j := 1) C hM (lv_at hl 5 rfl) (lv_at hl 0 rfl) (by omega) (by omega) dL_law_497 dL_law_498 dL_law_500 dL_law_501 dL_law_502 ?_
  refine lv_aload_n hx hb dL_law_503 rfl (lv_at hl 2 rfl) ?_
  obtain ⟨postH, hH, hn⟩ := j_removeRule l g b0 f v cd ((xs (i + 1).toNat).toInt) (rI_self _) hl9 hv0 hv1 hI
  refine gh_callS (As := .ref b0 :: ([.int (zI ((xs (i + 1).toNat).toInt))] ++ [.ref (b0 + 620)])) (rest := []) ⟨hx, hb, hml, hown, hts⟩ hK hM hE hH (cuH (n := 3) hts uw_removeRule u_749 u_0 (by decide) u_750 ⟨Nat.le_of_ble_eq_true rfl, Nat.le_of_ble_eq_true rfl⟩) rfl hl.1 rfl (Nat.le_of_ble_eq_true rfl) dL_law_504 ⟨rm_c (by omega), rm_s (by omega)⟩ (fun k f1 H locs hM hk => ?_)
  obtain ⟨⟨fs, hfs⟩, postM, hMo, hn⟩ := hn k f1 hk
  refine lv_istore (lv' := (6, .int k) :: lwL bs b0 i) hx hb dL_law_507 hl (by decide) rfl (fun ls hl => ?_)
  refine lv_aload_n hx hb dL_law_509 rfl (lv_at hl 4 rfl) ?_
  refine lr_arg (j := 1) C hM (lv_at hl 6 rfl) (lv_at hl 1 rfl) (by omega) (by omega) dL_law_510 dL_law_511 dL_law_513 dL_law_514 dL_law_515 ?_
  refine g_callVi (ci := 11) (C := RX9) (T := TX9) (N := 24) (As := [.int (zI ((xs (i + 1).toNat).toInt))]) (rest := []) ⟨hx, hb, hml, hown, hts⟩ hK hM hMo (cuV (n := 1) hts u_1368 u_1365 u_10 (by decide) u_1366 u_1367 ⟨Nat.le_of_ble_eq_true rfl, Nat.le_of_ble_eq_true rfl⟩) ⟨by omega, by omega⟩ hfs rfl rfl hl.1 rfl (Nat.le_of_ble_eq_true rfl) dL_law_516 ⟨rm_c (by omega), rm_s (by omega)⟩ (fun r f2 H locs hM hr => ?_)
  refine lv_istore (lv' := (7, .int r) :: (6, .int k) :: lwL bs b0 i) hx hb dL_law_519 hl (by decide) rfl (fun ls hl => ?_)
  obtain ⟨cd1, hcd, rfl, hI1, hv⟩ := hn r f2 hr
  refine lr_tell C hM hI1 hcd hl.1 (lv_at hl 5 rfl) (lv_at hl 1 rfl) ⟨by omega, by omega⟩ dL_law_521 dL_law_522 dL_law_525 dL_law_527 (fun H locs hM => ?_)
  exact lr_valI (tgt := 2508) C hM hcd hv (lv_at hl 4 rfl) (lv_at hl 1 rfl) (lv_at hl 0 rfl) dL_law_532 dL_law_534 dL_law_537 dL_law_538 dL_law_539 dL_law_540 dL_law_542 dL_law_543 dL_law_544 dL_law_549 (by decide) (W.widen (k := cells + 3) (n := slots + 18) (by omega) (by omega) (kk f2 H locs ls cd1 hM hI1 (lv_sub hl [2, 3, 4, 5, 6, 7] rfl)))
set_option maxRecDepth 100000 in
set_option maxHeartbeats 2000000 in
theorem lc_5 {p : Program} {l : Launch} {e : Env} {s : State} {m : MethodId} {args : Array Value} {below : List Frame} {meth : Method} {c : Code} {H : Heap} {locs : List Loc} {cells slots : Nat} {Q : State → Prop} {ls : Array Slot} {g : gE} {b0 bs L : Nat} {f : gF} {xs : Nat → Int32} {i v cd : Int} (C : LWC p l s m args c g b0 bs L xs) (hM : gH g b0 622 f s.heap H locs) (hI : lwI g b0 v cd f) (hv0 : 0 ≤ v) (hv1 : v ≤ 20000000) (hi : 0 ≤ i ∧ i + 5 ≤ L) (hl : lv_has ls 9 (lwL bs b0 i)) (hcs : cells + 3 ≤ 603072 ∧ slots + 18 ≤ 7186538) (kk : ∀ (f1 : gF) (H1 : Heap) (locs1 : List Loc) (ls1 : Array Slot) (cd1 : Int), gH g b0 622 f1 s.heap H1 locs1 → lwI g b0 (v + 33542) cd1 f1 → lv_has ls1 9 (lwL bs b0 i) → W p l e room_1 s m args below meth c H1 locs1 (cells + 3) (slots + 18) Q (F0 m 2508 ls1 [])) : W p l e room_1 s m args below meth c H locs cells slots Q (F0 m 552 ls []) := by
  obtain ⟨hx, hb, hml, hown, hts, hK, hE, hX, hbs, hbb, hl9, hL⟩ := id C
  refine lv_aload_n hx hb dL_law_552 rfl (lv_at hl 4 rfl) ?_
  refine lr_arg (j := 1) C hM (lv_at hl 5 rfl) (lv_at hl 0 rfl) (by omega) (by omega) dL_law_553 dL_law_554 dL_law_556 dL_law_557 dL_law_558 ?_
  refine lr_arg (j := 2) C hM (lv_at hl 5 rfl) (lv_at hl 0 rfl) (by omega) (by omega) dL_law_559 dL_law_560 dL_law_562 dL_law_563 dL_law_564 ?_
  refine lr_arg (j := 3) C hM (lv_at hl 5 rfl) (lv_at hl 0 rfl) (by omega) (by omega) dL_law_565 dL_law_566 dL_law_568 dL_law_569 dL_law_570 ?_
  refine lr_arg (j := 4) C hM (lv_at hl 5 rfl) (lv_at hl 0 rfl) (by omega) (by omega) dL_law_571 dL_law_572 dL_law_574 dL_law_575 dL_law_576 ?_
  refine lv_aload_n hx hb dL_law_577 rfl (lv_at hl 2 rfl) ?_
  obtain ⟨postH, hH, hn⟩ := j_addLink l g b0 f v cd ((xs (i + 1).toNat).toInt) (rI_self _) ((xs (i + 2).toNat).toInt) (rI_self _) ((xs (i + 3).toNat).toInt) (rI_self _) ((xs (i + 4).toNat).toInt) (rI_self _) hl9 hv0 hv1 hI
  refine gh_callS (As := .ref b0 :: ([.int (zI ((xs (i + 1).toNat).toInt)), .int (zI ((xs (i + 2).toNat).toInt)), .int (zI ((xs (i + 3).toNat).toInt)), .int (zI ((xs (i + 4).toNat).toInt))] ++ [.ref (b0 + 620)])) (rest := []) ⟨hx, hb, hml, hown, hts⟩ hK hM hE hH (cuH (n := 6) hts uw_addLink u_756 u_0 (by decide) u_757 ⟨Nat.le_of_ble_eq_true rfl, Nat.le_of_ble_eq_true rfl⟩) rfl hl.1 rfl (Nat.le_of_ble_eq_true rfl) dL_law_578 ⟨rm_c (by omega), rm_s (by omega)⟩ (fun k f1 H locs hM hk => ?_)
  obtain ⟨⟨fs, hfs⟩, postM, hMo, hn⟩ := hn k f1 hk
  refine lv_istore (lv' := (6, .int k) :: lwL bs b0 i) hx hb dL_law_581 hl (by decide) rfl (fun ls hl => ?_)
  refine lv_aload_n hx hb dL_law_583 rfl (lv_at hl 4 rfl) ?_
  refine lr_arg (j := 1) C hM (lv_at hl 6 rfl) (lv_at hl 1 rfl) (by omega) (by omega) dL_law_584 dL_law_585 dL_law_587 dL_law_588 dL_law_589 ?_
  refine lr_arg (j := 2) C hM (lv_at hl 6 rfl) (lv_at hl 1 rfl) (by omega) (by omega) dL_law_590 dL_law_591 dL_law_593 dL_law_594 dL_law_595 ?_
  refine lr_arg (j := 3) C hM (lv_at hl 6 rfl) (lv_at hl 1 rfl) (by omega) (by omega) dL_law_596 dL_law_597 dL_law_599 dL_law_600 dL_law_601 ?_
  refine lr_arg (j := 4) C hM (lv_at hl 6 rfl) (lv_at hl 1 rfl) (by omega) (by omega) dL_law_602 dL_law_603 dL_law_605 dL_law_606 dL_law_607 ?_
  refine g_callVi (ci := 11) (C := RX9) (T := TX9) (N := 24) (As := [.int (zI ((xs (i + 1).toNat).toInt)), .int (zI ((xs (i + 2).toNat).toInt)), .int (zI ((xs (i + 3).toNat).toInt)), .int (zI ((xs (i + 4).toNat).toInt))]) (rest := []) ⟨hx, hb, hml, hown, hts⟩ hK hM hMo (cuV (n := 4) hts u_1372 u_1369 u_10 (by decide) u_1370 u_1371 ⟨Nat.le_of_ble_eq_true rfl, Nat.le_of_ble_eq_true rfl⟩) ⟨by omega, by omega⟩ hfs rfl rfl hl.1 rfl (Nat.le_of_ble_eq_true rfl) dL_law_608 ⟨rm_c (by omega), rm_s (by omega)⟩ (fun r f2 H locs hM hr => ?_)
  refine lv_istore (lv' := (7, .int r) :: (6, .int k) :: lwL bs b0 i) hx hb dL_law_611 hl (by decide) rfl (fun ls hl => ?_)
  obtain ⟨cd1, hcd, rfl, hI1, hv⟩ := hn r f2 hr
  refine lr_tell C hM hI1 hcd hl.1 (lv_at hl 5 rfl) (lv_at hl 1 rfl) ⟨by omega, by omega⟩ dL_law_613 dL_law_614 dL_law_617 dL_law_619 (fun H locs hM => ?_)
  exact lr_valI (tgt := 2508) C hM hcd hv (lv_at hl 4 rfl) (lv_at hl 1 rfl) (lv_at hl 0 rfl) dL_law_624 dL_law_626 dL_law_629 dL_law_630 dL_law_631 dL_law_632 dL_law_634 dL_law_635 dL_law_636 dL_law_641 (by decide) (W.widen (k := cells + 3) (n := slots + 18) (by omega) (by omega) (kk f2 H locs ls cd1 hM hI1 (lv_sub hl [2, 3, 4, 5, 6, 7] rfl)))
set_option maxRecDepth 100000 in
set_option maxHeartbeats 2000000 in
theorem lc_6 {p : Program} {l : Launch} {e : Env} {s : State} {m : MethodId} {args : Array Value} {below : List Frame} {meth : Method} {c : Code} {H : Heap} {locs : List Loc} {cells slots : Nat} {Q : State → Prop} {ls : Array Slot} {g : gE} {b0 bs L : Nat} {f : gF} {xs : Nat → Int32} {i v cd : Int} (C : LWC p l s m args c g b0 bs L xs) (hM : gH g b0 622 f s.heap H locs) (hI : lwI g b0 v cd f) (hv0 : 0 ≤ v) (hv1 : v ≤ 20000000) (hi : 0 ≤ i ∧ i + 5 ≤ L) (hl : lv_has ls 9 (lwL bs b0 i)) (hcs : cells + 3 ≤ 603072 ∧ slots + 18 ≤ 7186538) (kk : ∀ (f1 : gF) (H1 : Heap) (locs1 : List Loc) (ls1 : Array Slot) (cd1 : Int), gH g b0 622 f1 s.heap H1 locs1 → lwI g b0 (v + 33542) cd1 f1 → lv_has ls1 9 (lwL bs b0 i) → W p l e room_1 s m args below meth c H1 locs1 (cells + 3) (slots + 18) Q (F0 m 2508 ls1 [])) : W p l e room_1 s m args below meth c H locs cells slots Q (F0 m 644 ls []) := by
  obtain ⟨hx, hb, hml, hown, hts, hK, hE, hX, hbs, hbb, hl9, hL⟩ := id C
  refine lv_aload_n hx hb dL_law_644 rfl (lv_at hl 4 rfl) ?_
  refine lr_arg (j := 1) C hM (lv_at hl 5 rfl) (lv_at hl 0 rfl) (by omega) (by omega) dL_law_645 dL_law_646 dL_law_648 dL_law_649 dL_law_650 ?_
  refine lv_aload_n hx hb dL_law_651 rfl (lv_at hl 2 rfl) ?_
  obtain ⟨postH, hH, hn⟩ := j_removeLink l g b0 f v cd ((xs (i + 1).toNat).toInt) (rI_self _) hl9 hv0 hv1 hI
  refine gh_callS (As := .ref b0 :: ([.int (zI ((xs (i + 1).toNat).toInt))] ++ [.ref (b0 + 620)])) (rest := []) ⟨hx, hb, hml, hown, hts⟩ hK hM hE hH (cuH (n := 3) hts uw_removeLink u_763 u_0 (by decide) u_764 ⟨Nat.le_of_ble_eq_true rfl, Nat.le_of_ble_eq_true rfl⟩) rfl hl.1 rfl (Nat.le_of_ble_eq_true rfl) dL_law_652 ⟨rm_c (by omega), rm_s (by omega)⟩ (fun k f1 H locs hM hk => ?_)
  obtain ⟨⟨fs, hfs⟩, postM, hMo, hn⟩ := hn k f1 hk
  refine lv_istore (lv' := (6, .int k) :: lwL bs b0 i) hx hb dL_law_655 hl (by decide) rfl (fun ls hl => ?_)
  refine lv_aload_n hx hb dL_law_657 rfl (lv_at hl 4 rfl) ?_
  refine lr_arg (j := 1) C hM (lv_at hl 6 rfl) (lv_at hl 1 rfl) (by omega) (by omega) dL_law_658 dL_law_659 dL_law_661 dL_law_662 dL_law_663 ?_
  refine g_callVi (ci := 11) (C := RX9) (T := TX9) (N := 24) (As := [.int (zI ((xs (i + 1).toNat).toInt))]) (rest := []) ⟨hx, hb, hml, hown, hts⟩ hK hM hMo (cuV (n := 1) hts u_1376 u_1373 u_10 (by decide) u_1374 u_1375 ⟨Nat.le_of_ble_eq_true rfl, Nat.le_of_ble_eq_true rfl⟩) ⟨by omega, by omega⟩ hfs rfl rfl hl.1 rfl (Nat.le_of_ble_eq_true rfl) dL_law_664 ⟨rm_c (by omega), rm_s (by omega)⟩ (fun r f2 H locs hM hr => ?_)
  refine lv_istore (lv' := (7, .int r) :: (6, .int k) :: lwL bs b0 i) hx hb dL_law_667 hl (by decide) rfl (fun ls hl => ?_)
  obtain ⟨cd1, hcd, rfl, hI1, hv⟩ := hn r f2 hr
  refine lr_tell C hM hI1 hcd hl.1 (lv_at hl 5 rfl) (lv_at hl 1 rfl) ⟨by omega, by omega⟩ dL_law_669 dL_law_670 dL_law_673 dL_law_675 (fun H locs hM => ?_)
  exact lr_valI (tgt := 2508) C hM hcd hv (lv_at hl 4 rfl) (lv_at hl 1 rfl) (lv_at hl 0 rfl) dL_law_680 dL_law_682 dL_law_685 dL_law_686 dL_law_687 dL_law_688 dL_law_690 dL_law_691 dL_law_692 dL_law_697 (by decide) (W.widen (k := cells + 3) (n := slots + 18) (by omega) (by omega) (kk f2 H locs ls cd1 hM hI1 (lv_sub hl [2, 3, 4, 5, 6, 7] rfl)))
set_option maxRecDepth 100000 in
set_option maxHeartbeats 2000000 in
theorem lc_7 {p : Program} {l : Launch} {e : Env} {s : State} {m : MethodId} {args : Array Value} {below : List Frame} {meth : Method} {c : Code} {H : Heap} {locs : List Loc} {cells slots : Nat} {Q : State → Prop} {ls : Array Slot} {g : gE} {b0 bs L : Nat} {f : gF} {xs : Nat → Int32} {i v cd : Int} (C : LWC p l s m args c g b0 bs L xs) (hM : gH g b0 622 f s.heap H locs) (hI : lwI g b0 v cd f) (hv0 : 0 ≤ v) (hv1 : v ≤ 20000000) (hi : 0 ≤ i ∧ i + 5 ≤ L) (hl : lv_has ls 9 (lwL bs b0 i)) (hcs : cells + 3 ≤ 603072 ∧ slots + 18 ≤ 7186538) (kk : ∀ (f1 : gF) (H1 : Heap) (locs1 : List Loc) (ls1 : Array Slot) (cd1 : Int), gH g b0 622 f1 s.heap H1 locs1 → lwI g b0 (v + 33542) cd1 f1 → lv_has ls1 9 (lwL bs b0 i) → W p l e room_1 s m args below meth c H1 locs1 (cells + 3) (slots + 18) Q (F0 m 2508 ls1 [])) : W p l e room_1 s m args below meth c H locs cells slots Q (F0 m 700 ls []) := by
  obtain ⟨hx, hb, hml, hown, hts, hK, hE, hX, hbs, hbb, hl9, hL⟩ := id C
  refine lv_aload_n hx hb dL_law_700 rfl (lv_at hl 4 rfl) ?_
  refine lr_arg (j := 1) C hM (lv_at hl 5 rfl) (lv_at hl 0 rfl) (by omega) (by omega) dL_law_701 dL_law_702 dL_law_704 dL_law_705 dL_law_706 ?_
  refine lr_arg (j := 2) C hM (lv_at hl 5 rfl) (lv_at hl 0 rfl) (by omega) (by omega) dL_law_707 dL_law_708 dL_law_710 dL_law_711 dL_law_712 ?_
  refine lr_arg (j := 3) C hM (lv_at hl 5 rfl) (lv_at hl 0 rfl) (by omega) (by omega) dL_law_713 dL_law_714 dL_law_716 dL_law_717 dL_law_718 ?_
  refine lr_arg (j := 4) C hM (lv_at hl 5 rfl) (lv_at hl 0 rfl) (by omega) (by omega) dL_law_719 dL_law_720 dL_law_722 dL_law_723 dL_law_724 ?_
  refine lv_aload_n hx hb dL_law_725 rfl (lv_at hl 2 rfl) ?_
  obtain ⟨postH, hH, hn⟩ := j_addItem l g b0 f v cd ((xs (i + 1).toNat).toInt) (rI_self _) ((xs (i + 2).toNat).toInt) (rI_self _) ((xs (i + 3).toNat).toInt) (rI_self _) ((xs (i + 4).toNat).toInt) (rI_self _) hl9 hv0 hv1 hI
  refine gh_callS (As := .ref b0 :: ([.int (zI ((xs (i + 1).toNat).toInt)), .int (zI ((xs (i + 2).toNat).toInt)), .int (zI ((xs (i + 3).toNat).toInt)), .int (zI ((xs (i + 4).toNat).toInt))] ++ [.ref (b0 + 620)])) (rest := []) ⟨hx, hb, hml, hown, hts⟩ hK hM hE hH (cuH (n := 6) hts uw_addItem u_770 u_0 (by decide) u_771 ⟨Nat.le_of_ble_eq_true rfl, Nat.le_of_ble_eq_true rfl⟩) rfl hl.1 rfl (Nat.le_of_ble_eq_true rfl) dL_law_726 ⟨rm_c (by omega), rm_s (by omega)⟩ (fun k f1 H locs hM hk => ?_)
  obtain ⟨⟨fs, hfs⟩, postM, hMo, hn⟩ := hn k f1 hk
  refine lv_istore (lv' := (6, .int k) :: lwL bs b0 i) hx hb dL_law_729 hl (by decide) rfl (fun ls hl => ?_)
  refine lv_aload_n hx hb dL_law_731 rfl (lv_at hl 4 rfl) ?_
  refine lr_arg (j := 1) C hM (lv_at hl 6 rfl) (lv_at hl 1 rfl) (by omega) (by omega) dL_law_732 dL_law_733 dL_law_735 dL_law_736 dL_law_737 ?_
  refine lr_arg (j := 2) C hM (lv_at hl 6 rfl) (lv_at hl 1 rfl) (by omega) (by omega) dL_law_738 dL_law_739 dL_law_741 dL_law_742 dL_law_743 ?_
  refine lr_arg (j := 3) C hM (lv_at hl 6 rfl) (lv_at hl 1 rfl) (by omega) (by omega) dL_law_744 dL_law_745 dL_law_747 dL_law_748 dL_law_749 ?_
  refine lr_arg (j := 4) C hM (lv_at hl 6 rfl) (lv_at hl 1 rfl) (by omega) (by omega) dL_law_750 dL_law_751 dL_law_753 dL_law_754 dL_law_755 ?_
  refine g_callVi (ci := 11) (C := RX9) (T := TX9) (N := 24) (As := [.int (zI ((xs (i + 1).toNat).toInt)), .int (zI ((xs (i + 2).toNat).toInt)), .int (zI ((xs (i + 3).toNat).toInt)), .int (zI ((xs (i + 4).toNat).toInt))]) (rest := []) ⟨hx, hb, hml, hown, hts⟩ hK hM hMo (cuV (n := 4) hts u_1380 u_1377 u_10 (by decide) u_1378 u_1379 ⟨Nat.le_of_ble_eq_true rfl, Nat.le_of_ble_eq_true rfl⟩) ⟨by omega, by omega⟩ hfs rfl rfl hl.1 rfl (Nat.le_of_ble_eq_true rfl) dL_law_756 ⟨rm_c (by omega), rm_s (by omega)⟩ (fun r f2 H locs hM hr => ?_)
  refine lv_istore (lv' := (7, .int r) :: (6, .int k) :: lwL bs b0 i) hx hb dL_law_759 hl (by decide) rfl (fun ls hl => ?_)
  obtain ⟨cd1, hcd, rfl, hI1, hv⟩ := hn r f2 hr
  refine lr_tell C hM hI1 hcd hl.1 (lv_at hl 5 rfl) (lv_at hl 1 rfl) ⟨by omega, by omega⟩ dL_law_761 dL_law_762 dL_law_765 dL_law_767 (fun H locs hM => ?_)
  exact lr_valI (tgt := 2508) C hM hcd hv (lv_at hl 4 rfl) (lv_at hl 1 rfl) (lv_at hl 0 rfl) dL_law_772 dL_law_774 dL_law_777 dL_law_778 dL_law_779 dL_law_780 dL_law_782 dL_law_783 dL_law_784 dL_law_789 (by decide) (W.widen (k := cells + 3) (n := slots + 18) (by omega) (by omega) (kk f2 H locs ls cd1 hM hI1 (lv_sub hl [2, 3, 4, 5, 6, 7] rfl)))
set_option maxRecDepth 100000 in
set_option maxHeartbeats 2000000 in
theorem lc_8 {p : Program} {l : Launch} {e : Env} {s : State} {m : MethodId} {args : Array Value} {below : List Frame} {meth : Method} {c : Code} {H : Heap} {locs : List Loc} {cells slots : Nat} {Q : State → Prop} {ls : Array Slot} {g : gE} {b0 bs L : Nat} {f : gF} {xs : Nat → Int32} {i v cd : Int} (C : LWC p l s m args c g b0 bs L xs) (hM : gH g b0 622 f s.heap H locs) (hI : lwI g b0 v cd f) (hv0 : 0 ≤ v) (hv1 : v ≤ 20000000) (hi : 0 ≤ i ∧ i + 5 ≤ L) (hl : lv_has ls 9 (lwL bs b0 i)) (hcs : cells + 3 ≤ 603072 ∧ slots + 18 ≤ 7186538) (kk : ∀ (f1 : gF) (H1 : Heap) (locs1 : List Loc) (ls1 : Array Slot) (cd1 : Int), gH g b0 622 f1 s.heap H1 locs1 → lwI g b0 (v + 33542) cd1 f1 → lv_has ls1 9 (lwL bs b0 i) → W p l e room_1 s m args below meth c H1 locs1 (cells + 3) (slots + 18) Q (F0 m 2508 ls1 [])) : W p l e room_1 s m args below meth c H locs cells slots Q (F0 m 792 ls []) := by
  obtain ⟨hx, hb, hml, hown, hts, hK, hE, hX, hbs, hbb, hl9, hL⟩ := id C
  refine lv_aload_n hx hb dL_law_792 rfl (lv_at hl 4 rfl) ?_
  refine lr_arg (j := 1) C hM (lv_at hl 5 rfl) (lv_at hl 0 rfl) (by omega) (by omega) dL_law_793 dL_law_794 dL_law_796 dL_law_797 dL_law_798 ?_
  refine lv_aload_n hx hb dL_law_799 rfl (lv_at hl 2 rfl) ?_
  obtain ⟨postH, hH, hn⟩ := j_removeItem l g b0 f v cd ((xs (i + 1).toNat).toInt) (rI_self _) hl9 hv0 hv1 hI
  refine gh_callS (As := .ref b0 :: ([.int (zI ((xs (i + 1).toNat).toInt))] ++ [.ref (b0 + 620)])) (rest := []) ⟨hx, hb, hml, hown, hts⟩ hK hM hE hH (cuH (n := 3) hts uw_removeItem u_777 u_0 (by decide) u_778 ⟨Nat.le_of_ble_eq_true rfl, Nat.le_of_ble_eq_true rfl⟩) rfl hl.1 rfl (Nat.le_of_ble_eq_true rfl) dL_law_800 ⟨rm_c (by omega), rm_s (by omega)⟩ (fun k f1 H locs hM hk => ?_)
  obtain ⟨⟨fs, hfs⟩, postM, hMo, hn⟩ := hn k f1 hk
  refine lv_istore (lv' := (6, .int k) :: lwL bs b0 i) hx hb dL_law_803 hl (by decide) rfl (fun ls hl => ?_)
  refine lv_aload_n hx hb dL_law_805 rfl (lv_at hl 4 rfl) ?_
  refine lr_arg (j := 1) C hM (lv_at hl 6 rfl) (lv_at hl 1 rfl) (by omega) (by omega) dL_law_806 dL_law_807 dL_law_809 dL_law_810 dL_law_811 ?_
  refine g_callVi (ci := 11) (C := RX9) (T := TX9) (N := 24) (As := [.int (zI ((xs (i + 1).toNat).toInt))]) (rest := []) ⟨hx, hb, hml, hown, hts⟩ hK hM hMo (cuV (n := 1) hts u_1384 u_1381 u_10 (by decide) u_1382 u_1383 ⟨Nat.le_of_ble_eq_true rfl, Nat.le_of_ble_eq_true rfl⟩) ⟨by omega, by omega⟩ hfs rfl rfl hl.1 rfl (Nat.le_of_ble_eq_true rfl) dL_law_812 ⟨rm_c (by omega), rm_s (by omega)⟩ (fun r f2 H locs hM hr => ?_)
  refine lv_istore (lv' := (7, .int r) :: (6, .int k) :: lwL bs b0 i) hx hb dL_law_815 hl (by decide) rfl (fun ls hl => ?_)
  obtain ⟨cd1, hcd, rfl, hI1, hv⟩ := hn r f2 hr
  refine lr_tell C hM hI1 hcd hl.1 (lv_at hl 5 rfl) (lv_at hl 1 rfl) ⟨by omega, by omega⟩ dL_law_817 dL_law_818 dL_law_821 dL_law_823 (fun H locs hM => ?_)
  exact lr_valI (tgt := 2508) C hM hcd hv (lv_at hl 4 rfl) (lv_at hl 1 rfl) (lv_at hl 0 rfl) dL_law_828 dL_law_830 dL_law_833 dL_law_834 dL_law_835 dL_law_836 dL_law_838 dL_law_839 dL_law_840 dL_law_845 (by decide) (W.widen (k := cells + 3) (n := slots + 18) (by omega) (by omega) (kk f2 H locs ls cd1 hM hI1 (lv_sub hl [2, 3, 4, 5, 6, 7] rfl)))
set_option maxRecDepth 100000 in
set_option maxHeartbeats 2000000 in
theorem lc_9 {p : Program} {l : Launch} {e : Env} {s : State} {m : MethodId} {args : Array Value} {below : List Frame} {meth : Method} {c : Code} {H : Heap} {locs : List Loc} {cells slots : Nat} {Q : State → Prop} {ls : Array Slot} {g : gE} {b0 bs L : Nat} {f : gF} {xs : Nat → Int32} {i v cd : Int} (C : LWC p l s m args c g b0 bs L xs) (hM : gH g b0 622 f s.heap H locs) (hI : lwI g b0 v cd f) (hv0 : 0 ≤ v) (hv1 : v ≤ 20000000) (hi : 0 ≤ i ∧ i + 5 ≤ L) (hl : lv_has ls 9 (lwL bs b0 i)) (hcs : cells + 3 ≤ 603072 ∧ slots + 18 ≤ 7186538) (kk : ∀ (f1 : gF) (H1 : Heap) (locs1 : List Loc) (ls1 : Array Slot) (cd1 : Int), gH g b0 622 f1 s.heap H1 locs1 → lwI g b0 (v + 33542) cd1 f1 → lv_has ls1 9 (lwL bs b0 i) → W p l e room_1 s m args below meth c H1 locs1 (cells + 3) (slots + 18) Q (F0 m 2508 ls1 [])) : W p l e room_1 s m args below meth c H locs cells slots Q (F0 m 848 ls []) := by
  obtain ⟨hx, hb, hml, hown, hts, hK, hE, hX, hbs, hbb, hl9, hL⟩ := id C
  refine lv_aload_n hx hb dL_law_848 rfl (lv_at hl 4 rfl) ?_
  refine lr_arg (j := 1) C hM (lv_at hl 5 rfl) (lv_at hl 0 rfl) (by omega) (by omega) dL_law_849 dL_law_850 dL_law_852 dL_law_853 dL_law_854 ?_
  refine lv_aload_n hx hb dL_law_855 rfl (lv_at hl 2 rfl) ?_
  obtain ⟨postH, hH, hn⟩ := j_receive l g b0 f v cd ((xs (i + 1).toNat).toInt) (rI_self _) hl9 hv0 hv1 hI
  refine gh_callS (As := .ref b0 :: ([.int (zI ((xs (i + 1).toNat).toInt))] ++ [.ref (b0 + 620)])) (rest := []) ⟨hx, hb, hml, hown, hts⟩ hK hM hE hH (cuH (n := 3) hts uw_receive u_784 u_0 (by decide) u_785 ⟨Nat.le_of_ble_eq_true rfl, Nat.le_of_ble_eq_true rfl⟩) rfl hl.1 rfl (Nat.le_of_ble_eq_true rfl) dL_law_856 ⟨rm_c (by omega), rm_s (by omega)⟩ (fun k f1 H locs hM hk => ?_)
  obtain ⟨⟨fs, hfs⟩, postM, hMo, hn⟩ := hn k f1 hk
  refine lv_istore (lv' := (6, .int k) :: lwL bs b0 i) hx hb dL_law_859 hl (by decide) rfl (fun ls hl => ?_)
  refine lv_aload_n hx hb dL_law_861 rfl (lv_at hl 4 rfl) ?_
  refine lr_arg (j := 1) C hM (lv_at hl 6 rfl) (lv_at hl 1 rfl) (by omega) (by omega) dL_law_862 dL_law_863 dL_law_865 dL_law_866 dL_law_867 ?_
  refine g_callVi (ci := 11) (C := RX9) (T := TX9) (N := 24) (As := [.int (zI ((xs (i + 1).toNat).toInt))]) (rest := []) ⟨hx, hb, hml, hown, hts⟩ hK hM hMo (cuV (n := 1) hts u_1388 u_1385 u_10 (by decide) u_1386 u_1387 ⟨Nat.le_of_ble_eq_true rfl, Nat.le_of_ble_eq_true rfl⟩) ⟨by omega, by omega⟩ hfs rfl rfl hl.1 rfl (Nat.le_of_ble_eq_true rfl) dL_law_868 ⟨rm_c (by omega), rm_s (by omega)⟩ (fun r f2 H locs hM hr => ?_)
  refine lv_istore (lv' := (7, .int r) :: (6, .int k) :: lwL bs b0 i) hx hb dL_law_871 hl (by decide) rfl (fun ls hl => ?_)
  obtain ⟨cd1, hcd, rfl, hI1, hv⟩ := hn r f2 hr
  refine lr_tell C hM hI1 hcd hl.1 (lv_at hl 5 rfl) (lv_at hl 1 rfl) ⟨by omega, by omega⟩ dL_law_873 dL_law_874 dL_law_877 dL_law_879 (fun H locs hM => ?_)
  exact lr_valI (tgt := 2508) C hM hcd hv (lv_at hl 4 rfl) (lv_at hl 1 rfl) (lv_at hl 0 rfl) dL_law_884 dL_law_886 dL_law_889 dL_law_890 dL_law_891 dL_law_892 dL_law_894 dL_law_895 dL_law_896 dL_law_901 (by decide) (W.widen (k := cells + 3) (n := slots + 18) (by omega) (by omega) (kk f2 H locs ls cd1 hM hI1 (lv_sub hl [2, 3, 4, 5, 6, 7] rfl)))
set_option maxRecDepth 100000 in
set_option maxHeartbeats 2000000 in
theorem lc_10 {p : Program} {l : Launch} {e : Env} {s : State} {m : MethodId} {args : Array Value} {below : List Frame} {meth : Method} {c : Code} {H : Heap} {locs : List Loc} {cells slots : Nat} {Q : State → Prop} {ls : Array Slot} {g : gE} {b0 bs L : Nat} {f : gF} {xs : Nat → Int32} {i v cd : Int} (C : LWC p l s m args c g b0 bs L xs) (hM : gH g b0 622 f s.heap H locs) (hI : lwI g b0 v cd f) (hv0 : 0 ≤ v) (hv1 : v ≤ 20000000) (hi : 0 ≤ i ∧ i + 5 ≤ L) (hl : lv_has ls 9 (lwL bs b0 i)) (hcs : cells + 3 ≤ 603072 ∧ slots + 18 ≤ 7186538) (kk : ∀ (f1 : gF) (H1 : Heap) (locs1 : List Loc) (ls1 : Array Slot) (cd1 : Int), gH g b0 622 f1 s.heap H1 locs1 → lwI g b0 (v + 33542) cd1 f1 → lv_has ls1 9 (lwL bs b0 i) → W p l e room_1 s m args below meth c H1 locs1 (cells + 3) (slots + 18) Q (F0 m 2508 ls1 [])) : W p l e room_1 s m args below meth c H locs cells slots Q (F0 m 904 ls []) := by
  obtain ⟨hx, hb, hml, hown, hts, hK, hE, hX, hbs, hbb, hl9, hL⟩ := id C
  refine lv_aload_n hx hb dL_law_904 rfl (lv_at hl 4 rfl) ?_
  refine lr_arg (j := 1) C hM (lv_at hl 5 rfl) (lv_at hl 0 rfl) (by omega) (by omega) dL_law_905 dL_law_906 dL_law_908 dL_law_909 dL_law_910 ?_
  refine lr_arg (j := 2) C hM (lv_at hl 5 rfl) (lv_at hl 0 rfl) (by omega) (by omega) dL_law_911 dL_law_912 dL_law_914 dL_law_915 dL_law_916 ?_
  refine lv_aload_n hx hb dL_law_917 rfl (lv_at hl 2 rfl) ?_
  obtain ⟨postH, hH, hn⟩ := j_spend l g b0 f v cd ((xs (i + 1).toNat).toInt) (rI_self _) ((xs (i + 2).toNat).toInt) (rI_self _) hl9 hv0 hv1 hI
  refine gh_callS (As := .ref b0 :: ([.int (zI ((xs (i + 1).toNat).toInt)), .int (zI ((xs (i + 2).toNat).toInt))] ++ [.ref (b0 + 620)])) (rest := []) ⟨hx, hb, hml, hown, hts⟩ hK hM hE hH (cuH (n := 4) hts uw_spend u_791 u_0 (by decide) u_792 ⟨Nat.le_of_ble_eq_true rfl, Nat.le_of_ble_eq_true rfl⟩) rfl hl.1 rfl (Nat.le_of_ble_eq_true rfl) dL_law_918 ⟨rm_c (by omega), rm_s (by omega)⟩ (fun k f1 H locs hM hk => ?_)
  obtain ⟨⟨fs, hfs⟩, postM, hMo, hn⟩ := hn k f1 hk
  refine lv_istore (lv' := (6, .int k) :: lwL bs b0 i) hx hb dL_law_921 hl (by decide) rfl (fun ls hl => ?_)
  refine lv_aload_n hx hb dL_law_923 rfl (lv_at hl 4 rfl) ?_
  refine lr_arg (j := 1) C hM (lv_at hl 6 rfl) (lv_at hl 1 rfl) (by omega) (by omega) dL_law_924 dL_law_925 dL_law_927 dL_law_928 dL_law_929 ?_
  refine lr_arg (j := 2) C hM (lv_at hl 6 rfl) (lv_at hl 1 rfl) (by omega) (by omega) dL_law_930 dL_law_931 dL_law_933 dL_law_934 dL_law_935 ?_
  refine g_callVi (ci := 11) (C := RX9) (T := TX9) (N := 24) (As := [.int (zI ((xs (i + 1).toNat).toInt)), .int (zI ((xs (i + 2).toNat).toInt))]) (rest := []) ⟨hx, hb, hml, hown, hts⟩ hK hM hMo (cuV (n := 2) hts u_1392 u_1389 u_10 (by decide) u_1390 u_1391 ⟨Nat.le_of_ble_eq_true rfl, Nat.le_of_ble_eq_true rfl⟩) ⟨by omega, by omega⟩ hfs rfl rfl hl.1 rfl (Nat.le_of_ble_eq_true rfl) dL_law_936 ⟨rm_c (by omega), rm_s (by omega)⟩ (fun r f2 H locs hM hr => ?_)
  refine lv_istore (lv' := (7, .int r) :: (6, .int k) :: lwL bs b0 i) hx hb dL_law_939 hl (by decide) rfl (fun ls hl => ?_)
  obtain ⟨cd1, hcd, rfl, hI1, hv⟩ := hn r f2 hr
  refine lr_tell C hM hI1 hcd hl.1 (lv_at hl 5 rfl) (lv_at hl 1 rfl) ⟨by omega, by omega⟩ dL_law_941 dL_law_942 dL_law_945 dL_law_947 (fun H locs hM => ?_)
  exact lr_valI (tgt := 2508) C hM hcd hv (lv_at hl 4 rfl) (lv_at hl 1 rfl) (lv_at hl 0 rfl) dL_law_952 dL_law_954 dL_law_957 dL_law_958 dL_law_959 dL_law_960 dL_law_962 dL_law_963 dL_law_964 dL_law_969 (by decide) (W.widen (k := cells + 3) (n := slots + 18) (by omega) (by omega) (kk f2 H locs ls cd1 hM hI1 (lv_sub hl [2, 3, 4, 5, 6, 7] rfl)))
set_option maxRecDepth 100000 in
set_option maxHeartbeats 2000000 in
theorem lc_11 {p : Program} {l : Launch} {e : Env} {s : State} {m : MethodId} {args : Array Value} {below : List Frame} {meth : Method} {c : Code} {H : Heap} {locs : List Loc} {cells slots : Nat} {Q : State → Prop} {ls : Array Slot} {g : gE} {b0 bs L : Nat} {f : gF} {xs : Nat → Int32} {i v cd : Int} (C : LWC p l s m args c g b0 bs L xs) (hM : gH g b0 622 f s.heap H locs) (hI : lwI g b0 v cd f) (hv0 : 0 ≤ v) (hv1 : v ≤ 20000000) (hi : 0 ≤ i ∧ i + 5 ≤ L) (hl : lv_has ls 9 (lwL bs b0 i)) (hcs : cells + 3 ≤ 603072 ∧ slots + 18 ≤ 7186538) (kk : ∀ (f1 : gF) (H1 : Heap) (locs1 : List Loc) (ls1 : Array Slot) (cd1 : Int), gH g b0 622 f1 s.heap H1 locs1 → lwI g b0 (v + 33542) cd1 f1 → lv_has ls1 9 (lwL bs b0 i) → W p l e room_1 s m args below meth c H1 locs1 (cells + 3) (slots + 18) Q (F0 m 2508 ls1 [])) : W p l e room_1 s m args below meth c H locs cells slots Q (F0 m 972 ls []) := by
  obtain ⟨hx, hb, hml, hown, hts, hK, hE, hX, hbs, hbb, hl9, hL⟩ := id C
  refine lv_aload_n hx hb dL_law_972 rfl (lv_at hl 4 rfl) ?_
  refine lr_arg (j := 1) C hM (lv_at hl 5 rfl) (lv_at hl 0 rfl) (by omega) (by omega) dL_law_973 dL_law_974 dL_law_976 dL_law_977 dL_law_978 ?_
  refine lr_arg (j := 2) C hM (lv_at hl 5 rfl) (lv_at hl 0 rfl) (by omega) (by omega) dL_law_979 dL_law_980 dL_law_982 dL_law_983 dL_law_984 ?_
  refine lr_arg (j := 3) C hM (lv_at hl 5 rfl) (lv_at hl 0 rfl) (by omega) (by omega) dL_law_985 dL_law_986 dL_law_988 dL_law_989 dL_law_990 ?_
  refine lv_aload_n hx hb dL_law_991 rfl (lv_at hl 2 rfl) ?_
  obtain ⟨postH, hH, hn⟩ := j_move l g b0 f v cd ((xs (i + 1).toNat).toInt) (rI_self _) ((xs (i + 2).toNat).toInt) (rI_self _) ((xs (i + 3).toNat).toInt) (rI_self _) hl9 hv0 hv1 hI
  refine gh_callS (As := .ref b0 :: ([.int (zI ((xs (i + 1).toNat).toInt)), .int (zI ((xs (i + 2).toNat).toInt)), .int (zI ((xs (i + 3).toNat).toInt))] ++ [.ref (b0 + 620)])) (rest := []) ⟨hx, hb, hml, hown, hts⟩ hK hM hE hH (cuH (n := 5) hts uw_move u_798 u_0 (by decide) u_799 ⟨Nat.le_of_ble_eq_true rfl, Nat.le_of_ble_eq_true rfl⟩) rfl hl.1 rfl (Nat.le_of_ble_eq_true rfl) dL_law_992 ⟨rm_c (by omega), rm_s (by omega)⟩ (fun k f1 H locs hM hk => ?_)
  obtain ⟨⟨fs, hfs⟩, postM, hMo, hn⟩ := hn k f1 hk
  refine lv_istore (lv' := (6, .int k) :: lwL bs b0 i) hx hb dL_law_995 hl (by decide) rfl (fun ls hl => ?_)
  refine lv_aload_n hx hb dL_law_997 rfl (lv_at hl 4 rfl) ?_
  refine lr_arg (j := 1) C hM (lv_at hl 6 rfl) (lv_at hl 1 rfl) (by omega) (by omega) dL_law_998 dL_law_999 dL_law_1001 dL_law_1002 dL_law_1003 ?_
  refine lr_arg (j := 2) C hM (lv_at hl 6 rfl) (lv_at hl 1 rfl) (by omega) (by omega) dL_law_1004 dL_law_1005 dL_law_1007 dL_law_1008 dL_law_1009 ?_
  refine lr_arg (j := 3) C hM (lv_at hl 6 rfl) (lv_at hl 1 rfl) (by omega) (by omega) dL_law_1010 dL_law_1011 dL_law_1013 dL_law_1014 dL_law_1015 ?_
  refine g_callVi (ci := 11) (C := RX9) (T := TX9) (N := 24) (As := [.int (zI ((xs (i + 1).toNat).toInt)), .int (zI ((xs (i + 2).toNat).toInt)), .int (zI ((xs (i + 3).toNat).toInt))]) (rest := []) ⟨hx, hb, hml, hown, hts⟩ hK hM hMo (cuV (n := 3) hts u_1396 u_1393 u_10 (by decide) u_1394 u_1395 ⟨Nat.le_of_ble_eq_true rfl, Nat.le_of_ble_eq_true rfl⟩) ⟨by omega, by omega⟩ hfs rfl rfl hl.1 rfl (Nat.le_of_ble_eq_true rfl) dL_law_1016 ⟨rm_c (by omega), rm_s (by omega)⟩ (fun r f2 H locs hM hr => ?_)
  refine lv_istore (lv' := (7, .int r) :: (6, .int k) :: lwL bs b0 i) hx hb dL_law_1019 hl (by decide) rfl (fun ls hl => ?_)
  obtain ⟨cd1, hcd, rfl, hI1, hv⟩ := hn r f2 hr
  refine lr_tell C hM hI1 hcd hl.1 (lv_at hl 5 rfl) (lv_at hl 1 rfl) ⟨by omega, by omega⟩ dL_law_1021 dL_law_1022 dL_law_1025 dL_law_1027 (fun H locs hM => ?_)
  exact lr_valI (tgt := 2508) C hM hcd hv (lv_at hl 4 rfl) (lv_at hl 1 rfl) (lv_at hl 0 rfl) dL_law_1032 dL_law_1034 dL_law_1037 dL_law_1038 dL_law_1039 dL_law_1040 dL_law_1042 dL_law_1043 dL_law_1044 dL_law_1049 (by decide) (W.widen (k := cells + 3) (n := slots + 18) (by omega) (by omega) (kk f2 H locs ls cd1 hM hI1 (lv_sub hl [2, 3, 4, 5, 6, 7] rfl)))
set_option maxRecDepth 100000 in
set_option maxHeartbeats 2000000 in
theorem lc_12 {p : Program} {l : Launch} {e : Env} {s : State} {m : MethodId} {args : Array Value} {below : List Frame} {meth : Method} {c : Code} {H : Heap} {locs : List Loc} {cells slots : Nat} {Q : State → Prop} {ls : Array Slot} {g : gE} {b0 bs L : Nat} {f : gF} {xs : Nat → Int32} {i v cd : Int} (C : LWC p l s m args c g b0 bs L xs) (hM : gH g b0 622 f s.heap H locs) (hI : lwI g b0 v cd f) (hv0 : 0 ≤ v) (hv1 : v ≤ 20000000) (hi : 0 ≤ i ∧ i + 5 ≤ L) (hl : lv_has ls 9 (lwL bs b0 i)) (hcs : cells + 3 ≤ 603072 ∧ slots + 18 ≤ 7186538) (kk : ∀ (f1 : gF) (H1 : Heap) (locs1 : List Loc) (ls1 : Array Slot) (cd1 : Int), gH g b0 622 f1 s.heap H1 locs1 → lwI g b0 (v + 33542) cd1 f1 → lv_has ls1 9 (lwL bs b0 i) → W p l e room_1 s m args below meth c H1 locs1 (cells + 3) (slots + 18) Q (F0 m 2508 ls1 [])) : W p l e room_1 s m args below meth c H locs cells slots Q (F0 m 1052 ls []) := by
  obtain ⟨hx, hb, hml, hown, hts, hK, hE, hX, hbs, hbb, hl9, hL⟩ := id C
  refine lv_aload_n hx hb dL_law_1052 rfl (lv_at hl 4 rfl) ?_
  refine lr_arg (j := 1) C hM (lv_at hl 5 rfl) (lv_at hl 0 rfl) (by omega) (by omega) dL_law_1053 dL_law_1054 dL_law_1056 dL_law_1057 dL_law_1058 ?_
  refine lv_aload_n hx hb dL_law_1059 rfl (lv_at hl 2 rfl) ?_
  obtain ⟨postH, hH, hn⟩ := j_advance l g b0 f v cd ((xs (i + 1).toNat).toInt) (rI_self _) hl9 hv0 hv1 hI
  refine gh_callS (As := .ref b0 :: ([.int (zI ((xs (i + 1).toNat).toInt))] ++ [.ref (b0 + 620)])) (rest := []) ⟨hx, hb, hml, hown, hts⟩ hK hM hE hH (cuH (n := 3) hts uw_advance u_805 u_0 (by decide) u_806 ⟨Nat.le_of_ble_eq_true rfl, Nat.le_of_ble_eq_true rfl⟩) rfl hl.1 rfl (Nat.le_of_ble_eq_true rfl) dL_law_1060 ⟨rm_c (by omega), rm_s (by omega)⟩ (fun k f1 H locs hM hk => ?_)
  obtain ⟨⟨fs, hfs⟩, postM, hMo, hn⟩ := hn k f1 hk
  refine lv_istore (lv' := (6, .int k) :: lwL bs b0 i) hx hb dL_law_1063 hl (by decide) rfl (fun ls hl => ?_)
  refine lv_aload_n hx hb dL_law_1065 rfl (lv_at hl 4 rfl) ?_
  refine lr_arg (j := 1) C hM (lv_at hl 6 rfl) (lv_at hl 1 rfl) (by omega) (by omega) dL_law_1066 dL_law_1067 dL_law_1069 dL_law_1070 dL_law_1071 ?_
  refine g_callVi (ci := 11) (C := RX9) (T := TX9) (N := 24) (As := [.int (zI ((xs (i + 1).toNat).toInt))]) (rest := []) ⟨hx, hb, hml, hown, hts⟩ hK hM hMo (cuV (n := 1) hts u_1400 u_1397 u_10 (by decide) u_1398 u_1399 ⟨Nat.le_of_ble_eq_true rfl, Nat.le_of_ble_eq_true rfl⟩) ⟨by omega, by omega⟩ hfs rfl rfl hl.1 rfl (Nat.le_of_ble_eq_true rfl) dL_law_1072 ⟨rm_c (by omega), rm_s (by omega)⟩ (fun r f2 H locs hM hr => ?_)
  refine lv_istore (lv' := (7, .int r) :: (6, .int k) :: lwL bs b0 i) hx hb dL_law_1075 hl (by decide) rfl (fun ls hl => ?_)
  obtain ⟨cd1, hcd, rfl, hI1, hv⟩ := hn r f2 hr
  refine lr_tell C hM hI1 hcd hl.1 (lv_at hl 5 rfl) (lv_at hl 1 rfl) ⟨by omega, by omega⟩ dL_law_1077 dL_law_1078 dL_law_1081 dL_law_1083 (fun H locs hM => ?_)
  exact lr_valI (tgt := 2508) C hM hcd hv (lv_at hl 4 rfl) (lv_at hl 1 rfl) (lv_at hl 0 rfl) dL_law_1088 dL_law_1090 dL_law_1093 dL_law_1094 dL_law_1095 dL_law_1096 dL_law_1098 dL_law_1099 dL_law_1100 dL_law_1105 (by decide) (W.widen (k := cells + 3) (n := slots + 18) (by omega) (by omega) (kk f2 H locs ls cd1 hM hI1 (lv_sub hl [2, 3, 4, 5, 6, 7] rfl)))
set_option maxRecDepth 100000 in
set_option maxHeartbeats 2000000 in
theorem lc_13 {p : Program} {l : Launch} {e : Env} {s : State} {m : MethodId} {args : Array Value} {below : List Frame} {meth : Method} {c : Code} {H : Heap} {locs : List Loc} {cells slots : Nat} {Q : State → Prop} {ls : Array Slot} {g : gE} {b0 bs L : Nat} {f : gF} {xs : Nat → Int32} {i v cd : Int} (C : LWC p l s m args c g b0 bs L xs) (hM : gH g b0 622 f s.heap H locs) (hI : lwI g b0 v cd f) (hv0 : 0 ≤ v) (hv1 : v ≤ 20000000) (hi : 0 ≤ i ∧ i + 5 ≤ L) (hl : lv_has ls 9 (lwL bs b0 i)) (hcs : cells + 3 ≤ 603072 ∧ slots + 18 ≤ 7186538) (kk : ∀ (f1 : gF) (H1 : Heap) (locs1 : List Loc) (ls1 : Array Slot) (cd1 : Int), gH g b0 622 f1 s.heap H1 locs1 → lwI g b0 (v + 33542) cd1 f1 → lv_has ls1 9 (lwL bs b0 i) → W p l e room_1 s m args below meth c H1 locs1 (cells + 3) (slots + 18) Q (F0 m 2508 ls1 [])) : W p l e room_1 s m args below meth c H locs cells slots Q (F0 m 1108 ls []) := by
  obtain ⟨hx, hb, hml, hown, hts, hK, hE, hX, hbs, hbb, hl9, hL⟩ := id C
  refine lv_aload_n hx hb dL_law_1108 rfl (lv_at hl 4 rfl) ?_
  refine lr_arg (j := 1) C hM (lv_at hl 5 rfl) (lv_at hl 0 rfl) (by omega) (by omega) dL_law_1109 dL_law_1110 dL_law_1112 dL_law_1113 dL_law_1114 ?_
  refine lr_arg (j := 2) C hM (lv_at hl 5 rfl) (lv_at hl 0 rfl) (by omega) (by omega) dL_law_1115 dL_law_1116 dL_law_1118 dL_law_1119 dL_law_1120 ?_
  refine lv_aload_n hx hb dL_law_1121 rfl (lv_at hl 2 rfl) ?_
  obtain ⟨postH, hH, hn⟩ := j_envelope l g b0 f v cd ((xs (i + 1).toNat).toInt) (rI_self _) ((xs (i + 2).toNat).toInt) (rI_self _) hl9 hv0 hv1 hI
  refine gh_callS (As := .ref b0 :: ([.int (zI ((xs (i + 1).toNat).toInt)), .int (zI ((xs (i + 2).toNat).toInt))] ++ [.ref (b0 + 620)])) (rest := []) ⟨hx, hb, hml, hown, hts⟩ hK hM hE hH (cuH (n := 4) hts uw_envelope u_812 u_0 (by decide) u_813 ⟨Nat.le_of_ble_eq_true rfl, Nat.le_of_ble_eq_true rfl⟩) rfl hl.1 rfl (Nat.le_of_ble_eq_true rfl) dL_law_1122 ⟨rm_c (by omega), rm_s (by omega)⟩ (fun k f1 H locs hM hk => ?_)
  obtain ⟨⟨fs, hfs⟩, postM, hMo, hn⟩ := hn k f1 hk
  refine lv_istore (lv' := (6, .int k) :: lwL bs b0 i) hx hb dL_law_1125 hl (by decide) rfl (fun ls hl => ?_)
  refine lv_aload_n hx hb dL_law_1127 rfl (lv_at hl 4 rfl) ?_
  refine lr_arg (j := 1) C hM (lv_at hl 6 rfl) (lv_at hl 1 rfl) (by omega) (by omega) dL_law_1128 dL_law_1129 dL_law_1131 dL_law_1132 dL_law_1133 ?_
  refine lr_arg (j := 2) C hM (lv_at hl 6 rfl) (lv_at hl 1 rfl) (by omega) (by omega) dL_law_1134 dL_law_1135 dL_law_1137 dL_law_1138 dL_law_1139 ?_
  refine g_callVl (ci := 11) (C := RX9) (T := TX9) (N := 24) (As := [.int (zI ((xs (i + 1).toNat).toInt)), .int (zI ((xs (i + 2).toNat).toInt))]) (rest := []) ⟨hx, hb, hml, hown, hts⟩ hK hM hMo (cuV (n := 2) hts u_1404 u_1401 u_10 (by decide) u_1402 u_1403 ⟨Nat.le_of_ble_eq_true rfl, Nat.le_of_ble_eq_true rfl⟩) ⟨by omega, by omega⟩ hfs rfl rfl hl.1 rfl (Nat.le_of_ble_eq_true rfl) dL_law_1140 ⟨rm_c (by omega), rm_s (by omega)⟩ (fun r f2 H locs hM hr => ?_)
  refine lv_lstore (lv' := (7, .long r) :: (6, .int k) :: lwL bs b0 i) hx hb dL_law_1143 hl (by decide) rfl (fun ls hl => ?_)
  obtain ⟨cd1, hcd, rfl, hI1, hv⟩ := hn r f2 hr
  refine lr_tell C hM hI1 hcd hl.1 (lv_at hl 5 rfl) (lv_at hl 1 rfl) ⟨by omega, by omega⟩ dL_law_1145 dL_law_1146 dL_law_1149 dL_law_1151 (fun H locs hM => ?_)
  exact lr_valL (tgt := 2508) C hM hcd hv (lv_at hl 4 rfl) (lv_at hl 1 rfl) (lv_at hl 0 rfl) dL_law_1156 dL_law_1158 dL_law_1161 dL_law_1162 dL_law_1163 dL_law_1164 dL_law_1166 dL_law_1167 dL_law_1172 (by decide) (W.widen (k := cells + 3) (n := slots + 18) (by omega) (by omega) (kk f2 H locs ls cd1 hM hI1 (lv_sub hl [2, 3, 4, 5, 6, 7] rfl)))
set_option maxRecDepth 100000 in
set_option maxHeartbeats 2000000 in
theorem lc_14 {p : Program} {l : Launch} {e : Env} {s : State} {m : MethodId} {args : Array Value} {below : List Frame} {meth : Method} {c : Code} {H : Heap} {locs : List Loc} {cells slots : Nat} {Q : State → Prop} {ls : Array Slot} {g : gE} {b0 bs L : Nat} {f : gF} {xs : Nat → Int32} {i v cd : Int} (C : LWC p l s m args c g b0 bs L xs) (hM : gH g b0 622 f s.heap H locs) (hI : lwI g b0 v cd f) (hv0 : 0 ≤ v) (hv1 : v ≤ 20000000) (hi : 0 ≤ i ∧ i + 5 ≤ L) (hl : lv_has ls 9 (lwL bs b0 i)) (hcs : cells + 3 ≤ 603072 ∧ slots + 18 ≤ 7186538) (kk : ∀ (f1 : gF) (H1 : Heap) (locs1 : List Loc) (ls1 : Array Slot) (cd1 : Int), gH g b0 622 f1 s.heap H1 locs1 → lwI g b0 (v + 33542) cd1 f1 → lv_has ls1 9 (lwL bs b0 i) → W p l e room_1 s m args below meth c H1 locs1 (cells + 3) (slots + 18) Q (F0 m 2508 ls1 [])) : W p l e room_1 s m args below meth c H locs cells slots Q (F0 m 1175 ls []) := by
  obtain ⟨hx, hb, hml, hown, hts, hK, hE, hX, hbs, hbb, hl9, hL⟩ := id C
  refine lv_aload_n hx hb dL_law_1175 rfl (lv_at hl 4 rfl) ?_
  refine lr_arg (j := 1) C hM (lv_at hl 5 rfl) (lv_at hl 0 rfl) (by omega) (by omega) dL_law_1176 dL_law_1177 dL_law_1179 dL_law_1180 dL_law_1181 ?_
  refine lr_arg (j := 2) C hM (lv_at hl 5 rfl) (lv_at hl 0 rfl) (by omega) (by omega) dL_law_1182 dL_law_1183 dL_law_1185 dL_law_1186 dL_law_1187 ?_
  refine lv_aload_n hx hb dL_law_1188 rfl (lv_at hl 2 rfl) ?_
  obtain ⟨postH, hH, hn⟩ := j_rule l g b0 f v cd ((xs (i + 1).toNat).toInt) (rI_self _) ((xs (i + 2).toNat).toInt) (rI_self _) hl9 hv0 hv1 hI
  refine gh_callS (As := .ref b0 :: ([.int (zI ((xs (i + 1).toNat).toInt)), .int (zI ((xs (i + 2).toNat).toInt))] ++ [.ref (b0 + 620)])) (rest := []) ⟨hx, hb, hml, hown, hts⟩ hK hM hE hH (cuH (n := 4) hts uw_rule u_836 u_0 (by decide) u_837 ⟨Nat.le_of_ble_eq_true rfl, Nat.le_of_ble_eq_true rfl⟩) rfl hl.1 rfl (Nat.le_of_ble_eq_true rfl) dL_law_1189 ⟨rm_c (by omega), rm_s (by omega)⟩ (fun k f1 H locs hM hk => ?_)
  obtain ⟨⟨fs, hfs⟩, postM, hMo, hn⟩ := hn k f1 hk
  refine lv_istore (lv' := (6, .int k) :: lwL bs b0 i) hx hb dL_law_1192 hl (by decide) rfl (fun ls hl => ?_)
  refine lv_aload_n hx hb dL_law_1194 rfl (lv_at hl 4 rfl) ?_
  refine lr_arg (j := 1) C hM (lv_at hl 6 rfl) (lv_at hl 1 rfl) (by omega) (by omega) dL_law_1195 dL_law_1196 dL_law_1198 dL_law_1199 dL_law_1200 ?_
  refine lr_arg (j := 2) C hM (lv_at hl 6 rfl) (lv_at hl 1 rfl) (by omega) (by omega) dL_law_1201 dL_law_1202 dL_law_1204 dL_law_1205 dL_law_1206 ?_
  refine g_callVi (ci := 11) (C := RX9) (T := TX9) (N := 24) (As := [.int (zI ((xs (i + 1).toNat).toInt)), .int (zI ((xs (i + 2).toNat).toInt))]) (rest := []) ⟨hx, hb, hml, hown, hts⟩ hK hM hMo (cuV (n := 2) hts u_1417 u_1414 u_10 (by decide) u_1415 u_1416 ⟨Nat.le_of_ble_eq_true rfl, Nat.le_of_ble_eq_true rfl⟩) ⟨by omega, by omega⟩ hfs rfl rfl hl.1 rfl (Nat.le_of_ble_eq_true rfl) dL_law_1207 ⟨rm_c (by omega), rm_s (by omega)⟩ (fun r f2 H locs hM hr => ?_)
  refine lv_istore (lv' := (7, .int r) :: (6, .int k) :: lwL bs b0 i) hx hb dL_law_1210 hl (by decide) rfl (fun ls hl => ?_)
  obtain ⟨cd1, hcd, rfl, hI1, hv⟩ := hn r f2 hr
  refine lr_tell C hM hI1 hcd hl.1 (lv_at hl 5 rfl) (lv_at hl 1 rfl) ⟨by omega, by omega⟩ dL_law_1212 dL_law_1213 dL_law_1216 dL_law_1218 (fun H locs hM => ?_)
  exact lr_valI (tgt := 2508) C hM hcd hv (lv_at hl 4 rfl) (lv_at hl 1 rfl) (lv_at hl 0 rfl) dL_law_1223 dL_law_1225 dL_law_1228 dL_law_1229 dL_law_1230 dL_law_1231 dL_law_1233 dL_law_1234 dL_law_1235 dL_law_1240 (by decide) (W.widen (k := cells + 3) (n := slots + 18) (by omega) (by omega) (kk f2 H locs ls cd1 hM hI1 (lv_sub hl [2, 3, 4, 5, 6, 7] rfl)))
set_option maxRecDepth 100000 in
set_option maxHeartbeats 2000000 in
theorem lc_15 {p : Program} {l : Launch} {e : Env} {s : State} {m : MethodId} {args : Array Value} {below : List Frame} {meth : Method} {c : Code} {H : Heap} {locs : List Loc} {cells slots : Nat} {Q : State → Prop} {ls : Array Slot} {g : gE} {b0 bs L : Nat} {f : gF} {xs : Nat → Int32} {i v cd : Int} (C : LWC p l s m args c g b0 bs L xs) (hM : gH g b0 622 f s.heap H locs) (hI : lwI g b0 v cd f) (hv0 : 0 ≤ v) (hv1 : v ≤ 20000000) (hi : 0 ≤ i ∧ i + 5 ≤ L) (hl : lv_has ls 9 (lwL bs b0 i)) (hcs : cells + 3 ≤ 603072 ∧ slots + 18 ≤ 7186538) (kk : ∀ (f1 : gF) (H1 : Heap) (locs1 : List Loc) (ls1 : Array Slot) (cd1 : Int), gH g b0 622 f1 s.heap H1 locs1 → lwI g b0 (v + 33542) cd1 f1 → lv_has ls1 9 (lwL bs b0 i) → W p l e room_1 s m args below meth c H1 locs1 (cells + 3) (slots + 18) Q (F0 m 2508 ls1 [])) : W p l e room_1 s m args below meth c H locs cells slots Q (F0 m 1243 ls []) := by
  obtain ⟨hx, hb, hml, hown, hts, hK, hE, hX, hbs, hbb, hl9, hL⟩ := id C
  refine lv_aload_n hx hb dL_law_1243 rfl (lv_at hl 4 rfl) ?_
  refine lr_arg (j := 1) C hM (lv_at hl 5 rfl) (lv_at hl 0 rfl) (by omega) (by omega) dL_law_1244 dL_law_1245 dL_law_1247 dL_law_1248 dL_law_1249 ?_
  refine lr_arg (j := 2) C hM (lv_at hl 5 rfl) (lv_at hl 0 rfl) (by omega) (by omega) dL_law_1250 dL_law_1251 dL_law_1253 dL_law_1254 dL_law_1255 ?_
  refine lv_aload_n hx hb dL_law_1256 rfl (lv_at hl 2 rfl) ?_
  obtain ⟨postH, hH, hn⟩ := j_split l g b0 f v cd ((xs (i + 1).toNat).toInt) (rI_self _) ((xs (i + 2).toNat).toInt) (rI_self _) hl9 hv0 hv1 hI
  refine gh_callS (As := .ref b0 :: ([.int (zI ((xs (i + 1).toNat).toInt)), .int (zI ((xs (i + 2).toNat).toInt))] ++ [.ref (b0 + 620)])) (rest := []) ⟨hx, hb, hml, hown, hts⟩ hK hM hE hH (cuH (n := 4) hts uw_split u_848 u_0 (by decide) u_849 ⟨Nat.le_of_ble_eq_true rfl, Nat.le_of_ble_eq_true rfl⟩) rfl hl.1 rfl (Nat.le_of_ble_eq_true rfl) dL_law_1257 ⟨rm_c (by omega), rm_s (by omega)⟩ (fun k f1 H locs hM hk => ?_)
  obtain ⟨⟨fs, hfs⟩, postM, hMo, hn⟩ := hn k f1 hk
  refine lv_istore (lv' := (6, .int k) :: lwL bs b0 i) hx hb dL_law_1260 hl (by decide) rfl (fun ls hl => ?_)
  refine lv_aload_n hx hb dL_law_1262 rfl (lv_at hl 4 rfl) ?_
  refine lr_arg (j := 1) C hM (lv_at hl 6 rfl) (lv_at hl 1 rfl) (by omega) (by omega) dL_law_1263 dL_law_1264 dL_law_1266 dL_law_1267 dL_law_1268 ?_
  refine lr_arg (j := 2) C hM (lv_at hl 6 rfl) (lv_at hl 1 rfl) (by omega) (by omega) dL_law_1269 dL_law_1270 dL_law_1272 dL_law_1273 dL_law_1274 ?_
  refine g_callVi (ci := 11) (C := RX9) (T := TX9) (N := 24) (As := [.int (zI ((xs (i + 1).toNat).toInt)), .int (zI ((xs (i + 2).toNat).toInt))]) (rest := []) ⟨hx, hb, hml, hown, hts⟩ hK hM hMo (cuV (n := 2) hts u_1421 u_1418 u_10 (by decide) u_1419 u_1420 ⟨Nat.le_of_ble_eq_true rfl, Nat.le_of_ble_eq_true rfl⟩) ⟨by omega, by omega⟩ hfs rfl rfl hl.1 rfl (Nat.le_of_ble_eq_true rfl) dL_law_1275 ⟨rm_c (by omega), rm_s (by omega)⟩ (fun r f2 H locs hM hr => ?_)
  refine lv_istore (lv' := (7, .int r) :: (6, .int k) :: lwL bs b0 i) hx hb dL_law_1278 hl (by decide) rfl (fun ls hl => ?_)
  obtain ⟨cd1, hcd, rfl, hI1, hv⟩ := hn r f2 hr
  refine lr_tell C hM hI1 hcd hl.1 (lv_at hl 5 rfl) (lv_at hl 1 rfl) ⟨by omega, by omega⟩ dL_law_1280 dL_law_1281 dL_law_1284 dL_law_1286 (fun H locs hM => ?_)
  exact lr_valI (tgt := 2508) C hM hcd hv (lv_at hl 4 rfl) (lv_at hl 1 rfl) (lv_at hl 0 rfl) dL_law_1291 dL_law_1293 dL_law_1296 dL_law_1297 dL_law_1298 dL_law_1299 dL_law_1301 dL_law_1302 dL_law_1303 dL_law_1308 (by decide) (W.widen (k := cells + 3) (n := slots + 18) (by omega) (by omega) (kk f2 H locs ls cd1 hM hI1 (lv_sub hl [2, 3, 4, 5, 6, 7] rfl)))
set_option maxRecDepth 100000 in
set_option maxHeartbeats 2000000 in
theorem lc_16 {p : Program} {l : Launch} {e : Env} {s : State} {m : MethodId} {args : Array Value} {below : List Frame} {meth : Method} {c : Code} {H : Heap} {locs : List Loc} {cells slots : Nat} {Q : State → Prop} {ls : Array Slot} {g : gE} {b0 bs L : Nat} {f : gF} {xs : Nat → Int32} {i v cd : Int} (C : LWC p l s m args c g b0 bs L xs) (hM : gH g b0 622 f s.heap H locs) (hI : lwI g b0 v cd f) (hv0 : 0 ≤ v) (hv1 : v ≤ 20000000) (hi : 0 ≤ i ∧ i + 5 ≤ L) (hl : lv_has ls 9 (lwL bs b0 i)) (hcs : cells + 3 ≤ 603072 ∧ slots + 18 ≤ 7186538) (kk : ∀ (f1 : gF) (H1 : Heap) (locs1 : List Loc) (ls1 : Array Slot) (cd1 : Int), gH g b0 622 f1 s.heap H1 locs1 → lwI g b0 (v + 33542) cd1 f1 → lv_has ls1 9 (lwL bs b0 i) → W p l e room_1 s m args below meth c H1 locs1 (cells + 3) (slots + 18) Q (F0 m 2508 ls1 [])) : W p l e room_1 s m args below meth c H locs cells slots Q (F0 m 1311 ls []) := by
  obtain ⟨hx, hb, hml, hown, hts, hK, hE, hX, hbs, hbb, hl9, hL⟩ := id C
  refine lv_aload_n hx hb dL_law_1311 rfl (lv_at hl 4 rfl) ?_
  refine lr_arg (j := 1) C hM (lv_at hl 5 rfl) (lv_at hl 0 rfl) (by omega) (by omega) dL_law_1312 dL_law_1313 dL_law_1315 dL_law_1316 dL_law_1317 ?_
  refine lr_arg (j := 2) C hM (lv_at hl 5 rfl) (lv_at hl 0 rfl) (by omega) (by omega) dL_law_1318 dL_law_1319 dL_law_1321 dL_law_1322 dL_law_1323 ?_
  refine lv_aload_n hx hb dL_law_1324 rfl (lv_at hl 2 rfl) ?_
  obtain ⟨postH, hH, hn⟩ := j_link l g b0 f v cd ((xs (i + 1).toNat).toInt) (rI_self _) ((xs (i + 2).toNat).toInt) (rI_self _) hl9 hv0 hv1 hI
  refine gh_callS (As := .ref b0 :: ([.int (zI ((xs (i + 1).toNat).toInt)), .int (zI ((xs (i + 2).toNat).toInt))] ++ [.ref (b0 + 620)])) (rest := []) ⟨hx, hb, hml, hown, hts⟩ hK hM hE hH (cuH (n := 4) hts uw_link u_860 u_0 (by decide) u_861 ⟨Nat.le_of_ble_eq_true rfl, Nat.le_of_ble_eq_true rfl⟩) rfl hl.1 rfl (Nat.le_of_ble_eq_true rfl) dL_law_1325 ⟨rm_c (by omega), rm_s (by omega)⟩ (fun k f1 H locs hM hk => ?_)
  obtain ⟨⟨fs, hfs⟩, postM, hMo, hn⟩ := hn k f1 hk
  refine lv_istore (lv' := (6, .int k) :: lwL bs b0 i) hx hb dL_law_1328 hl (by decide) rfl (fun ls hl => ?_)
  refine lv_aload_n hx hb dL_law_1330 rfl (lv_at hl 4 rfl) ?_
  refine lr_arg (j := 1) C hM (lv_at hl 6 rfl) (lv_at hl 1 rfl) (by omega) (by omega) dL_law_1331 dL_law_1332 dL_law_1334 dL_law_1335 dL_law_1336 ?_
  refine lr_arg (j := 2) C hM (lv_at hl 6 rfl) (lv_at hl 1 rfl) (by omega) (by omega) dL_law_1337 dL_law_1338 dL_law_1340 dL_law_1341 dL_law_1342 ?_
  refine g_callVl (ci := 11) (C := RX9) (T := TX9) (N := 24) (As := [.int (zI ((xs (i + 1).toNat).toInt)), .int (zI ((xs (i + 2).toNat).toInt))]) (rest := []) ⟨hx, hb, hml, hown, hts⟩ hK hM hMo (cuV (n := 2) hts u_1429 u_1426 u_10 (by decide) u_1427 u_1428 ⟨Nat.le_of_ble_eq_true rfl, Nat.le_of_ble_eq_true rfl⟩) ⟨by omega, by omega⟩ hfs rfl rfl hl.1 rfl (Nat.le_of_ble_eq_true rfl) dL_law_1343 ⟨rm_c (by omega), rm_s (by omega)⟩ (fun r f2 H locs hM hr => ?_)
  refine lv_lstore (lv' := (7, .long r) :: (6, .int k) :: lwL bs b0 i) hx hb dL_law_1346 hl (by decide) rfl (fun ls hl => ?_)
  obtain ⟨cd1, hcd, rfl, hI1, hv⟩ := hn r f2 hr
  refine lr_tell C hM hI1 hcd hl.1 (lv_at hl 5 rfl) (lv_at hl 1 rfl) ⟨by omega, by omega⟩ dL_law_1348 dL_law_1349 dL_law_1352 dL_law_1354 (fun H locs hM => ?_)
  exact lr_valL (tgt := 2508) C hM hcd hv (lv_at hl 4 rfl) (lv_at hl 1 rfl) (lv_at hl 0 rfl) dL_law_1359 dL_law_1361 dL_law_1364 dL_law_1365 dL_law_1366 dL_law_1367 dL_law_1369 dL_law_1370 dL_law_1375 (by decide) (W.widen (k := cells + 3) (n := slots + 18) (by omega) (by omega) (kk f2 H locs ls cd1 hM hI1 (lv_sub hl [2, 3, 4, 5, 6, 7] rfl)))
set_option maxRecDepth 100000 in
set_option maxHeartbeats 2000000 in
theorem lc_17 {p : Program} {l : Launch} {e : Env} {s : State} {m : MethodId} {args : Array Value} {below : List Frame} {meth : Method} {c : Code} {H : Heap} {locs : List Loc} {cells slots : Nat} {Q : State → Prop} {ls : Array Slot} {g : gE} {b0 bs L : Nat} {f : gF} {xs : Nat → Int32} {i v cd : Int} (C : LWC p l s m args c g b0 bs L xs) (hM : gH g b0 622 f s.heap H locs) (hI : lwI g b0 v cd f) (hv0 : 0 ≤ v) (hv1 : v ≤ 20000000) (hi : 0 ≤ i ∧ i + 5 ≤ L) (hl : lv_has ls 9 (lwL bs b0 i)) (hcs : cells + 3 ≤ 603072 ∧ slots + 18 ≤ 7186538) (kk : ∀ (f1 : gF) (H1 : Heap) (locs1 : List Loc) (ls1 : Array Slot) (cd1 : Int), gH g b0 622 f1 s.heap H1 locs1 → lwI g b0 (v + 33542) cd1 f1 → lv_has ls1 9 (lwL bs b0 i) → W p l e room_1 s m args below meth c H1 locs1 (cells + 3) (slots + 18) Q (F0 m 2508 ls1 [])) : W p l e room_1 s m args below meth c H locs cells slots Q (F0 m 1378 ls []) := by
  obtain ⟨hx, hb, hml, hown, hts, hK, hE, hX, hbs, hbb, hl9, hL⟩ := id C
  refine lv_aload_n hx hb dL_law_1378 rfl (lv_at hl 4 rfl) ?_
  refine lr_arg (j := 1) C hM (lv_at hl 5 rfl) (lv_at hl 0 rfl) (by omega) (by omega) dL_law_1379 dL_law_1380 dL_law_1382 dL_law_1383 dL_law_1384 ?_
  refine lr_arg (j := 2) C hM (lv_at hl 5 rfl) (lv_at hl 0 rfl) (by omega) (by omega) dL_law_1385 dL_law_1386 dL_law_1388 dL_law_1389 dL_law_1390 ?_
  refine lv_aload_n hx hb dL_law_1391 rfl (lv_at hl 2 rfl) ?_
  obtain ⟨postH, hH, hn⟩ := j_item l g b0 f v cd ((xs (i + 1).toNat).toInt) (rI_self _) ((xs (i + 2).toNat).toInt) (rI_self _) hl9 hv0 hv1 hI
  refine gh_callS (As := .ref b0 :: ([.int (zI ((xs (i + 1).toNat).toInt)), .int (zI ((xs (i + 2).toNat).toInt))] ++ [.ref (b0 + 620)])) (rest := []) ⟨hx, hb, hml, hown, hts⟩ hK hM hE hH (cuH (n := 4) hts uw_item u_872 u_0 (by decide) u_873 ⟨Nat.le_of_ble_eq_true rfl, Nat.le_of_ble_eq_true rfl⟩) rfl hl.1 rfl (Nat.le_of_ble_eq_true rfl) dL_law_1392 ⟨rm_c (by omega), rm_s (by omega)⟩ (fun k f1 H locs hM hk => ?_)
  obtain ⟨⟨fs, hfs⟩, postM, hMo, hn⟩ := hn k f1 hk
  refine lv_istore (lv' := (6, .int k) :: lwL bs b0 i) hx hb dL_law_1395 hl (by decide) rfl (fun ls hl => ?_)
  refine lv_aload_n hx hb dL_law_1397 rfl (lv_at hl 4 rfl) ?_
  refine lr_arg (j := 1) C hM (lv_at hl 6 rfl) (lv_at hl 1 rfl) (by omega) (by omega) dL_law_1398 dL_law_1399 dL_law_1401 dL_law_1402 dL_law_1403 ?_
  refine lr_arg (j := 2) C hM (lv_at hl 6 rfl) (lv_at hl 1 rfl) (by omega) (by omega) dL_law_1404 dL_law_1405 dL_law_1407 dL_law_1408 dL_law_1409 ?_
  refine g_callVi (ci := 11) (C := RX9) (T := TX9) (N := 24) (As := [.int (zI ((xs (i + 1).toNat).toInt)), .int (zI ((xs (i + 2).toNat).toInt))]) (rest := []) ⟨hx, hb, hml, hown, hts⟩ hK hM hMo (cuV (n := 2) hts u_1433 u_1430 u_10 (by decide) u_1431 u_1432 ⟨Nat.le_of_ble_eq_true rfl, Nat.le_of_ble_eq_true rfl⟩) ⟨by omega, by omega⟩ hfs rfl rfl hl.1 rfl (Nat.le_of_ble_eq_true rfl) dL_law_1410 ⟨rm_c (by omega), rm_s (by omega)⟩ (fun r f2 H locs hM hr => ?_)
  refine lv_istore (lv' := (7, .int r) :: (6, .int k) :: lwL bs b0 i) hx hb dL_law_1413 hl (by decide) rfl (fun ls hl => ?_)
  obtain ⟨cd1, hcd, rfl, hI1, hv⟩ := hn r f2 hr
  refine lr_tell C hM hI1 hcd hl.1 (lv_at hl 5 rfl) (lv_at hl 1 rfl) ⟨by omega, by omega⟩ dL_law_1415 dL_law_1416 dL_law_1419 dL_law_1421 (fun H locs hM => ?_)
  exact lr_valI (tgt := 2508) C hM hcd hv (lv_at hl 4 rfl) (lv_at hl 1 rfl) (lv_at hl 0 rfl) dL_law_1426 dL_law_1428 dL_law_1431 dL_law_1432 dL_law_1433 dL_law_1434 dL_law_1436 dL_law_1437 dL_law_1438 dL_law_1443 (by decide) (W.widen (k := cells + 3) (n := slots + 18) (by omega) (by omega) (kk f2 H locs ls cd1 hM hI1 (lv_sub hl [2, 3, 4, 5, 6, 7] rfl)))
set_option maxRecDepth 100000 in
set_option maxHeartbeats 2000000 in
theorem lc_18 {p : Program} {l : Launch} {e : Env} {s : State} {m : MethodId} {args : Array Value} {below : List Frame} {meth : Method} {c : Code} {H : Heap} {locs : List Loc} {cells slots : Nat} {Q : State → Prop} {ls : Array Slot} {g : gE} {b0 bs L : Nat} {f : gF} {xs : Nat → Int32} {i v cd : Int} (C : LWC p l s m args c g b0 bs L xs) (hM : gH g b0 622 f s.heap H locs) (hI : lwI g b0 v cd f) (hv0 : 0 ≤ v) (hv1 : v ≤ 20000000) (hi : 0 ≤ i ∧ i + 5 ≤ L) (hl : lv_has ls 9 (lwL bs b0 i)) (hcs : cells + 3 ≤ 603072 ∧ slots + 18 ≤ 7186538) (kk : ∀ (f1 : gF) (H1 : Heap) (locs1 : List Loc) (ls1 : Array Slot) (cd1 : Int), gH g b0 622 f1 s.heap H1 locs1 → lwI g b0 (v + 33542) cd1 f1 → lv_has ls1 9 (lwL bs b0 i) → W p l e room_1 s m args below meth c H1 locs1 (cells + 3) (slots + 18) Q (F0 m 2508 ls1 [])) : W p l e room_1 s m args below meth c H locs cells slots Q (F0 m 1446 ls []) := by
  obtain ⟨hx, hb, hml, hown, hts, hK, hE, hX, hbs, hbb, hl9, hL⟩ := id C
  refine lv_aload_n hx hb dL_law_1446 rfl (lv_at hl 4 rfl) ?_
  refine lr_arg (j := 1) C hM (lv_at hl 5 rfl) (lv_at hl 0 rfl) (by omega) (by omega) dL_law_1447 dL_law_1448 dL_law_1450 dL_law_1451 dL_law_1452 ?_
  refine lv_aload_n hx hb dL_law_1453 rfl (lv_at hl 2 rfl) ?_
  obtain ⟨postH, hH, hn⟩ := j_total l g b0 f v cd ((xs (i + 1).toNat).toInt) (rI_self _) hl9 hv0 hv1 hI
  refine gh_callS (As := .ref b0 :: ([.int (zI ((xs (i + 1).toNat).toInt))] ++ [.ref (b0 + 620)])) (rest := []) ⟨hx, hb, hml, hown, hts⟩ hK hM hE hH (cuH (n := 3) hts uw_total u_884 u_0 (by decide) u_885 ⟨Nat.le_of_ble_eq_true rfl, Nat.le_of_ble_eq_true rfl⟩) rfl hl.1 rfl (Nat.le_of_ble_eq_true rfl) dL_law_1454 ⟨rm_c (by omega), rm_s (by omega)⟩ (fun k f1 H locs hM hk => ?_)
  obtain ⟨⟨fs, hfs⟩, postM, hMo, hn⟩ := hn k f1 hk
  refine lv_istore (lv' := (6, .int k) :: lwL bs b0 i) hx hb dL_law_1457 hl (by decide) rfl (fun ls hl => ?_)
  refine lv_aload_n hx hb dL_law_1459 rfl (lv_at hl 4 rfl) ?_
  refine lr_arg (j := 1) C hM (lv_at hl 6 rfl) (lv_at hl 1 rfl) (by omega) (by omega) dL_law_1460 dL_law_1461 dL_law_1463 dL_law_1464 dL_law_1465 ?_
  refine g_callVl (ci := 11) (C := RX9) (T := TX9) (N := 24) (As := [.int (zI ((xs (i + 1).toNat).toInt))]) (rest := []) ⟨hx, hb, hml, hown, hts⟩ hK hM hMo (cuV (n := 1) hts u_1438 u_1435 u_10 (by decide) u_1436 u_1437 ⟨Nat.le_of_ble_eq_true rfl, Nat.le_of_ble_eq_true rfl⟩) ⟨by omega, by omega⟩ hfs rfl rfl hl.1 rfl (Nat.le_of_ble_eq_true rfl) dL_law_1466 ⟨rm_c (by omega), rm_s (by omega)⟩ (fun r f2 H locs hM hr => ?_)
  refine lv_lstore (lv' := (7, .long r) :: (6, .int k) :: lwL bs b0 i) hx hb dL_law_1469 hl (by decide) rfl (fun ls hl => ?_)
  obtain ⟨cd1, hcd, rfl, hI1, hv⟩ := hn r f2 hr
  refine lr_tell C hM hI1 hcd hl.1 (lv_at hl 5 rfl) (lv_at hl 1 rfl) ⟨by omega, by omega⟩ dL_law_1471 dL_law_1472 dL_law_1475 dL_law_1477 (fun H locs hM => ?_)
  exact lr_valL (tgt := 2508) C hM hcd hv (lv_at hl 4 rfl) (lv_at hl 1 rfl) (lv_at hl 0 rfl) dL_law_1482 dL_law_1484 dL_law_1487 dL_law_1488 dL_law_1489 dL_law_1490 dL_law_1492 dL_law_1493 dL_law_1498 (by decide) (W.widen (k := cells + 3) (n := slots + 18) (by omega) (by omega) (kk f2 H locs ls cd1 hM hI1 (lv_sub hl [2, 3, 4, 5, 6, 7] rfl)))
set_option maxRecDepth 100000 in
set_option maxHeartbeats 2000000 in
theorem lc_19 {p : Program} {l : Launch} {e : Env} {s : State} {m : MethodId} {args : Array Value} {below : List Frame} {meth : Method} {c : Code} {H : Heap} {locs : List Loc} {cells slots : Nat} {Q : State → Prop} {ls : Array Slot} {g : gE} {b0 bs L : Nat} {f : gF} {xs : Nat → Int32} {i v cd : Int} (C : LWC p l s m args c g b0 bs L xs) (hM : gH g b0 622 f s.heap H locs) (hI : lwI g b0 v cd f) (hv0 : 0 ≤ v) (hv1 : v ≤ 20000000) (hi : 0 ≤ i ∧ i + 5 ≤ L) (hl : lv_has ls 9 (lwL bs b0 i)) (hcs : cells + 3 ≤ 603072 ∧ slots + 18 ≤ 7186538) (kk : ∀ (f1 : gF) (H1 : Heap) (locs1 : List Loc) (ls1 : Array Slot) (cd1 : Int), gH g b0 622 f1 s.heap H1 locs1 → lwI g b0 (v + 33542) cd1 f1 → lv_has ls1 9 (lwL bs b0 i) → W p l e room_1 s m args below meth c H1 locs1 (cells + 3) (slots + 18) Q (F0 m 2508 ls1 [])) : W p l e room_1 s m args below meth c H locs cells slots Q (F0 m 1501 ls []) := by
  obtain ⟨hx, hb, hml, hown, hts, hK, hE, hX, hbs, hbb, hl9, hL⟩ := id C
  refine lv_aload_n hx hb dL_law_1501 rfl (lv_at hl 4 rfl) ?_
  refine lv_aload hx hb dL_law_1502 (lv_at hl 1 rfl) ?_
  obtain ⟨postH, hH, hn⟩ := j_savedShare l g b0 f v cd  hl9 hv0 hv1 hI
  refine gh_callS (As := .ref b0 :: ([] ++ [.ref (b0 + 621)])) (rest := []) ⟨hx, hb, hml, hown, hts⟩ hK hM hE hH (cuH (n := 2) hts uw_savedShare u_899 u_0 (by decide) u_900 ⟨Nat.le_of_ble_eq_true rfl, Nat.le_of_ble_eq_true rfl⟩) rfl hl.1 rfl (Nat.le_of_ble_eq_true rfl) dL_law_1504 ⟨rm_c (by omega), rm_s (by omega)⟩ (fun k f1 H locs hM hk => ?_)
  obtain ⟨⟨fs, hfs⟩, postM, hMo, hn⟩ := hn k f1 hk
  refine lv_istore (lv' := (6, .int k) :: lwL bs b0 i) hx hb dL_law_1507 hl (by decide) rfl (fun ls hl => ?_)
  refine lv_aload_n hx hb dL_law_1509 rfl (lv_at hl 4 rfl) ?_
  refine g_callVd (ci := 11) (C := RX9) (T := TX9) (N := 24) (As := []) (rest := []) ⟨hx, hb, hml, hown, hts⟩ hK hM hMo (cuV (n := 0) hts u_1451 u_1448 u_10 (by decide) u_1449 u_1450 ⟨Nat.le_of_ble_eq_true rfl, Nat.le_of_ble_eq_true rfl⟩) ⟨by omega, by omega⟩ hfs rfl rfl hl.1 rfl (Nat.le_of_ble_eq_true rfl) dL_law_1510 ⟨rm_c (by omega), rm_s (by omega)⟩ (fun r f2 H locs hM hr => ?_)
  refine lv_dstore (lv' := (7, .double r) :: (6, .int k) :: lwL bs b0 i) hx hb dL_law_1513 hl (by decide) rfl (fun ls hl => ?_)
  obtain ⟨cd1, hcd, rfl, hI1, hv⟩ := hn r f2 hr
  refine lr_tell C hM hI1 hcd hl.1 (lv_at hl 5 rfl) (lv_at hl 1 rfl) ⟨by omega, by omega⟩ dL_law_1515 dL_law_1516 dL_law_1519 dL_law_1521 (fun H locs hM => ?_)
  have hgo : W p l e room_1 s m args below meth c H locs (cells + 1) (slots + 6 * 1) Q (F0 m 1563 ls []) := lv_goto (tgt := 2508) hx hb dL_law_1563 (by decide) (W.widen (k := cells + 3) (n := slots + 18) (by omega) (by omega) (kk f2 H locs ls cd1 hM hI1 (lv_sub hl [2, 3, 4, 5, 6, 7] rfl)))
  refine lv_iload hx hb dL_law_1526 (lv_at hl 1 rfl) ?_
  refine g_if_ne (tgt := 1563) hx hb dL_law_1528 (by decide) hcd (fun _ => hgo) (fun h0 => ?_)
  obtain ⟨hw1, hw2⟩ := hv h0
  refine lv_aload hx hb dL_law_1531 (lv_at hl 3 rfl) ?_
  refine g_iconst hx hb dL_law_1533 ?_
  refine g_dald hx hb hK hM ⟨by omega, by omega⟩ hw1 (by decide) (by decide) (by decide) dL_law_1534 ?_
  refine lv_dload hx hb dL_law_1535 (lv_at hl 0 rfl) ?_
  refine lv_dcmp hx hb dL_law_1537 ?_
  rw [dcmp_rf hw2]
  exact g_if_eq (tgt := 1563) hx hb dL_law_1538 (by decide) rI_0 (fun _ => hgo) (fun hn => absurd rfl hn)
set_option maxRecDepth 100000 in
set_option maxHeartbeats 2000000 in
theorem lc_20 {p : Program} {l : Launch} {e : Env} {s : State} {m : MethodId} {args : Array Value} {below : List Frame} {meth : Method} {c : Code} {H : Heap} {locs : List Loc} {cells slots : Nat} {Q : State → Prop} {ls : Array Slot} {g : gE} {b0 bs L : Nat} {f : gF} {xs : Nat → Int32} {i v cd : Int} (C : LWC p l s m args c g b0 bs L xs) (hM : gH g b0 622 f s.heap H locs) (hI : lwI g b0 v cd f) (hv0 : 0 ≤ v) (hv1 : v ≤ 20000000) (hi : 0 ≤ i ∧ i + 5 ≤ L) (hl : lv_has ls 9 (lwL bs b0 i)) (hcs : cells + 3 ≤ 603072 ∧ slots + 18 ≤ 7186538) (kk : ∀ (f1 : gF) (H1 : Heap) (locs1 : List Loc) (ls1 : Array Slot) (cd1 : Int), gH g b0 622 f1 s.heap H1 locs1 → lwI g b0 (v + 33542) cd1 f1 → lv_has ls1 9 (lwL bs b0 i) → W p l e room_1 s m args below meth c H1 locs1 (cells + 3) (slots + 18) Q (F0 m 2508 ls1 [])) : W p l e room_1 s m args below meth c H locs cells slots Q (F0 m 1566 ls []) := by
  obtain ⟨hx, hb, hml, hown, hts, hK, hE, hX, hbs, hbb, hl9, hL⟩ := id C
  refine lv_aload_n hx hb dL_law_1566 rfl (lv_at hl 4 rfl) ?_
  refine lr_arg (j := 1) C hM (lv_at hl 5 rfl) (lv_at hl 0 rfl) (by omega) (by omega) dL_law_1567 dL_law_1568 dL_law_1570 dL_law_1571 dL_law_1572 ?_
  refine lr_arg (j := 2) C hM (lv_at hl 5 rfl) (lv_at hl 0 rfl) (by omega) (by omega) dL_law_1573 dL_law_1574 dL_law_1576 dL_law_1577 dL_law_1578 ?_
  refine lv_aload_n hx hb dL_law_1579 rfl (lv_at hl 2 rfl) ?_
  obtain ⟨postH, hH, hn⟩ := j_forecast l g b0 f v cd ((xs (i + 1).toNat).toInt) (rI_self _) ((xs (i + 2).toNat).toInt) (rI_self _) hl9 hv0 hv1 hI
  refine gh_callS (As := .ref b0 :: ([.int (zI ((xs (i + 1).toNat).toInt)), .int (zI ((xs (i + 2).toNat).toInt))] ++ [.ref (b0 + 620)])) (rest := []) ⟨hx, hb, hml, hown, hts⟩ hK hM hE hH (cuH (n := 4) hts uw_forecast u_923 u_0 (by decide) u_924 ⟨Nat.le_of_ble_eq_true rfl, Nat.le_of_ble_eq_true rfl⟩) rfl hl.1 rfl (Nat.le_of_ble_eq_true rfl) dL_law_1580 ⟨rm_c (by omega), rm_s (by omega)⟩ (fun k f1 H locs hM hk => ?_)
  obtain ⟨⟨fs, hfs⟩, postM, hMo, hn⟩ := hn k f1 hk
  refine lv_istore (lv' := (6, .int k) :: lwL bs b0 i) hx hb dL_law_1583 hl (by decide) rfl (fun ls hl => ?_)
  refine lv_aload_n hx hb dL_law_1585 rfl (lv_at hl 4 rfl) ?_
  refine lr_arg (j := 1) C hM (lv_at hl 6 rfl) (lv_at hl 1 rfl) (by omega) (by omega) dL_law_1586 dL_law_1587 dL_law_1589 dL_law_1590 dL_law_1591 ?_
  refine lr_arg (j := 2) C hM (lv_at hl 6 rfl) (lv_at hl 1 rfl) (by omega) (by omega) dL_law_1592 dL_law_1593 dL_law_1595 dL_law_1596 dL_law_1597 ?_
  refine g_callVl (ci := 11) (C := RX9) (T := TX9) (N := 24) (As := [.int (zI ((xs (i + 1).toNat).toInt)), .int (zI ((xs (i + 2).toNat).toInt))]) (rest := []) ⟨hx, hb, hml, hown, hts⟩ hK hM hMo (cuV (n := 2) hts u_1455 u_1452 u_10 (by decide) u_1453 u_1454 ⟨Nat.le_of_ble_eq_true rfl, Nat.le_of_ble_eq_true rfl⟩) ⟨by omega, by omega⟩ hfs rfl rfl hl.1 rfl (Nat.le_of_ble_eq_true rfl) dL_law_1598 ⟨rm_c (by omega), rm_s (by omega)⟩ (fun r f2 H locs hM hr => ?_)
  refine lv_lstore (lv' := (7, .long r) :: (6, .int k) :: lwL bs b0 i) hx hb dL_law_1601 hl (by decide) rfl (fun ls hl => ?_)
  obtain ⟨cd1, hcd, rfl, hI1, hv⟩ := hn r f2 hr
  refine lr_tell C hM hI1 hcd hl.1 (lv_at hl 5 rfl) (lv_at hl 1 rfl) ⟨by omega, by omega⟩ dL_law_1603 dL_law_1604 dL_law_1607 dL_law_1609 (fun H locs hM => ?_)
  exact lr_valL (tgt := 2508) C hM hcd hv (lv_at hl 4 rfl) (lv_at hl 1 rfl) (lv_at hl 0 rfl) dL_law_1614 dL_law_1616 dL_law_1619 dL_law_1620 dL_law_1621 dL_law_1622 dL_law_1624 dL_law_1625 dL_law_1630 (by decide) (W.widen (k := cells + 3) (n := slots + 18) (by omega) (by omega) (kk f2 H locs ls cd1 hM hI1 (lv_sub hl [2, 3, 4, 5, 6, 7] rfl)))
set_option maxRecDepth 100000 in
set_option maxHeartbeats 2000000 in
theorem lc_21 {p : Program} {l : Launch} {e : Env} {s : State} {m : MethodId} {args : Array Value} {below : List Frame} {meth : Method} {c : Code} {H : Heap} {locs : List Loc} {cells slots : Nat} {Q : State → Prop} {ls : Array Slot} {g : gE} {b0 bs L : Nat} {f : gF} {xs : Nat → Int32} {i v cd : Int} (C : LWC p l s m args c g b0 bs L xs) (hM : gH g b0 622 f s.heap H locs) (hI : lwI g b0 v cd f) (hv0 : 0 ≤ v) (hv1 : v ≤ 20000000) (hi : 0 ≤ i ∧ i + 5 ≤ L) (hl : lv_has ls 9 (lwL bs b0 i)) (hcs : cells + 3 ≤ 603072 ∧ slots + 18 ≤ 7186538) (kk : ∀ (f1 : gF) (H1 : Heap) (locs1 : List Loc) (ls1 : Array Slot) (cd1 : Int), gH g b0 622 f1 s.heap H1 locs1 → lwI g b0 (v + 33542) cd1 f1 → lv_has ls1 9 (lwL bs b0 i) → W p l e room_1 s m args below meth c H1 locs1 (cells + 3) (slots + 18) Q (F0 m 2508 ls1 [])) : W p l e room_1 s m args below meth c H locs cells slots Q (F0 m 1633 ls []) := by
  obtain ⟨hx, hb, hml, hown, hts, hK, hE, hX, hbs, hbb, hl9, hL⟩ := id C
  refine lv_aload_n hx hb dL_law_1633 rfl (lv_at hl 4 rfl) ?_
  refine lr_arg (j := 1) C hM (lv_at hl 5 rfl) (lv_at hl 0 rfl) (by omega) (by omega) dL_law_1634 dL_law_1635 dL_law_1637 dL_law_1638 dL_law_1639 ?_
  refine lr_arg (j := 2) C hM (lv_at hl 5 rfl) (lv_at hl 0 rfl) (by omega) (by omega) dL_law_1640 dL_law_1641 dL_law_1643 dL_law_1644 dL_law_1645 ?_
  refine lv_aload_n hx hb dL_law_1646 rfl (lv_at hl 2 rfl) ?_
  obtain ⟨postH, hH, hn⟩ := j_daysUntil l g b0 f v cd ((xs (i + 1).toNat).toInt) (rI_self _) ((xs (i + 2).toNat).toInt) (rI_self _) hl9 hv0 hv1 hI
  refine gh_callS (As := .ref b0 :: ([.int (zI ((xs (i + 1).toNat).toInt)), .int (zI ((xs (i + 2).toNat).toInt))] ++ [.ref (b0 + 620)])) (rest := []) ⟨hx, hb, hml, hown, hts⟩ hK hM hE hH (cuH (n := 4) hts uw_daysUntil u_934 u_0 (by decide) u_935 ⟨Nat.le_of_ble_eq_true rfl, Nat.le_of_ble_eq_true rfl⟩) rfl hl.1 rfl (Nat.le_of_ble_eq_true rfl) dL_law_1647 ⟨rm_c (by omega), rm_s (by omega)⟩ (fun k f1 H locs hM hk => ?_)
  obtain ⟨⟨fs, hfs⟩, postM, hMo, hn⟩ := hn k f1 hk
  refine lv_istore (lv' := (6, .int k) :: lwL bs b0 i) hx hb dL_law_1650 hl (by decide) rfl (fun ls hl => ?_)
  refine lv_aload_n hx hb dL_law_1652 rfl (lv_at hl 4 rfl) ?_
  refine lr_arg (j := 1) C hM (lv_at hl 6 rfl) (lv_at hl 1 rfl) (by omega) (by omega) dL_law_1653 dL_law_1654 dL_law_1656 dL_law_1657 dL_law_1658 ?_
  refine lr_arg (j := 2) C hM (lv_at hl 6 rfl) (lv_at hl 1 rfl) (by omega) (by omega) dL_law_1659 dL_law_1660 dL_law_1662 dL_law_1663 dL_law_1664 ?_
  refine g_callVi (ci := 11) (C := RX9) (T := TX9) (N := 24) (As := [.int (zI ((xs (i + 1).toNat).toInt)), .int (zI ((xs (i + 2).toNat).toInt))]) (rest := []) ⟨hx, hb, hml, hown, hts⟩ hK hM hMo (cuV (n := 2) hts u_1465 u_1462 u_10 (by decide) u_1463 u_1464 ⟨Nat.le_of_ble_eq_true rfl, Nat.le_of_ble_eq_true rfl⟩) ⟨by omega, by omega⟩ hfs rfl rfl hl.1 rfl (Nat.le_of_ble_eq_true rfl) dL_law_1665 ⟨rm_c (by omega), rm_s (by omega)⟩ (fun r f2 H locs hM hr => ?_)
  refine lv_istore (lv' := (7, .int r) :: (6, .int k) :: lwL bs b0 i) hx hb dL_law_1668 hl (by decide) rfl (fun ls hl => ?_)
  obtain ⟨cd1, hcd, rfl, hI1, hv⟩ := hn r f2 hr
  refine lr_tell C hM hI1 hcd hl.1 (lv_at hl 5 rfl) (lv_at hl 1 rfl) ⟨by omega, by omega⟩ dL_law_1670 dL_law_1671 dL_law_1674 dL_law_1676 (fun H locs hM => ?_)
  exact lr_valI (tgt := 2508) C hM hcd hv (lv_at hl 4 rfl) (lv_at hl 1 rfl) (lv_at hl 0 rfl) dL_law_1681 dL_law_1683 dL_law_1686 dL_law_1687 dL_law_1688 dL_law_1689 dL_law_1691 dL_law_1692 dL_law_1693 dL_law_1698 (by decide) (W.widen (k := cells + 3) (n := slots + 18) (by omega) (by omega) (kk f2 H locs ls cd1 hM hI1 (lv_sub hl [2, 3, 4, 5, 6, 7] rfl)))
set_option maxRecDepth 100000 in
set_option maxHeartbeats 2000000 in
theorem lc_22 {p : Program} {l : Launch} {e : Env} {s : State} {m : MethodId} {args : Array Value} {below : List Frame} {meth : Method} {c : Code} {H : Heap} {locs : List Loc} {cells slots : Nat} {Q : State → Prop} {ls : Array Slot} {g : gE} {b0 bs L : Nat} {f : gF} {xs : Nat → Int32} {i v cd : Int} (C : LWC p l s m args c g b0 bs L xs) (hM : gH g b0 622 f s.heap H locs) (hI : lwI g b0 v cd f) (hv0 : 0 ≤ v) (hv1 : v ≤ 20000000) (hi : 0 ≤ i ∧ i + 5 ≤ L) (hl : lv_has ls 9 (lwL bs b0 i)) (hcs : cells + 3 ≤ 603072 ∧ slots + 18 ≤ 7186538) (kk : ∀ (f1 : gF) (H1 : Heap) (locs1 : List Loc) (ls1 : Array Slot) (cd1 : Int), gH g b0 622 f1 s.heap H1 locs1 → lwI g b0 (v + 33542) cd1 f1 → lv_has ls1 9 (lwL bs b0 i) → W p l e room_1 s m args below meth c H1 locs1 (cells + 3) (slots + 18) Q (F0 m 2508 ls1 [])) : W p l e room_1 s m args below meth c H locs cells slots Q (F0 m 1701 ls []) := by
  obtain ⟨hx, hb, hml, hown, hts, hK, hE, hX, hbs, hbb, hl9, hL⟩ := id C
  refine lv_aload_n hx hb dL_law_1701 rfl (lv_at hl 4 rfl) ?_
  refine lr_arg (j := 1) C hM (lv_at hl 5 rfl) (lv_at hl 0 rfl) (by omega) (by omega) dL_law_1702 dL_law_1703 dL_law_1705 dL_law_1706 dL_law_1707 ?_
  refine lr_arg (j := 2) C hM (lv_at hl 5 rfl) (lv_at hl 0 rfl) (by omega) (by omega) dL_law_1708 dL_law_1709 dL_law_1711 dL_law_1712 dL_law_1713 ?_
  refine lv_aload_n hx hb dL_law_1714 rfl (lv_at hl 2 rfl) ?_
  obtain ⟨postH, hH, hn⟩ := j_spare l g b0 f v cd ((xs (i + 1).toNat).toInt) (rI_self _) ((xs (i + 2).toNat).toInt) (rI_self _) hl9 hv0 hv1 hI
  refine gh_callS (As := .ref b0 :: ([.int (zI ((xs (i + 1).toNat).toInt)), .int (zI ((xs (i + 2).toNat).toInt))] ++ [.ref (b0 + 620)])) (rest := []) ⟨hx, hb, hml, hown, hts⟩ hK hM hE hH (cuH (n := 4) hts uw_spare u_959 u_0 (by decide) u_960 ⟨Nat.le_of_ble_eq_true rfl, Nat.le_of_ble_eq_true rfl⟩) rfl hl.1 rfl (Nat.le_of_ble_eq_true rfl) dL_law_1715 ⟨rm_c (by omega), rm_s (by omega)⟩ (fun k f1 H locs hM hk => ?_)
  obtain ⟨⟨fs, hfs⟩, postM, hMo, hn⟩ := hn k f1 hk
  refine lv_istore (lv' := (6, .int k) :: lwL bs b0 i) hx hb dL_law_1718 hl (by decide) rfl (fun ls hl => ?_)
  refine lv_aload_n hx hb dL_law_1720 rfl (lv_at hl 4 rfl) ?_
  refine lr_arg (j := 1) C hM (lv_at hl 6 rfl) (lv_at hl 1 rfl) (by omega) (by omega) dL_law_1721 dL_law_1722 dL_law_1724 dL_law_1725 dL_law_1726 ?_
  refine lr_arg (j := 2) C hM (lv_at hl 6 rfl) (lv_at hl 1 rfl) (by omega) (by omega) dL_law_1727 dL_law_1728 dL_law_1730 dL_law_1731 dL_law_1732 ?_
  refine g_callVi (ci := 11) (C := RX9) (T := TX9) (N := 24) (As := [.int (zI ((xs (i + 1).toNat).toInt)), .int (zI ((xs (i + 2).toNat).toInt))]) (rest := []) ⟨hx, hb, hml, hown, hts⟩ hK hM hMo (cuV (n := 2) hts u_1469 u_1466 u_10 (by decide) u_1467 u_1468 ⟨Nat.le_of_ble_eq_true rfl, Nat.le_of_ble_eq_true rfl⟩) ⟨by omega, by omega⟩ hfs rfl rfl hl.1 rfl (Nat.le_of_ble_eq_true rfl) dL_law_1733 ⟨rm_c (by omega), rm_s (by omega)⟩ (fun r f2 H locs hM hr => ?_)
  refine lv_istore (lv' := (7, .int r) :: (6, .int k) :: lwL bs b0 i) hx hb dL_law_1736 hl (by decide) rfl (fun ls hl => ?_)
  obtain ⟨cd1, hcd, rfl, hI1, hv⟩ := hn r f2 hr
  refine lr_tell C hM hI1 hcd hl.1 (lv_at hl 5 rfl) (lv_at hl 1 rfl) ⟨by omega, by omega⟩ dL_law_1738 dL_law_1739 dL_law_1742 dL_law_1744 (fun H locs hM => ?_)
  exact lr_valI (tgt := 2508) C hM hcd hv (lv_at hl 4 rfl) (lv_at hl 1 rfl) (lv_at hl 0 rfl) dL_law_1749 dL_law_1751 dL_law_1754 dL_law_1755 dL_law_1756 dL_law_1757 dL_law_1759 dL_law_1760 dL_law_1761 dL_law_1766 (by decide) (W.widen (k := cells + 3) (n := slots + 18) (by omega) (by omega) (kk f2 H locs ls cd1 hM hI1 (lv_sub hl [2, 3, 4, 5, 6, 7] rfl)))
set_option maxRecDepth 100000 in
set_option maxHeartbeats 2000000 in
theorem lc_23 {p : Program} {l : Launch} {e : Env} {s : State} {m : MethodId} {args : Array Value} {below : List Frame} {meth : Method} {c : Code} {H : Heap} {locs : List Loc} {cells slots : Nat} {Q : State → Prop} {ls : Array Slot} {g : gE} {b0 bs L : Nat} {f : gF} {xs : Nat → Int32} {i v cd : Int} (C : LWC p l s m args c g b0 bs L xs) (hM : gH g b0 622 f s.heap H locs) (hI : lwI g b0 v cd f) (hv0 : 0 ≤ v) (hv1 : v ≤ 20000000) (hi : 0 ≤ i ∧ i + 5 ≤ L) (hl : lv_has ls 9 (lwL bs b0 i)) (hcs : cells + 3 ≤ 603072 ∧ slots + 18 ≤ 7186538) (kk : ∀ (f1 : gF) (H1 : Heap) (locs1 : List Loc) (ls1 : Array Slot) (cd1 : Int), gH g b0 622 f1 s.heap H1 locs1 → lwI g b0 (v + 33542) cd1 f1 → lv_has ls1 9 (lwL bs b0 i) → W p l e room_1 s m args below meth c H1 locs1 (cells + 3) (slots + 18) Q (F0 m 2508 ls1 [])) : W p l e room_1 s m args below meth c H locs cells slots Q (F0 m 1769 ls []) := by
  obtain ⟨hx, hb, hml, hown, hts, hK, hE, hX, hbs, hbb, hl9, hL⟩ := id C
  refine lv_aload_n hx hb dL_law_1769 rfl (lv_at hl 4 rfl) ?_
  refine lv_aload_n hx hb dL_law_1770 rfl (lv_at hl 2 rfl) ?_
  obtain ⟨postH, hH, hn⟩ := j_fork l g b0 f v cd  hl9 hv0 hv1 hI
  refine gh_callS (As := .ref b0 :: ([] ++ [.ref (b0 + 620)])) (rest := []) ⟨hx, hb, hml, hown, hts⟩ hK hM hE hH (cuH (n := 2) hts uw_fork u_974 u_0 (by decide) u_975 ⟨Nat.le_of_ble_eq_true rfl, Nat.le_of_ble_eq_true rfl⟩) rfl hl.1 rfl (Nat.le_of_ble_eq_true rfl) dL_law_1771 ⟨rm_c (by omega), rm_s (by omega)⟩ (fun k f1 H locs hM hk => ?_)
  obtain ⟨⟨fs, hfs⟩, postM, hMo, hn⟩ := hn k f1 hk
  refine lv_istore (lv' := (6, .int k) :: lwL bs b0 i) hx hb dL_law_1774 hl (by decide) rfl (fun ls hl => ?_)
  refine lv_aload_n hx hb dL_law_1776 rfl (lv_at hl 4 rfl) ?_
  refine g_callVi (ci := 11) (C := RX9) (T := TX9) (N := 24) (As := []) (rest := []) ⟨hx, hb, hml, hown, hts⟩ hK hM hMo (cuV (n := 0) hts u_1478 u_1475 u_10 (by decide) u_1476 u_1477 ⟨Nat.le_of_ble_eq_true rfl, Nat.le_of_ble_eq_true rfl⟩) ⟨by omega, by omega⟩ hfs rfl rfl hl.1 rfl (Nat.le_of_ble_eq_true rfl) dL_law_1777 ⟨rm_c (by omega), rm_s (by omega)⟩ (fun r f2 H locs hM hr => ?_)
  refine lv_istore (lv' := (7, .int r) :: (6, .int k) :: lwL bs b0 i) hx hb dL_law_1780 hl (by decide) rfl (fun ls hl => ?_)
  obtain ⟨cd1, hcd, rfl, hI1, hv⟩ := hn r f2 hr
  refine lr_tell C hM hI1 hcd hl.1 (lv_at hl 5 rfl) (lv_at hl 1 rfl) ⟨by omega, by omega⟩ dL_law_1782 dL_law_1783 dL_law_1786 dL_law_1788 (fun H locs hM => ?_)
  exact lr_valI (tgt := 2508) C hM hcd hv (lv_at hl 4 rfl) (lv_at hl 1 rfl) (lv_at hl 0 rfl) dL_law_1793 dL_law_1795 dL_law_1798 dL_law_1799 dL_law_1800 dL_law_1801 dL_law_1803 dL_law_1804 dL_law_1805 dL_law_1810 (by decide) (W.widen (k := cells + 3) (n := slots + 18) (by omega) (by omega) (kk f2 H locs ls cd1 hM hI1 (lv_sub hl [2, 3, 4, 5, 6, 7] rfl)))
set_option maxRecDepth 100000 in
set_option maxHeartbeats 2000000 in
theorem lc_24 {p : Program} {l : Launch} {e : Env} {s : State} {m : MethodId} {args : Array Value} {below : List Frame} {meth : Method} {c : Code} {H : Heap} {locs : List Loc} {cells slots : Nat} {Q : State → Prop} {ls : Array Slot} {g : gE} {b0 bs L : Nat} {f : gF} {xs : Nat → Int32} {i v cd : Int} (C : LWC p l s m args c g b0 bs L xs) (hM : gH g b0 622 f s.heap H locs) (hI : lwI g b0 v cd f) (hv0 : 0 ≤ v) (hv1 : v ≤ 20000000) (hi : 0 ≤ i ∧ i + 5 ≤ L) (hl : lv_has ls 9 (lwL bs b0 i)) (hcs : cells + 3 ≤ 603072 ∧ slots + 18 ≤ 7186538) (kk : ∀ (f1 : gF) (H1 : Heap) (locs1 : List Loc) (ls1 : Array Slot) (cd1 : Int), gH g b0 622 f1 s.heap H1 locs1 → lwI g b0 (v + 33542) cd1 f1 → lv_has ls1 9 (lwL bs b0 i) → W p l e room_1 s m args below meth c H1 locs1 (cells + 3) (slots + 18) Q (F0 m 2508 ls1 [])) : W p l e room_1 s m args below meth c H locs cells slots Q (F0 m 1813 ls []) := by
  obtain ⟨hx, hb, hml, hown, hts, hK, hE, hX, hbs, hbb, hl9, hL⟩ := id C
  refine lv_aload_n hx hb dL_law_1813 rfl (lv_at hl 4 rfl) ?_
  refine lr_arg (j := 1) C hM (lv_at hl 5 rfl) (lv_at hl 0 rfl) (by omega) (by omega) dL_law_1814 dL_law_1815 dL_law_1817 dL_law_1818 dL_law_1819 ?_
  refine lv_aload_n hx hb dL_law_1820 rfl (lv_at hl 2 rfl) ?_
  obtain ⟨postH, hH, hn⟩ := j_select l g b0 f v cd ((xs (i + 1).toNat).toInt) (rI_self _) hl9 hv0 hv1 hI
  refine gh_callS (As := .ref b0 :: ([.int (zI ((xs (i + 1).toNat).toInt))] ++ [.ref (b0 + 620)])) (rest := []) ⟨hx, hb, hml, hown, hts⟩ hK hM hE hH (cuH (n := 3) hts uw_select u_995 u_0 (by decide) u_996 ⟨Nat.le_of_ble_eq_true rfl, Nat.le_of_ble_eq_true rfl⟩) rfl hl.1 rfl (Nat.le_of_ble_eq_true rfl) dL_law_1821 ⟨rm_c (by omega), rm_s (by omega)⟩ (fun k f1 H locs hM hk => ?_)
  obtain ⟨⟨fs, hfs⟩, postM, hMo, hn⟩ := hn k f1 hk
  refine lv_istore (lv' := (6, .int k) :: lwL bs b0 i) hx hb dL_law_1824 hl (by decide) rfl (fun ls hl => ?_)
  refine lv_aload_n hx hb dL_law_1826 rfl (lv_at hl 4 rfl) ?_
  refine lr_arg (j := 1) C hM (lv_at hl 6 rfl) (lv_at hl 1 rfl) (by omega) (by omega) dL_law_1827 dL_law_1828 dL_law_1830 dL_law_1831 dL_law_1832 ?_
  refine g_callVi (ci := 11) (C := RX9) (T := TX9) (N := 24) (As := [.int (zI ((xs (i + 1).toNat).toInt))]) (rest := []) ⟨hx, hb, hml, hown, hts⟩ hK hM hMo (cuV (n := 1) hts u_1485 u_1482 u_10 (by decide) u_1483 u_1484 ⟨Nat.le_of_ble_eq_true rfl, Nat.le_of_ble_eq_true rfl⟩) ⟨by omega, by omega⟩ hfs rfl rfl hl.1 rfl (Nat.le_of_ble_eq_true rfl) dL_law_1833 ⟨rm_c (by omega), rm_s (by omega)⟩ (fun r f2 H locs hM hr => ?_)
  refine lv_istore (lv' := (7, .int r) :: (6, .int k) :: lwL bs b0 i) hx hb dL_law_1836 hl (by decide) rfl (fun ls hl => ?_)
  obtain ⟨cd1, hcd, rfl, hI1, hv⟩ := hn r f2 hr
  refine lr_tell C hM hI1 hcd hl.1 (lv_at hl 5 rfl) (lv_at hl 1 rfl) ⟨by omega, by omega⟩ dL_law_1838 dL_law_1839 dL_law_1842 dL_law_1844 (fun H locs hM => ?_)
  exact lr_valI (tgt := 2508) C hM hcd hv (lv_at hl 4 rfl) (lv_at hl 1 rfl) (lv_at hl 0 rfl) dL_law_1849 dL_law_1851 dL_law_1854 dL_law_1855 dL_law_1856 dL_law_1857 dL_law_1859 dL_law_1860 dL_law_1861 dL_law_1866 (by decide) (W.widen (k := cells + 3) (n := slots + 18) (by omega) (by omega) (kk f2 H locs ls cd1 hM hI1 (lv_sub hl [2, 3, 4, 5, 6, 7] rfl)))
set_option maxRecDepth 100000 in
set_option maxHeartbeats 2000000 in
theorem lc_25 {p : Program} {l : Launch} {e : Env} {s : State} {m : MethodId} {args : Array Value} {below : List Frame} {meth : Method} {c : Code} {H : Heap} {locs : List Loc} {cells slots : Nat} {Q : State → Prop} {ls : Array Slot} {g : gE} {b0 bs L : Nat} {f : gF} {xs : Nat → Int32} {i v cd : Int} (C : LWC p l s m args c g b0 bs L xs) (hM : gH g b0 622 f s.heap H locs) (hI : lwI g b0 v cd f) (hv0 : 0 ≤ v) (hv1 : v ≤ 20000000) (hi : 0 ≤ i ∧ i + 5 ≤ L) (hl : lv_has ls 9 (lwL bs b0 i)) (hcs : cells + 3 ≤ 603072 ∧ slots + 18 ≤ 7186538) (kk : ∀ (f1 : gF) (H1 : Heap) (locs1 : List Loc) (ls1 : Array Slot) (cd1 : Int), gH g b0 622 f1 s.heap H1 locs1 → lwI g b0 (v + 33542) cd1 f1 → lv_has ls1 9 (lwL bs b0 i) → W p l e room_1 s m args below meth c H1 locs1 (cells + 3) (slots + 18) Q (F0 m 2508 ls1 [])) : W p l e room_1 s m args below meth c H locs cells slots Q (F0 m 1869 ls []) := by
  obtain ⟨hx, hb, hml, hown, hts, hK, hE, hX, hbs, hbb, hl9, hL⟩ := id C
  refine lv_aload_n hx hb dL_law_1869 rfl (lv_at hl 4 rfl) ?_
  refine lr_arg (j := 1) C hM (lv_at hl 5 rfl) (lv_at hl 0 rfl) (by omega) (by omega) dL_law_1870 dL_law_1871 dL_law_1873 dL_law_1874 dL_law_1875 ?_
  refine lv_aload_n hx hb dL_law_1876 rfl (lv_at hl 2 rfl) ?_
  obtain ⟨postH, hH, hn⟩ := j_discard l g b0 f v cd ((xs (i + 1).toNat).toInt) (rI_self _) hl9 hv0 hv1 hI
  refine gh_callS (As := .ref b0 :: ([.int (zI ((xs (i + 1).toNat).toInt))] ++ [.ref (b0 + 620)])) (rest := []) ⟨hx, hb, hml, hown, hts⟩ hK hM hE hH (cuH (n := 3) hts uw_discard u_1004 u_0 (by decide) u_1005 ⟨Nat.le_of_ble_eq_true rfl, Nat.le_of_ble_eq_true rfl⟩) rfl hl.1 rfl (Nat.le_of_ble_eq_true rfl) dL_law_1877 ⟨rm_c (by omega), rm_s (by omega)⟩ (fun k f1 H locs hM hk => ?_)
  obtain ⟨⟨fs, hfs⟩, postM, hMo, hn⟩ := hn k f1 hk
  refine lv_istore (lv' := (6, .int k) :: lwL bs b0 i) hx hb dL_law_1880 hl (by decide) rfl (fun ls hl => ?_)
  refine lv_aload_n hx hb dL_law_1882 rfl (lv_at hl 4 rfl) ?_
  refine lr_arg (j := 1) C hM (lv_at hl 6 rfl) (lv_at hl 1 rfl) (by omega) (by omega) dL_law_1883 dL_law_1884 dL_law_1886 dL_law_1887 dL_law_1888 ?_
  refine g_callVi (ci := 11) (C := RX9) (T := TX9) (N := 24) (As := [.int (zI ((xs (i + 1).toNat).toInt))]) (rest := []) ⟨hx, hb, hml, hown, hts⟩ hK hM hMo (cuV (n := 1) hts u_1493 u_1490 u_10 (by decide) u_1491 u_1492 ⟨Nat.le_of_ble_eq_true rfl, Nat.le_of_ble_eq_true rfl⟩) ⟨by omega, by omega⟩ hfs rfl rfl hl.1 rfl (Nat.le_of_ble_eq_true rfl) dL_law_1889 ⟨rm_c (by omega), rm_s (by omega)⟩ (fun r f2 H locs hM hr => ?_)
  refine lv_istore (lv' := (7, .int r) :: (6, .int k) :: lwL bs b0 i) hx hb dL_law_1892 hl (by decide) rfl (fun ls hl => ?_)
  obtain ⟨cd1, hcd, rfl, hI1, hv⟩ := hn r f2 hr
  refine lr_tell C hM hI1 hcd hl.1 (lv_at hl 5 rfl) (lv_at hl 1 rfl) ⟨by omega, by omega⟩ dL_law_1894 dL_law_1895 dL_law_1898 dL_law_1900 (fun H locs hM => ?_)
  exact lr_valI (tgt := 2508) C hM hcd hv (lv_at hl 4 rfl) (lv_at hl 1 rfl) (lv_at hl 0 rfl) dL_law_1905 dL_law_1907 dL_law_1910 dL_law_1911 dL_law_1912 dL_law_1913 dL_law_1915 dL_law_1916 dL_law_1917 dL_law_1922 (by decide) (W.widen (k := cells + 3) (n := slots + 18) (by omega) (by omega) (kk f2 H locs ls cd1 hM hI1 (lv_sub hl [2, 3, 4, 5, 6, 7] rfl)))
set_option maxRecDepth 100000 in
set_option maxHeartbeats 2000000 in
theorem lc_26 {p : Program} {l : Launch} {e : Env} {s : State} {m : MethodId} {args : Array Value} {below : List Frame} {meth : Method} {c : Code} {H : Heap} {locs : List Loc} {cells slots : Nat} {Q : State → Prop} {ls : Array Slot} {g : gE} {b0 bs L : Nat} {f : gF} {xs : Nat → Int32} {i v cd : Int} (C : LWC p l s m args c g b0 bs L xs) (hM : gH g b0 622 f s.heap H locs) (hI : lwI g b0 v cd f) (hv0 : 0 ≤ v) (hv1 : v ≤ 20000000) (hi : 0 ≤ i ∧ i + 5 ≤ L) (hl : lv_has ls 9 (lwL bs b0 i)) (hcs : cells + 3 ≤ 603072 ∧ slots + 18 ≤ 7186538) (kk : ∀ (f1 : gF) (H1 : Heap) (locs1 : List Loc) (ls1 : Array Slot) (cd1 : Int), gH g b0 622 f1 s.heap H1 locs1 → lwI g b0 (v + 33542) cd1 f1 → lv_has ls1 9 (lwL bs b0 i) → W p l e room_1 s m args below meth c H1 locs1 (cells + 3) (slots + 18) Q (F0 m 2508 ls1 [])) : W p l e room_1 s m args below meth c H locs cells slots Q (F0 m 1925 ls []) := by
  obtain ⟨hx, hb, hml, hown, hts, hK, hE, hX, hbs, hbb, hl9, hL⟩ := id C
  refine lv_aload_n hx hb dL_law_1925 rfl (lv_at hl 4 rfl) ?_
  refine lr_arg (j := 1) C hM (lv_at hl 5 rfl) (lv_at hl 0 rfl) (by omega) (by omega) dL_law_1926 dL_law_1927 dL_law_1929 dL_law_1930 dL_law_1931 ?_
  refine lv_aload_n hx hb dL_law_1932 rfl (lv_at hl 2 rfl) ?_
  obtain ⟨postH, hH, hn⟩ := j_merge l g b0 f v cd ((xs (i + 1).toNat).toInt) (rI_self _) hl9 hv0 hv1 hI
  refine gh_callS (As := .ref b0 :: ([.int (zI ((xs (i + 1).toNat).toInt))] ++ [.ref (b0 + 620)])) (rest := []) ⟨hx, hb, hml, hown, hts⟩ hK hM hE hH (cuH (n := 3) hts uw_merge u_1020 u_0 (by decide) u_1021 ⟨Nat.le_of_ble_eq_true rfl, Nat.le_of_ble_eq_true rfl⟩) rfl hl.1 rfl (Nat.le_of_ble_eq_true rfl) dL_law_1933 ⟨rm_c (by omega), rm_s (by omega)⟩ (fun k f1 H locs hM hk => ?_)
  obtain ⟨⟨fs, hfs⟩, postM, hMo, hn⟩ := hn k f1 hk
  refine lv_istore (lv' := (6, .int k) :: lwL bs b0 i) hx hb dL_law_1936 hl (by decide) rfl (fun ls hl => ?_)
  refine lv_aload_n hx hb dL_law_1938 rfl (lv_at hl 4 rfl) ?_
  refine lr_arg (j := 1) C hM (lv_at hl 6 rfl) (lv_at hl 1 rfl) (by omega) (by omega) dL_law_1939 dL_law_1940 dL_law_1942 dL_law_1943 dL_law_1944 ?_
  refine g_callVi (ci := 11) (C := RX9) (T := TX9) (N := 24) (As := [.int (zI ((xs (i + 1).toNat).toInt))]) (rest := []) ⟨hx, hb, hml, hown, hts⟩ hK hM hMo (cuV (n := 1) hts u_1505 u_1502 u_10 (by decide) u_1503 u_1504 ⟨Nat.le_of_ble_eq_true rfl, Nat.le_of_ble_eq_true rfl⟩) ⟨by omega, by omega⟩ hfs rfl rfl hl.1 rfl (Nat.le_of_ble_eq_true rfl) dL_law_1945 ⟨rm_c (by omega), rm_s (by omega)⟩ (fun r f2 H locs hM hr => ?_)
  refine lv_istore (lv' := (7, .int r) :: (6, .int k) :: lwL bs b0 i) hx hb dL_law_1948 hl (by decide) rfl (fun ls hl => ?_)
  obtain ⟨cd1, hcd, rfl, hI1, hv⟩ := hn r f2 hr
  refine lr_tell C hM hI1 hcd hl.1 (lv_at hl 5 rfl) (lv_at hl 1 rfl) ⟨by omega, by omega⟩ dL_law_1950 dL_law_1951 dL_law_1954 dL_law_1956 (fun H locs hM => ?_)
  exact lr_valI (tgt := 2508) C hM hcd hv (lv_at hl 4 rfl) (lv_at hl 1 rfl) (lv_at hl 0 rfl) dL_law_1961 dL_law_1963 dL_law_1966 dL_law_1967 dL_law_1968 dL_law_1969 dL_law_1971 dL_law_1972 dL_law_1973 dL_law_1978 (by decide) (W.widen (k := cells + 3) (n := slots + 18) (by omega) (by omega) (kk f2 H locs ls cd1 hM hI1 (lv_sub hl [2, 3, 4, 5, 6, 7] rfl)))
set_option maxRecDepth 100000 in
set_option maxHeartbeats 2000000 in
theorem lc_27 {p : Program} {l : Launch} {e : Env} {s : State} {m : MethodId} {args : Array Value} {below : List Frame} {meth : Method} {c : Code} {H : Heap} {locs : List Loc} {cells slots : Nat} {Q : State → Prop} {ls : Array Slot} {g : gE} {b0 bs L : Nat} {f : gF} {xs : Nat → Int32} {i v cd : Int} (C : LWC p l s m args c g b0 bs L xs) (hM : gH g b0 622 f s.heap H locs) (hI : lwI g b0 v cd f) (hv0 : 0 ≤ v) (hv1 : v ≤ 20000000) (hi : 0 ≤ i ∧ i + 5 ≤ L) (hl : lv_has ls 9 (lwL bs b0 i)) (hcs : cells + 3 ≤ 603072 ∧ slots + 18 ≤ 7186538) (kk : ∀ (f1 : gF) (H1 : Heap) (locs1 : List Loc) (ls1 : Array Slot) (cd1 : Int), gH g b0 622 f1 s.heap H1 locs1 → lwI g b0 (v + 33542) cd1 f1 → lv_has ls1 9 (lwL bs b0 i) → W p l e room_1 s m args below meth c H1 locs1 (cells + 3) (slots + 18) Q (F0 m 2508 ls1 [])) : W p l e room_1 s m args below meth c H locs cells slots Q (F0 m 1981 ls []) := by
  obtain ⟨hx, hb, hml, hown, hts, hK, hE, hX, hbs, hbb, hl9, hL⟩ := id C
  refine lv_aload_n hx hb dL_law_1981 rfl (lv_at hl 4 rfl) ?_
  refine lr_arg (j := 1) C hM (lv_at hl 5 rfl) (lv_at hl 0 rfl) (by omega) (by omega) dL_law_1982 dL_law_1983 dL_law_1985 dL_law_1986 dL_law_1987 ?_
  by_cases hz : (xs (i + 1).toNat).toInt = 0
  · skip
    refine g_if_eq (tgt := 1995) hx hb dL_law_1988 (by decide) (rI_self _) (fun _ => ?_) (fun hn => absurd hz hn)
    refine g_iconst hx hb dL_law_1995 ?_
    refine lv_aload_n hx hb dL_law_1996 rfl (lv_at hl 2 rfl) ?_
    obtain ⟨postH, hH, hn⟩ := j_conflict l g b0 f v cd 0 (by decide) hl9 hv0 hv1 hI
    refine gh_callS (As := .ref b0 :: ([.int (zI 0)] ++ [.ref (b0 + 620)])) (rest := []) ⟨hx, hb, hml, hown, hts⟩ hK hM hE hH (cuH (n := 3) hts uw_conflict u_1063 u_0 (by decide) u_1064 ⟨Nat.le_of_ble_eq_true rfl, Nat.le_of_ble_eq_true rfl⟩) rfl hl.1 rfl (Nat.le_of_ble_eq_true rfl) dL_law_1997 ⟨rm_c (by omega), rm_s (by omega)⟩ (fun k f1 H locs hM hk => ?_)
    obtain ⟨⟨fs, hfs⟩, postM, hMo, hn⟩ := hn k f1 hk
    refine lv_istore (lv' := (6, .int k) :: lwL bs b0 i) hx hb dL_law_2000 hl (by decide) rfl (fun ls hl => ?_)
    refine lv_aload_n hx hb dL_law_2002 rfl (lv_at hl 4 rfl) ?_
    refine lr_arg (j := 1) C hM (lv_at hl 6 rfl) (lv_at hl 1 rfl) (by omega) (by omega) dL_law_2003 dL_law_2004 dL_law_2006 dL_law_2007 dL_law_2008 ?_
    refine g_if_eq (tgt := 2016) hx hb dL_law_2009 (by decide) (rI_self _) (fun _ => ?_) (fun hn => absurd hz hn)
    refine g_iconst hx hb dL_law_2016 ?_
    refine g_callVi (ci := 11) (C := RX9) (T := TX9) (N := 24) (As := [.int (zI 0)]) (rest := []) ⟨hx, hb, hml, hown, hts⟩ hK hM hMo (cuV (n := 1) hts u_1513 u_1510 u_10 (by decide) u_1511 u_1512 ⟨Nat.le_of_ble_eq_true rfl, Nat.le_of_ble_eq_true rfl⟩) ⟨by omega, by omega⟩ hfs rfl rfl hl.1 rfl (Nat.le_of_ble_eq_true rfl) dL_law_2017 ⟨rm_c (by omega), rm_s (by omega)⟩ (fun r f2 H locs hM hr => ?_)
    refine lv_istore (lv' := (7, .int r) :: (6, .int k) :: lwL bs b0 i) hx hb dL_law_2020 hl (by decide) rfl (fun ls hl => ?_)
    obtain ⟨cd1, hcd, rfl, hI1, hv⟩ := hn r f2 hr
    refine lr_tell C hM hI1 hcd hl.1 (lv_at hl 5 rfl) (lv_at hl 1 rfl) ⟨by omega, by omega⟩ dL_law_2022 dL_law_2023 dL_law_2026 dL_law_2028 (fun H locs hM => ?_)
    exact lr_valI (tgt := 2508) C hM hcd hv (lv_at hl 4 rfl) (lv_at hl 1 rfl) (lv_at hl 0 rfl) dL_law_2033 dL_law_2035 dL_law_2038 dL_law_2039 dL_law_2040 dL_law_2041 dL_law_2043 dL_law_2044 dL_law_2045 dL_law_2050 (by decide) (W.widen (k := cells + 3) (n := slots + 18) (by omega) (by omega) (kk f2 H locs ls cd1 hM hI1 (lv_sub hl [2, 3, 4, 5, 6, 7] rfl)))
  · skip
    refine g_if_eq (tgt := 1995) hx hb dL_law_1988 (by decide) (rI_self _) (fun hn => absurd hn hz) (fun _ => ?_)
    refine g_iconst hx hb dL_law_1991 ?_
    refine lv_goto (tgt := 1996) hx hb dL_law_1992 (by decide) ?_
    refine lv_aload_n hx hb dL_law_1996 rfl (lv_at hl 2 rfl) ?_
    obtain ⟨postH, hH, hn⟩ := j_conflict l g b0 f v cd 1 (by decide) hl9 hv0 hv1 hI
    refine gh_callS (As := .ref b0 :: ([.int (zI 1)] ++ [.ref (b0 + 620)])) (rest := []) ⟨hx, hb, hml, hown, hts⟩ hK hM hE hH (cuH (n := 3) hts uw_conflict u_1063 u_0 (by decide) u_1064 ⟨Nat.le_of_ble_eq_true rfl, Nat.le_of_ble_eq_true rfl⟩) rfl hl.1 rfl (Nat.le_of_ble_eq_true rfl) dL_law_1997 ⟨rm_c (by omega), rm_s (by omega)⟩ (fun k f1 H locs hM hk => ?_)
    obtain ⟨⟨fs, hfs⟩, postM, hMo, hn⟩ := hn k f1 hk
    refine lv_istore (lv' := (6, .int k) :: lwL bs b0 i) hx hb dL_law_2000 hl (by decide) rfl (fun ls hl => ?_)
    refine lv_aload_n hx hb dL_law_2002 rfl (lv_at hl 4 rfl) ?_
    refine lr_arg (j := 1) C hM (lv_at hl 6 rfl) (lv_at hl 1 rfl) (by omega) (by omega) dL_law_2003 dL_law_2004 dL_law_2006 dL_law_2007 dL_law_2008 ?_
    refine g_if_eq (tgt := 2016) hx hb dL_law_2009 (by decide) (rI_self _) (fun hn => absurd hn hz) (fun _ => ?_)
    refine g_iconst hx hb dL_law_2012 ?_
    refine lv_goto (tgt := 2017) hx hb dL_law_2013 (by decide) ?_
    refine g_callVi (ci := 11) (C := RX9) (T := TX9) (N := 24) (As := [.int (zI 1)]) (rest := []) ⟨hx, hb, hml, hown, hts⟩ hK hM hMo (cuV (n := 1) hts u_1513 u_1510 u_10 (by decide) u_1511 u_1512 ⟨Nat.le_of_ble_eq_true rfl, Nat.le_of_ble_eq_true rfl⟩) ⟨by omega, by omega⟩ hfs rfl rfl hl.1 rfl (Nat.le_of_ble_eq_true rfl) dL_law_2017 ⟨rm_c (by omega), rm_s (by omega)⟩ (fun r f2 H locs hM hr => ?_)
    refine lv_istore (lv' := (7, .int r) :: (6, .int k) :: lwL bs b0 i) hx hb dL_law_2020 hl (by decide) rfl (fun ls hl => ?_)
    obtain ⟨cd1, hcd, rfl, hI1, hv⟩ := hn r f2 hr
    refine lr_tell C hM hI1 hcd hl.1 (lv_at hl 5 rfl) (lv_at hl 1 rfl) ⟨by omega, by omega⟩ dL_law_2022 dL_law_2023 dL_law_2026 dL_law_2028 (fun H locs hM => ?_)
    exact lr_valI (tgt := 2508) C hM hcd hv (lv_at hl 4 rfl) (lv_at hl 1 rfl) (lv_at hl 0 rfl) dL_law_2033 dL_law_2035 dL_law_2038 dL_law_2039 dL_law_2040 dL_law_2041 dL_law_2043 dL_law_2044 dL_law_2045 dL_law_2050 (by decide) (W.widen (k := cells + 3) (n := slots + 18) (by omega) (by omega) (kk f2 H locs ls cd1 hM hI1 (lv_sub hl [2, 3, 4, 5, 6, 7] rfl)))
set_option maxRecDepth 100000 in
set_option maxHeartbeats 2000000 in
theorem lc_28 {p : Program} {l : Launch} {e : Env} {s : State} {m : MethodId} {args : Array Value} {below : List Frame} {meth : Method} {c : Code} {H : Heap} {locs : List Loc} {cells slots : Nat} {Q : State → Prop} {ls : Array Slot} {g : gE} {b0 bs L : Nat} {f : gF} {xs : Nat → Int32} {i v cd : Int} (C : LWC p l s m args c g b0 bs L xs) (hM : gH g b0 622 f s.heap H locs) (hI : lwI g b0 v cd f) (hv0 : 0 ≤ v) (hv1 : v ≤ 20000000) (hi : 0 ≤ i ∧ i + 5 ≤ L) (hl : lv_has ls 9 (lwL bs b0 i)) (hcs : cells + 3 ≤ 603072 ∧ slots + 18 ≤ 7186538) (kk : ∀ (f1 : gF) (H1 : Heap) (locs1 : List Loc) (ls1 : Array Slot) (cd1 : Int), gH g b0 622 f1 s.heap H1 locs1 → lwI g b0 (v + 33542) cd1 f1 → lv_has ls1 9 (lwL bs b0 i) → W p l e room_1 s m args below meth c H1 locs1 (cells + 3) (slots + 18) Q (F0 m 2508 ls1 [])) : W p l e room_1 s m args below meth c H locs cells slots Q (F0 m 2053 ls []) := by
  obtain ⟨hx, hb, hml, hown, hts, hK, hE, hX, hbs, hbb, hl9, hL⟩ := id C
  refine lv_aload_n hx hb dL_law_2053 rfl (lv_at hl 4 rfl) ?_
  refine lr_arg (j := 1) C hM (lv_at hl 5 rfl) (lv_at hl 0 rfl) (by omega) (by omega) dL_law_2054 dL_law_2055 dL_law_2057 dL_law_2058 dL_law_2059 ?_
  refine lr_arg (j := 2) C hM (lv_at hl 5 rfl) (lv_at hl 0 rfl) (by omega) (by omega) dL_law_2060 dL_law_2061 dL_law_2063 dL_law_2064 dL_law_2065 ?_
  refine lv_aload_n hx hb dL_law_2066 rfl (lv_at hl 2 rfl) ?_
  obtain ⟨postH, hH, hn⟩ := j_branch l g b0 f v cd ((xs (i + 1).toNat).toInt) (rI_self _) ((xs (i + 2).toNat).toInt) (rI_self _) hl9 hv0 hv1 hI
  refine gh_callS (As := .ref b0 :: ([.int (zI ((xs (i + 1).toNat).toInt)), .int (zI ((xs (i + 2).toNat).toInt))] ++ [.ref (b0 + 620)])) (rest := []) ⟨hx, hb, hml, hown, hts⟩ hK hM hE hH (cuH (n := 4) hts uw_branch u_1071 u_0 (by decide) u_1072 ⟨Nat.le_of_ble_eq_true rfl, Nat.le_of_ble_eq_true rfl⟩) rfl hl.1 rfl (Nat.le_of_ble_eq_true rfl) dL_law_2067 ⟨rm_c (by omega), rm_s (by omega)⟩ (fun k f1 H locs hM hk => ?_)
  obtain ⟨⟨fs, hfs⟩, postM, hMo, hn⟩ := hn k f1 hk
  refine lv_istore (lv' := (6, .int k) :: lwL bs b0 i) hx hb dL_law_2070 hl (by decide) rfl (fun ls hl => ?_)
  refine lv_aload_n hx hb dL_law_2072 rfl (lv_at hl 4 rfl) ?_
  refine lr_arg (j := 1) C hM (lv_at hl 6 rfl) (lv_at hl 1 rfl) (by omega) (by omega) dL_law_2073 dL_law_2074 dL_law_2076 dL_law_2077 dL_law_2078 ?_
  refine lr_arg (j := 2) C hM (lv_at hl 6 rfl) (lv_at hl 1 rfl) (by omega) (by omega) dL_law_2079 dL_law_2080 dL_law_2082 dL_law_2083 dL_law_2084 ?_
  refine g_callVl (ci := 11) (C := RX9) (T := TX9) (N := 24) (As := [.int (zI ((xs (i + 1).toNat).toInt)), .int (zI ((xs (i + 2).toNat).toInt))]) (rest := []) ⟨hx, hb, hml, hown, hts⟩ hK hM hMo (cuV (n := 2) hts u_1517 u_1514 u_10 (by decide) u_1515 u_1516 ⟨Nat.le_of_ble_eq_true rfl, Nat.le_of_ble_eq_true rfl⟩) ⟨by omega, by omega⟩ hfs rfl rfl hl.1 rfl (Nat.le_of_ble_eq_true rfl) dL_law_2085 ⟨rm_c (by omega), rm_s (by omega)⟩ (fun r f2 H locs hM hr => ?_)
  refine lv_lstore (lv' := (7, .long r) :: (6, .int k) :: lwL bs b0 i) hx hb dL_law_2088 hl (by decide) rfl (fun ls hl => ?_)
  obtain ⟨cd1, hcd, rfl, hI1, hv⟩ := hn r f2 hr
  refine lr_tell C hM hI1 hcd hl.1 (lv_at hl 5 rfl) (lv_at hl 1 rfl) ⟨by omega, by omega⟩ dL_law_2090 dL_law_2091 dL_law_2094 dL_law_2096 (fun H locs hM => ?_)
  exact lr_valL (tgt := 2508) C hM hcd hv (lv_at hl 4 rfl) (lv_at hl 1 rfl) (lv_at hl 0 rfl) dL_law_2101 dL_law_2103 dL_law_2106 dL_law_2107 dL_law_2108 dL_law_2109 dL_law_2111 dL_law_2112 dL_law_2117 (by decide) (W.widen (k := cells + 3) (n := slots + 18) (by omega) (by omega) (kk f2 H locs ls cd1 hM hI1 (lv_sub hl [2, 3, 4, 5, 6, 7] rfl)))
set_option maxRecDepth 100000 in
set_option maxHeartbeats 2000000 in
theorem lc_29 {p : Program} {l : Launch} {e : Env} {s : State} {m : MethodId} {args : Array Value} {below : List Frame} {meth : Method} {c : Code} {H : Heap} {locs : List Loc} {cells slots : Nat} {Q : State → Prop} {ls : Array Slot} {g : gE} {b0 bs L : Nat} {f : gF} {xs : Nat → Int32} {i v cd : Int} (C : LWC p l s m args c g b0 bs L xs) (hM : gH g b0 622 f s.heap H locs) (hI : lwI g b0 v cd f) (hv0 : 0 ≤ v) (hv1 : v ≤ 20000000) (hi : 0 ≤ i ∧ i + 5 ≤ L) (hl : lv_has ls 9 (lwL bs b0 i)) (hcs : cells + 3 ≤ 603072 ∧ slots + 18 ≤ 7186538) (kk : ∀ (f1 : gF) (H1 : Heap) (locs1 : List Loc) (ls1 : Array Slot) (cd1 : Int), gH g b0 622 f1 s.heap H1 locs1 → lwI g b0 (v + 33542) cd1 f1 → lv_has ls1 9 (lwL bs b0 i) → W p l e room_1 s m args below meth c H1 locs1 (cells + 3) (slots + 18) Q (F0 m 2508 ls1 [])) : W p l e room_1 s m args below meth c H locs cells slots Q (F0 m 2120 ls []) := by
  obtain ⟨hx, hb, hml, hown, hts, hK, hE, hX, hbs, hbb, hl9, hL⟩ := id C
  refine lv_aload_n hx hb dL_law_2120 rfl (lv_at hl 4 rfl) ?_
  refine lr_arg (j := 1) C hM (lv_at hl 5 rfl) (lv_at hl 0 rfl) (by omega) (by omega) dL_law_2121 dL_law_2122 dL_law_2124 dL_law_2125 dL_law_2126 ?_
  refine lr_arg (j := 2) C hM (lv_at hl 5 rfl) (lv_at hl 0 rfl) (by omega) (by omega) dL_law_2127 dL_law_2128 dL_law_2130 dL_law_2131 dL_law_2132 ?_
  refine lr_arg (j := 3) C hM (lv_at hl 5 rfl) (lv_at hl 0 rfl) (by omega) (by omega) dL_law_2133 dL_law_2134 dL_law_2136 dL_law_2137 dL_law_2138 ?_
  refine lv_aload_n hx hb dL_law_2139 rfl (lv_at hl 2 rfl) ?_
  obtain ⟨postH, hH, hn⟩ := j_difference l g b0 f v cd ((xs (i + 1).toNat).toInt) (rI_self _) ((xs (i + 2).toNat).toInt) (rI_self _) ((xs (i + 3).toNat).toInt) (rI_self _) hl9 hv0 hv1 hI
  refine gh_callS (As := .ref b0 :: ([.int (zI ((xs (i + 1).toNat).toInt)), .int (zI ((xs (i + 2).toNat).toInt)), .int (zI ((xs (i + 3).toNat).toInt))] ++ [.ref (b0 + 620)])) (rest := []) ⟨hx, hb, hml, hown, hts⟩ hK hM hE hH (cuH (n := 5) hts uw_difference u_1080 u_0 (by decide) u_1081 ⟨Nat.le_of_ble_eq_true rfl, Nat.le_of_ble_eq_true rfl⟩) rfl hl.1 rfl (Nat.le_of_ble_eq_true rfl) dL_law_2140 ⟨rm_c (by omega), rm_s (by omega)⟩ (fun k f1 H locs hM hk => ?_)
  obtain ⟨⟨fs, hfs⟩, postM, hMo, hn⟩ := hn k f1 hk
  refine lv_istore (lv' := (6, .int k) :: lwL bs b0 i) hx hb dL_law_2143 hl (by decide) rfl (fun ls hl => ?_)
  refine lv_aload_n hx hb dL_law_2145 rfl (lv_at hl 4 rfl) ?_
  refine lr_arg (j := 1) C hM (lv_at hl 6 rfl) (lv_at hl 1 rfl) (by omega) (by omega) dL_law_2146 dL_law_2147 dL_law_2149 dL_law_2150 dL_law_2151 ?_
  refine lr_arg (j := 2) C hM (lv_at hl 6 rfl) (lv_at hl 1 rfl) (by omega) (by omega) dL_law_2152 dL_law_2153 dL_law_2155 dL_law_2156 dL_law_2157 ?_
  refine lr_arg (j := 3) C hM (lv_at hl 6 rfl) (lv_at hl 1 rfl) (by omega) (by omega) dL_law_2158 dL_law_2159 dL_law_2161 dL_law_2162 dL_law_2163 ?_
  refine g_callVl (ci := 11) (C := RX9) (T := TX9) (N := 24) (As := [.int (zI ((xs (i + 1).toNat).toInt)), .int (zI ((xs (i + 2).toNat).toInt)), .int (zI ((xs (i + 3).toNat).toInt))]) (rest := []) ⟨hx, hb, hml, hown, hts⟩ hK hM hMo (cuV (n := 3) hts u_1521 u_1518 u_10 (by decide) u_1519 u_1520 ⟨Nat.le_of_ble_eq_true rfl, Nat.le_of_ble_eq_true rfl⟩) ⟨by omega, by omega⟩ hfs rfl rfl hl.1 rfl (Nat.le_of_ble_eq_true rfl) dL_law_2164 ⟨rm_c (by omega), rm_s (by omega)⟩ (fun r f2 H locs hM hr => ?_)
  refine lv_lstore (lv' := (7, .long r) :: (6, .int k) :: lwL bs b0 i) hx hb dL_law_2167 hl (by decide) rfl (fun ls hl => ?_)
  obtain ⟨cd1, hcd, rfl, hI1, hv⟩ := hn r f2 hr
  refine lr_tell C hM hI1 hcd hl.1 (lv_at hl 5 rfl) (lv_at hl 1 rfl) ⟨by omega, by omega⟩ dL_law_2169 dL_law_2170 dL_law_2173 dL_law_2175 (fun H locs hM => ?_)
  exact lr_valL (tgt := 2508) C hM hcd hv (lv_at hl 4 rfl) (lv_at hl 1 rfl) (lv_at hl 0 rfl) dL_law_2180 dL_law_2182 dL_law_2185 dL_law_2186 dL_law_2187 dL_law_2188 dL_law_2190 dL_law_2191 dL_law_2196 (by decide) (W.widen (k := cells + 3) (n := slots + 18) (by omega) (by omega) (kk f2 H locs ls cd1 hM hI1 (lv_sub hl [2, 3, 4, 5, 6, 7] rfl)))
set_option maxRecDepth 100000 in
set_option maxHeartbeats 2000000 in
theorem lc_30 {p : Program} {l : Launch} {e : Env} {s : State} {m : MethodId} {args : Array Value} {below : List Frame} {meth : Method} {c : Code} {H : Heap} {locs : List Loc} {cells slots : Nat} {Q : State → Prop} {ls : Array Slot} {g : gE} {b0 bs L : Nat} {f : gF} {xs : Nat → Int32} {i v cd : Int} (C : LWC p l s m args c g b0 bs L xs) (hM : gH g b0 622 f s.heap H locs) (hI : lwI g b0 v cd f) (hv0 : 0 ≤ v) (hv1 : v ≤ 20000000) (hi : 0 ≤ i ∧ i + 5 ≤ L) (hl : lv_has ls 9 (lwL bs b0 i)) (hcs : cells + 3 ≤ 603072 ∧ slots + 18 ≤ 7186538) (kk : ∀ (f1 : gF) (H1 : Heap) (locs1 : List Loc) (ls1 : Array Slot) (cd1 : Int), gH g b0 622 f1 s.heap H1 locs1 → lwI g b0 (v + 33542) cd1 f1 → lv_has ls1 9 (lwL bs b0 i) → W p l e room_1 s m args below meth c H1 locs1 (cells + 3) (slots + 18) Q (F0 m 2508 ls1 [])) : W p l e room_1 s m args below meth c H locs cells slots Q (F0 m 2199 ls []) := by
  obtain ⟨hx, hb, hml, hown, hts, hK, hE, hX, hbs, hbb, hl9, hL⟩ := id C
  refine lv_aload_n hx hb dL_law_2199 rfl (lv_at hl 4 rfl) ?_
  refine lr_arg (j := 1) C hM (lv_at hl 5 rfl) (lv_at hl 0 rfl) (by omega) (by omega) dL_law_2200 dL_law_2201 dL_law_2203 dL_law_2204 dL_law_2205 ?_
  refine lr_arg (j := 2) C hM (lv_at hl 5 rfl) (lv_at hl 0 rfl) (by omega) (by omega) dL_law_2206 dL_law_2207 dL_law_2209 dL_law_2210 dL_law_2211 ?_
  refine lv_aload_n hx hb dL_law_2212 rfl (lv_at hl 2 rfl) ?_
  obtain ⟨postH, hH, hn⟩ := j_step l g b0 f v cd ((xs (i + 1).toNat).toInt) (rI_self _) ((xs (i + 2).toNat).toInt) (rI_self _) hl9 hv0 hv1 hI
  refine gh_callS (As := .ref b0 :: ([.int (zI ((xs (i + 1).toNat).toInt)), .int (zI ((xs (i + 2).toNat).toInt))] ++ [.ref (b0 + 620)])) (rest := []) ⟨hx, hb, hml, hown, hts⟩ hK hM hE hH (cuH (n := 4) hts uw_step u_1087 u_0 (by decide) u_1088 ⟨Nat.le_of_ble_eq_true rfl, Nat.le_of_ble_eq_true rfl⟩) rfl hl.1 rfl (Nat.le_of_ble_eq_true rfl) dL_law_2213 ⟨rm_c (by omega), rm_s (by omega)⟩ (fun k f1 H locs hM hk => ?_)
  obtain ⟨⟨fs, hfs⟩, postM, hMo, hn⟩ := hn k f1 hk
  refine lv_istore (lv' := (6, .int k) :: lwL bs b0 i) hx hb dL_law_2216 hl (by decide) rfl (fun ls hl => ?_)
  refine lv_aload_n hx hb dL_law_2218 rfl (lv_at hl 4 rfl) ?_
  refine lr_arg (j := 1) C hM (lv_at hl 6 rfl) (lv_at hl 1 rfl) (by omega) (by omega) dL_law_2219 dL_law_2220 dL_law_2222 dL_law_2223 dL_law_2224 ?_
  refine lr_arg (j := 2) C hM (lv_at hl 6 rfl) (lv_at hl 1 rfl) (by omega) (by omega) dL_law_2225 dL_law_2226 dL_law_2228 dL_law_2229 dL_law_2230 ?_
  refine g_callVi (ci := 11) (C := RX9) (T := TX9) (N := 24) (As := [.int (zI ((xs (i + 1).toNat).toInt)), .int (zI ((xs (i + 2).toNat).toInt))]) (rest := []) ⟨hx, hb, hml, hown, hts⟩ hK hM hMo (cuV (n := 2) hts u_1529 u_1526 u_10 (by decide) u_1527 u_1528 ⟨Nat.le_of_ble_eq_true rfl, Nat.le_of_ble_eq_true rfl⟩) ⟨by omega, by omega⟩ hfs rfl rfl hl.1 rfl (Nat.le_of_ble_eq_true rfl) dL_law_2231 ⟨rm_c (by omega), rm_s (by omega)⟩ (fun r f2 H locs hM hr => ?_)
  refine lv_istore (lv' := (7, .int r) :: (6, .int k) :: lwL bs b0 i) hx hb dL_law_2234 hl (by decide) rfl (fun ls hl => ?_)
  obtain ⟨cd1, hcd, rfl, hI1, hv⟩ := hn r f2 hr
  refine lr_tell C hM hI1 hcd hl.1 (lv_at hl 5 rfl) (lv_at hl 1 rfl) ⟨by omega, by omega⟩ dL_law_2236 dL_law_2237 dL_law_2240 dL_law_2242 (fun H locs hM => ?_)
  exact lr_valI (tgt := 2508) C hM hcd hv (lv_at hl 4 rfl) (lv_at hl 1 rfl) (lv_at hl 0 rfl) dL_law_2247 dL_law_2249 dL_law_2252 dL_law_2253 dL_law_2254 dL_law_2255 dL_law_2257 dL_law_2258 dL_law_2259 dL_law_2264 (by decide) (W.widen (k := cells + 3) (n := slots + 18) (by omega) (by omega) (kk f2 H locs ls cd1 hM hI1 (lv_sub hl [2, 3, 4, 5, 6, 7] rfl)))
set_option maxRecDepth 100000 in
set_option maxHeartbeats 2000000 in
theorem lc_31 {p : Program} {l : Launch} {e : Env} {s : State} {m : MethodId} {args : Array Value} {below : List Frame} {meth : Method} {c : Code} {H : Heap} {locs : List Loc} {cells slots : Nat} {Q : State → Prop} {ls : Array Slot} {g : gE} {b0 bs L : Nat} {f : gF} {xs : Nat → Int32} {i v cd : Int} (C : LWC p l s m args c g b0 bs L xs) (hM : gH g b0 622 f s.heap H locs) (hI : lwI g b0 v cd f) (hv0 : 0 ≤ v) (hv1 : v ≤ 20000000) (hi : 0 ≤ i ∧ i + 5 ≤ L) (hl : lv_has ls 9 (lwL bs b0 i)) (hcs : cells + 3 ≤ 603072 ∧ slots + 18 ≤ 7186538) (kk : ∀ (f1 : gF) (H1 : Heap) (locs1 : List Loc) (ls1 : Array Slot) (cd1 : Int), gH g b0 622 f1 s.heap H1 locs1 → lwI g b0 (v + 33542) cd1 f1 → lv_has ls1 9 (lwL bs b0 i) → W p l e room_1 s m args below meth c H1 locs1 (cells + 3) (slots + 18) Q (F0 m 2508 ls1 [])) : W p l e room_1 s m args below meth c H locs cells slots Q (F0 m 2267 ls []) := by
  obtain ⟨hx, hb, hml, hown, hts, hK, hE, hX, hbs, hbb, hl9, hL⟩ := id C
  refine lv_aload_n hx hb dL_law_2267 rfl (lv_at hl 4 rfl) ?_
  refine lv_aload_n hx hb dL_law_2268 rfl (lv_at hl 2 rfl) ?_
  obtain ⟨postH, hH, hn⟩ := j_undo l g b0 f v cd  hl9 hv0 hv1 hI
  refine gh_callS (As := .ref b0 :: ([] ++ [.ref (b0 + 620)])) (rest := []) ⟨hx, hb, hml, hown, hts⟩ hK hM hE hH (cuH (n := 2) hts uw_undo u_1094 u_0 (by decide) u_1095 ⟨Nat.le_of_ble_eq_true rfl, Nat.le_of_ble_eq_true rfl⟩) rfl hl.1 rfl (Nat.le_of_ble_eq_true rfl) dL_law_2269 ⟨rm_c (by omega), rm_s (by omega)⟩ (fun k f1 H locs hM hk => ?_)
  obtain ⟨⟨fs, hfs⟩, postM, hMo, hn⟩ := hn k f1 hk
  refine lv_istore (lv' := (6, .int k) :: lwL bs b0 i) hx hb dL_law_2272 hl (by decide) rfl (fun ls hl => ?_)
  refine lv_aload_n hx hb dL_law_2274 rfl (lv_at hl 4 rfl) ?_
  refine g_callVi (ci := 11) (C := RX9) (T := TX9) (N := 24) (As := []) (rest := []) ⟨hx, hb, hml, hown, hts⟩ hK hM hMo (cuV (n := 0) hts u_1533 u_1530 u_10 (by decide) u_1531 u_1532 ⟨Nat.le_of_ble_eq_true rfl, Nat.le_of_ble_eq_true rfl⟩) ⟨by omega, by omega⟩ hfs rfl rfl hl.1 rfl (Nat.le_of_ble_eq_true rfl) dL_law_2275 ⟨rm_c (by omega), rm_s (by omega)⟩ (fun r f2 H locs hM hr => ?_)
  refine lv_istore (lv' := (7, .int r) :: (6, .int k) :: lwL bs b0 i) hx hb dL_law_2278 hl (by decide) rfl (fun ls hl => ?_)
  obtain ⟨cd1, hcd, rfl, hI1, hv⟩ := hn r f2 hr
  refine lr_tell C hM hI1 hcd hl.1 (lv_at hl 5 rfl) (lv_at hl 1 rfl) ⟨by omega, by omega⟩ dL_law_2280 dL_law_2281 dL_law_2284 dL_law_2286 (fun H locs hM => ?_)
  exact lr_valI (tgt := 2508) C hM hcd hv (lv_at hl 4 rfl) (lv_at hl 1 rfl) (lv_at hl 0 rfl) dL_law_2291 dL_law_2293 dL_law_2296 dL_law_2297 dL_law_2298 dL_law_2299 dL_law_2301 dL_law_2302 dL_law_2303 dL_law_2308 (by decide) (W.widen (k := cells + 3) (n := slots + 18) (by omega) (by omega) (kk f2 H locs ls cd1 hM hI1 (lv_sub hl [2, 3, 4, 5, 6, 7] rfl)))
set_option maxRecDepth 100000 in
set_option maxHeartbeats 2000000 in
theorem lc_32 {p : Program} {l : Launch} {e : Env} {s : State} {m : MethodId} {args : Array Value} {below : List Frame} {meth : Method} {c : Code} {H : Heap} {locs : List Loc} {cells slots : Nat} {Q : State → Prop} {ls : Array Slot} {g : gE} {b0 bs L : Nat} {f : gF} {xs : Nat → Int32} {i v cd : Int} (C : LWC p l s m args c g b0 bs L xs) (hM : gH g b0 622 f s.heap H locs) (hI : lwI g b0 v cd f) (hv0 : 0 ≤ v) (hv1 : v ≤ 20000000) (hi : 0 ≤ i ∧ i + 5 ≤ L) (hl : lv_has ls 9 (lwL bs b0 i)) (hcs : cells + 3 ≤ 603072 ∧ slots + 18 ≤ 7186538) (kk : ∀ (f1 : gF) (H1 : Heap) (locs1 : List Loc) (ls1 : Array Slot) (cd1 : Int), gH g b0 622 f1 s.heap H1 locs1 → lwI g b0 (v + 33542) cd1 f1 → lv_has ls1 9 (lwL bs b0 i) → W p l e room_1 s m args below meth c H1 locs1 (cells + 3) (slots + 18) Q (F0 m 2508 ls1 [])) : W p l e room_1 s m args below meth c H locs cells slots Q (F0 m 2311 ls []) := by
  obtain ⟨hx, hb, hml, hown, hts, hK, hE, hX, hbs, hbb, hl9, hL⟩ := id C
  refine lv_aload_n hx hb dL_law_2311 rfl (lv_at hl 4 rfl) ?_
  refine lr_arg (j := 1) C hM (lv_at hl 5 rfl) (lv_at hl 0 rfl) (by omega) (by omega) dL_law_2312 dL_law_2313 dL_law_2315 dL_law_2316 dL_law_2317 ?_
  refine lv_aload_n hx hb dL_law_2318 rfl (lv_at hl 2 rfl) ?_
  obtain ⟨postH, hH, hn⟩ := j_dropStep l g b0 f v cd ((xs (i + 1).toNat).toInt) (rI_self _) hl9 hv0 hv1 hI
  refine gh_callS (As := .ref b0 :: ([.int (zI ((xs (i + 1).toNat).toInt))] ++ [.ref (b0 + 620)])) (rest := []) ⟨hx, hb, hml, hown, hts⟩ hK hM hE hH (cuH (n := 3) hts uw_dropStep u_1106 u_0 (by decide) u_1107 ⟨Nat.le_of_ble_eq_true rfl, Nat.le_of_ble_eq_true rfl⟩) rfl hl.1 rfl (Nat.le_of_ble_eq_true rfl) dL_law_2319 ⟨rm_c (by omega), rm_s (by omega)⟩ (fun k f1 H locs hM hk => ?_)
  obtain ⟨⟨fs, hfs⟩, postM, hMo, hn⟩ := hn k f1 hk
  refine lv_istore (lv' := (6, .int k) :: lwL bs b0 i) hx hb dL_law_2322 hl (by decide) rfl (fun ls hl => ?_)
  refine lv_aload_n hx hb dL_law_2324 rfl (lv_at hl 4 rfl) ?_
  refine lr_arg (j := 1) C hM (lv_at hl 6 rfl) (lv_at hl 1 rfl) (by omega) (by omega) dL_law_2325 dL_law_2326 dL_law_2328 dL_law_2329 dL_law_2330 ?_
  refine g_callVi (ci := 11) (C := RX9) (T := TX9) (N := 24) (As := [.int (zI ((xs (i + 1).toNat).toInt))]) (rest := []) ⟨hx, hb, hml, hown, hts⟩ hK hM hMo (cuV (n := 1) hts u_1541 u_1538 u_10 (by decide) u_1539 u_1540 ⟨Nat.le_of_ble_eq_true rfl, Nat.le_of_ble_eq_true rfl⟩) ⟨by omega, by omega⟩ hfs rfl rfl hl.1 rfl (Nat.le_of_ble_eq_true rfl) dL_law_2331 ⟨rm_c (by omega), rm_s (by omega)⟩ (fun r f2 H locs hM hr => ?_)
  refine lv_istore (lv' := (7, .int r) :: (6, .int k) :: lwL bs b0 i) hx hb dL_law_2334 hl (by decide) rfl (fun ls hl => ?_)
  obtain ⟨cd1, hcd, rfl, hI1, hv⟩ := hn r f2 hr
  refine lr_tell C hM hI1 hcd hl.1 (lv_at hl 5 rfl) (lv_at hl 1 rfl) ⟨by omega, by omega⟩ dL_law_2336 dL_law_2337 dL_law_2340 dL_law_2342 (fun H locs hM => ?_)
  exact lr_valI (tgt := 2508) C hM hcd hv (lv_at hl 4 rfl) (lv_at hl 1 rfl) (lv_at hl 0 rfl) dL_law_2347 dL_law_2349 dL_law_2352 dL_law_2353 dL_law_2354 dL_law_2355 dL_law_2357 dL_law_2358 dL_law_2359 dL_law_2364 (by decide) (W.widen (k := cells + 3) (n := slots + 18) (by omega) (by omega) (kk f2 H locs ls cd1 hM hI1 (lv_sub hl [2, 3, 4, 5, 6, 7] rfl)))
set_option maxRecDepth 100000 in
set_option maxHeartbeats 2000000 in
theorem lc_33 {p : Program} {l : Launch} {e : Env} {s : State} {m : MethodId} {args : Array Value} {below : List Frame} {meth : Method} {c : Code} {H : Heap} {locs : List Loc} {cells slots : Nat} {Q : State → Prop} {ls : Array Slot} {g : gE} {b0 bs L : Nat} {f : gF} {xs : Nat → Int32} {i v cd : Int} (C : LWC p l s m args c g b0 bs L xs) (hM : gH g b0 622 f s.heap H locs) (hI : lwI g b0 v cd f) (hv0 : 0 ≤ v) (hv1 : v ≤ 20000000) (hi : 0 ≤ i ∧ i + 5 ≤ L) (hl : lv_has ls 9 (lwL bs b0 i)) (hcs : cells + 3 ≤ 603072 ∧ slots + 18 ≤ 7186538) (kk : ∀ (f1 : gF) (H1 : Heap) (locs1 : List Loc) (ls1 : Array Slot) (cd1 : Int), gH g b0 622 f1 s.heap H1 locs1 → lwI g b0 (v + 33542) cd1 f1 → lv_has ls1 9 (lwL bs b0 i) → W p l e room_1 s m args below meth c H1 locs1 (cells + 3) (slots + 18) Q (F0 m 2508 ls1 [])) : W p l e room_1 s m args below meth c H locs cells slots Q (F0 m 2367 ls []) := by
  obtain ⟨hx, hb, hml, hown, hts, hK, hE, hX, hbs, hbb, hl9, hL⟩ := id C
  refine lv_aload_n hx hb dL_law_2367 rfl (lv_at hl 4 rfl) ?_
  obtain ⟨⟨fs8, hfs8⟩, post8, h8, hn⟩ := j_clearReason l g b0 f v cd hv0 hv1 hI
  refine g_callVi (ci := 10) (C := RX8) (T := TX8) (N := 9) (As := []) (rest := []) ⟨hx, hb, hml, hown, hts⟩ hK hM h8 (cuV (n := 0) hts u_306 u_303 u_1 (by decide) u_304 u_305 ⟨Nat.le_of_ble_eq_true rfl, Nat.le_of_ble_eq_true rfl⟩) ⟨by omega, by omega⟩ hfs8 rfl rfl hl.1 rfl (Nat.le_of_ble_eq_true rfl) dL_law_2368 ⟨rm_c (by omega), rm_s (by omega)⟩ (fun r f1 H locs hM hr => ?_)
  obtain ⟨⟨fs, hfs⟩, post9, h9, hn⟩ := hn r f1 hr
  refine lv_aload_n hx hb dL_law_2371 rfl (lv_at hl 3 rfl) ?_
  refine g_callVi (ci := 11) (C := RX9) (T := TX9) (N := 24) (As := []) (rest := [.int r]) ⟨hx, hb, hml, hown, hts⟩ hK hM h9 (cuV (n := 0) hts u_1545 u_1542 u_10 (by decide) u_1543 u_1544 ⟨Nat.le_of_ble_eq_true rfl, Nat.le_of_ble_eq_true rfl⟩) ⟨by omega, by omega⟩ hfs rfl rfl hl.1 rfl (Nat.le_of_ble_eq_true rfl) dL_law_2372 ⟨rm_c (by omega), rm_s (by omega)⟩ (fun r2 f2 H locs hM hr2 => ?_)
  obtain ⟨rfl, cd1, hI1⟩ := hn r2 f2 hr2
  refine lv_icmp_eq (tgt := 2508) hx hb dL_law_2375 (by decide) (fun _ => ?_) (fun hn => absurd rfl hn)
  exact W.widen (k := cells + 3) (n := slots + 18) (by omega) (by omega) (kk f2 H locs ls cd1 hM hI1 hl)
set_option maxRecDepth 100000 in
set_option maxHeartbeats 2000000 in
theorem lc_34 {p : Program} {l : Launch} {e : Env} {s : State} {m : MethodId} {args : Array Value} {below : List Frame} {meth : Method} {c : Code} {H : Heap} {locs : List Loc} {cells slots : Nat} {Q : State → Prop} {ls : Array Slot} {g : gE} {b0 bs L : Nat} {f : gF} {xs : Nat → Int32} {i v cd : Int} (C : LWC p l s m args c g b0 bs L xs) (hM : gH g b0 622 f s.heap H locs) (hI : lwI g b0 v cd f) (hv0 : 0 ≤ v) (hv1 : v ≤ 20000000) (hi : 0 ≤ i ∧ i + 5 ≤ L) (hl : lv_has ls 9 (lwL bs b0 i)) (hcs : cells + 3 ≤ 603072 ∧ slots + 18 ≤ 7186538) (kk : ∀ (f1 : gF) (H1 : Heap) (locs1 : List Loc) (ls1 : Array Slot) (cd1 : Int), gH g b0 622 f1 s.heap H1 locs1 → lwI g b0 (v + 33542) cd1 f1 → lv_has ls1 9 (lwL bs b0 i) → W p l e room_1 s m args below meth c H1 locs1 (cells + 3) (slots + 18) Q (F0 m 2508 ls1 [])) : W p l e room_1 s m args below meth c H locs cells slots Q (F0 m 2380 ls []) := by
  obtain ⟨hx, hb, hml, hown, hts, hK, hE, hX, hbs, hbb, hl9, hL⟩ := id C
  obtain ⟨zc, hzc0, hzc1, hzc⟩ := i2c_in (xs (i + 1).toNat)
  refine lv_aload_n hx hb dL_law_2380 rfl (lv_at hl 4 rfl) ?_
  refine lr_arg (j := 1) C hM (lv_at hl 5 rfl) (lv_at hl 0 rfl) (by omega) (by omega) dL_law_2381 dL_law_2382 dL_law_2384 dL_law_2385 dL_law_2386 ?_
  refine lv_i2c (v := zI zc) hx hb dL_law_2387 (by rw [zI_self]; exact hzc) ?_
  refine lv_aload_n hx hb dL_law_2388 rfl (lv_at hl 2 rfl) ?_
  obtain ⟨postH, hH, hn⟩ := j_feed l g b0 f v cd zc hzc0 hzc1 hl9 hv0 hv1 hI
  refine gh_callS (As := .ref b0 :: ([.int (zI zc)] ++ [.ref (b0 + 620)])) (rest := []) ⟨hx, hb, hml, hown, hts⟩ hK hM hE hH (cuH (n := 3) hts uw_feed u_1114 u_0 (by decide) u_1115 ⟨Nat.le_of_ble_eq_true rfl, Nat.le_of_ble_eq_true rfl⟩) rfl hl.1 rfl (Nat.le_of_ble_eq_true rfl) dL_law_2389 ⟨rm_c (by omega), rm_s (by omega)⟩ (fun k f1 H locs hM hk => ?_)
  obtain ⟨⟨fs, hfs⟩, postM, hMo, hn⟩ := hn k f1 hk
  refine lv_istore (lv' := (6, .int k) :: lwL bs b0 i) hx hb dL_law_2392 hl (by decide) rfl (fun ls hl => ?_)
  refine lv_aload_n hx hb dL_law_2394 rfl (lv_at hl 4 rfl) ?_
  refine lr_arg (j := 1) C hM (lv_at hl 6 rfl) (lv_at hl 1 rfl) (by omega) (by omega) dL_law_2395 dL_law_2396 dL_law_2398 dL_law_2399 dL_law_2400 ?_
  refine lv_i2c (v := zI zc) hx hb dL_law_2401 (by rw [zI_self]; exact hzc) ?_
  refine g_callVi (ci := 11) (C := RX9) (T := TX9) (N := 24) (As := [.int (zI zc)]) (rest := []) ⟨hx, hb, hml, hown, hts⟩ hK hM hMo (cuV (n := 1) hts u_1549 u_1546 u_10 (by decide) u_1547 u_1548 ⟨Nat.le_of_ble_eq_true rfl, Nat.le_of_ble_eq_true rfl⟩) ⟨by omega, by omega⟩ hfs rfl rfl hl.1 rfl (Nat.le_of_ble_eq_true rfl) dL_law_2402 ⟨rm_c (by omega), rm_s (by omega)⟩ (fun r f2 H locs hM hr => ?_)
  refine lv_istore (lv' := (7, .int r) :: (6, .int k) :: lwL bs b0 i) hx hb dL_law_2405 hl (by decide) rfl (fun ls hl => ?_)
  obtain ⟨cd1, hcd, rfl, hI1, hv⟩ := hn r f2 hr
  refine lr_tell C hM hI1 hcd hl.1 (lv_at hl 5 rfl) (lv_at hl 1 rfl) ⟨by omega, by omega⟩ dL_law_2407 dL_law_2408 dL_law_2411 dL_law_2413 (fun H locs hM => ?_)
  exact lr_valI (tgt := 2508) C hM hcd hv (lv_at hl 4 rfl) (lv_at hl 1 rfl) (lv_at hl 0 rfl) dL_law_2418 dL_law_2420 dL_law_2423 dL_law_2424 dL_law_2425 dL_law_2426 dL_law_2428 dL_law_2429 dL_law_2430 dL_law_2435 (by decide) (W.widen (k := cells + 3) (n := slots + 18) (by omega) (by omega) (kk f2 H locs ls cd1 hM hI1 (lv_sub hl [2, 3, 4, 5, 6, 7] rfl)))
set_option maxRecDepth 100000 in
set_option maxHeartbeats 2000000 in
theorem lc_35 {p : Program} {l : Launch} {e : Env} {s : State} {m : MethodId} {args : Array Value} {below : List Frame} {meth : Method} {c : Code} {H : Heap} {locs : List Loc} {cells slots : Nat} {Q : State → Prop} {ls : Array Slot} {g : gE} {b0 bs L : Nat} {f : gF} {xs : Nat → Int32} {i v cd : Int} (C : LWC p l s m args c g b0 bs L xs) (hM : gH g b0 622 f s.heap H locs) (hI : lwI g b0 v cd f) (hv0 : 0 ≤ v) (hv1 : v ≤ 20000000) (hi : 0 ≤ i ∧ i + 5 ≤ L) (hl : lv_has ls 9 (lwL bs b0 i)) (hcs : cells + 3 ≤ 603072 ∧ slots + 18 ≤ 7186538) (kk : ∀ (f1 : gF) (H1 : Heap) (locs1 : List Loc) (ls1 : Array Slot) (cd1 : Int), gH g b0 622 f1 s.heap H1 locs1 → lwI g b0 (v + 33542) cd1 f1 → lv_has ls1 9 (lwL bs b0 i) → W p l e room_1 s m args below meth c H1 locs1 (cells + 3) (slots + 18) Q (F0 m 2508 ls1 [])) : W p l e room_1 s m args below meth c H locs cells slots Q (F0 m 2438 ls []) := by
  obtain ⟨hx, hb, hml, hown, hts, hK, hE, hX, hbs, hbb, hl9, hL⟩ := id C
  refine lv_aload_n hx hb dL_law_2438 rfl (lv_at hl 4 rfl) ?_
  obtain ⟨⟨fs8, hfs8⟩, post8, h8, hn⟩ := j_readPlan l g b0 f v cd hv0 hv1 hI
  refine g_callVi (ci := 10) (C := RX8) (T := TX8) (N := 9) (As := []) (rest := []) ⟨hx, hb, hml, hown, hts⟩ hK hM h8 (cuV (n := 0) hts u_310 u_307 u_1 (by decide) u_308 u_309 ⟨Nat.le_of_ble_eq_true rfl, Nat.le_of_ble_eq_true rfl⟩) ⟨by omega, by omega⟩ hfs8 rfl rfl hl.1 rfl (Nat.le_of_ble_eq_true rfl) dL_law_2439 ⟨rm_c (by omega), rm_s (by omega)⟩ (fun r f1 H locs hM hr => ?_)
  obtain ⟨⟨fs, hfs⟩, post9, h9, hn⟩ := hn r f1 hr
  refine lv_aload_n hx hb dL_law_2442 rfl (lv_at hl 3 rfl) ?_
  refine g_callVi (ci := 11) (C := RX9) (T := TX9) (N := 24) (As := []) (rest := [.int r]) ⟨hx, hb, hml, hown, hts⟩ hK hM h9 (cuV (n := 0) hts u_1553 u_1550 u_10 (by decide) u_1551 u_1552 ⟨Nat.le_of_ble_eq_true rfl, Nat.le_of_ble_eq_true rfl⟩) ⟨by omega, by omega⟩ hfs rfl rfl hl.1 rfl (Nat.le_of_ble_eq_true rfl) dL_law_2443 ⟨rm_c (by omega), rm_s (by omega)⟩ (fun r2 f2 H locs hM hr2 => ?_)
  obtain ⟨rfl, cd1, hI1⟩ := hn r2 f2 hr2
  refine lv_icmp_eq (tgt := 2508) hx hb dL_law_2446 (by decide) (fun _ => ?_) (fun hn => absurd rfl hn)
  exact W.widen (k := cells + 3) (n := slots + 18) (by omega) (by omega) (kk f2 H locs ls cd1 hM hI1 hl)
set_option maxRecDepth 100000 in
set_option maxHeartbeats 2000000 in
theorem lc_36 {p : Program} {l : Launch} {e : Env} {s : State} {m : MethodId} {args : Array Value} {below : List Frame} {meth : Method} {c : Code} {H : Heap} {locs : List Loc} {cells slots : Nat} {Q : State → Prop} {ls : Array Slot} {g : gE} {b0 bs L : Nat} {f : gF} {xs : Nat → Int32} {i v cd : Int} (C : LWC p l s m args c g b0 bs L xs) (hM : gH g b0 622 f s.heap H locs) (hI : lwI g b0 v cd f) (hv0 : 0 ≤ v) (hv1 : v ≤ 20000000) (hi : 0 ≤ i ∧ i + 5 ≤ L) (hl : lv_has ls 9 (lwL bs b0 i)) (hcs : cells + 3 ≤ 603072 ∧ slots + 18 ≤ 7186538) (kk : ∀ (f1 : gF) (H1 : Heap) (locs1 : List Loc) (ls1 : Array Slot) (cd1 : Int), gH g b0 622 f1 s.heap H1 locs1 → lwI g b0 (v + 33542) cd1 f1 → lv_has ls1 9 (lwL bs b0 i) → W p l e room_1 s m args below meth c H1 locs1 (cells + 3) (slots + 18) Q (F0 m 2508 ls1 [])) : W p l e room_1 s m args below meth c H locs cells slots Q (F0 m 2451 ls []) := by
  obtain ⟨hx, hb, hml, hown, hts, hK, hE, hX, hbs, hbb, hl9, hL⟩ := id C
  refine lv_aload_n hx hb dL_law_2451 rfl (lv_at hl 4 rfl) ?_
  obtain ⟨⟨fs8, hfs8⟩, post8, h8, hn⟩ := j_save l g b0 f v cd hv0 hv1 hI
  refine g_callVi (ci := 10) (C := RX8) (T := TX8) (N := 9) (As := []) (rest := []) ⟨hx, hb, hml, hown, hts⟩ hK hM h8 (cuV (n := 0) hts u_549 u_546 u_1 (by decide) u_547 u_548 ⟨Nat.le_of_ble_eq_true rfl, Nat.le_of_ble_eq_true rfl⟩) ⟨by omega, by omega⟩ hfs8 rfl rfl hl.1 rfl (Nat.le_of_ble_eq_true rfl) dL_law_2452 ⟨rm_c (by omega), rm_s (by omega)⟩ (fun r f1 H locs hM hr => ?_)
  obtain ⟨⟨fs, hfs⟩, post9, h9, hn⟩ := hn r f1 hr
  refine lv_aload_n hx hb dL_law_2455 rfl (lv_at hl 3 rfl) ?_
  refine g_callVi (ci := 11) (C := RX9) (T := TX9) (N := 24) (As := []) (rest := [.int r]) ⟨hx, hb, hml, hown, hts⟩ hK hM h9 (cuV (n := 0) hts u_1583 u_1580 u_10 (by decide) u_1581 u_1582 ⟨Nat.le_of_ble_eq_true rfl, Nat.le_of_ble_eq_true rfl⟩) ⟨by omega, by omega⟩ hfs rfl rfl hl.1 rfl (Nat.le_of_ble_eq_true rfl) dL_law_2456 ⟨rm_c (by omega), rm_s (by omega)⟩ (fun r2 f2 H locs hM hr2 => ?_)
  obtain ⟨rfl, cd1, hI1⟩ := hn r2 f2 hr2
  refine lv_icmp_eq (tgt := 2508) hx hb dL_law_2459 (by decide) (fun _ => ?_) (fun hn => absurd rfl hn)
  exact W.widen (k := cells + 3) (n := slots + 18) (by omega) (by omega) (kk f2 H locs ls cd1 hM hI1 hl)
set_option maxRecDepth 100000 in
set_option maxHeartbeats 2000000 in
theorem lc_37 {p : Program} {l : Launch} {e : Env} {s : State} {m : MethodId} {args : Array Value} {below : List Frame} {meth : Method} {c : Code} {H : Heap} {locs : List Loc} {cells slots : Nat} {Q : State → Prop} {ls : Array Slot} {g : gE} {b0 bs L : Nat} {f : gF} {xs : Nat → Int32} {i v cd : Int} (C : LWC p l s m args c g b0 bs L xs) (hM : gH g b0 622 f s.heap H locs) (hI : lwI g b0 v cd f) (hv0 : 0 ≤ v) (hv1 : v ≤ 20000000) (hi : 0 ≤ i ∧ i + 5 ≤ L) (hl : lv_has ls 9 (lwL bs b0 i)) (hcs : cells + 3 ≤ 603072 ∧ slots + 18 ≤ 7186538) (kk : ∀ (f1 : gF) (H1 : Heap) (locs1 : List Loc) (ls1 : Array Slot) (cd1 : Int), gH g b0 622 f1 s.heap H1 locs1 → lwI g b0 (v + 33542) cd1 f1 → lv_has ls1 9 (lwL bs b0 i) → W p l e room_1 s m args below meth c H1 locs1 (cells + 3) (slots + 18) Q (F0 m 2508 ls1 [])) : W p l e room_1 s m args below meth c H locs cells slots Q (F0 m 2464 ls []) := by
  obtain ⟨hx, hb, hml, hown, hts, hK, hE, hX, hbs, hbb, hl9, hL⟩ := id C
  refine lv_aload_n hx hb dL_law_2464 rfl (lv_at hl 4 rfl) ?_
  refine lv_aload_n hx hb dL_law_2465 rfl (lv_at hl 2 rfl) ?_
  obtain ⟨postH, hH, hn⟩ := j_restore l g b0 f v cd  hl9 hv0 hv1 hI
  refine gh_callS (As := .ref b0 :: ([] ++ [.ref (b0 + 620)])) (rest := []) ⟨hx, hb, hml, hown, hts⟩ hK hM hE hH (cuH (n := 2) hts uw_restore u_1126 u_0 (by decide) u_1127 ⟨Nat.le_of_ble_eq_true rfl, Nat.le_of_ble_eq_true rfl⟩) rfl hl.1 rfl (Nat.le_of_ble_eq_true rfl) dL_law_2466 ⟨rm_c (by omega), rm_s (by omega)⟩ (fun k f1 H locs hM hk => ?_)
  obtain ⟨⟨fs, hfs⟩, postM, hMo, hn⟩ := hn k f1 hk
  refine lv_istore (lv' := (6, .int k) :: lwL bs b0 i) hx hb dL_law_2469 hl (by decide) rfl (fun ls hl => ?_)
  refine lv_aload_n hx hb dL_law_2471 rfl (lv_at hl 4 rfl) ?_
  refine g_callVi (ci := 11) (C := RX9) (T := TX9) (N := 24) (As := []) (rest := []) ⟨hx, hb, hml, hown, hts⟩ hK hM hMo (cuV (n := 0) hts u_1597 u_1594 u_10 (by decide) u_1595 u_1596 ⟨Nat.le_of_ble_eq_true rfl, Nat.le_of_ble_eq_true rfl⟩) ⟨by omega, by omega⟩ hfs rfl rfl hl.1 rfl (Nat.le_of_ble_eq_true rfl) dL_law_2472 ⟨rm_c (by omega), rm_s (by omega)⟩ (fun r f2 H locs hM hr => ?_)
  refine lv_istore (lv' := (7, .int r) :: (6, .int k) :: lwL bs b0 i) hx hb dL_law_2475 hl (by decide) rfl (fun ls hl => ?_)
  obtain ⟨cd1, hcd, rfl, hI1, hv⟩ := hn r f2 hr
  refine lr_tell C hM hI1 hcd hl.1 (lv_at hl 5 rfl) (lv_at hl 1 rfl) ⟨by omega, by omega⟩ dL_law_2477 dL_law_2478 dL_law_2481 dL_law_2483 (fun H locs hM => ?_)
  exact lr_valI (tgt := 2508) C hM hcd hv (lv_at hl 4 rfl) (lv_at hl 1 rfl) (lv_at hl 0 rfl) dL_law_2488 dL_law_2490 dL_law_2493 dL_law_2494 dL_law_2495 dL_law_2496 dL_law_2498 dL_law_2499 dL_law_2500 dL_law_2505 (by decide) (W.widen (k := cells + 3) (n := slots + 18) (by omega) (by omega) (kk f2 H locs ls cd1 hM hI1 (lv_sub hl [2, 3, 4, 5, 6, 7] rfl)))
