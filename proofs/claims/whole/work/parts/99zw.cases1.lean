/-! the law's calls (by program: gen/law.py) -/
section LC
variable {p : Program} {l : Launch} {e : Env} {s : State} {m : MethodId} {below : List Frame} {meth : Method} {c : Code} {H : Heap} {locs : List Loc} {cells slots : Nat} {Q : State → Prop} {ls : Array Slot} {g : zGeo} {M : Int → Int → Int} {G : GG} {b L : Nat} {xs : Nat → Int32} {i : Int}
set_option maxRecDepth 100000 in
set_option maxHeartbeats 4000000 in
theorem lw_0 (S : lwS p m c s b g L xs i) (hI : Inv M G) (Hh : zH g s (M, G) H locs) (hl : lv_has ls 7 (lwL g b i)) (hc : cells + 12 ≤ 601024) (hs : slots + 400 ≤ 7293034) (kk : lwK p l e s m below meth c cells slots Q g b i) : W p l e room_1 s m #[Value.ref b] below meth c H locs cells slots Q (F0 m 212 ls []) := by
  obtain ⟨h1, h2, v, e1, e2, hI2⟩ := q_feed (a := (sc xs (i + 1))) (b := (sc xs (i + 2))) (c := (sc xs (i + 3))) (d := (sc xs (i + 4))) (e := (sc xs (i + 5))) hI
  have C := S.1
  have hx := C.1.1
  have hb := C.1.2.1
  refine lv_aload_n hx hb dL_law_212 rfl (lv_at hl 1 rfl) ?_
  refine zl_arg (k := 1) S hl Hh dL_law_213 dL_law_214 dL_law_216 dL_law_217 dL_law_218 (by omega) (by omega) ?_
  refine zl_arg (k := 2) S hl Hh dL_law_219 dL_law_220 dL_law_222 dL_law_223 dL_law_224 (by omega) (by omega) ?_
  refine zl_arg (k := 3) S hl Hh dL_law_225 dL_law_226 dL_law_228 dL_law_229 dL_law_230 (by omega) (by omega) ?_
  refine zl_arg (k := 4) S hl Hh dL_law_231 dL_law_232 dL_law_234 dL_law_235 dL_law_236 (by omega) (by omega) ?_
  refine zl_arg (k := 5) S hl Hh dL_law_237 dL_law_238 dL_law_240 dL_law_241 dL_law_242 (by omega) (by omega) ?_
  refine z_callV (vs := [qI (sc xs (i + 1)), qI (sc xs (i + 2)), qI (sc xs (i + 3)), qI (sc xs (i + 4)), qI (sc xs (i + 5))]) C (ct_X9_feed l g (M, G) 0 (sc xs (i + 1)) (sc xs (i + 2)) (sc xs (i + 3)) (sc xs (i + 4)) (sc xs (i + 5)) (h1, v) e1) tw_495 lm_X9_feed (tg_X9_feed e1) rfl hl.1 Hh ⟨Nat.le_of_ble_eq_true rfl, Nat.le_of_ble_eq_true rfl, (by show _ ≤ 601024; omega), (by show _ ≤ 7293034; omega)⟩ (Nat.le_of_ble_eq_true rfl) dL_law_243 rfl (fun H1 locs1 Hh1 => ?_)
  refine lv_aload_n hx hb dL_law_246 rfl (lv_at hl 2 rfl) ?_
  refine zl_arg (k := 1) S hl Hh1 dL_law_247 dL_law_248 dL_law_250 dL_law_251 dL_law_252 (by omega) (by omega) ?_
  refine zl_arg (k := 2) S hl Hh1 dL_law_253 dL_law_254 dL_law_256 dL_law_257 dL_law_258 (by omega) (by omega) ?_
  refine zl_arg (k := 3) S hl Hh1 dL_law_259 dL_law_260 dL_law_262 dL_law_263 dL_law_264 (by omega) (by omega) ?_
  refine zl_arg (k := 4) S hl Hh1 dL_law_265 dL_law_266 dL_law_268 dL_law_269 dL_law_270 (by omega) (by omega) ?_
  refine zl_arg (k := 5) S hl Hh1 dL_law_271 dL_law_272 dL_law_274 dL_law_275 dL_law_276 (by omega) (by omega) ?_
  refine z_callV (vs := [qI (sc xs (i + 1)), qI (sc xs (i + 2)), qI (sc xs (i + 3)), qI (sc xs (i + 4)), qI (sc xs (i + 5))]) C (ct_X11_feed l g h1 124 (sc xs (i + 1)) (sc xs (i + 2)) (sc xs (i + 3)) (sc xs (i + 4)) (sc xs (i + 5)) (h2, v) e2) tw_1443 lm_X11_feed (tg_X11_feed e2) rfl hl.1 Hh1 ⟨Nat.le_of_ble_eq_true rfl, Nat.le_of_ble_eq_true rfl, (by show _ ≤ 601024; omega), (by show _ ≤ 7293034; omega)⟩ (Nat.le_of_ble_eq_true rfl) dL_law_277 rfl (fun H2 locs2 Hh2 => ?_)
  refine lv_icmp_eq (tgt := 1689) hx hb dL_law_280 (by decide) (fun _ => ?_) (fun c9 => absurd rfl c9)
  refine W.widen (k := cells + 12) (n := slots + 400) (by omega) (by omega) ?_
  exact kk h2.1 h2.2 _ _ _ hI2 Hh2 hl
set_option maxRecDepth 100000 in
set_option maxHeartbeats 4000000 in
theorem lw_1 (S : lwS p m c s b g L xs i) (hI : Inv M G) (Hh : zH g s (M, G) H locs) (hl : lv_has ls 7 (lwL g b i)) (hc : cells + 12 ≤ 601024) (hs : slots + 400 ≤ 7293034) (kk : lwK p l e s m below meth c cells slots Q g b i) : W p l e room_1 s m #[Value.ref b] below meth c H locs cells slots Q (F0 m 285 ls []) := by
  obtain ⟨h1, h2, v, e1, e2, hI2⟩ := q_ring hI (sc_i32 _ _)
  have C := S.1
  have hx := C.1.1
  have hb := C.1.2.1
  refine lv_aload_n hx hb dL_law_285 rfl (lv_at hl 1 rfl) ?_
  refine zl_arg (k := 1) S hl Hh dL_law_286 dL_law_287 dL_law_289 dL_law_290 dL_law_291 (by omega) (by omega) ?_
  refine z_callV (vs := [qI (sc xs (i + 1))]) C (ct_X9_ring l g (M, G) 0 (sc xs (i + 1)) (h1, v) e1) tw_503 lm_X9_ring (tg_X9_ring e1) rfl hl.1 Hh ⟨Nat.le_of_ble_eq_true rfl, Nat.le_of_ble_eq_true rfl, (by show _ ≤ 601024; omega), (by show _ ≤ 7293034; omega)⟩ (Nat.le_of_ble_eq_true rfl) dL_law_292 rfl (fun H1 locs1 Hh1 => ?_)
  refine lv_aload_n hx hb dL_law_295 rfl (lv_at hl 2 rfl) ?_
  refine zl_arg (k := 1) S hl Hh1 dL_law_296 dL_law_297 dL_law_299 dL_law_300 dL_law_301 (by omega) (by omega) ?_
  refine z_callV (vs := [qI (sc xs (i + 1))]) C (ct_X11_ring l g h1 124 (sc xs (i + 1)) (h2, v) e2) tw_1447 lm_X11_ring (tg_X11_ring e2) rfl hl.1 Hh1 ⟨Nat.le_of_ble_eq_true rfl, Nat.le_of_ble_eq_true rfl, (by show _ ≤ 601024; omega), (by show _ ≤ 7293034; omega)⟩ (Nat.le_of_ble_eq_true rfl) dL_law_302 rfl (fun H2 locs2 Hh2 => ?_)
  refine lv_icmp_eq (tgt := 1689) hx hb dL_law_305 (by decide) (fun _ => ?_) (fun c9 => absurd rfl c9)
  refine W.widen (k := cells + 12) (n := slots + 400) (by omega) (by omega) ?_
  exact kk h2.1 h2.2 _ _ _ hI2 Hh2 hl
set_option maxRecDepth 100000 in
set_option maxHeartbeats 4000000 in
theorem lw_2 (S : lwS p m c s b g L xs i) (hI : Inv M G) (Hh : zH g s (M, G) H locs) (hl : lv_has ls 7 (lwL g b i)) (hc : cells + 12 ≤ 601024) (hs : slots + 400 ≤ 7293034) (kk : lwK p l e s m below meth c cells slots Q g b i) : W p l e room_1 s m #[Value.ref b] below meth c H locs cells slots Q (F0 m 310 ls []) := by
  obtain ⟨h2, v, e1, e2, hI2⟩ := q_fault hI
  have C := S.1
  have hx := C.1.1
  have hb := C.1.2.1
  refine lv_aload_n hx hb dL_law_310 rfl (lv_at hl 1 rfl) ?_
  refine z_callV (vs := []) C (ct_X9_fault l g (M, G) 0  v e1) tw_772 lm_X9_fault (tg_X9_fault e1) rfl hl.1 Hh ⟨Nat.le_of_ble_eq_true rfl, Nat.le_of_ble_eq_true rfl, (by show _ ≤ 601024; omega), (by show _ ≤ 7293034; omega)⟩ (Nat.le_of_ble_eq_true rfl) dL_law_311 rfl (fun H1 locs1 Hh1 => ?_)
  refine lv_aload_n hx hb dL_law_314 rfl (lv_at hl 2 rfl) ?_
  refine z_callV (vs := []) C (ct_X11_fault l g (M, G) 124  (h2, v) e2) tw_1674 lm_X11_fault (tg_X11_fault e2) rfl hl.1 Hh1 ⟨Nat.le_of_ble_eq_true rfl, Nat.le_of_ble_eq_true rfl, (by show _ ≤ 601024; omega), (by show _ ≤ 7293034; omega)⟩ (Nat.le_of_ble_eq_true rfl) dL_law_315 rfl (fun H2 locs2 Hh2 => ?_)
  refine lv_icmp_eq (tgt := 1689) hx hb dL_law_318 (by decide) (fun _ => ?_) (fun c9 => absurd rfl c9)
  refine W.widen (k := cells + 12) (n := slots + 400) (by omega) (by omega) ?_
  exact kk h2.1 h2.2 _ _ _ hI2 Hh2 hl
set_option maxRecDepth 100000 in
set_option maxHeartbeats 4000000 in
theorem lw_3 (S : lwS p m c s b g L xs i) (hI : Inv M G) (Hh : zH g s (M, G) H locs) (hl : lv_has ls 7 (lwL g b i)) (hc : cells + 12 ≤ 601024) (hs : slots + 400 ≤ 7293034) (kk : lwK p l e s m below meth c cells slots Q g b i) : W p l e room_1 s m #[Value.ref b] below meth c H locs cells slots Q (F0 m 323 ls []) := by
  obtain ⟨h2, v, e1, e2, hI2⟩ := q_where hI
  have C := S.1
  have hx := C.1.1
  have hb := C.1.2.1
  refine lv_aload_n hx hb dL_law_323 rfl (lv_at hl 1 rfl) ?_
  refine z_callV (vs := []) C (ct_X9_where l g (M, G) 0  v e1) tw_776 lm_X9_where (tg_X9_where e1) rfl hl.1 Hh ⟨Nat.le_of_ble_eq_true rfl, Nat.le_of_ble_eq_true rfl, (by show _ ≤ 601024; omega), (by show _ ≤ 7293034; omega)⟩ (Nat.le_of_ble_eq_true rfl) dL_law_324 rfl (fun H1 locs1 Hh1 => ?_)
  refine lv_aload_n hx hb dL_law_327 rfl (lv_at hl 2 rfl) ?_
  refine z_callV (vs := []) C (ct_X11_where l g (M, G) 124  (h2, v) e2) tw_1678 lm_X11_where (tg_X11_where e2) rfl hl.1 Hh1 ⟨Nat.le_of_ble_eq_true rfl, Nat.le_of_ble_eq_true rfl, (by show _ ≤ 601024; omega), (by show _ ≤ 7293034; omega)⟩ (Nat.le_of_ble_eq_true rfl) dL_law_328 rfl (fun H2 locs2 Hh2 => ?_)
  refine lv_icmp_eq (tgt := 1689) hx hb dL_law_331 (by decide) (fun _ => ?_) (fun c9 => absurd rfl c9)
  refine W.widen (k := cells + 12) (n := slots + 400) (by omega) (by omega) ?_
  exact kk h2.1 h2.2 _ _ _ hI2 Hh2 hl
set_option maxRecDepth 100000 in
set_option maxHeartbeats 4000000 in
theorem lw_4 (S : lwS p m c s b g L xs i) (hI : Inv M G) (Hh : zH g s (M, G) H locs) (hl : lv_has ls 7 (lwL g b i)) (hc : cells + 12 ≤ 601024) (hs : slots + 400 ≤ 7293034) (kk : lwK p l e s m below meth c cells slots Q g b i) : W p l e room_1 s m #[Value.ref b] below meth c H locs cells slots Q (F0 m 336 ls []) := by
  obtain ⟨h1, h2, v, e1, e2, hI2⟩ := q_copies hI (sc_i32 _ _)
  have C := S.1
  have hx := C.1.1
  have hb := C.1.2.1
  refine lv_aload_n hx hb dL_law_336 rfl (lv_at hl 1 rfl) ?_
  refine zl_arg (k := 1) S hl Hh dL_law_337 dL_law_338 dL_law_340 dL_law_341 dL_law_342 (by omega) (by omega) ?_
  refine z_callV (vs := [qI (sc xs (i + 1))]) C (ct_X9_copies l g (M, G) 0 (sc xs (i + 1)) (h1, v) e1) tw_780 lm_X9_copies (tg_X9_copies e1) rfl hl.1 Hh ⟨Nat.le_of_ble_eq_true rfl, Nat.le_of_ble_eq_true rfl, (by show _ ≤ 601024; omega), (by show _ ≤ 7293034; omega)⟩ (Nat.le_of_ble_eq_true rfl) dL_law_343 rfl (fun H1 locs1 Hh1 => ?_)
  refine lv_aload_n hx hb dL_law_346 rfl (lv_at hl 2 rfl) ?_
  refine zl_arg (k := 1) S hl Hh1 dL_law_347 dL_law_348 dL_law_350 dL_law_351 dL_law_352 (by omega) (by omega) ?_
  refine z_callV (vs := [qI (sc xs (i + 1))]) C (ct_X11_copies l g h1 124 (sc xs (i + 1)) (h2, v) e2) tw_1682 lm_X11_copies (tg_X11_copies e2) rfl hl.1 Hh1 ⟨Nat.le_of_ble_eq_true rfl, Nat.le_of_ble_eq_true rfl, (by show _ ≤ 601024; omega), (by show _ ≤ 7293034; omega)⟩ (Nat.le_of_ble_eq_true rfl) dL_law_353 rfl (fun H2 locs2 Hh2 => ?_)
  refine lv_icmp_eq (tgt := 1689) hx hb dL_law_356 (by decide) (fun _ => ?_) (fun c9 => absurd rfl c9)
  refine W.widen (k := cells + 12) (n := slots + 400) (by omega) (by omega) ?_
  exact kk h2.1 h2.2 _ _ _ hI2 Hh2 hl
set_option maxRecDepth 100000 in
set_option maxHeartbeats 4000000 in
theorem lw_5 (S : lwS p m c s b g L xs i) (hI : Inv M G) (Hh : zH g s (M, G) H locs) (hl : lv_has ls 7 (lwL g b i)) (hc : cells + 12 ≤ 601024) (hs : slots + 400 ≤ 7293034) (kk : lwK p l e s m below meth c cells slots Q g b i) : W p l e room_1 s m #[Value.ref b] below meth c H locs cells slots Q (F0 m 361 ls []) := by
  obtain ⟨h1, h2, v, e1, e2, hI2⟩ := q_error hI (sc_i32 _ _) (sc_i32 _ _)
  have C := S.1
  have hx := C.1.1
  have hb := C.1.2.1
  refine lv_aload_n hx hb dL_law_361 rfl (lv_at hl 1 rfl) ?_
  refine zl_arg (k := 1) S hl Hh dL_law_362 dL_law_363 dL_law_365 dL_law_366 dL_law_367 (by omega) (by omega) ?_
  refine zl_arg (k := 2) S hl Hh dL_law_368 dL_law_369 dL_law_371 dL_law_372 dL_law_373 (by omega) (by omega) ?_
  refine z_callV (vs := [qI (sc xs (i + 1)), qI (sc xs (i + 2))]) C (ct_X9_error l g (M, G) 0 (sc xs (i + 1)) (sc xs (i + 2)) (h1, v) e1) tw_788 lm_X9_error (tg_X9_error e1) rfl hl.1 Hh ⟨Nat.le_of_ble_eq_true rfl, Nat.le_of_ble_eq_true rfl, (by show _ ≤ 601024; omega), (by show _ ≤ 7293034; omega)⟩ (Nat.le_of_ble_eq_true rfl) dL_law_374 rfl (fun H1 locs1 Hh1 => ?_)
  refine lv_aload_n hx hb dL_law_377 rfl (lv_at hl 2 rfl) ?_
  refine zl_arg (k := 1) S hl Hh1 dL_law_378 dL_law_379 dL_law_381 dL_law_382 dL_law_383 (by omega) (by omega) ?_
  refine zl_arg (k := 2) S hl Hh1 dL_law_384 dL_law_385 dL_law_387 dL_law_388 dL_law_389 (by omega) (by omega) ?_
  refine z_callV (vs := [qI (sc xs (i + 1)), qI (sc xs (i + 2))]) C (ct_X11_error l g h1 124 (sc xs (i + 1)) (sc xs (i + 2)) (h2, v) e2) tw_1690 lm_X11_error (tg_X11_error e2) rfl hl.1 Hh1 ⟨Nat.le_of_ble_eq_true rfl, Nat.le_of_ble_eq_true rfl, (by show _ ≤ 601024; omega), (by show _ ≤ 7293034; omega)⟩ (Nat.le_of_ble_eq_true rfl) dL_law_390 rfl (fun H2 locs2 Hh2 => ?_)
  refine lv_icmp_eq (tgt := 1689) hx hb dL_law_393 (by decide) (fun _ => ?_) (fun c9 => absurd rfl c9)
  refine W.widen (k := cells + 12) (n := slots + 400) (by omega) (by omega) ?_
  exact kk h2.1 h2.2 _ _ _ hI2 Hh2 hl
set_option maxRecDepth 100000 in
set_option maxHeartbeats 4000000 in
theorem lw_6 (S : lwS p m c s b g L xs i) (hI : Inv M G) (Hh : zH g s (M, G) H locs) (hl : lv_has ls 7 (lwL g b i)) (hc : cells + 12 ≤ 601024) (hs : slots + 400 ≤ 7293034) (kk : lwK p l e s m below meth c cells slots Q g b i) : W p l e room_1 s m #[Value.ref b] below meth c H locs cells slots Q (F0 m 398 ls []) := by
  obtain ⟨h1, h2, v, e1, e2, hI2⟩ := q_cell hI (sc_i32 _ _) (sc_i32 _ _)
  have C := S.1
  have hx := C.1.1
  have hb := C.1.2.1
  refine lv_aload_n hx hb dL_law_398 rfl (lv_at hl 1 rfl) ?_
  refine zl_arg (k := 1) S hl Hh dL_law_399 dL_law_400 dL_law_402 dL_law_403 dL_law_404 (by omega) (by omega) ?_
  refine zl_arg (k := 2) S hl Hh dL_law_405 dL_law_406 dL_law_408 dL_law_409 dL_law_410 (by omega) (by omega) ?_
  refine z_callV (vs := [qI (sc xs (i + 1)), qI (sc xs (i + 2))]) C (ct_X9_cell l g (M, G) 0 (sc xs (i + 1)) (sc xs (i + 2)) (h1, v) e1) tw_792 lm_X9_cell (tg_X9_cell e1) rfl hl.1 Hh ⟨Nat.le_of_ble_eq_true rfl, Nat.le_of_ble_eq_true rfl, (by show _ ≤ 601024; omega), (by show _ ≤ 7293034; omega)⟩ (Nat.le_of_ble_eq_true rfl) dL_law_411 rfl (fun H1 locs1 Hh1 => ?_)
  refine lv_aload_n hx hb dL_law_414 rfl (lv_at hl 2 rfl) ?_
  refine zl_arg (k := 1) S hl Hh1 dL_law_415 dL_law_416 dL_law_418 dL_law_419 dL_law_420 (by omega) (by omega) ?_
  refine zl_arg (k := 2) S hl Hh1 dL_law_421 dL_law_422 dL_law_424 dL_law_425 dL_law_426 (by omega) (by omega) ?_
  refine z_callV (vs := [qI (sc xs (i + 1)), qI (sc xs (i + 2))]) C (ct_X11_cell l g h1 124 (sc xs (i + 1)) (sc xs (i + 2)) (h2, v) e2) tw_1694 lm_X11_cell (tg_X11_cell e2) rfl hl.1 Hh1 ⟨Nat.le_of_ble_eq_true rfl, Nat.le_of_ble_eq_true rfl, (by show _ ≤ 601024; omega), (by show _ ≤ 7293034; omega)⟩ (Nat.le_of_ble_eq_true rfl) dL_law_427 rfl (fun H2 locs2 Hh2 => ?_)
  refine lv_icmp_eq (tgt := 1689) hx hb dL_law_430 (by decide) (fun _ => ?_) (fun c9 => absurd rfl c9)
  refine W.widen (k := cells + 12) (n := slots + 400) (by omega) (by omega) ?_
  exact kk h2.1 h2.2 _ _ _ hI2 Hh2 hl
set_option maxRecDepth 100000 in
set_option maxHeartbeats 4000000 in
theorem lw_7 (S : lwS p m c s b g L xs i) (hI : Inv M G) (Hh : zH g s (M, G) H locs) (hl : lv_has ls 7 (lwL g b i)) (hc : cells + 12 ≤ 601024) (hs : slots + 400 ≤ 7293034) (kk : lwK p l e s m below meth c cells slots Q g b i) : W p l e room_1 s m #[Value.ref b] below meth c H locs cells slots Q (F0 m 435 ls []) := by
  obtain ⟨h1, h2, v, e1, e2, hI2⟩ := q_first hI (sc_i32 _ _) (sc_i32 _ _)
  have C := S.1
  have hx := C.1.1
  have hb := C.1.2.1
  refine lv_aload_n hx hb dL_law_435 rfl (lv_at hl 1 rfl) ?_
  refine zl_arg (k := 1) S hl Hh dL_law_436 dL_law_437 dL_law_439 dL_law_440 dL_law_441 (by omega) (by omega) ?_
  refine zl_arg (k := 2) S hl Hh dL_law_442 dL_law_443 dL_law_445 dL_law_446 dL_law_447 (by omega) (by omega) ?_
  refine z_callV (vs := [qI (sc xs (i + 1)), qI (sc xs (i + 2))]) C (ct_X9_first l g (M, G) 0 (sc xs (i + 1)) (sc xs (i + 2)) (h1, v) e1) tw_803 lm_X9_first (tg_X9_first e1) rfl hl.1 Hh ⟨Nat.le_of_ble_eq_true rfl, Nat.le_of_ble_eq_true rfl, (by show _ ≤ 601024; omega), (by show _ ≤ 7293034; omega)⟩ (Nat.le_of_ble_eq_true rfl) dL_law_448 rfl (fun H1 locs1 Hh1 => ?_)
  refine lv_aload_n hx hb dL_law_451 rfl (lv_at hl 2 rfl) ?_
  refine zl_arg (k := 1) S hl Hh1 dL_law_452 dL_law_453 dL_law_455 dL_law_456 dL_law_457 (by omega) (by omega) ?_
  refine zl_arg (k := 2) S hl Hh1 dL_law_458 dL_law_459 dL_law_461 dL_law_462 dL_law_463 (by omega) (by omega) ?_
  refine z_callV (vs := [qI (sc xs (i + 1)), qI (sc xs (i + 2))]) C (ct_X11_first l g h1 124 (sc xs (i + 1)) (sc xs (i + 2)) (h2, v) e2) tw_1706 lm_X11_first (tg_X11_first e2) rfl hl.1 Hh1 ⟨Nat.le_of_ble_eq_true rfl, Nat.le_of_ble_eq_true rfl, (by show _ ≤ 601024; omega), (by show _ ≤ 7293034; omega)⟩ (Nat.le_of_ble_eq_true rfl) dL_law_464 rfl (fun H2 locs2 Hh2 => ?_)
  refine lv_icmp_eq (tgt := 1689) hx hb dL_law_467 (by decide) (fun _ => ?_) (fun c9 => absurd rfl c9)
  refine W.widen (k := cells + 12) (n := slots + 400) (by omega) (by omega) ?_
  exact kk h2.1 h2.2 _ _ _ hI2 Hh2 hl
set_option maxRecDepth 100000 in
set_option maxHeartbeats 4000000 in
theorem lw_8 (S : lwS p m c s b g L xs i) (hI : Inv M G) (Hh : zH g s (M, G) H locs) (hl : lv_has ls 7 (lwL g b i)) (hc : cells + 12 ≤ 601024) (hs : slots + 400 ≤ 7293034) (kk : lwK p l e s m below meth c cells slots Q g b i) : W p l e room_1 s m #[Value.ref b] below meth c H locs cells slots Q (F0 m 472 ls []) := by
  obtain ⟨h1, h2, v, e1, e2, hI2⟩ := q_after hI (sc_i32 _ _) (sc_i32 _ _) (sc_i32 _ _)
  have C := S.1
  have hx := C.1.1
  have hb := C.1.2.1
  refine lv_aload_n hx hb dL_law_472 rfl (lv_at hl 1 rfl) ?_
  refine zl_arg (k := 1) S hl Hh dL_law_473 dL_law_474 dL_law_476 dL_law_477 dL_law_478 (by omega) (by omega) ?_
  refine zl_arg (k := 2) S hl Hh dL_law_479 dL_law_480 dL_law_482 dL_law_483 dL_law_484 (by omega) (by omega) ?_
  refine zl_arg (k := 3) S hl Hh dL_law_485 dL_law_486 dL_law_488 dL_law_489 dL_law_490 (by omega) (by omega) ?_
  refine z_callV (vs := [qI (sc xs (i + 1)), qI (sc xs (i + 2)), qI (sc xs (i + 3))]) C (ct_X9_after l g (M, G) 0 (sc xs (i + 1)) (sc xs (i + 2)) (sc xs (i + 3)) (h1, v) e1) tw_807 lm_X9_after (tg_X9_after e1) rfl hl.1 Hh ⟨Nat.le_of_ble_eq_true rfl, Nat.le_of_ble_eq_true rfl, (by show _ ≤ 601024; omega), (by show _ ≤ 7293034; omega)⟩ (Nat.le_of_ble_eq_true rfl) dL_law_491 rfl (fun H1 locs1 Hh1 => ?_)
  refine lv_aload_n hx hb dL_law_494 rfl (lv_at hl 2 rfl) ?_
  refine zl_arg (k := 1) S hl Hh1 dL_law_495 dL_law_496 dL_law_498 dL_law_499 dL_law_500 (by omega) (by omega) ?_
  refine zl_arg (k := 2) S hl Hh1 dL_law_501 dL_law_502 dL_law_504 dL_law_505 dL_law_506 (by omega) (by omega) ?_
  refine zl_arg (k := 3) S hl Hh1 dL_law_507 dL_law_508 dL_law_510 dL_law_511 dL_law_512 (by omega) (by omega) ?_
  refine z_callV (vs := [qI (sc xs (i + 1)), qI (sc xs (i + 2)), qI (sc xs (i + 3))]) C (ct_X11_after l g h1 124 (sc xs (i + 1)) (sc xs (i + 2)) (sc xs (i + 3)) (h2, v) e2) tw_1710 lm_X11_after (tg_X11_after e2) rfl hl.1 Hh1 ⟨Nat.le_of_ble_eq_true rfl, Nat.le_of_ble_eq_true rfl, (by show _ ≤ 601024; omega), (by show _ ≤ 7293034; omega)⟩ (Nat.le_of_ble_eq_true rfl) dL_law_513 rfl (fun H2 locs2 Hh2 => ?_)
  refine lv_icmp_eq (tgt := 1689) hx hb dL_law_516 (by decide) (fun _ => ?_) (fun c9 => absurd rfl c9)
  refine W.widen (k := cells + 12) (n := slots + 400) (by omega) (by omega) ?_
  exact kk h2.1 h2.2 _ _ _ hI2 Hh2 hl
set_option maxRecDepth 100000 in
set_option maxHeartbeats 4000000 in
theorem lw_9 (S : lwS p m c s b g L xs i) (hI : Inv M G) (Hh : zH g s (M, G) H locs) (hl : lv_has ls 7 (lwL g b i)) (hc : cells + 12 ≤ 601024) (hs : slots + 400 ≤ 7293034) (kk : lwK p l e s m below meth c cells slots Q g b i) : W p l e room_1 s m #[Value.ref b] below meth c H locs cells slots Q (F0 m 521 ls []) := by
  obtain ⟨h1, h2, v, e1, e2, hI2⟩ := q_many hI (sc_i32 _ _) (sc_i32 _ _) (sc_i32 _ _)
  have C := S.1
  have hx := C.1.1
  have hb := C.1.2.1
  refine lv_aload_n hx hb dL_law_521 rfl (lv_at hl 1 rfl) ?_
  refine zl_arg (k := 1) S hl Hh dL_law_522 dL_law_523 dL_law_525 dL_law_526 dL_law_527 (by omega) (by omega) ?_
  refine zl_arg (k := 2) S hl Hh dL_law_528 dL_law_529 dL_law_531 dL_law_532 dL_law_533 (by omega) (by omega) ?_
  refine zl_arg (k := 3) S hl Hh dL_law_534 dL_law_535 dL_law_537 dL_law_538 dL_law_539 (by omega) (by omega) ?_
  refine z_callV (vs := [qI (sc xs (i + 1)), qI (sc xs (i + 2)), qI (sc xs (i + 3))]) C (ct_X9_many l g (M, G) 0 (sc xs (i + 1)) (sc xs (i + 2)) (sc xs (i + 3)) (h1, v) e1) tw_884 lm_X9_many (tg_X9_many e1) rfl hl.1 Hh ⟨Nat.le_of_ble_eq_true rfl, Nat.le_of_ble_eq_true rfl, (by show _ ≤ 601024; omega), (by show _ ≤ 7293034; omega)⟩ (Nat.le_of_ble_eq_true rfl) dL_law_540 rfl (fun H1 locs1 Hh1 => ?_)
  refine lv_aload_n hx hb dL_law_543 rfl (lv_at hl 2 rfl) ?_
  refine zl_arg (k := 1) S hl Hh1 dL_law_544 dL_law_545 dL_law_547 dL_law_548 dL_law_549 (by omega) (by omega) ?_
  refine zl_arg (k := 2) S hl Hh1 dL_law_550 dL_law_551 dL_law_553 dL_law_554 dL_law_555 (by omega) (by omega) ?_
  refine zl_arg (k := 3) S hl Hh1 dL_law_556 dL_law_557 dL_law_559 dL_law_560 dL_law_561 (by omega) (by omega) ?_
  refine z_callV (vs := [qI (sc xs (i + 1)), qI (sc xs (i + 2)), qI (sc xs (i + 3))]) C (ct_X11_many l g h1 124 (sc xs (i + 1)) (sc xs (i + 2)) (sc xs (i + 3)) (h2, v) e2) tw_1769 lm_X11_many (tg_X11_many e2) rfl hl.1 Hh1 ⟨Nat.le_of_ble_eq_true rfl, Nat.le_of_ble_eq_true rfl, (by show _ ≤ 601024; omega), (by show _ ≤ 7293034; omega)⟩ (Nat.le_of_ble_eq_true rfl) dL_law_562 rfl (fun H2 locs2 Hh2 => ?_)
  refine lv_icmp_eq (tgt := 1689) hx hb dL_law_565 (by decide) (fun _ => ?_) (fun c9 => absurd rfl c9)
  refine W.widen (k := cells + 12) (n := slots + 400) (by omega) (by omega) ?_
  exact kk h2.1 h2.2 _ _ _ hI2 Hh2 hl
set_option maxRecDepth 100000 in
set_option maxHeartbeats 4000000 in
theorem lw_10 (S : lwS p m c s b g L xs i) (hI : Inv M G) (Hh : zH g s (M, G) H locs) (hl : lv_has ls 7 (lwL g b i)) (hc : cells + 12 ≤ 601024) (hs : slots + 400 ≤ 7293034) (kk : lwK p l e s m below meth c cells slots Q g b i) : W p l e room_1 s m #[Value.ref b] below meth c H locs cells slots Q (F0 m 570 ls []) := by
  obtain ⟨h1, h2, v, e1, e2, hI2⟩ := q_unlike hI (sc_i32 _ _) (sc_i32 _ _) (sc_i32 _ _)
  have C := S.1
  have hx := C.1.1
  have hb := C.1.2.1
  refine lv_aload_n hx hb dL_law_570 rfl (lv_at hl 1 rfl) ?_
  refine zl_arg (k := 1) S hl Hh dL_law_571 dL_law_572 dL_law_574 dL_law_575 dL_law_576 (by omega) (by omega) ?_
  refine zl_arg (k := 2) S hl Hh dL_law_577 dL_law_578 dL_law_580 dL_law_581 dL_law_582 (by omega) (by omega) ?_
  refine zl_arg (k := 3) S hl Hh dL_law_583 dL_law_584 dL_law_586 dL_law_587 dL_law_588 (by omega) (by omega) ?_
  refine z_callV (vs := [qI (sc xs (i + 1)), qI (sc xs (i + 2)), qI (sc xs (i + 3))]) C (ct_X9_unlike l g (M, G) 0 (sc xs (i + 1)) (sc xs (i + 2)) (sc xs (i + 3)) (h1, v) e1) tw_901 lm_X9_unlike (tg_X9_unlike e1) rfl hl.1 Hh ⟨Nat.le_of_ble_eq_true rfl, Nat.le_of_ble_eq_true rfl, (by show _ ≤ 601024; omega), (by show _ ≤ 7293034; omega)⟩ (Nat.le_of_ble_eq_true rfl) dL_law_589 rfl (fun H1 locs1 Hh1 => ?_)
  refine lv_aload_n hx hb dL_law_592 rfl (lv_at hl 2 rfl) ?_
  refine zl_arg (k := 1) S hl Hh1 dL_law_593 dL_law_594 dL_law_596 dL_law_597 dL_law_598 (by omega) (by omega) ?_
  refine zl_arg (k := 2) S hl Hh1 dL_law_599 dL_law_600 dL_law_602 dL_law_603 dL_law_604 (by omega) (by omega) ?_
  refine zl_arg (k := 3) S hl Hh1 dL_law_605 dL_law_606 dL_law_608 dL_law_609 dL_law_610 (by omega) (by omega) ?_
  refine z_callV (vs := [qI (sc xs (i + 1)), qI (sc xs (i + 2)), qI (sc xs (i + 3))]) C (ct_X11_unlike l g h1 124 (sc xs (i + 1)) (sc xs (i + 2)) (sc xs (i + 3)) (h2, v) e2) tw_1777 lm_X11_unlike (tg_X11_unlike e2) rfl hl.1 Hh1 ⟨Nat.le_of_ble_eq_true rfl, Nat.le_of_ble_eq_true rfl, (by show _ ≤ 601024; omega), (by show _ ≤ 7293034; omega)⟩ (Nat.le_of_ble_eq_true rfl) dL_law_611 rfl (fun H2 locs2 Hh2 => ?_)
  refine lv_icmp_eq (tgt := 1689) hx hb dL_law_614 (by decide) (fun _ => ?_) (fun c9 => absurd rfl c9)
  refine W.widen (k := cells + 12) (n := slots + 400) (by omega) (by omega) ?_
  exact kk h2.1 h2.2 _ _ _ hI2 Hh2 hl
set_option maxRecDepth 100000 in
set_option maxHeartbeats 4000000 in
theorem lw_11 (S : lwS p m c s b g L xs i) (hI : Inv M G) (Hh : zH g s (M, G) H locs) (hl : lv_has ls 7 (lwL g b i)) (hc : cells + 12 ≤ 601024) (hs : slots + 400 ≤ 7293034) (kk : lwK p l e s m below meth c cells slots Q g b i) : W p l e room_1 s m #[Value.ref b] below meth c H locs cells slots Q (F0 m 619 ls []) := by
  obtain ⟨h1, h2, v, e1, e2, hI2⟩ := q_trueOnes hI (sc_i32 _ _) (sc_i32 _ _)
  have C := S.1
  have hx := C.1.1
  have hb := C.1.2.1
  refine lv_aload_n hx hb dL_law_619 rfl (lv_at hl 1 rfl) ?_
  refine zl_arg (k := 1) S hl Hh dL_law_620 dL_law_621 dL_law_623 dL_law_624 dL_law_625 (by omega) (by omega) ?_
  refine zl_arg (k := 2) S hl Hh dL_law_626 dL_law_627 dL_law_629 dL_law_630 dL_law_631 (by omega) (by omega) ?_
  refine z_callV (vs := [qI (sc xs (i + 1)), qI (sc xs (i + 2))]) C (ct_X9_trueOnes l g (M, G) 0 (sc xs (i + 1)) (sc xs (i + 2)) (h1, v) e1) tw_913 lm_X9_trueOnes (tg_X9_trueOnes e1) rfl hl.1 Hh ⟨Nat.le_of_ble_eq_true rfl, Nat.le_of_ble_eq_true rfl, (by show _ ≤ 601024; omega), (by show _ ≤ 7293034; omega)⟩ (Nat.le_of_ble_eq_true rfl) dL_law_632 rfl (fun H1 locs1 Hh1 => ?_)
  refine lv_aload_n hx hb dL_law_635 rfl (lv_at hl 2 rfl) ?_
  refine zl_arg (k := 1) S hl Hh1 dL_law_636 dL_law_637 dL_law_639 dL_law_640 dL_law_641 (by omega) (by omega) ?_
  refine zl_arg (k := 2) S hl Hh1 dL_law_642 dL_law_643 dL_law_645 dL_law_646 dL_law_647 (by omega) (by omega) ?_
  refine z_callV (vs := [qI (sc xs (i + 1)), qI (sc xs (i + 2))]) C (ct_X11_trueOnes l g h1 124 (sc xs (i + 1)) (sc xs (i + 2)) (h2, v) e2) tw_1781 lm_X11_trueOnes (tg_X11_trueOnes e2) rfl hl.1 Hh1 ⟨Nat.le_of_ble_eq_true rfl, Nat.le_of_ble_eq_true rfl, (by show _ ≤ 601024; omega), (by show _ ≤ 7293034; omega)⟩ (Nat.le_of_ble_eq_true rfl) dL_law_648 rfl (fun H2 locs2 Hh2 => ?_)
  refine lv_icmp_eq (tgt := 1689) hx hb dL_law_651 (by decide) (fun _ => ?_) (fun c9 => absurd rfl c9)
  refine W.widen (k := cells + 12) (n := slots + 400) (by omega) (by omega) ?_
  exact kk h2.1 h2.2 _ _ _ hI2 Hh2 hl
set_option maxRecDepth 100000 in
set_option maxHeartbeats 4000000 in
theorem lw_12 (S : lwS p m c s b g L xs i) (hI : Inv M G) (Hh : zH g s (M, G) H locs) (hl : lv_has ls 7 (lwL g b i)) (hc : cells + 12 ≤ 601024) (hs : slots + 400 ≤ 7293034) (kk : lwK p l e s m below meth c cells slots Q g b i) : W p l e room_1 s m #[Value.ref b] below meth c H locs cells slots Q (F0 m 656 ls []) := by
  obtain ⟨h1, h2, v, e1, e2, hI2⟩ := q_when hI (sc_i32 _ _) (sc_i32 _ _) (sc_i32 _ _)
  have C := S.1
  have hx := C.1.1
  have hb := C.1.2.1
  refine lv_aload_n hx hb dL_law_656 rfl (lv_at hl 1 rfl) ?_
  refine zl_arg (k := 1) S hl Hh dL_law_657 dL_law_658 dL_law_660 dL_law_661 dL_law_662 (by omega) (by omega) ?_
  refine zl_arg (k := 2) S hl Hh dL_law_663 dL_law_664 dL_law_666 dL_law_667 dL_law_668 (by omega) (by omega) ?_
  refine zl_arg (k := 3) S hl Hh dL_law_669 dL_law_670 dL_law_672 dL_law_673 dL_law_674 (by omega) (by omega) ?_
  refine z_callV (vs := [qI (sc xs (i + 1)), qI (sc xs (i + 2)), qI (sc xs (i + 3))]) C (ct_X9_when l g (M, G) 0 (sc xs (i + 1)) (sc xs (i + 2)) (sc xs (i + 3)) (h1, v) e1) tw_917 lm_X9_when (tg_X9_when e1) rfl hl.1 Hh ⟨Nat.le_of_ble_eq_true rfl, Nat.le_of_ble_eq_true rfl, (by show _ ≤ 601024; omega), (by show _ ≤ 7293034; omega)⟩ (Nat.le_of_ble_eq_true rfl) dL_law_675 rfl (fun H1 locs1 Hh1 => ?_)
  refine lv_aload_n hx hb dL_law_678 rfl (lv_at hl 2 rfl) ?_
  refine zl_arg (k := 1) S hl Hh1 dL_law_679 dL_law_680 dL_law_682 dL_law_683 dL_law_684 (by omega) (by omega) ?_
  refine zl_arg (k := 2) S hl Hh1 dL_law_685 dL_law_686 dL_law_688 dL_law_689 dL_law_690 (by omega) (by omega) ?_
  refine zl_arg (k := 3) S hl Hh1 dL_law_691 dL_law_692 dL_law_694 dL_law_695 dL_law_696 (by omega) (by omega) ?_
  refine z_callV (vs := [qI (sc xs (i + 1)), qI (sc xs (i + 2)), qI (sc xs (i + 3))]) C (ct_X11_when l g h1 124 (sc xs (i + 1)) (sc xs (i + 2)) (sc xs (i + 3)) (h2, v) e2) tw_1785 lm_X11_when (tg_X11_when e2) rfl hl.1 Hh1 ⟨Nat.le_of_ble_eq_true rfl, Nat.le_of_ble_eq_true rfl, (by show _ ≤ 601024; omega), (by show _ ≤ 7293034; omega)⟩ (Nat.le_of_ble_eq_true rfl) dL_law_697 rfl (fun H2 locs2 Hh2 => ?_)
  refine lv_icmp_eq (tgt := 1689) hx hb dL_law_700 (by decide) (fun _ => ?_) (fun c9 => absurd rfl c9)
  refine W.widen (k := cells + 12) (n := slots + 400) (by omega) (by omega) ?_
  exact kk h2.1 h2.2 _ _ _ hI2 Hh2 hl
end LC
