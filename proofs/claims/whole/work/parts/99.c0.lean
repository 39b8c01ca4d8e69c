section LAWC
variable {G : wm_G} {p : Program} {e : Env} {s : State} {m : MethodId} {below : List Frame} {meth : Method} {c : Code} {b L : Nat} {xs : Nat → Int32}
theorem lc_0 (C0 : lw_At p s m meth c b L xs) (hF : wm_F G s) (hA : G.2.2.2.2.1 = fun q => s.heap.size ≤ q) {i : Nat} (hi : i + 6 ≤ L) (hL : L ≤ 3072) {M : wm_M} (hM : RelA M) {H : Heap} {locs : List Loc} {la : Array Slot} (hP : va_P G.2.1 classes (wm_ws G M) H) (hS : va_S G.2.2.2.2.1 s.heap H locs) (hl : lv_has la 4 [(3, .int (nI i)), (2, wm_r G 96), (1, wm_r G 0), (0, .ref b)])
    (kk : ∀ (O : wm_M) (H1 : Heap) (locs1 : List Loc), RelA O → va_P G.2.1 classes (wm_ws G O) H1 → va_S G.2.2.2.2.1 s.heap H1 locs1 → W p G.1 e room_1 s m #[Value.ref b] below meth c H1 locs1 600000 7302250 (lw_Z below #[Value.ref b] s) (F0 m 1375 la [])) : W p G.1 e room_1 s m #[Value.ref b] below meth c H locs 600000 7302250 (lw_Z below #[Value.ref b] s) (F0 m 216 la []) := by
  obtain ⟨w, h, rn, s0, yr, ci, x⟩ := hM
  obtain ⟨v, hv⟩ := (s_row (G := G) ci (xs (i + 1)) (xs (i + 2))).b.two ci x
  have hx := C0.1
  have hb := C0.2.1
  refine lv_aload_n hx hb dL_216 rfl (lv_at hl 2 rfl) ?_
  refine wl_arg (k := 1) C0 dL_217 dL_218 dL_219 dL_220 dL_221 hl hA hS (by omega) hL (by decide) ?_
  refine wl_arg (k := 2) C0 dL_222 dL_223 dL_224 dL_225 dL_226 hl hA hS (by omega) hL (by decide) ?_
  refine wl_call C0 hF (As := [.int (xs (i + 1)), .int (xs (i + 2))]) (k := 0) (st := []) hv vX9_row kL_13 dL_227 rfl rfl rfl rfl (by decide) (by decide) hP hS hl (fun u N H1 locs1 q hP1 hS1 => ?_)
  obtain ⟨rfl, q⟩ := q
  refine W.eq (g2 := F0 m 230 la [.int v]) rfl ?_
  refine lv_aload_n hx hb dL_230 rfl (lv_at hl 1 rfl) ?_
  refine wl_arg (k := 1) C0 dL_231 dL_232 dL_233 dL_234 dL_235 hl hA hS1 (by omega) hL (by decide) ?_
  refine wl_arg (k := 2) C0 dL_236 dL_237 dL_238 dL_239 dL_240 hl hA hS1 (by omega) hL (by decide) ?_
  refine wl_call C0 hF (As := [.int (xs (i + 1)), .int (xs (i + 2))]) (k := 96) (st := [.int v]) q vX10_row kL_17 dL_241 rfl rfl rfl rfl (Nat.le_of_ble_eq_true rfl) (by decide) hP1 hS1 hl (fun u O H2 locs2 q2 hP2 hS2 => ?_)
  obtain ⟨rfl, q2⟩ := q2
  refine W.eq (g2 := F0 m 244 la [.int v, .int v]) rfl ?_
  refine lv_icmp_eq (tgt := 1375) hx hb dL_244 (by decide) (fun _ => kk O H2 locs2 q2 hP2 hS2) (fun c9 => absurd rfl c9)
theorem lc_1 (C0 : lw_At p s m meth c b L xs) (hF : wm_F G s) (hA : G.2.2.2.2.1 = fun q => s.heap.size ≤ q) {i : Nat} (hi : i + 6 ≤ L) (hL : L ≤ 3072) {M : wm_M} (hM : RelA M) {H : Heap} {locs : List Loc} {la : Array Slot} (hP : va_P G.2.1 classes (wm_ws G M) H) (hS : va_S G.2.2.2.2.1 s.heap H locs) (hl : lv_has la 4 [(3, .int (nI i)), (2, wm_r G 96), (1, wm_r G 0), (0, .ref b)])
    (kk : ∀ (O : wm_M) (H1 : Heap) (locs1 : List Loc), RelA O → va_P G.2.1 classes (wm_ws G O) H1 → va_S G.2.2.2.2.1 s.heap H1 locs1 → W p G.1 e room_1 s m #[Value.ref b] below meth c H1 locs1 600000 7302250 (lw_Z below #[Value.ref b] s) (F0 m 1375 la [])) : W p G.1 e room_1 s m #[Value.ref b] below meth c H locs 600000 7302250 (lw_Z below #[Value.ref b] s) (F0 m 249 la []) := by
  obtain ⟨w, h, rn, s0, yr, ci, x⟩ := hM
  obtain ⟨v, hv⟩ := (s_lay (G := G) ci (xs (i + 1)) (xs (i + 2)) (xs (i + 3))).b.two ci x
  have hx := C0.1
  have hb := C0.2.1
  refine lv_aload_n hx hb dL_249 rfl (lv_at hl 2 rfl) ?_
  refine wl_arg (k := 1) C0 dL_250 dL_251 dL_252 dL_253 dL_254 hl hA hS (by omega) hL (by decide) ?_
  refine wl_arg (k := 2) C0 dL_255 dL_256 dL_257 dL_258 dL_259 hl hA hS (by omega) hL (by decide) ?_
  refine wl_arg (k := 3) C0 dL_260 dL_261 dL_262 dL_263 dL_264 hl hA hS (by omega) hL (by decide) ?_
  refine wl_call C0 hF (As := [.int (xs (i + 1)), .int (xs (i + 2)), .int (xs (i + 3))]) (k := 0) (st := []) hv vX9_lay kL_18 dL_265 rfl rfl rfl rfl (by decide) (by decide) hP hS hl (fun u N H1 locs1 q hP1 hS1 => ?_)
  obtain ⟨rfl, q⟩ := q
  refine W.eq (g2 := F0 m 268 la [.int v]) rfl ?_
  refine lv_aload_n hx hb dL_268 rfl (lv_at hl 1 rfl) ?_
  refine wl_arg (k := 1) C0 dL_269 dL_270 dL_271 dL_272 dL_273 hl hA hS1 (by omega) hL (by decide) ?_
  refine wl_arg (k := 2) C0 dL_274 dL_275 dL_276 dL_277 dL_278 hl hA hS1 (by omega) hL (by decide) ?_
  refine wl_arg (k := 3) C0 dL_279 dL_280 dL_281 dL_282 dL_283 hl hA hS1 (by omega) hL (by decide) ?_
  refine wl_call C0 hF (As := [.int (xs (i + 1)), .int (xs (i + 2)), .int (xs (i + 3))]) (k := 96) (st := [.int v]) q vX10_lay kL_22 dL_284 rfl rfl rfl rfl (Nat.le_of_ble_eq_true rfl) (by decide) hP1 hS1 hl (fun u O H2 locs2 q2 hP2 hS2 => ?_)
  obtain ⟨rfl, q2⟩ := q2
  refine W.eq (g2 := F0 m 287 la [.int v, .int v]) rfl ?_
  refine lv_icmp_eq (tgt := 1375) hx hb dL_287 (by decide) (fun _ => kk O H2 locs2 q2 hP2 hS2) (fun c9 => absurd rfl c9)
theorem lc_2 (C0 : lw_At p s m meth c b L xs) (hF : wm_F G s) (hA : G.2.2.2.2.1 = fun q => s.heap.size ≤ q) {i : Nat} (hi : i + 6 ≤ L) (hL : L ≤ 3072) {M : wm_M} (hM : RelA M) {H : Heap} {locs : List Loc} {la : Array Slot} (hP : va_P G.2.1 classes (wm_ws G M) H) (hS : va_S G.2.2.2.2.1 s.heap H locs) (hl : lv_has la 4 [(3, .int (nI i)), (2, wm_r G 96), (1, wm_r G 0), (0, .ref b)])
    (kk : ∀ (O : wm_M) (H1 : Heap) (locs1 : List Loc), RelA O → va_P G.2.1 classes (wm_ws G O) H1 → va_S G.2.2.2.2.1 s.heap H1 locs1 → W p G.1 e room_1 s m #[Value.ref b] below meth c H1 locs1 600000 7302250 (lw_Z below #[Value.ref b] s) (F0 m 1375 la [])) : W p G.1 e room_1 s m #[Value.ref b] below meth c H locs 600000 7302250 (lw_Z below #[Value.ref b] s) (F0 m 292 la []) := by
  obtain ⟨w, h, rn, s0, yr, ci, x⟩ := hM
  obtain ⟨v, hv⟩ := (s_at (G := G) ci (xs (i + 1)) (xs (i + 2))).b.two ci x
  have hx := C0.1
  have hb := C0.2.1
  refine lv_aload_n hx hb dL_292 rfl (lv_at hl 2 rfl) ?_
  refine wl_arg (k := 1) C0 dL_293 dL_294 dL_295 dL_296 dL_297 hl hA hS (by omega) hL (by decide) ?_
  refine wl_arg (k := 2) C0 dL_298 dL_299 dL_300 dL_301 dL_302 hl hA hS (by omega) hL (by decide) ?_
  refine wl_call C0 hF (As := [.int (xs (i + 1)), .int (xs (i + 2))]) (k := 0) (st := []) hv vX9_at kL_23 dL_303 rfl rfl rfl rfl (by decide) (by decide) hP hS hl (fun u N H1 locs1 q hP1 hS1 => ?_)
  obtain ⟨rfl, q⟩ := q
  refine W.eq (g2 := F0 m 306 la [.int v]) rfl ?_
  refine lv_aload_n hx hb dL_306 rfl (lv_at hl 1 rfl) ?_
  refine wl_arg (k := 1) C0 dL_307 dL_308 dL_309 dL_310 dL_311 hl hA hS1 (by omega) hL (by decide) ?_
  refine wl_arg (k := 2) C0 dL_312 dL_313 dL_314 dL_315 dL_316 hl hA hS1 (by omega) hL (by decide) ?_
  refine wl_call C0 hF (As := [.int (xs (i + 1)), .int (xs (i + 2))]) (k := 96) (st := [.int v]) q vX10_at kL_26 dL_317 rfl rfl rfl rfl (Nat.le_of_ble_eq_true rfl) (by decide) hP1 hS1 hl (fun u O H2 locs2 q2 hP2 hS2 => ?_)
  obtain ⟨rfl, q2⟩ := q2
  refine W.eq (g2 := F0 m 320 la [.int v, .int v]) rfl ?_
  refine lv_icmp_eq (tgt := 1375) hx hb dL_320 (by decide) (fun _ => kk O H2 locs2 q2 hP2 hS2) (fun c9 => absurd rfl c9)
theorem lc_3 (C0 : lw_At p s m meth c b L xs) (hF : wm_F G s) (hA : G.2.2.2.2.1 = fun q => s.heap.size ≤ q) {i : Nat} (hi : i + 6 ≤ L) (hL : L ≤ 3072) {M : wm_M} (hM : RelA M) {H : Heap} {locs : List Loc} {la : Array Slot} (hP : va_P G.2.1 classes (wm_ws G M) H) (hS : va_S G.2.2.2.2.1 s.heap H locs) (hl : lv_has la 4 [(3, .int (nI i)), (2, wm_r G 96), (1, wm_r G 0), (0, .ref b)])
    (kk : ∀ (O : wm_M) (H1 : Heap) (locs1 : List Loc), RelA O → va_P G.2.1 classes (wm_ws G O) H1 → va_S G.2.2.2.2.1 s.heap H1 locs1 → W p G.1 e room_1 s m #[Value.ref b] below meth c H1 locs1 600000 7302250 (lw_Z below #[Value.ref b] s) (F0 m 1375 la [])) : W p G.1 e room_1 s m #[Value.ref b] below meth c H locs 600000 7302250 (lw_Z below #[Value.ref b] s) (F0 m 325 la []) := by
  obtain ⟨w, h, rn, s0, yr, ci, x⟩ := hM
  obtain ⟨v, hv⟩ := (s_tear (G := G) ci (xs (i + 1))).b.two ci x
  have hx := C0.1
  have hb := C0.2.1
  refine lv_aload_n hx hb dL_325 rfl (lv_at hl 2 rfl) ?_
  refine wl_arg (k := 1) C0 dL_326 dL_327 dL_328 dL_329 dL_330 hl hA hS (by omega) hL (by decide) ?_
  refine wl_call C0 hF (As := [.int (xs (i + 1))]) (k := 0) (st := []) hv vX9_tear kL_27 dL_331 rfl rfl rfl rfl (by decide) (by decide) hP hS hl (fun u N H1 locs1 q hP1 hS1 => ?_)
  obtain ⟨rfl, q⟩ := q
  refine W.eq (g2 := F0 m 334 la [.int v]) rfl ?_
  refine lv_aload_n hx hb dL_334 rfl (lv_at hl 1 rfl) ?_
  refine wl_arg (k := 1) C0 dL_335 dL_336 dL_337 dL_338 dL_339 hl hA hS1 (by omega) hL (by decide) ?_
  refine wl_call C0 hF (As := [.int (xs (i + 1))]) (k := 96) (st := [.int v]) q vX10_tear kL_31 dL_340 rfl rfl rfl rfl (Nat.le_of_ble_eq_true rfl) (by decide) hP1 hS1 hl (fun u O H2 locs2 q2 hP2 hS2 => ?_)
  obtain ⟨rfl, q2⟩ := q2
  refine W.eq (g2 := F0 m 343 la [.int v, .int v]) rfl ?_
  refine lv_icmp_eq (tgt := 1375) hx hb dL_343 (by decide) (fun _ => kk O H2 locs2 q2 hP2 hS2) (fun c9 => absurd rfl c9)
theorem lc_4 (C0 : lw_At p s m meth c b L xs) (hF : wm_F G s) (hA : G.2.2.2.2.1 = fun q => s.heap.size ≤ q) {i : Nat} (hi : i + 6 ≤ L) (hL : L ≤ 3072) {M : wm_M} (hM : RelA M) {H : Heap} {locs : List Loc} {la : Array Slot} (hP : va_P G.2.1 classes (wm_ws G M) H) (hS : va_S G.2.2.2.2.1 s.heap H locs) (hl : lv_has la 4 [(3, .int (nI i)), (2, wm_r G 96), (1, wm_r G 0), (0, .ref b)])
    (kk : ∀ (O : wm_M) (H1 : Heap) (locs1 : List Loc), RelA O → va_P G.2.1 classes (wm_ws G O) H1 → va_S G.2.2.2.2.1 s.heap H1 locs1 → W p G.1 e room_1 s m #[Value.ref b] below meth c H1 locs1 600000 7302250 (lw_Z below #[Value.ref b] s) (F0 m 1375 la [])) : W p G.1 e room_1 s m #[Value.ref b] below meth c H locs 600000 7302250 (lw_Z below #[Value.ref b] s) (F0 m 348 la []) := by
  obtain ⟨w, h, rn, s0, yr, ci, x⟩ := hM
  obtain ⟨v, hv⟩ := (s_copy (G := G) ci (xs (i + 1)) (xs (i + 2)) (xs (i + 3)) (xs (i + 4)) (xs (i + 5))).b.two ci x
  have hx := C0.1
  have hb := C0.2.1
  refine lv_aload_n hx hb dL_348 rfl (lv_at hl 2 rfl) ?_
  refine wl_arg (k := 1) C0 dL_349 dL_350 dL_351 dL_352 dL_353 hl hA hS (by omega) hL (by decide) ?_
  refine wl_arg (k := 2) C0 dL_354 dL_355 dL_356 dL_357 dL_358 hl hA hS (by omega) hL (by decide) ?_
  refine wl_arg (k := 3) C0 dL_359 dL_360 dL_361 dL_362 dL_363 hl hA hS (by omega) hL (by decide) ?_
  refine wl_arg (k := 4) C0 dL_364 dL_365 dL_366 dL_367 dL_368 hl hA hS (by omega) hL (by decide) ?_
  refine wl_arg (k := 5) C0 dL_369 dL_370 dL_371 dL_372 dL_373 hl hA hS (by omega) hL (by decide) ?_
  refine wl_call C0 hF (As := [.int (xs (i + 1)), .int (xs (i + 2)), .int (xs (i + 3)), .int (xs (i + 4)), .int (xs (i + 5))]) (k := 0) (st := []) hv vX9_copy kL_32 dL_374 rfl rfl rfl rfl (by decide) (by decide) hP hS hl (fun u N H1 locs1 q hP1 hS1 => ?_)
  obtain ⟨rfl, q⟩ := q
  refine W.eq (g2 := F0 m 377 la [.int v]) rfl ?_
  refine lv_aload_n hx hb dL_377 rfl (lv_at hl 1 rfl) ?_
  refine wl_arg (k := 1) C0 dL_378 dL_379 dL_380 dL_381 dL_382 hl hA hS1 (by omega) hL (by decide) ?_
  refine wl_arg (k := 2) C0 dL_383 dL_384 dL_385 dL_386 dL_387 hl hA hS1 (by omega) hL (by decide) ?_
  refine wl_arg (k := 3) C0 dL_388 dL_389 dL_390 dL_391 dL_392 hl hA hS1 (by omega) hL (by decide) ?_
  refine wl_arg (k := 4) C0 dL_393 dL_394 dL_395 dL_396 dL_397 hl hA hS1 (by omega) hL (by decide) ?_
  refine wl_arg (k := 5) C0 dL_398 dL_399 dL_400 dL_401 dL_402 hl hA hS1 (by omega) hL (by decide) ?_
  refine wl_call C0 hF (As := [.int (xs (i + 1)), .int (xs (i + 2)), .int (xs (i + 3)), .int (xs (i + 4)), .int (xs (i + 5))]) (k := 96) (st := [.int v]) q vX10_copy kL_36 dL_403 rfl rfl rfl rfl (Nat.le_of_ble_eq_true rfl) (by decide) hP1 hS1 hl (fun u O H2 locs2 q2 hP2 hS2 => ?_)
  obtain ⟨rfl, q2⟩ := q2
  refine W.eq (g2 := F0 m 406 la [.int v, .int v]) rfl ?_
  refine lv_icmp_eq (tgt := 1375) hx hb dL_406 (by decide) (fun _ => kk O H2 locs2 q2 hP2 hS2) (fun c9 => absurd rfl c9)
theorem lc_5 (C0 : lw_At p s m meth c b L xs) (hF : wm_F G s) (hA : G.2.2.2.2.1 = fun q => s.heap.size ≤ q) {i : Nat} (hi : i + 6 ≤ L) (hL : L ≤ 3072) {M : wm_M} (hM : RelA M) {H : Heap} {locs : List Loc} {la : Array Slot} (hP : va_P G.2.1 classes (wm_ws G M) H) (hS : va_S G.2.2.2.2.1 s.heap H locs) (hl : lv_has la 4 [(3, .int (nI i)), (2, wm_r G 96), (1, wm_r G 0), (0, .ref b)])
    (kk : ∀ (O : wm_M) (H1 : Heap) (locs1 : List Loc), RelA O → va_P G.2.1 classes (wm_ws G O) H1 → va_S G.2.2.2.2.1 s.heap H1 locs1 → W p G.1 e room_1 s m #[Value.ref b] below meth c H1 locs1 600000 7302250 (lw_Z below #[Value.ref b] s) (F0 m 1375 la [])) : W p G.1 e room_1 s m #[Value.ref b] below meth c H locs 600000 7302250 (lw_Z below #[Value.ref b] s) (F0 m 411 la []) := by
  obtain ⟨w, h, rn, s0, yr, ci, x⟩ := hM
  obtain ⟨v, hv⟩ := (s_mean (G := G) ci (xs (i + 1))).b.two ci x
  have hx := C0.1
  have hb := C0.2.1
  refine lv_aload_n hx hb dL_411 rfl (lv_at hl 2 rfl) ?_
  refine wl_arg (k := 1) C0 dL_412 dL_413 dL_414 dL_415 dL_416 hl hA hS (by omega) hL (by decide) ?_
  refine wl_call C0 hF (As := [.int (xs (i + 1))]) (k := 0) (st := []) hv vX9_mean kL_37 dL_417 rfl rfl rfl rfl (by decide) (by decide) hP hS hl (fun u N H1 locs1 q hP1 hS1 => ?_)
  obtain ⟨rfl, q⟩ := q
  refine W.eq (g2 := F0 m 420 la [.int v]) rfl ?_
  refine lv_aload_n hx hb dL_420 rfl (lv_at hl 1 rfl) ?_
  refine wl_arg (k := 1) C0 dL_421 dL_422 dL_423 dL_424 dL_425 hl hA hS1 (by omega) hL (by decide) ?_
  refine wl_call C0 hF (As := [.int (xs (i + 1))]) (k := 96) (st := [.int v]) q vX10_mean kL_40 dL_426 rfl rfl rfl rfl (Nat.le_of_ble_eq_true rfl) (by decide) hP1 hS1 hl (fun u O H2 locs2 q2 hP2 hS2 => ?_)
  obtain ⟨rfl, q2⟩ := q2
  refine W.eq (g2 := F0 m 429 la [.int v, .int v]) rfl ?_
  refine lv_icmp_eq (tgt := 1375) hx hb dL_429 (by decide) (fun _ => kk O H2 locs2 q2 hP2 hS2) (fun c9 => absurd rfl c9)
theorem lc_6 (C0 : lw_At p s m meth c b L xs) (hF : wm_F G s) (hA : G.2.2.2.2.1 = fun q => s.heap.size ≤ q) {i : Nat} (hi : i + 6 ≤ L) (hL : L ≤ 3072) {M : wm_M} (hM : RelA M) {H : Heap} {locs : List Loc} {la : Array Slot} (hP : va_P G.2.1 classes (wm_ws G M) H) (hS : va_S G.2.2.2.2.1 s.heap H locs) (hl : lv_has la 4 [(3, .int (nI i)), (2, wm_r G 96), (1, wm_r G 0), (0, .ref b)])
    (kk : ∀ (O : wm_M) (H1 : Heap) (locs1 : List Loc), RelA O → va_P G.2.1 classes (wm_ws G O) H1 → va_S G.2.2.2.2.1 s.heap H1 locs1 → W p G.1 e room_1 s m #[Value.ref b] below meth c H1 locs1 600000 7302250 (lw_Z below #[Value.ref b] s) (F0 m 1375 la [])) : W p G.1 e room_1 s m #[Value.ref b] below meth c H locs 600000 7302250 (lw_Z below #[Value.ref b] s) (F0 m 434 la []) := by
  obtain ⟨w, h, rn, s0, yr, ci, x⟩ := hM
  obtain ⟨v, hv⟩ := (s_text (G := G) ci (xs (i + 1)) (xs (i + 2))).b.two ci x
  have hx := C0.1
  have hb := C0.2.1
  refine lv_aload_n hx hb dL_434 rfl (lv_at hl 2 rfl) ?_
  refine wl_arg (k := 1) C0 dL_435 dL_436 dL_437 dL_438 dL_439 hl hA hS (by omega) hL (by decide) ?_
  refine wl_arg (k := 2) C0 dL_440 dL_441 dL_442 dL_443 dL_444 hl hA hS (by omega) hL (by decide) ?_
  refine wl_call C0 hF (As := [.int (xs (i + 1)), .int (xs (i + 2))]) (k := 0) (st := []) hv vX9_text kL_41 dL_445 rfl rfl rfl rfl (by decide) (by decide) hP hS hl (fun u N H1 locs1 q hP1 hS1 => ?_)
  obtain ⟨rfl, q⟩ := q
  refine W.eq (g2 := F0 m 448 la [.int v]) rfl ?_
  refine lv_aload_n hx hb dL_448 rfl (lv_at hl 1 rfl) ?_
  refine wl_arg (k := 1) C0 dL_449 dL_450 dL_451 dL_452 dL_453 hl hA hS1 (by omega) hL (by decide) ?_
  refine wl_arg (k := 2) C0 dL_454 dL_455 dL_456 dL_457 dL_458 hl hA hS1 (by omega) hL (by decide) ?_
  refine wl_call C0 hF (As := [.int (xs (i + 1)), .int (xs (i + 2))]) (k := 96) (st := [.int v]) q vX10_text kL_44 dL_459 rfl rfl rfl rfl (Nat.le_of_ble_eq_true rfl) (by decide) hP1 hS1 hl (fun u O H2 locs2 q2 hP2 hS2 => ?_)
  obtain ⟨rfl, q2⟩ := q2
  refine W.eq (g2 := F0 m 462 la [.int v, .int v]) rfl ?_
  refine lv_icmp_eq (tgt := 1375) hx hb dL_462 (by decide) (fun _ => kk O H2 locs2 q2 hP2 hS2) (fun c9 => absurd rfl c9)
theorem lc_7 (C0 : lw_At p s m meth c b L xs) (hF : wm_F G s) (hA : G.2.2.2.2.1 = fun q => s.heap.size ≤ q) {i : Nat} (hi : i + 6 ≤ L) (hL : L ≤ 3072) {M : wm_M} (hM : RelA M) {H : Heap} {locs : List Loc} {la : Array Slot} (hP : va_P G.2.1 classes (wm_ws G M) H) (hS : va_S G.2.2.2.2.1 s.heap H locs) (hl : lv_has la 4 [(3, .int (nI i)), (2, wm_r G 96), (1, wm_r G 0), (0, .ref b)])
    (kk : ∀ (O : wm_M) (H1 : Heap) (locs1 : List Loc), RelA O → va_P G.2.1 classes (wm_ws G O) H1 → va_S G.2.2.2.2.1 s.heap H1 locs1 → W p G.1 e room_1 s m #[Value.ref b] below meth c H1 locs1 600000 7302250 (lw_Z below #[Value.ref b] s) (F0 m 1375 la [])) : W p G.1 e room_1 s m #[Value.ref b] below meth c H locs 600000 7302250 (lw_Z below #[Value.ref b] s) (F0 m 467 la []) := by
  obtain ⟨w, h, rn, s0, yr, ci, x⟩ := hM
  obtain ⟨v, hv⟩ := (s_put (G := G) ci (xs (i + 1)) (xs (i + 2)) (xs (i + 3))).b.two ci x
  have hx := C0.1
  have hb := C0.2.1
  refine lv_aload_n hx hb dL_467 rfl (lv_at hl 2 rfl) ?_
  refine wl_arg (k := 1) C0 dL_468 dL_469 dL_470 dL_471 dL_472 hl hA hS (by omega) hL (by decide) ?_
  refine wl_arg (k := 2) C0 dL_473 dL_474 dL_475 dL_476 dL_477 hl hA hS (by omega) hL (by decide) ?_
  refine wl_arg (k := 3) C0 dL_478 dL_479 dL_480 dL_481 dL_482 hl hA hS (by omega) hL (by decide) ?_
  refine wl_call C0 hF (As := [.int (xs (i + 1)), .int (xs (i + 2)), .int (xs (i + 3))]) (k := 0) (st := []) hv vX9_put kL_45 dL_483 rfl rfl rfl rfl (by decide) (by decide) hP hS hl (fun u N H1 locs1 q hP1 hS1 => ?_)
  obtain ⟨rfl, q⟩ := q
  refine W.eq (g2 := F0 m 486 la [.int v]) rfl ?_
  refine lv_aload_n hx hb dL_486 rfl (lv_at hl 1 rfl) ?_
  refine wl_arg (k := 1) C0 dL_487 dL_488 dL_489 dL_490 dL_491 hl hA hS1 (by omega) hL (by decide) ?_
  refine wl_arg (k := 2) C0 dL_492 dL_493 dL_494 dL_495 dL_496 hl hA hS1 (by omega) hL (by decide) ?_
  refine wl_arg (k := 3) C0 dL_497 dL_498 dL_499 dL_500 dL_501 hl hA hS1 (by omega) hL (by decide) ?_
  refine wl_call C0 hF (As := [.int (xs (i + 1)), .int (xs (i + 2)), .int (xs (i + 3))]) (k := 96) (st := [.int v]) q vX10_put kL_48 dL_502 rfl rfl rfl rfl (Nat.le_of_ble_eq_true rfl) (by decide) hP1 hS1 hl (fun u O H2 locs2 q2 hP2 hS2 => ?_)
  obtain ⟨rfl, q2⟩ := q2
  refine W.eq (g2 := F0 m 505 la [.int v, .int v]) rfl ?_
  refine lv_icmp_eq (tgt := 1375) hx hb dL_505 (by decide) (fun _ => kk O H2 locs2 q2 hP2 hS2) (fun c9 => absurd rfl c9)
theorem lc_8 (C0 : lw_At p s m meth c b L xs) (hF : wm_F G s) (hA : G.2.2.2.2.1 = fun q => s.heap.size ≤ q) {i : Nat} (hi : i + 6 ≤ L) (hL : L ≤ 3072) {M : wm_M} (hM : RelA M) {H : Heap} {locs : List Loc} {la : Array Slot} (hP : va_P G.2.1 classes (wm_ws G M) H) (hS : va_S G.2.2.2.2.1 s.heap H locs) (hl : lv_has la 4 [(3, .int (nI i)), (2, wm_r G 96), (1, wm_r G 0), (0, .ref b)])
    (kk : ∀ (O : wm_M) (H1 : Heap) (locs1 : List Loc), RelA O → va_P G.2.1 classes (wm_ws G O) H1 → va_S G.2.2.2.2.1 s.heap H1 locs1 → W p G.1 e room_1 s m #[Value.ref b] below meth c H1 locs1 600000 7302250 (lw_Z below #[Value.ref b] s) (F0 m 1375 la [])) : W p G.1 e room_1 s m #[Value.ref b] below meth c H locs 600000 7302250 (lw_Z below #[Value.ref b] s) (F0 m 510 la []) := by
  obtain ⟨w, h, rn, s0, yr, ci, x⟩ := hM
  obtain ⟨v, hv⟩ := (s_fault (G := G) ci (xs (i + 1))).b.two ci x
  have hx := C0.1
  have hb := C0.2.1
  refine lv_aload_n hx hb dL_510 rfl (lv_at hl 2 rfl) ?_
  refine wl_arg (k := 1) C0 dL_511 dL_512 dL_513 dL_514 dL_515 hl hA hS (by omega) hL (by decide) ?_
  refine wl_call C0 hF (As := [.int (xs (i + 1))]) (k := 0) (st := []) hv vX9_fault kL_49 dL_516 rfl rfl rfl rfl (by decide) (by decide) hP hS hl (fun u N H1 locs1 q hP1 hS1 => ?_)
  obtain ⟨rfl, q⟩ := q
  refine W.eq (g2 := F0 m 519 la [.int v]) rfl ?_
  refine lv_aload_n hx hb dL_519 rfl (lv_at hl 1 rfl) ?_
  refine wl_arg (k := 1) C0 dL_520 dL_521 dL_522 dL_523 dL_524 hl hA hS1 (by omega) hL (by decide) ?_
  refine wl_call C0 hF (As := [.int (xs (i + 1))]) (k := 96) (st := [.int v]) q vX10_fault kL_52 dL_525 rfl rfl rfl rfl (Nat.le_of_ble_eq_true rfl) (by decide) hP1 hS1 hl (fun u O H2 locs2 q2 hP2 hS2 => ?_)
  obtain ⟨rfl, q2⟩ := q2
  refine W.eq (g2 := F0 m 528 la [.int v, .int v]) rfl ?_
  refine lv_icmp_eq (tgt := 1375) hx hb dL_528 (by decide) (fun _ => kk O H2 locs2 q2 hP2 hS2) (fun c9 => absurd rfl c9)
theorem lc_9 (C0 : lw_At p s m meth c b L xs) (hF : wm_F G s) (hA : G.2.2.2.2.1 = fun q => s.heap.size ≤ q) {i : Nat} (hi : i + 6 ≤ L) (hL : L ≤ 3072) {M : wm_M} (hM : RelA M) {H : Heap} {locs : List Loc} {la : Array Slot} (hP : va_P G.2.1 classes (wm_ws G M) H) (hS : va_S G.2.2.2.2.1 s.heap H locs) (hl : lv_has la 4 [(3, .int (nI i)), (2, wm_r G 96), (1, wm_r G 0), (0, .ref b)])
    (kk : ∀ (O : wm_M) (H1 : Heap) (locs1 : List Loc), RelA O → va_P G.2.1 classes (wm_ws G O) H1 → va_S G.2.2.2.2.1 s.heap H1 locs1 → W p G.1 e room_1 s m #[Value.ref b] below meth c H1 locs1 600000 7302250 (lw_Z below #[Value.ref b] s) (F0 m 1375 la [])) : W p G.1 e room_1 s m #[Value.ref b] below meth c H locs 600000 7302250 (lw_Z below #[Value.ref b] s) (F0 m 533 la []) := by
  obtain ⟨w, h, rn, s0, yr, ci, x⟩ := hM
  obtain ⟨v, hv⟩ := (s_town (G := G) ci (xs (i + 1))).two ci x
  have hx := C0.1
  have hb := C0.2.1
  refine lv_aload_n hx hb dL_533 rfl (lv_at hl 2 rfl) ?_
  refine wl_arg (k := 1) C0 dL_534 dL_535 dL_536 dL_537 dL_538 hl hA hS (by omega) hL (by decide) ?_
  refine wl_call C0 hF (As := [.int (xs (i + 1))]) (k := 0) (st := []) hv vX9_town kL_53 dL_539 rfl rfl rfl rfl (by decide) (by decide) hP hS hl (fun u N H1 locs1 q hP1 hS1 => ?_)
  obtain ⟨rfl, q⟩ := q
  refine W.eq (g2 := F0 m 542 la [.int v]) rfl ?_
  refine lv_aload_n hx hb dL_542 rfl (lv_at hl 1 rfl) ?_
  refine wl_arg (k := 1) C0 dL_543 dL_544 dL_545 dL_546 dL_547 hl hA hS1 (by omega) hL (by decide) ?_
  refine wl_call C0 hF (As := [.int (xs (i + 1))]) (k := 96) (st := [.int v]) q vX10_town kL_56 dL_548 rfl rfl rfl rfl (Nat.le_of_ble_eq_true rfl) (by decide) hP1 hS1 hl (fun u O H2 locs2 q2 hP2 hS2 => ?_)
  obtain ⟨rfl, q2⟩ := q2
  refine W.eq (g2 := F0 m 551 la [.int v, .int v]) rfl ?_
  refine lv_icmp_eq (tgt := 1375) hx hb dL_551 (by decide) (fun _ => kk O H2 locs2 q2 hP2 hS2) (fun c9 => absurd rfl c9)
theorem lc_10 (C0 : lw_At p s m meth c b L xs) (hF : wm_F G s) (hA : G.2.2.2.2.1 = fun q => s.heap.size ≤ q) {i : Nat} (hi : i + 6 ≤ L) (hL : L ≤ 3072) {M : wm_M} (hM : RelA M) {H : Heap} {locs : List Loc} {la : Array Slot} (hP : va_P G.2.1 classes (wm_ws G M) H) (hS : va_S G.2.2.2.2.1 s.heap H locs) (hl : lv_has la 4 [(3, .int (nI i)), (2, wm_r G 96), (1, wm_r G 0), (0, .ref b)])
    (kk : ∀ (O : wm_M) (H1 : Heap) (locs1 : List Loc), RelA O → va_P G.2.1 classes (wm_ws G O) H1 → va_S G.2.2.2.2.1 s.heap H1 locs1 → W p G.1 e room_1 s m #[Value.ref b] below meth c H1 locs1 600000 7302250 (lw_Z below #[Value.ref b] s) (F0 m 1375 la [])) : W p G.1 e room_1 s m #[Value.ref b] below meth c H locs 600000 7302250 (lw_Z below #[Value.ref b] s) (F0 m 556 la []) := by
  obtain ⟨w, h, rn, s0, yr, ci, x⟩ := hM
  obtain ⟨v, hv⟩ := (s_stone (G := G) ci (xs (i + 1)) (xs (i + 2))).b.two ci x
  have hx := C0.1
  have hb := C0.2.1
  refine lv_aload_n hx hb dL_556 rfl (lv_at hl 2 rfl) ?_
  refine wl_arg (k := 1) C0 dL_557 dL_558 dL_559 dL_560 dL_561 hl hA hS (by omega) hL (by decide) ?_
  refine wl_arg (k := 2) C0 dL_562 dL_563 dL_564 dL_565 dL_566 hl hA hS (by omega) hL (by decide) ?_
  refine wl_call C0 hF (As := [.int (xs (i + 1)), .int (xs (i + 2))]) (k := 0) (st := []) hv vX9_stone kL_57 dL_567 rfl rfl rfl rfl (by decide) (by decide) hP hS hl (fun u N H1 locs1 q hP1 hS1 => ?_)
  obtain ⟨rfl, q⟩ := q
  refine W.eq (g2 := F0 m 570 la [.int v]) rfl ?_
  refine lv_aload_n hx hb dL_570 rfl (lv_at hl 1 rfl) ?_
  refine wl_arg (k := 1) C0 dL_571 dL_572 dL_573 dL_574 dL_575 hl hA hS1 (by omega) hL (by decide) ?_
  refine wl_arg (k := 2) C0 dL_576 dL_577 dL_578 dL_579 dL_580 hl hA hS1 (by omega) hL (by decide) ?_
  refine wl_call C0 hF (As := [.int (xs (i + 1)), .int (xs (i + 2))]) (k := 96) (st := [.int v]) q vX10_stone kL_60 dL_581 rfl rfl rfl rfl (Nat.le_of_ble_eq_true rfl) (by decide) hP1 hS1 hl (fun u O H2 locs2 q2 hP2 hS2 => ?_)
  obtain ⟨rfl, q2⟩ := q2
  refine W.eq (g2 := F0 m 584 la [.int v, .int v]) rfl ?_
  refine lv_icmp_eq (tgt := 1375) hx hb dL_584 (by decide) (fun _ => kk O H2 locs2 q2 hP2 hS2) (fun c9 => absurd rfl c9)
theorem lc_11 (C0 : lw_At p s m meth c b L xs) (hF : wm_F G s) (hA : G.2.2.2.2.1 = fun q => s.heap.size ≤ q) {i : Nat} (hi : i + 6 ≤ L) (hL : L ≤ 3072) {M : wm_M} (hM : RelA M) {H : Heap} {locs : List Loc} {la : Array Slot} (hP : va_P G.2.1 classes (wm_ws G M) H) (hS : va_S G.2.2.2.2.1 s.heap H locs) (hl : lv_has la 4 [(3, .int (nI i)), (2, wm_r G 96), (1, wm_r G 0), (0, .ref b)])
    (kk : ∀ (O : wm_M) (H1 : Heap) (locs1 : List Loc), RelA O → va_P G.2.1 classes (wm_ws G O) H1 → va_S G.2.2.2.2.1 s.heap H1 locs1 → W p G.1 e room_1 s m #[Value.ref b] below meth c H1 locs1 600000 7302250 (lw_Z below #[Value.ref b] s) (F0 m 1375 la [])) : W p G.1 e room_1 s m #[Value.ref b] below meth c H locs 600000 7302250 (lw_Z below #[Value.ref b] s) (F0 m 589 la []) := by
  obtain ⟨w, h, rn, s0, yr, ci, x⟩ := hM
  obtain ⟨v, hv⟩ := (s_mark (G := G) ci (xs (i + 1)) (xs (i + 2))).b.two ci x
  have hx := C0.1
  have hb := C0.2.1
  refine lv_aload_n hx hb dL_589 rfl (lv_at hl 2 rfl) ?_
  refine wl_arg (k := 1) C0 dL_590 dL_591 dL_592 dL_593 dL_594 hl hA hS (by omega) hL (by decide) ?_
  refine wl_arg (k := 2) C0 dL_595 dL_596 dL_597 dL_598 dL_599 hl hA hS (by omega) hL (by decide) ?_
  refine wl_call C0 hF (As := [.int (xs (i + 1)), .int (xs (i + 2))]) (k := 0) (st := []) hv vX9_mark kL_61 dL_600 rfl rfl rfl rfl (by decide) (by decide) hP hS hl (fun u N H1 locs1 q hP1 hS1 => ?_)
  obtain ⟨rfl, q⟩ := q
  refine W.eq (g2 := F0 m 603 la [.int v]) rfl ?_
  refine lv_aload_n hx hb dL_603 rfl (lv_at hl 1 rfl) ?_
  refine wl_arg (k := 1) C0 dL_604 dL_605 dL_606 dL_607 dL_608 hl hA hS1 (by omega) hL (by decide) ?_
  refine wl_arg (k := 2) C0 dL_609 dL_610 dL_611 dL_612 dL_613 hl hA hS1 (by omega) hL (by decide) ?_
  refine wl_call C0 hF (As := [.int (xs (i + 1)), .int (xs (i + 2))]) (k := 96) (st := [.int v]) q vX10_mark kL_64 dL_614 rfl rfl rfl rfl (Nat.le_of_ble_eq_true rfl) (by decide) hP1 hS1 hl (fun u O H2 locs2 q2 hP2 hS2 => ?_)
  obtain ⟨rfl, q2⟩ := q2
  refine W.eq (g2 := F0 m 617 la [.int v, .int v]) rfl ?_
  refine lv_icmp_eq (tgt := 1375) hx hb dL_617 (by decide) (fun _ => kk O H2 locs2 q2 hP2 hS2) (fun c9 => absurd rfl c9)
theorem lc_12 (C0 : lw_At p s m meth c b L xs) (hF : wm_F G s) (hA : G.2.2.2.2.1 = fun q => s.heap.size ≤ q) {i : Nat} (hi : i + 6 ≤ L) (hL : L ≤ 3072) {M : wm_M} (hM : RelA M) {H : Heap} {locs : List Loc} {la : Array Slot} (hP : va_P G.2.1 classes (wm_ws G M) H) (hS : va_S G.2.2.2.2.1 s.heap H locs) (hl : lv_has la 4 [(3, .int (nI i)), (2, wm_r G 96), (1, wm_r G 0), (0, .ref b)])
    (kk : ∀ (O : wm_M) (H1 : Heap) (locs1 : List Loc), RelA O → va_P G.2.1 classes (wm_ws G O) H1 → va_S G.2.2.2.2.1 s.heap H1 locs1 → W p G.1 e room_1 s m #[Value.ref b] below meth c H1 locs1 600000 7302250 (lw_Z below #[Value.ref b] s) (F0 m 1375 la [])) : W p G.1 e room_1 s m #[Value.ref b] below meth c H locs 600000 7302250 (lw_Z below #[Value.ref b] s) (F0 m 622 la []) := by
  obtain ⟨w, h, rn, s0, yr, ci, x⟩ := hM
  obtain ⟨v, hv⟩ := (s_law (G := G) ci (xs (i + 1)) (xs (i + 2))).two ci x
  have hx := C0.1
  have hb := C0.2.1
  refine lv_aload_n hx hb dL_622 rfl (lv_at hl 2 rfl) ?_
  refine wl_arg (k := 1) C0 dL_623 dL_624 dL_625 dL_626 dL_627 hl hA hS (by omega) hL (by decide) ?_
  refine wl_arg (k := 2) C0 dL_628 dL_629 dL_630 dL_631 dL_632 hl hA hS (by omega) hL (by decide) ?_
  refine wl_call C0 hF (As := [.int (xs (i + 1)), .int (xs (i + 2))]) (k := 0) (st := []) hv vX9_law kL_65 dL_633 rfl rfl rfl rfl (by decide) (by decide) hP hS hl (fun u N H1 locs1 q hP1 hS1 => ?_)
  obtain ⟨rfl, q⟩ := q
  refine W.eq (g2 := F0 m 636 la [.int v]) rfl ?_
  refine lv_aload_n hx hb dL_636 rfl (lv_at hl 1 rfl) ?_
  refine wl_arg (k := 1) C0 dL_637 dL_638 dL_639 dL_640 dL_641 hl hA hS1 (by omega) hL (by decide) ?_
  refine wl_arg (k := 2) C0 dL_642 dL_643 dL_644 dL_645 dL_646 hl hA hS1 (by omega) hL (by decide) ?_
  refine wl_call C0 hF (As := [.int (xs (i + 1)), .int (xs (i + 2))]) (k := 96) (st := [.int v]) q vX10_law kL_68 dL_647 rfl rfl rfl rfl (Nat.le_of_ble_eq_true rfl) (by decide) hP1 hS1 hl (fun u O H2 locs2 q2 hP2 hS2 => ?_)
  obtain ⟨rfl, q2⟩ := q2
  refine W.eq (g2 := F0 m 650 la [.int v, .int v]) rfl ?_
  refine lv_icmp_eq (tgt := 1375) hx hb dL_650 (by decide) (fun _ => kk O H2 locs2 q2 hP2 hS2) (fun c9 => absurd rfl c9)
theorem lc_13 (C0 : lw_At p s m meth c b L xs) (hF : wm_F G s) (hA : G.2.2.2.2.1 = fun q => s.heap.size ≤ q) {i : Nat} (hi : i + 6 ≤ L) (hL : L ≤ 3072) {M : wm_M} (hM : RelA M) {H : Heap} {locs : List Loc} {la : Array Slot} (hP : va_P G.2.1 classes (wm_ws G M) H) (hS : va_S G.2.2.2.2.1 s.heap H locs) (hl : lv_has la 4 [(3, .int (nI i)), (2, wm_r G 96), (1, wm_r G 0), (0, .ref b)])
    (kk : ∀ (O : wm_M) (H1 : Heap) (locs1 : List Loc), RelA O → va_P G.2.1 classes (wm_ws G O) H1 → va_S G.2.2.2.2.1 s.heap H1 locs1 → W p G.1 e room_1 s m #[Value.ref b] below meth c H1 locs1 600000 7302250 (lw_Z below #[Value.ref b] s) (F0 m 1375 la [])) : W p G.1 e room_1 s m #[Value.ref b] below meth c H locs 600000 7302250 (lw_Z below #[Value.ref b] s) (F0 m 655 la []) := by
  obtain ⟨w, h, rn, s0, yr, ci, x⟩ := hM
  obtain ⟨v, hv⟩ := (s_reads (G := G) ci (xs (i + 1)) (xs (i + 2)) (xs (i + 3))).b.two ci x
  have hx := C0.1
  have hb := C0.2.1
  refine lv_aload_n hx hb dL_655 rfl (lv_at hl 2 rfl) ?_
  refine wl_arg (k := 1) C0 dL_656 dL_657 dL_658 dL_659 dL_660 hl hA hS (by omega) hL (by decide) ?_
  refine wl_arg (k := 2) C0 dL_661 dL_662 dL_663 dL_664 dL_665 hl hA hS (by omega) hL (by decide) ?_
  refine wl_arg (k := 3) C0 dL_666 dL_667 dL_668 dL_669 dL_670 hl hA hS (by omega) hL (by decide) ?_
  refine wl_call C0 hF (As := [.int (xs (i + 1)), .int (xs (i + 2)), .int (xs (i + 3))]) (k := 0) (st := []) hv vX9_reads kL_69 dL_671 rfl rfl rfl rfl (by decide) (by decide) hP hS hl (fun u N H1 locs1 q hP1 hS1 => ?_)
  obtain ⟨rfl, q⟩ := q
  refine W.eq (g2 := F0 m 674 la [.int v]) rfl ?_
  refine lv_aload_n hx hb dL_674 rfl (lv_at hl 1 rfl) ?_
  refine wl_arg (k := 1) C0 dL_675 dL_676 dL_677 dL_678 dL_679 hl hA hS1 (by omega) hL (by decide) ?_
  refine wl_arg (k := 2) C0 dL_680 dL_681 dL_682 dL_683 dL_684 hl hA hS1 (by omega) hL (by decide) ?_
  refine wl_arg (k := 3) C0 dL_685 dL_686 dL_687 dL_688 dL_689 hl hA hS1 (by omega) hL (by decide) ?_
  refine wl_call C0 hF (As := [.int (xs (i + 1)), .int (xs (i + 2)), .int (xs (i + 3))]) (k := 96) (st := [.int v]) q vX10_reads kL_72 dL_690 rfl rfl rfl rfl (Nat.le_of_ble_eq_true rfl) (by decide) hP1 hS1 hl (fun u O H2 locs2 q2 hP2 hS2 => ?_)
  obtain ⟨rfl, q2⟩ := q2
  refine W.eq (g2 := F0 m 693 la [.int v, .int v]) rfl ?_
  refine lv_icmp_eq (tgt := 1375) hx hb dL_693 (by decide) (fun _ => kk O H2 locs2 q2 hP2 hS2) (fun c9 => absurd rfl c9)
theorem lc_14 (C0 : lw_At p s m meth c b L xs) (hF : wm_F G s) (hA : G.2.2.2.2.1 = fun q => s.heap.size ≤ q) {i : Nat} (hi : i + 6 ≤ L) (hL : L ≤ 3072) {M : wm_M} (hM : RelA M) {H : Heap} {locs : List Loc} {la : Array Slot} (hP : va_P G.2.1 classes (wm_ws G M) H) (hS : va_S G.2.2.2.2.1 s.heap H locs) (hl : lv_has la 4 [(3, .int (nI i)), (2, wm_r G 96), (1, wm_r G 0), (0, .ref b)])
    (kk : ∀ (O : wm_M) (H1 : Heap) (locs1 : List Loc), RelA O → va_P G.2.1 classes (wm_ws G O) H1 → va_S G.2.2.2.2.1 s.heap H1 locs1 → W p G.1 e room_1 s m #[Value.ref b] below meth c H1 locs1 600000 7302250 (lw_Z below #[Value.ref b] s) (F0 m 1375 la [])) : W p G.1 e room_1 s m #[Value.ref b] below meth c H locs 600000 7302250 (lw_Z below #[Value.ref b] s) (F0 m 698 la []) := by
  obtain ⟨w, h, rn, s0, yr, ci, x⟩ := hM
  obtain ⟨v, hv⟩ := (s_stands (G := G) ci (xs (i + 1))).b.two ci x
  have hx := C0.1
  have hb := C0.2.1
  refine lv_aload_n hx hb dL_698 rfl (lv_at hl 2 rfl) ?_
  refine wl_arg (k := 1) C0 dL_699 dL_700 dL_701 dL_702 dL_703 hl hA hS (by omega) hL (by decide) ?_
  refine wl_call C0 hF (As := [.int (xs (i + 1))]) (k := 0) (st := []) hv vX9_stands kL_73 dL_704 rfl rfl rfl rfl (by decide) (by decide) hP hS hl (fun u N H1 locs1 q hP1 hS1 => ?_)
  obtain ⟨rfl, q⟩ := q
  refine W.eq (g2 := F0 m 707 la [.int v]) rfl ?_
  refine lv_aload_n hx hb dL_707 rfl (lv_at hl 1 rfl) ?_
  refine wl_arg (k := 1) C0 dL_708 dL_709 dL_710 dL_711 dL_712 hl hA hS1 (by omega) hL (by decide) ?_
  refine wl_call C0 hF (As := [.int (xs (i + 1))]) (k := 96) (st := [.int v]) q vX10_stands kL_76 dL_713 rfl rfl rfl rfl (Nat.le_of_ble_eq_true rfl) (by decide) hP1 hS1 hl (fun u O H2 locs2 q2 hP2 hS2 => ?_)
  obtain ⟨rfl, q2⟩ := q2
  refine W.eq (g2 := F0 m 716 la [.int v, .int v]) rfl ?_
  refine lv_icmp_eq (tgt := 1375) hx hb dL_716 (by decide) (fun _ => kk O H2 locs2 q2 hP2 hS2) (fun c9 => absurd rfl c9)
theorem lc_15 (C0 : lw_At p s m meth c b L xs) (hF : wm_F G s) (hA : G.2.2.2.2.1 = fun q => s.heap.size ≤ q) {i : Nat} (hi : i + 6 ≤ L) (hL : L ≤ 3072) {M : wm_M} (hM : RelA M) {H : Heap} {locs : List Loc} {la : Array Slot} (hP : va_P G.2.1 classes (wm_ws G M) H) (hS : va_S G.2.2.2.2.1 s.heap H locs) (hl : lv_has la 4 [(3, .int (nI i)), (2, wm_r G 96), (1, wm_r G 0), (0, .ref b)])
    (kk : ∀ (O : wm_M) (H1 : Heap) (locs1 : List Loc), RelA O → va_P G.2.1 classes (wm_ws G O) H1 → va_S G.2.2.2.2.1 s.heap H1 locs1 → W p G.1 e room_1 s m #[Value.ref b] below meth c H1 locs1 600000 7302250 (lw_Z below #[Value.ref b] s) (F0 m 1375 la [])) : W p G.1 e room_1 s m #[Value.ref b] below meth c H locs 600000 7302250 (lw_Z below #[Value.ref b] s) (F0 m 721 la []) := by
  obtain ⟨w, h, rn, s0, yr, ci, x⟩ := hM
  obtain ⟨v, hv⟩ := (s_laws (G := G) ci).b.two ci x
  have hx := C0.1
  have hb := C0.2.1
  refine lv_aload_n hx hb dL_721 rfl (lv_at hl 2 rfl) ?_
  refine wl_call C0 hF (As := []) (k := 0) (st := []) hv vX9_laws kL_77 dL_722 rfl rfl rfl rfl (by decide) (by decide) hP hS hl (fun u N H1 locs1 q hP1 hS1 => ?_)
  obtain ⟨rfl, q⟩ := q
  refine W.eq (g2 := F0 m 725 la [.int v]) rfl ?_
  refine lv_aload_n hx hb dL_725 rfl (lv_at hl 1 rfl) ?_
  refine wl_call C0 hF (As := []) (k := 96) (st := [.int v]) q vX10_laws kL_81 dL_726 rfl rfl rfl rfl (Nat.le_of_ble_eq_true rfl) (by decide) hP1 hS1 hl (fun u O H2 locs2 q2 hP2 hS2 => ?_)
  obtain ⟨rfl, q2⟩ := q2
  refine W.eq (g2 := F0 m 729 la [.int v, .int v]) rfl ?_
  refine lv_icmp_eq (tgt := 1375) hx hb dL_729 (by decide) (fun _ => kk O H2 locs2 q2 hP2 hS2) (fun c9 => absurd rfl c9)
theorem lc_16 (C0 : lw_At p s m meth c b L xs) (hF : wm_F G s) (hA : G.2.2.2.2.1 = fun q => s.heap.size ≤ q) {i : Nat} (hi : i + 6 ≤ L) (hL : L ≤ 3072) {M : wm_M} (hM : RelA M) {H : Heap} {locs : List Loc} {la : Array Slot} (hP : va_P G.2.1 classes (wm_ws G M) H) (hS : va_S G.2.2.2.2.1 s.heap H locs) (hl : lv_has la 4 [(3, .int (nI i)), (2, wm_r G 96), (1, wm_r G 0), (0, .ref b)])
    (kk : ∀ (O : wm_M) (H1 : Heap) (locs1 : List Loc), RelA O → va_P G.2.1 classes (wm_ws G O) H1 → va_S G.2.2.2.2.1 s.heap H1 locs1 → W p G.1 e room_1 s m #[Value.ref b] below meth c H1 locs1 600000 7302250 (lw_Z below #[Value.ref b] s) (F0 m 1375 la [])) : W p G.1 e room_1 s m #[Value.ref b] below meth c H locs 600000 7302250 (lw_Z below #[Value.ref b] s) (F0 m 734 la []) := by
  obtain ⟨w, h, rn, s0, yr, ci, x⟩ := hM
  obtain ⟨v, hv⟩ := (s_turn (G := G) ci (xs (i + 1))).b.two ci x
  have hx := C0.1
  have hb := C0.2.1
  refine lv_aload_n hx hb dL_734 rfl (lv_at hl 2 rfl) ?_
  refine wl_arg (k := 1) C0 dL_735 dL_736 dL_737 dL_738 dL_739 hl hA hS (by omega) hL (by decide) ?_
  refine wl_call C0 hF (As := [.int (xs (i + 1))]) (k := 0) (st := []) hv vX9_turn kL_82 dL_740 rfl rfl rfl rfl (by decide) (by decide) hP hS hl (fun u N H1 locs1 q hP1 hS1 => ?_)
  obtain ⟨rfl, q⟩ := q
  refine W.eq (g2 := F0 m 743 la [.int v]) rfl ?_
  refine lv_aload_n hx hb dL_743 rfl (lv_at hl 1 rfl) ?_
  refine wl_arg (k := 1) C0 dL_744 dL_745 dL_746 dL_747 dL_748 hl hA hS1 (by omega) hL (by decide) ?_
  refine wl_call C0 hF (As := [.int (xs (i + 1))]) (k := 96) (st := [.int v]) q vX10_turn kL_85 dL_749 rfl rfl rfl rfl (Nat.le_of_ble_eq_true rfl) (by decide) hP1 hS1 hl (fun u O H2 locs2 q2 hP2 hS2 => ?_)
  obtain ⟨rfl, q2⟩ := q2
  refine W.eq (g2 := F0 m 752 la [.int v, .int v]) rfl ?_
  refine lv_icmp_eq (tgt := 1375) hx hb dL_752 (by decide) (fun _ => kk O H2 locs2 q2 hP2 hS2) (fun c9 => absurd rfl c9)
theorem lc_17 (C0 : lw_At p s m meth c b L xs) (hF : wm_F G s) (hA : G.2.2.2.2.1 = fun q => s.heap.size ≤ q) {i : Nat} (hi : i + 6 ≤ L) (hL : L ≤ 3072) {M : wm_M} (hM : RelA M) {H : Heap} {locs : List Loc} {la : Array Slot} (hP : va_P G.2.1 classes (wm_ws G M) H) (hS : va_S G.2.2.2.2.1 s.heap H locs) (hl : lv_has la 4 [(3, .int (nI i)), (2, wm_r G 96), (1, wm_r G 0), (0, .ref b)])
    (kk : ∀ (O : wm_M) (H1 : Heap) (locs1 : List Loc), RelA O → va_P G.2.1 classes (wm_ws G O) H1 → va_S G.2.2.2.2.1 s.heap H1 locs1 → W p G.1 e room_1 s m #[Value.ref b] below meth c H1 locs1 600000 7302250 (lw_Z below #[Value.ref b] s) (F0 m 1375 la [])) : W p G.1 e room_1 s m #[Value.ref b] below meth c H locs 600000 7302250 (lw_Z below #[Value.ref b] s) (F0 m 757 la []) := by
  obtain ⟨w, h, rn, s0, yr, ci, x⟩ := hM
  obtain ⟨v, hv⟩ := (s_till (G := G) ci (xs (i + 1)) (xs (i + 2))).b.two ci x
  have hx := C0.1
  have hb := C0.2.1
  refine lv_aload_n hx hb dL_757 rfl (lv_at hl 2 rfl) ?_
  refine wl_arg (k := 1) C0 dL_758 dL_759 dL_760 dL_761 dL_762 hl hA hS (by omega) hL (by decide) ?_
  refine wl_arg (k := 2) C0 dL_763 dL_764 dL_765 dL_766 dL_767 hl hA hS (by omega) hL (by decide) ?_
  refine wl_call C0 hF (As := [.int (xs (i + 1)), .int (xs (i + 2))]) (k := 0) (st := []) hv vX9_till kL_86 dL_768 rfl rfl rfl rfl (by decide) (by decide) hP hS hl (fun u N H1 locs1 q hP1 hS1 => ?_)
  obtain ⟨rfl, q⟩ := q
  refine W.eq (g2 := F0 m 771 la [.int v]) rfl ?_
  refine lv_aload_n hx hb dL_771 rfl (lv_at hl 1 rfl) ?_
  refine wl_arg (k := 1) C0 dL_772 dL_773 dL_774 dL_775 dL_776 hl hA hS1 (by omega) hL (by decide) ?_
  refine wl_arg (k := 2) C0 dL_777 dL_778 dL_779 dL_780 dL_781 hl hA hS1 (by omega) hL (by decide) ?_
  refine wl_call C0 hF (As := [.int (xs (i + 1)), .int (xs (i + 2))]) (k := 96) (st := [.int v]) q vX10_till kL_89 dL_782 rfl rfl rfl rfl (Nat.le_of_ble_eq_true rfl) (by decide) hP1 hS1 hl (fun u O H2 locs2 q2 hP2 hS2 => ?_)
  obtain ⟨rfl, q2⟩ := q2
  refine W.eq (g2 := F0 m 785 la [.int v, .int v]) rfl ?_
  refine lv_icmp_eq (tgt := 1375) hx hb dL_785 (by decide) (fun _ => kk O H2 locs2 q2 hP2 hS2) (fun c9 => absurd rfl c9)
theorem lc_18 (C0 : lw_At p s m meth c b L xs) (hF : wm_F G s) (hA : G.2.2.2.2.1 = fun q => s.heap.size ≤ q) {i : Nat} (hi : i + 6 ≤ L) (hL : L ≤ 3072) {M : wm_M} (hM : RelA M) {H : Heap} {locs : List Loc} {la : Array Slot} (hP : va_P G.2.1 classes (wm_ws G M) H) (hS : va_S G.2.2.2.2.1 s.heap H locs) (hl : lv_has la 4 [(3, .int (nI i)), (2, wm_r G 96), (1, wm_r G 0), (0, .ref b)])
    (kk : ∀ (O : wm_M) (H1 : Heap) (locs1 : List Loc), RelA O → va_P G.2.1 classes (wm_ws G O) H1 → va_S G.2.2.2.2.1 s.heap H1 locs1 → W p G.1 e room_1 s m #[Value.ref b] below meth c H1 locs1 600000 7302250 (lw_Z below #[Value.ref b] s) (F0 m 1375 la [])) : W p G.1 e room_1 s m #[Value.ref b] below meth c H locs 600000 7302250 (lw_Z below #[Value.ref b] s) (F0 m 790 la []) := by
  obtain ⟨w, h, rn, s0, yr, ci, x⟩ := hM
  obtain ⟨v, hv⟩ := (s_keep (G := G) ci (xs (i + 1))).b.two ci x
  have hx := C0.1
  have hb := C0.2.1
  refine lv_aload_n hx hb dL_790 rfl (lv_at hl 2 rfl) ?_
  refine wl_arg (k := 1) C0 dL_791 dL_792 dL_793 dL_794 dL_795 hl hA hS (by omega) hL (by decide) ?_
  refine wl_call C0 hF (As := [.int (xs (i + 1))]) (k := 0) (st := []) hv vX9_keep kL_90 dL_796 rfl rfl rfl rfl (by decide) (by decide) hP hS hl (fun u N H1 locs1 q hP1 hS1 => ?_)
  obtain ⟨rfl, q⟩ := q
  refine W.eq (g2 := F0 m 799 la [.int v]) rfl ?_
  refine lv_aload_n hx hb dL_799 rfl (lv_at hl 1 rfl) ?_
  refine wl_arg (k := 1) C0 dL_800 dL_801 dL_802 dL_803 dL_804 hl hA hS1 (by omega) hL (by decide) ?_
  refine wl_call C0 hF (As := [.int (xs (i + 1))]) (k := 96) (st := [.int v]) q vX10_keep kL_93 dL_805 rfl rfl rfl rfl (Nat.le_of_ble_eq_true rfl) (by decide) hP1 hS1 hl (fun u O H2 locs2 q2 hP2 hS2 => ?_)
  obtain ⟨rfl, q2⟩ := q2
  refine W.eq (g2 := F0 m 808 la [.int v, .int v]) rfl ?_
  refine lv_icmp_eq (tgt := 1375) hx hb dL_808 (by decide) (fun _ => kk O H2 locs2 q2 hP2 hS2) (fun c9 => absurd rfl c9)
theorem lc_19 (C0 : lw_At p s m meth c b L xs) (hF : wm_F G s) (hA : G.2.2.2.2.1 = fun q => s.heap.size ≤ q) {i : Nat} (hi : i + 6 ≤ L) (hL : L ≤ 3072) {M : wm_M} (hM : RelA M) {H : Heap} {locs : List Loc} {la : Array Slot} (hP : va_P G.2.1 classes (wm_ws G M) H) (hS : va_S G.2.2.2.2.1 s.heap H locs) (hl : lv_has la 4 [(3, .int (nI i)), (2, wm_r G 96), (1, wm_r G 0), (0, .ref b)])
    (kk : ∀ (O : wm_M) (H1 : Heap) (locs1 : List Loc), RelA O → va_P G.2.1 classes (wm_ws G O) H1 → va_S G.2.2.2.2.1 s.heap H1 locs1 → W p G.1 e room_1 s m #[Value.ref b] below meth c H1 locs1 600000 7302250 (lw_Z below #[Value.ref b] s) (F0 m 1375 la [])) : W p G.1 e room_1 s m #[Value.ref b] below meth c H locs 600000 7302250 (lw_Z below #[Value.ref b] s) (F0 m 813 la []) := by
  obtain ⟨w, h, rn, s0, yr, ci, x⟩ := hM
  obtain ⟨v, hv⟩ := (s_on (G := G) ci (xs (i + 1))).b.two ci x
  have hx := C0.1
  have hb := C0.2.1
  refine lv_aload_n hx hb dL_813 rfl (lv_at hl 2 rfl) ?_
  refine wl_arg (k := 1) C0 dL_814 dL_815 dL_816 dL_817 dL_818 hl hA hS (by omega) hL (by decide) ?_
  refine wl_call C0 hF (As := [.int (xs (i + 1))]) (k := 0) (st := []) hv vX9_on kL_94 dL_819 rfl rfl rfl rfl (by decide) (by decide) hP hS hl (fun u N H1 locs1 q hP1 hS1 => ?_)
  obtain ⟨rfl, q⟩ := q
  refine W.eq (g2 := F0 m 822 la [.int v]) rfl ?_
  refine lv_aload_n hx hb dL_822 rfl (lv_at hl 1 rfl) ?_
  refine wl_arg (k := 1) C0 dL_823 dL_824 dL_825 dL_826 dL_827 hl hA hS1 (by omega) hL (by decide) ?_
  refine wl_call C0 hF (As := [.int (xs (i + 1))]) (k := 96) (st := [.int v]) q vX10_on kL_97 dL_828 rfl rfl rfl rfl (Nat.le_of_ble_eq_true rfl) (by decide) hP1 hS1 hl (fun u O H2 locs2 q2 hP2 hS2 => ?_)
  obtain ⟨rfl, q2⟩ := q2
  refine W.eq (g2 := F0 m 831 la [.int v, .int v]) rfl ?_
  refine lv_icmp_eq (tgt := 1375) hx hb dL_831 (by decide) (fun _ => kk O H2 locs2 q2 hP2 hS2) (fun c9 => absurd rfl c9)
theorem lc_20 (C0 : lw_At p s m meth c b L xs) (hF : wm_F G s) (hA : G.2.2.2.2.1 = fun q => s.heap.size ≤ q) {i : Nat} (hi : i + 6 ≤ L) (hL : L ≤ 3072) {M : wm_M} (hM : RelA M) {H : Heap} {locs : List Loc} {la : Array Slot} (hP : va_P G.2.1 classes (wm_ws G M) H) (hS : va_S G.2.2.2.2.1 s.heap H locs) (hl : lv_has la 4 [(3, .int (nI i)), (2, wm_r G 96), (1, wm_r G 0), (0, .ref b)])
    (kk : ∀ (O : wm_M) (H1 : Heap) (locs1 : List Loc), RelA O → va_P G.2.1 classes (wm_ws G O) H1 → va_S G.2.2.2.2.1 s.heap H1 locs1 → W p G.1 e room_1 s m #[Value.ref b] below meth c H1 locs1 600000 7302250 (lw_Z below #[Value.ref b] s) (F0 m 1375 la [])) : W p G.1 e room_1 s m #[Value.ref b] below meth c H locs 600000 7302250 (lw_Z below #[Value.ref b] s) (F0 m 836 la []) := by
  obtain ⟨w, h, rn, s0, yr, ci, x⟩ := hM
  obtain ⟨v, hv⟩ := (s_state (G := G) ci).b.two ci x
  have hx := C0.1
  have hb := C0.2.1
  refine lv_aload_n hx hb dL_836 rfl (lv_at hl 2 rfl) ?_
  refine wl_call C0 hF (As := []) (k := 0) (st := []) hv vX9_state kL_98 dL_837 rfl rfl rfl rfl (by decide) (by decide) hP hS hl (fun u N H1 locs1 q hP1 hS1 => ?_)
  obtain ⟨rfl, q⟩ := q
  refine W.eq (g2 := F0 m 840 la [.int v]) rfl ?_
  refine lv_aload_n hx hb dL_840 rfl (lv_at hl 1 rfl) ?_
  refine wl_call C0 hF (As := []) (k := 96) (st := [.int v]) q vX10_state kL_101 dL_841 rfl rfl rfl rfl (Nat.le_of_ble_eq_true rfl) (by decide) hP1 hS1 hl (fun u O H2 locs2 q2 hP2 hS2 => ?_)
  obtain ⟨rfl, q2⟩ := q2
  refine W.eq (g2 := F0 m 844 la [.int v, .int v]) rfl ?_
  refine lv_icmp_eq (tgt := 1375) hx hb dL_844 (by decide) (fun _ => kk O H2 locs2 q2 hP2 hS2) (fun c9 => absurd rfl c9)
theorem lc_21 (C0 : lw_At p s m meth c b L xs) (hF : wm_F G s) (hA : G.2.2.2.2.1 = fun q => s.heap.size ≤ q) {i : Nat} (hi : i + 6 ≤ L) (hL : L ≤ 3072) {M : wm_M} (hM : RelA M) {H : Heap} {locs : List Loc} {la : Array Slot} (hP : va_P G.2.1 classes (wm_ws G M) H) (hS : va_S G.2.2.2.2.1 s.heap H locs) (hl : lv_has la 4 [(3, .int (nI i)), (2, wm_r G 96), (1, wm_r G 0), (0, .ref b)])
    (kk : ∀ (O : wm_M) (H1 : Heap) (locs1 : List Loc), RelA O → va_P G.2.1 classes (wm_ws G O) H1 → va_S G.2.2.2.2.1 s.heap H1 locs1 → W p G.1 e room_1 s m #[Value.ref b] below meth c H1 locs1 600000 7302250 (lw_Z below #[Value.ref b] s) (F0 m 1375 la [])) : W p G.1 e room_1 s m #[Value.ref b] below meth c H locs 600000 7302250 (lw_Z below #[Value.ref b] s) (F0 m 849 la []) := by
  obtain ⟨w, h, rn, s0, yr, ci, x⟩ := hM
  obtain ⟨v, hv⟩ := (s_years (G := G) ci (xs (i + 1))).b.two ci x
  have hx := C0.1
  have hb := C0.2.1
  refine lv_aload_n hx hb dL_849 rfl (lv_at hl 2 rfl) ?_
  refine wl_arg (k := 1) C0 dL_850 dL_851 dL_852 dL_853 dL_854 hl hA hS (by omega) hL (by decide) ?_
  refine wl_call C0 hF (As := [.int (xs (i + 1))]) (k := 0) (st := []) hv vX9_years kL_102 dL_855 rfl rfl rfl rfl (by decide) (by decide) hP hS hl (fun u N H1 locs1 q hP1 hS1 => ?_)
  obtain ⟨rfl, q⟩ := q
  refine W.eq (g2 := F0 m 858 la [.int v]) rfl ?_
  refine lv_aload_n hx hb dL_858 rfl (lv_at hl 1 rfl) ?_
  refine wl_arg (k := 1) C0 dL_859 dL_860 dL_861 dL_862 dL_863 hl hA hS1 (by omega) hL (by decide) ?_
  refine wl_call C0 hF (As := [.int (xs (i + 1))]) (k := 96) (st := [.int v]) q vX10_years kL_105 dL_864 rfl rfl rfl rfl (Nat.le_of_ble_eq_true rfl) (by decide) hP1 hS1 hl (fun u O H2 locs2 q2 hP2 hS2 => ?_)
  obtain ⟨rfl, q2⟩ := q2
  refine W.eq (g2 := F0 m 867 la [.int v, .int v]) rfl ?_
  refine lv_icmp_eq (tgt := 1375) hx hb dL_867 (by decide) (fun _ => kk O H2 locs2 q2 hP2 hS2) (fun c9 => absurd rfl c9)
theorem lc_22 (C0 : lw_At p s m meth c b L xs) (hF : wm_F G s) (hA : G.2.2.2.2.1 = fun q => s.heap.size ≤ q) {i : Nat} (hi : i + 6 ≤ L) (hL : L ≤ 3072) {M : wm_M} (hM : RelA M) {H : Heap} {locs : List Loc} {la : Array Slot} (hP : va_P G.2.1 classes (wm_ws G M) H) (hS : va_S G.2.2.2.2.1 s.heap H locs) (hl : lv_has la 4 [(3, .int (nI i)), (2, wm_r G 96), (1, wm_r G 0), (0, .ref b)])
    (kk : ∀ (O : wm_M) (H1 : Heap) (locs1 : List Loc), RelA O → va_P G.2.1 classes (wm_ws G O) H1 → va_S G.2.2.2.2.1 s.heap H1 locs1 → W p G.1 e room_1 s m #[Value.ref b] below meth c H1 locs1 600000 7302250 (lw_Z below #[Value.ref b] s) (F0 m 1375 la [])) : W p G.1 e room_1 s m #[Value.ref b] below meth c H locs 600000 7302250 (lw_Z below #[Value.ref b] s) (F0 m 872 la []) := by
  obtain ⟨w, h, rn, s0, yr, ci, x⟩ := hM
  obtain ⟨v, hv⟩ := (s_way (G := G) ci (xs (i + 1)) (xs (i + 2))).b.two ci x
  have hx := C0.1
  have hb := C0.2.1
  refine lv_aload_n hx hb dL_872 rfl (lv_at hl 2 rfl) ?_
  refine wl_arg (k := 1) C0 dL_873 dL_874 dL_875 dL_876 dL_877 hl hA hS (by omega) hL (by decide) ?_
  refine wl_arg (k := 2) C0 dL_878 dL_879 dL_880 dL_881 dL_882 hl hA hS (by omega) hL (by decide) ?_
  refine wl_call C0 hF (As := [.int (xs (i + 1)), .int (xs (i + 2))]) (k := 0) (st := []) hv vX9_way kL_106 dL_883 rfl rfl rfl rfl (by decide) (by decide) hP hS hl (fun u N H1 locs1 q hP1 hS1 => ?_)
  obtain ⟨rfl, q⟩ := q
  refine W.eq (g2 := F0 m 886 la [.int v]) rfl ?_
  refine lv_aload_n hx hb dL_886 rfl (lv_at hl 1 rfl) ?_
  refine wl_arg (k := 1) C0 dL_887 dL_888 dL_889 dL_890 dL_891 hl hA hS1 (by omega) hL (by decide) ?_
  refine wl_arg (k := 2) C0 dL_892 dL_893 dL_894 dL_895 dL_896 hl hA hS1 (by omega) hL (by decide) ?_
  refine wl_call C0 hF (As := [.int (xs (i + 1)), .int (xs (i + 2))]) (k := 96) (st := [.int v]) q vX10_way kL_109 dL_897 rfl rfl rfl rfl (Nat.le_of_ble_eq_true rfl) (by decide) hP1 hS1 hl (fun u O H2 locs2 q2 hP2 hS2 => ?_)
  obtain ⟨rfl, q2⟩ := q2
  refine W.eq (g2 := F0 m 900 la [.int v, .int v]) rfl ?_
  refine lv_icmp_eq (tgt := 1375) hx hb dL_900 (by decide) (fun _ => kk O H2 locs2 q2 hP2 hS2) (fun c9 => absurd rfl c9)
theorem lc_23 (C0 : lw_At p s m meth c b L xs) (hF : wm_F G s) (hA : G.2.2.2.2.1 = fun q => s.heap.size ≤ q) {i : Nat} (hi : i + 6 ≤ L) (hL : L ≤ 3072) {M : wm_M} (hM : RelA M) {H : Heap} {locs : List Loc} {la : Array Slot} (hP : va_P G.2.1 classes (wm_ws G M) H) (hS : va_S G.2.2.2.2.1 s.heap H locs) (hl : lv_has la 4 [(3, .int (nI i)), (2, wm_r G 96), (1, wm_r G 0), (0, .ref b)])
    (kk : ∀ (O : wm_M) (H1 : Heap) (locs1 : List Loc), RelA O → va_P G.2.1 classes (wm_ws G O) H1 → va_S G.2.2.2.2.1 s.heap H1 locs1 → W p G.1 e room_1 s m #[Value.ref b] below meth c H1 locs1 600000 7302250 (lw_Z below #[Value.ref b] s) (F0 m 1375 la [])) : W p G.1 e room_1 s m #[Value.ref b] below meth c H locs 600000 7302250 (lw_Z below #[Value.ref b] s) (F0 m 905 la []) := by
  obtain ⟨w, h, rn, s0, yr, ci, x⟩ := hM
  obtain ⟨v, hv⟩ := (s_lost (G := G) ci (xs (i + 1))).b.two ci x
  have hx := C0.1
  have hb := C0.2.1
  refine lv_aload_n hx hb dL_905 rfl (lv_at hl 2 rfl) ?_
  refine wl_arg (k := 1) C0 dL_906 dL_907 dL_908 dL_909 dL_910 hl hA hS (by omega) hL (by decide) ?_
  refine wl_call C0 hF (As := [.int (xs (i + 1))]) (k := 0) (st := []) hv vX9_lost kL_110 dL_911 rfl rfl rfl rfl (by decide) (by decide) hP hS hl (fun u N H1 locs1 q hP1 hS1 => ?_)
  obtain ⟨rfl, q⟩ := q
  refine W.eq (g2 := F0 m 914 la [.int v]) rfl ?_
  refine lv_aload_n hx hb dL_914 rfl (lv_at hl 1 rfl) ?_
  refine wl_arg (k := 1) C0 dL_915 dL_916 dL_917 dL_918 dL_919 hl hA hS1 (by omega) hL (by decide) ?_
  refine wl_call C0 hF (As := [.int (xs (i + 1))]) (k := 96) (st := [.int v]) q vX10_lost kL_113 dL_920 rfl rfl rfl rfl (Nat.le_of_ble_eq_true rfl) (by decide) hP1 hS1 hl (fun u O H2 locs2 q2 hP2 hS2 => ?_)
  obtain ⟨rfl, q2⟩ := q2
  refine W.eq (g2 := F0 m 923 la [.int v, .int v]) rfl ?_
  refine lv_icmp_eq (tgt := 1375) hx hb dL_923 (by decide) (fun _ => kk O H2 locs2 q2 hP2 hS2) (fun c9 => absurd rfl c9)
theorem lc_24 (C0 : lw_At p s m meth c b L xs) (hF : wm_F G s) (hA : G.2.2.2.2.1 = fun q => s.heap.size ≤ q) {i : Nat} (hi : i + 6 ≤ L) (hL : L ≤ 3072) {M : wm_M} (hM : RelA M) {H : Heap} {locs : List Loc} {la : Array Slot} (hP : va_P G.2.1 classes (wm_ws G M) H) (hS : va_S G.2.2.2.2.1 s.heap H locs) (hl : lv_has la 4 [(3, .int (nI i)), (2, wm_r G 96), (1, wm_r G 0), (0, .ref b)])
    (kk : ∀ (O : wm_M) (H1 : Heap) (locs1 : List Loc), RelA O → va_P G.2.1 classes (wm_ws G O) H1 → va_S G.2.2.2.2.1 s.heap H1 locs1 → W p G.1 e room_1 s m #[Value.ref b] below meth c H1 locs1 600000 7302250 (lw_Z below #[Value.ref b] s) (F0 m 1375 la [])) : W p G.1 e room_1 s m #[Value.ref b] below meth c H locs 600000 7302250 (lw_Z below #[Value.ref b] s) (F0 m 928 la []) := by
  obtain ⟨w, h, rn, s0, yr, ci, x⟩ := hM
  obtain ⟨v, hv⟩ := (s_share (G := G) ci (xs (i + 1))).b.two ci x
  have hx := C0.1
  have hb := C0.2.1
  refine lv_aload_n hx hb dL_928 rfl (lv_at hl 2 rfl) ?_
  refine wl_arg (k := 1) C0 dL_929 dL_930 dL_931 dL_932 dL_933 hl hA hS (by omega) hL (by decide) ?_
  refine wl_call C0 hF (As := [.int (xs (i + 1))]) (k := 0) (st := []) hv vX9_share kL_114 dL_934 rfl rfl rfl rfl (by decide) (by decide) hP hS hl (fun u N H1 locs1 q hP1 hS1 => ?_)
  obtain ⟨rfl, q⟩ := q
  refine W.eq (g2 := F0 m 937 la [.int v]) rfl ?_
  refine lv_aload_n hx hb dL_937 rfl (lv_at hl 1 rfl) ?_
  refine wl_arg (k := 1) C0 dL_938 dL_939 dL_940 dL_941 dL_942 hl hA hS1 (by omega) hL (by decide) ?_
  refine wl_call C0 hF (As := [.int (xs (i + 1))]) (k := 96) (st := [.int v]) q vX10_share kL_117 dL_943 rfl rfl rfl rfl (Nat.le_of_ble_eq_true rfl) (by decide) hP1 hS1 hl (fun u O H2 locs2 q2 hP2 hS2 => ?_)
  obtain ⟨rfl, q2⟩ := q2
  refine W.eq (g2 := F0 m 946 la [.int v, .int v]) rfl ?_
  refine lv_icmp_eq (tgt := 1375) hx hb dL_946 (by decide) (fun _ => kk O H2 locs2 q2 hP2 hS2) (fun c9 => absurd rfl c9)
theorem lc_25 (C0 : lw_At p s m meth c b L xs) (hF : wm_F G s) (hA : G.2.2.2.2.1 = fun q => s.heap.size ≤ q) {i : Nat} (hi : i + 6 ≤ L) (hL : L ≤ 3072) {M : wm_M} (hM : RelA M) {H : Heap} {locs : List Loc} {la : Array Slot} (hP : va_P G.2.1 classes (wm_ws G M) H) (hS : va_S G.2.2.2.2.1 s.heap H locs) (hl : lv_has la 4 [(3, .int (nI i)), (2, wm_r G 96), (1, wm_r G 0), (0, .ref b)])
    (kk : ∀ (O : wm_M) (H1 : Heap) (locs1 : List Loc), RelA O → va_P G.2.1 classes (wm_ws G O) H1 → va_S G.2.2.2.2.1 s.heap H1 locs1 → W p G.1 e room_1 s m #[Value.ref b] below meth c H1 locs1 600000 7302250 (lw_Z below #[Value.ref b] s) (F0 m 1375 la [])) : W p G.1 e room_1 s m #[Value.ref b] below meth c H locs 600000 7302250 (lw_Z below #[Value.ref b] s) (F0 m 951 la []) := by
  obtain ⟨w, h, rn, s0, yr, ci, x⟩ := hM
  obtain ⟨v, hv⟩ := (s_together (G := G) ci).two ci x
  have hx := C0.1
  have hb := C0.2.1
  refine lv_aload_n hx hb dL_951 rfl (lv_at hl 2 rfl) ?_
  refine wl_call C0 hF (As := []) (k := 0) (st := []) hv vX9_together kL_118 dL_952 rfl rfl rfl rfl (by decide) (by decide) hP hS hl (fun u N H1 locs1 q hP1 hS1 => ?_)
  obtain ⟨rfl, q⟩ := q
  refine W.eq (g2 := F0 m 955 la [.int v]) rfl ?_
  refine lv_aload_n hx hb dL_955 rfl (lv_at hl 1 rfl) ?_
  refine wl_call C0 hF (As := []) (k := 96) (st := [.int v]) q vX10_together kL_121 dL_956 rfl rfl rfl rfl (Nat.le_of_ble_eq_true rfl) (by decide) hP1 hS1 hl (fun u O H2 locs2 q2 hP2 hS2 => ?_)
  obtain ⟨rfl, q2⟩ := q2
  refine W.eq (g2 := F0 m 959 la [.int v, .int v]) rfl ?_
  refine lv_icmp_eq (tgt := 1375) hx hb dL_959 (by decide) (fun _ => kk O H2 locs2 q2 hP2 hS2) (fun c9 => absurd rfl c9)
theorem lc_26 (C0 : lw_At p s m meth c b L xs) (hF : wm_F G s) (hA : G.2.2.2.2.1 = fun q => s.heap.size ≤ q) {i : Nat} (hi : i + 6 ≤ L) (hL : L ≤ 3072) {M : wm_M} (hM : RelA M) {H : Heap} {locs : List Loc} {la : Array Slot} (hP : va_P G.2.1 classes (wm_ws G M) H) (hS : va_S G.2.2.2.2.1 s.heap H locs) (hl : lv_has la 4 [(3, .int (nI i)), (2, wm_r G 96), (1, wm_r G 0), (0, .ref b)])
    (kk : ∀ (O : wm_M) (H1 : Heap) (locs1 : List Loc), RelA O → va_P G.2.1 classes (wm_ws G O) H1 → va_S G.2.2.2.2.1 s.heap H1 locs1 → W p G.1 e room_1 s m #[Value.ref b] below meth c H1 locs1 600000 7302250 (lw_Z below #[Value.ref b] s) (F0 m 1375 la [])) : W p G.1 e room_1 s m #[Value.ref b] below meth c H locs 600000 7302250 (lw_Z below #[Value.ref b] s) (F0 m 964 la []) := by
  obtain ⟨w, h, rn, s0, yr, ci, x⟩ := hM
  obtain ⟨v, hv⟩ := (s_mend (G := G) ci (xs (i + 1))).b.two ci x
  have hx := C0.1
  have hb := C0.2.1
  refine lv_aload_n hx hb dL_964 rfl (lv_at hl 2 rfl) ?_
  refine wl_arg (k := 1) C0 dL_965 dL_966 dL_967 dL_968 dL_969 hl hA hS (by omega) hL (by decide) ?_
  refine wl_call C0 hF (As := [.int (xs (i + 1))]) (k := 0) (st := []) hv vX9_mend kL_122 dL_970 rfl rfl rfl rfl (by decide) (by decide) hP hS hl (fun u N H1 locs1 q hP1 hS1 => ?_)
  obtain ⟨rfl, q⟩ := q
  refine W.eq (g2 := F0 m 973 la [.int v]) rfl ?_
  refine lv_aload_n hx hb dL_973 rfl (lv_at hl 1 rfl) ?_
  refine wl_arg (k := 1) C0 dL_974 dL_975 dL_976 dL_977 dL_978 hl hA hS1 (by omega) hL (by decide) ?_
  refine wl_call C0 hF (As := [.int (xs (i + 1))]) (k := 96) (st := [.int v]) q vX10_mend kL_125 dL_979 rfl rfl rfl rfl (Nat.le_of_ble_eq_true rfl) (by decide) hP1 hS1 hl (fun u O H2 locs2 q2 hP2 hS2 => ?_)
  obtain ⟨rfl, q2⟩ := q2
  refine W.eq (g2 := F0 m 982 la [.int v, .int v]) rfl ?_
  refine lv_icmp_eq (tgt := 1375) hx hb dL_982 (by decide) (fun _ => kk O H2 locs2 q2 hP2 hS2) (fun c9 => absurd rfl c9)
theorem lc_27 (C0 : lw_At p s m meth c b L xs) (hF : wm_F G s) (hA : G.2.2.2.2.1 = fun q => s.heap.size ≤ q) {i : Nat} (hi : i + 6 ≤ L) (hL : L ≤ 3072) {M : wm_M} (hM : RelA M) {H : Heap} {locs : List Loc} {la : Array Slot} (hP : va_P G.2.1 classes (wm_ws G M) H) (hS : va_S G.2.2.2.2.1 s.heap H locs) (hl : lv_has la 4 [(3, .int (nI i)), (2, wm_r G 96), (1, wm_r G 0), (0, .ref b)])
    (kk : ∀ (O : wm_M) (H1 : Heap) (locs1 : List Loc), RelA O → va_P G.2.1 classes (wm_ws G O) H1 → va_S G.2.2.2.2.1 s.heap H1 locs1 → W p G.1 e room_1 s m #[Value.ref b] below meth c H1 locs1 600000 7302250 (lw_Z below #[Value.ref b] s) (F0 m 1375 la [])) : W p G.1 e room_1 s m #[Value.ref b] below meth c H locs 600000 7302250 (lw_Z below #[Value.ref b] s) (F0 m 987 la []) := by
  obtain ⟨w, h, rn, s0, yr, ci, x⟩ := hM
  obtain ⟨v, hv⟩ := (s_contest (G := G) ci (xs (i + 1)) (xs (i + 2))).b.two ci x
  have hx := C0.1
  have hb := C0.2.1
  refine lv_aload_n hx hb dL_987 rfl (lv_at hl 2 rfl) ?_
  refine wl_arg (k := 1) C0 dL_988 dL_989 dL_990 dL_991 dL_992 hl hA hS (by omega) hL (by decide) ?_
  refine wl_arg (k := 2) C0 dL_993 dL_994 dL_995 dL_996 dL_997 hl hA hS (by omega) hL (by decide) ?_
  refine wl_call C0 hF (As := [.int (xs (i + 1)), .int (xs (i + 2))]) (k := 0) (st := []) hv vX9_contest kL_126 dL_998 rfl rfl rfl rfl (by decide) (by decide) hP hS hl (fun u N H1 locs1 q hP1 hS1 => ?_)
  obtain ⟨rfl, q⟩ := q
  refine W.eq (g2 := F0 m 1001 la [.int v]) rfl ?_
  refine lv_aload_n hx hb dL_1001 rfl (lv_at hl 1 rfl) ?_
  refine wl_arg (k := 1) C0 dL_1002 dL_1003 dL_1004 dL_1005 dL_1006 hl hA hS1 (by omega) hL (by decide) ?_
  refine wl_arg (k := 2) C0 dL_1007 dL_1008 dL_1009 dL_1010 dL_1011 hl hA hS1 (by omega) hL (by decide) ?_
  refine wl_call C0 hF (As := [.int (xs (i + 1)), .int (xs (i + 2))]) (k := 96) (st := [.int v]) q vX10_contest kL_129 dL_1012 rfl rfl rfl rfl (Nat.le_of_ble_eq_true rfl) (by decide) hP1 hS1 hl (fun u O H2 locs2 q2 hP2 hS2 => ?_)
  obtain ⟨rfl, q2⟩ := q2
  refine W.eq (g2 := F0 m 1015 la [.int v, .int v]) rfl ?_
  refine lv_icmp_eq (tgt := 1375) hx hb dL_1015 (by decide) (fun _ => kk O H2 locs2 q2 hP2 hS2) (fun c9 => absurd rfl c9)
theorem lc_28 (C0 : lw_At p s m meth c b L xs) (hF : wm_F G s) (hA : G.2.2.2.2.1 = fun q => s.heap.size ≤ q) {i : Nat} (hi : i + 6 ≤ L) (hL : L ≤ 3072) {M : wm_M} (hM : RelA M) {H : Heap} {locs : List Loc} {la : Array Slot} (hP : va_P G.2.1 classes (wm_ws G M) H) (hS : va_S G.2.2.2.2.1 s.heap H locs) (hl : lv_has la 4 [(3, .int (nI i)), (2, wm_r G 96), (1, wm_r G 0), (0, .ref b)])
    (kk : ∀ (O : wm_M) (H1 : Heap) (locs1 : List Loc), RelA O → va_P G.2.1 classes (wm_ws G O) H1 → va_S G.2.2.2.2.1 s.heap H1 locs1 → W p G.1 e room_1 s m #[Value.ref b] below meth c H1 locs1 600000 7302250 (lw_Z below #[Value.ref b] s) (F0 m 1375 la [])) : W p G.1 e room_1 s m #[Value.ref b] below meth c H locs 600000 7302250 (lw_Z below #[Value.ref b] s) (F0 m 1020 la []) := by
  obtain ⟨w, h, rn, s0, yr, ci, x⟩ := hM
  obtain ⟨v, hv⟩ := (s_engrave (G := G) ci (xs (i + 1)) (xs (i + 2)) (xs (i + 3)) (xs (i + 4))).b.two ci x
  have hx := C0.1
  have hb := C0.2.1
  refine lv_aload_n hx hb dL_1020 rfl (lv_at hl 2 rfl) ?_
  refine wl_arg (k := 1) C0 dL_1021 dL_1022 dL_1023 dL_1024 dL_1025 hl hA hS (by omega) hL (by decide) ?_
  refine wl_arg (k := 2) C0 dL_1026 dL_1027 dL_1028 dL_1029 dL_1030 hl hA hS (by omega) hL (by decide) ?_
  refine wl_arg (k := 3) C0 dL_1031 dL_1032 dL_1033 dL_1034 dL_1035 hl hA hS (by omega) hL (by decide) ?_
  refine wl_arg (k := 4) C0 dL_1036 dL_1037 dL_1038 dL_1039 dL_1040 hl hA hS (by omega) hL (by decide) ?_
  refine wl_call C0 hF (As := [.int (xs (i + 1)), .int (xs (i + 2)), .int (xs (i + 3)), .int (xs (i + 4))]) (k := 0) (st := []) hv vX9_engrave kL_130 dL_1041 rfl rfl rfl rfl (by decide) (by decide) hP hS hl (fun u N H1 locs1 q hP1 hS1 => ?_)
  obtain ⟨rfl, q⟩ := q
  refine W.eq (g2 := F0 m 1044 la [.int v]) rfl ?_
  refine lv_aload_n hx hb dL_1044 rfl (lv_at hl 1 rfl) ?_
  refine wl_arg (k := 1) C0 dL_1045 dL_1046 dL_1047 dL_1048 dL_1049 hl hA hS1 (by omega) hL (by decide) ?_
  refine wl_arg (k := 2) C0 dL_1050 dL_1051 dL_1052 dL_1053 dL_1054 hl hA hS1 (by omega) hL (by decide) ?_
  refine wl_arg (k := 3) C0 dL_1055 dL_1056 dL_1057 dL_1058 dL_1059 hl hA hS1 (by omega) hL (by decide) ?_
  refine wl_arg (k := 4) C0 dL_1060 dL_1061 dL_1062 dL_1063 dL_1064 hl hA hS1 (by omega) hL (by decide) ?_
  refine wl_call C0 hF (As := [.int (xs (i + 1)), .int (xs (i + 2)), .int (xs (i + 3)), .int (xs (i + 4))]) (k := 96) (st := [.int v]) q vX10_engrave kL_134 dL_1065 rfl rfl rfl rfl (Nat.le_of_ble_eq_true rfl) (by decide) hP1 hS1 hl (fun u O H2 locs2 q2 hP2 hS2 => ?_)
  obtain ⟨rfl, q2⟩ := q2
  refine W.eq (g2 := F0 m 1068 la [.int v, .int v]) rfl ?_
  refine lv_icmp_eq (tgt := 1375) hx hb dL_1068 (by decide) (fun _ => kk O H2 locs2 q2 hP2 hS2) (fun c9 => absurd rfl c9)
theorem lc_29 (C0 : lw_At p s m meth c b L xs) (hF : wm_F G s) (hA : G.2.2.2.2.1 = fun q => s.heap.size ≤ q) {i : Nat} (hi : i + 6 ≤ L) (hL : L ≤ 3072) {M : wm_M} (hM : RelA M) {H : Heap} {locs : List Loc} {la : Array Slot} (hP : va_P G.2.1 classes (wm_ws G M) H) (hS : va_S G.2.2.2.2.1 s.heap H locs) (hl : lv_has la 4 [(3, .int (nI i)), (2, wm_r G 96), (1, wm_r G 0), (0, .ref b)])
    (kk : ∀ (O : wm_M) (H1 : Heap) (locs1 : List Loc), RelA O → va_P G.2.1 classes (wm_ws G O) H1 → va_S G.2.2.2.2.1 s.heap H1 locs1 → W p G.1 e room_1 s m #[Value.ref b] below meth c H1 locs1 600000 7302250 (lw_Z below #[Value.ref b] s) (F0 m 1375 la [])) : W p G.1 e room_1 s m #[Value.ref b] below meth c H locs 600000 7302250 (lw_Z below #[Value.ref b] s) (F0 m 1073 la []) := by
  obtain ⟨w, h, rn, s0, yr, ci, x⟩ := hM
  obtain ⟨v, hv⟩ := (s_lose (G := G) ci (xs (i + 1))).b.two ci x
  have hx := C0.1
  have hb := C0.2.1
  refine lv_aload_n hx hb dL_1073 rfl (lv_at hl 2 rfl) ?_
  refine wl_arg (k := 1) C0 dL_1074 dL_1075 dL_1076 dL_1077 dL_1078 hl hA hS (by omega) hL (by decide) ?_
  refine wl_call C0 hF (As := [.int (xs (i + 1))]) (k := 0) (st := []) hv vX9_lose kL_135 dL_1079 rfl rfl rfl rfl (by decide) (by decide) hP hS hl (fun u N H1 locs1 q hP1 hS1 => ?_)
  obtain ⟨rfl, q⟩ := q
  refine W.eq (g2 := F0 m 1082 la [.int v]) rfl ?_
  refine lv_aload_n hx hb dL_1082 rfl (lv_at hl 1 rfl) ?_
  refine wl_arg (k := 1) C0 dL_1083 dL_1084 dL_1085 dL_1086 dL_1087 hl hA hS1 (by omega) hL (by decide) ?_
  refine wl_call C0 hF (As := [.int (xs (i + 1))]) (k := 96) (st := [.int v]) q vX10_lose kL_138 dL_1088 rfl rfl rfl rfl (Nat.le_of_ble_eq_true rfl) (by decide) hP1 hS1 hl (fun u O H2 locs2 q2 hP2 hS2 => ?_)
  obtain ⟨rfl, q2⟩ := q2
  refine W.eq (g2 := F0 m 1091 la [.int v, .int v]) rfl ?_
  refine lv_icmp_eq (tgt := 1375) hx hb dL_1091 (by decide) (fun _ => kk O H2 locs2 q2 hP2 hS2) (fun c9 => absurd rfl c9)
theorem lc_30 (C0 : lw_At p s m meth c b L xs) (hF : wm_F G s) (hA : G.2.2.2.2.1 = fun q => s.heap.size ≤ q) {i : Nat} (hi : i + 6 ≤ L) (hL : L ≤ 3072) {M : wm_M} (hM : RelA M) {H : Heap} {locs : List Loc} {la : Array Slot} (hP : va_P G.2.1 classes (wm_ws G M) H) (hS : va_S G.2.2.2.2.1 s.heap H locs) (hl : lv_has la 4 [(3, .int (nI i)), (2, wm_r G 96), (1, wm_r G 0), (0, .ref b)])
    (kk : ∀ (O : wm_M) (H1 : Heap) (locs1 : List Loc), RelA O → va_P G.2.1 classes (wm_ws G O) H1 → va_S G.2.2.2.2.1 s.heap H1 locs1 → W p G.1 e room_1 s m #[Value.ref b] below meth c H1 locs1 600000 7302250 (lw_Z below #[Value.ref b] s) (F0 m 1375 la [])) : W p G.1 e room_1 s m #[Value.ref b] below meth c H locs 600000 7302250 (lw_Z below #[Value.ref b] s) (F0 m 1096 la []) := by
  obtain ⟨w, h, rn, s0, yr, ci, x⟩ := hM
  obtain ⟨v, hv⟩ := (s_histories (G := G) ci (xs (i + 1))).b.two ci x
  have hx := C0.1
  have hb := C0.2.1
  refine lv_aload_n hx hb dL_1096 rfl (lv_at hl 2 rfl) ?_
  refine wl_arg (k := 1) C0 dL_1097 dL_1098 dL_1099 dL_1100 dL_1101 hl hA hS (by omega) hL (by decide) ?_
  refine wl_call C0 hF (As := [.int (xs (i + 1))]) (k := 0) (st := []) hv vX9_histories kL_139 dL_1102 rfl rfl rfl rfl (by decide) (by decide) hP hS hl (fun u N H1 locs1 q hP1 hS1 => ?_)
  obtain ⟨rfl, q⟩ := q
  refine W.eq (g2 := F0 m 1105 la [.int v]) rfl ?_
  refine lv_aload_n hx hb dL_1105 rfl (lv_at hl 1 rfl) ?_
  refine wl_arg (k := 1) C0 dL_1106 dL_1107 dL_1108 dL_1109 dL_1110 hl hA hS1 (by omega) hL (by decide) ?_
  refine wl_call C0 hF (As := [.int (xs (i + 1))]) (k := 96) (st := [.int v]) q vX10_histories kL_142 dL_1111 rfl rfl rfl rfl (Nat.le_of_ble_eq_true rfl) (by decide) hP1 hS1 hl (fun u O H2 locs2 q2 hP2 hS2 => ?_)
  obtain ⟨rfl, q2⟩ := q2
  refine W.eq (g2 := F0 m 1114 la [.int v, .int v]) rfl ?_
  refine lv_icmp_eq (tgt := 1375) hx hb dL_1114 (by decide) (fun _ => kk O H2 locs2 q2 hP2 hS2) (fun c9 => absurd rfl c9)
theorem lc_31 (C0 : lw_At p s m meth c b L xs) (hF : wm_F G s) (hA : G.2.2.2.2.1 = fun q => s.heap.size ≤ q) {i : Nat} (hi : i + 6 ≤ L) (hL : L ≤ 3072) {M : wm_M} (hM : RelA M) {H : Heap} {locs : List Loc} {la : Array Slot} (hP : va_P G.2.1 classes (wm_ws G M) H) (hS : va_S G.2.2.2.2.1 s.heap H locs) (hl : lv_has la 4 [(3, .int (nI i)), (2, wm_r G 96), (1, wm_r G 0), (0, .ref b)])
    (kk : ∀ (O : wm_M) (H1 : Heap) (locs1 : List Loc), RelA O → va_P G.2.1 classes (wm_ws G O) H1 → va_S G.2.2.2.2.1 s.heap H1 locs1 → W p G.1 e room_1 s m #[Value.ref b] below meth c H1 locs1 600000 7302250 (lw_Z below #[Value.ref b] s) (F0 m 1375 la [])) : W p G.1 e room_1 s m #[Value.ref b] below meth c H locs 600000 7302250 (lw_Z below #[Value.ref b] s) (F0 m 1119 la []) := by
  obtain ⟨w, h, rn, s0, yr, ci, x⟩ := hM
  obtain ⟨v, hv⟩ := (s_when (G := G) ci (xs (i + 1)) (xs (i + 2))).b.two ci x
  have hx := C0.1
  have hb := C0.2.1
  refine lv_aload_n hx hb dL_1119 rfl (lv_at hl 2 rfl) ?_
  refine wl_arg (k := 1) C0 dL_1120 dL_1121 dL_1122 dL_1123 dL_1124 hl hA hS (by omega) hL (by decide) ?_
  refine wl_arg (k := 2) C0 dL_1125 dL_1126 dL_1127 dL_1128 dL_1129 hl hA hS (by omega) hL (by decide) ?_
  refine wl_call C0 hF (As := [.int (xs (i + 1)), .int (xs (i + 2))]) (k := 0) (st := []) hv vX9_when kL_143 dL_1130 rfl rfl rfl rfl (by decide) (by decide) hP hS hl (fun u N H1 locs1 q hP1 hS1 => ?_)
  obtain ⟨rfl, q⟩ := q
  refine W.eq (g2 := F0 m 1133 la [.int v]) rfl ?_
  refine lv_aload_n hx hb dL_1133 rfl (lv_at hl 1 rfl) ?_
  refine wl_arg (k := 1) C0 dL_1134 dL_1135 dL_1136 dL_1137 dL_1138 hl hA hS1 (by omega) hL (by decide) ?_
  refine wl_arg (k := 2) C0 dL_1139 dL_1140 dL_1141 dL_1142 dL_1143 hl hA hS1 (by omega) hL (by decide) ?_
  refine wl_call C0 hF (As := [.int (xs (i + 1)), .int (xs (i + 2))]) (k := 96) (st := [.int v]) q vX10_when kL_146 dL_1144 rfl rfl rfl rfl (Nat.le_of_ble_eq_true rfl) (by decide) hP1 hS1 hl (fun u O H2 locs2 q2 hP2 hS2 => ?_)
  obtain ⟨rfl, q2⟩ := q2
  refine W.eq (g2 := F0 m 1147 la [.int v, .int v]) rfl ?_
  refine lv_icmp_eq (tgt := 1375) hx hb dL_1147 (by decide) (fun _ => kk O H2 locs2 q2 hP2 hS2) (fun c9 => absurd rfl c9)
theorem lc_32 (C0 : lw_At p s m meth c b L xs) (hF : wm_F G s) (hA : G.2.2.2.2.1 = fun q => s.heap.size ≤ q) {i : Nat} (hi : i + 6 ≤ L) (hL : L ≤ 3072) {M : wm_M} (hM : RelA M) {H : Heap} {locs : List Loc} {la : Array Slot} (hP : va_P G.2.1 classes (wm_ws G M) H) (hS : va_S G.2.2.2.2.1 s.heap H locs) (hl : lv_has la 4 [(3, .int (nI i)), (2, wm_r G 96), (1, wm_r G 0), (0, .ref b)])
    (kk : ∀ (O : wm_M) (H1 : Heap) (locs1 : List Loc), RelA O → va_P G.2.1 classes (wm_ws G O) H1 → va_S G.2.2.2.2.1 s.heap H1 locs1 → W p G.1 e room_1 s m #[Value.ref b] below meth c H1 locs1 600000 7302250 (lw_Z below #[Value.ref b] s) (F0 m 1375 la [])) : W p G.1 e room_1 s m #[Value.ref b] below meth c H locs 600000 7302250 (lw_Z below #[Value.ref b] s) (F0 m 1152 la []) := by
  obtain ⟨w, h, rn, s0, yr, ci, x⟩ := hM
  obtain ⟨v, hv⟩ := (s_turned (G := G) ci (xs (i + 1)) (xs (i + 2))).b.two ci x
  have hx := C0.1
  have hb := C0.2.1
  refine lv_aload_n hx hb dL_1152 rfl (lv_at hl 2 rfl) ?_
  refine wl_arg (k := 1) C0 dL_1153 dL_1154 dL_1155 dL_1156 dL_1157 hl hA hS (by omega) hL (by decide) ?_
  refine wl_arg (k := 2) C0 dL_1158 dL_1159 dL_1160 dL_1161 dL_1162 hl hA hS (by omega) hL (by decide) ?_
  refine wl_call C0 hF (As := [.int (xs (i + 1)), .int (xs (i + 2))]) (k := 0) (st := []) hv vX9_turned kL_147 dL_1163 rfl rfl rfl rfl (by decide) (by decide) hP hS hl (fun u N H1 locs1 q hP1 hS1 => ?_)
  obtain ⟨rfl, q⟩ := q
  refine W.eq (g2 := F0 m 1166 la [.int v]) rfl ?_
  refine lv_aload_n hx hb dL_1166 rfl (lv_at hl 1 rfl) ?_
  refine wl_arg (k := 1) C0 dL_1167 dL_1168 dL_1169 dL_1170 dL_1171 hl hA hS1 (by omega) hL (by decide) ?_
  refine wl_arg (k := 2) C0 dL_1172 dL_1173 dL_1174 dL_1175 dL_1176 hl hA hS1 (by omega) hL (by decide) ?_
  refine wl_call C0 hF (As := [.int (xs (i + 1)), .int (xs (i + 2))]) (k := 96) (st := [.int v]) q vX10_turned kL_150 dL_1177 rfl rfl rfl rfl (Nat.le_of_ble_eq_true rfl) (by decide) hP1 hS1 hl (fun u O H2 locs2 q2 hP2 hS2 => ?_)
  obtain ⟨rfl, q2⟩ := q2
  refine W.eq (g2 := F0 m 1180 la [.int v, .int v]) rfl ?_
  refine lv_icmp_eq (tgt := 1375) hx hb dL_1180 (by decide) (fun _ => kk O H2 locs2 q2 hP2 hS2) (fun c9 => absurd rfl c9)
theorem lc_33 (C0 : lw_At p s m meth c b L xs) (hF : wm_F G s) (hA : G.2.2.2.2.1 = fun q => s.heap.size ≤ q) {i : Nat} (hi : i + 6 ≤ L) (hL : L ≤ 3072) {M : wm_M} (hM : RelA M) {H : Heap} {locs : List Loc} {la : Array Slot} (hP : va_P G.2.1 classes (wm_ws G M) H) (hS : va_S G.2.2.2.2.1 s.heap H locs) (hl : lv_has la 4 [(3, .int (nI i)), (2, wm_r G 96), (1, wm_r G 0), (0, .ref b)])
    (kk : ∀ (O : wm_M) (H1 : Heap) (locs1 : List Loc), RelA O → va_P G.2.1 classes (wm_ws G O) H1 → va_S G.2.2.2.2.1 s.heap H1 locs1 → W p G.1 e room_1 s m #[Value.ref b] below meth c H1 locs1 600000 7302250 (lw_Z below #[Value.ref b] s) (F0 m 1375 la [])) : W p G.1 e room_1 s m #[Value.ref b] below meth c H locs 600000 7302250 (lw_Z below #[Value.ref b] s) (F0 m 1185 la []) := by
  obtain ⟨w, h, rn, s0, yr, ci, x⟩ := hM
  obtain ⟨v, hv⟩ := (s_odds (G := G) ci (xs (i + 1)) (xs (i + 2)) (xs (i + 3))).b.two ci x
  have hx := C0.1
  have hb := C0.2.1
  refine lv_aload_n hx hb dL_1185 rfl (lv_at hl 2 rfl) ?_
  refine wl_arg (k := 1) C0 dL_1186 dL_1187 dL_1188 dL_1189 dL_1190 hl hA hS (by omega) hL (by decide) ?_
  refine wl_arg (k := 2) C0 dL_1191 dL_1192 dL_1193 dL_1194 dL_1195 hl hA hS (by omega) hL (by decide) ?_
  refine wl_arg (k := 3) C0 dL_1196 dL_1197 dL_1198 dL_1199 dL_1200 hl hA hS (by omega) hL (by decide) ?_
  refine wl_call C0 hF (As := [.int (xs (i + 1)), .int (xs (i + 2)), .int (xs (i + 3))]) (k := 0) (st := []) hv vX9_odds kL_151 dL_1201 rfl rfl rfl rfl (by decide) (by decide) hP hS hl (fun u N H1 locs1 q hP1 hS1 => ?_)
  obtain ⟨rfl, q⟩ := q
  refine W.eq (g2 := F0 m 1204 la [.int v]) rfl ?_
  refine lv_aload_n hx hb dL_1204 rfl (lv_at hl 1 rfl) ?_
  refine wl_arg (k := 1) C0 dL_1205 dL_1206 dL_1207 dL_1208 dL_1209 hl hA hS1 (by omega) hL (by decide) ?_
  refine wl_arg (k := 2) C0 dL_1210 dL_1211 dL_1212 dL_1213 dL_1214 hl hA hS1 (by omega) hL (by decide) ?_
  refine wl_arg (k := 3) C0 dL_1215 dL_1216 dL_1217 dL_1218 dL_1219 hl hA hS1 (by omega) hL (by decide) ?_
  refine wl_call C0 hF (As := [.int (xs (i + 1)), .int (xs (i + 2)), .int (xs (i + 3))]) (k := 96) (st := [.int v]) q vX10_odds kL_154 dL_1220 rfl rfl rfl rfl (Nat.le_of_ble_eq_true rfl) (by decide) hP1 hS1 hl (fun u O H2 locs2 q2 hP2 hS2 => ?_)
  obtain ⟨rfl, q2⟩ := q2
  refine W.eq (g2 := F0 m 1223 la [.int v, .int v]) rfl ?_
  refine lv_icmp_eq (tgt := 1375) hx hb dL_1223 (by decide) (fun _ => kk O H2 locs2 q2 hP2 hS2) (fun c9 => absurd rfl c9)
theorem lc_34 (C0 : lw_At p s m meth c b L xs) (hF : wm_F G s) (hA : G.2.2.2.2.1 = fun q => s.heap.size ≤ q) {i : Nat} (hi : i + 6 ≤ L) (hL : L ≤ 3072) {M : wm_M} (hM : RelA M) {H : Heap} {locs : List Loc} {la : Array Slot} (hP : va_P G.2.1 classes (wm_ws G M) H) (hS : va_S G.2.2.2.2.1 s.heap H locs) (hl : lv_has la 4 [(3, .int (nI i)), (2, wm_r G 96), (1, wm_r G 0), (0, .ref b)])
    (kk : ∀ (O : wm_M) (H1 : Heap) (locs1 : List Loc), RelA O → va_P G.2.1 classes (wm_ws G O) H1 → va_S G.2.2.2.2.1 s.heap H1 locs1 → W p G.1 e room_1 s m #[Value.ref b] below meth c H1 locs1 600000 7302250 (lw_Z below #[Value.ref b] s) (F0 m 1375 la [])) : W p G.1 e room_1 s m #[Value.ref b] below meth c H locs 600000 7302250 (lw_Z below #[Value.ref b] s) (F0 m 1228 la []) := by
  obtain ⟨w, h, rn, s0, yr, ci, x⟩ := hM
  obtain ⟨v, hv⟩ := (s_lives (G := G) ci (xs (i + 1)) (xs (i + 2))).b.two ci x
  have hx := C0.1
  have hb := C0.2.1
  refine lv_aload_n hx hb dL_1228 rfl (lv_at hl 2 rfl) ?_
  refine wl_arg (k := 1) C0 dL_1229 dL_1230 dL_1231 dL_1232 dL_1233 hl hA hS (by omega) hL (by decide) ?_
  refine wl_arg (k := 2) C0 dL_1234 dL_1235 dL_1236 dL_1237 dL_1238 hl hA hS (by omega) hL (by decide) ?_
  refine wl_call C0 hF (As := [.int (xs (i + 1)), .int (xs (i + 2))]) (k := 0) (st := []) hv vX9_lives kL_155 dL_1239 rfl rfl rfl rfl (by decide) (by decide) hP hS hl (fun u N H1 locs1 q hP1 hS1 => ?_)
  obtain ⟨rfl, q⟩ := q
  refine W.eq (g2 := F0 m 1242 la [.int v]) rfl ?_
  refine lv_aload_n hx hb dL_1242 rfl (lv_at hl 1 rfl) ?_
  refine wl_arg (k := 1) C0 dL_1243 dL_1244 dL_1245 dL_1246 dL_1247 hl hA hS1 (by omega) hL (by decide) ?_
  refine wl_arg (k := 2) C0 dL_1248 dL_1249 dL_1250 dL_1251 dL_1252 hl hA hS1 (by omega) hL (by decide) ?_
  refine wl_call C0 hF (As := [.int (xs (i + 1)), .int (xs (i + 2))]) (k := 96) (st := [.int v]) q vX10_lives kL_158 dL_1253 rfl rfl rfl rfl (Nat.le_of_ble_eq_true rfl) (by decide) hP1 hS1 hl (fun u O H2 locs2 q2 hP2 hS2 => ?_)
  obtain ⟨rfl, q2⟩ := q2
  refine W.eq (g2 := F0 m 1256 la [.int v, .int v]) rfl ?_
  refine lv_icmp_eq (tgt := 1375) hx hb dL_1256 (by decide) (fun _ => kk O H2 locs2 q2 hP2 hS2) (fun c9 => absurd rfl c9)
theorem lc_35 (C0 : lw_At p s m meth c b L xs) (hF : wm_F G s) (hA : G.2.2.2.2.1 = fun q => s.heap.size ≤ q) {i : Nat} (hi : i + 6 ≤ L) (hL : L ≤ 3072) {M : wm_M} (hM : RelA M) {H : Heap} {locs : List Loc} {la : Array Slot} (hP : va_P G.2.1 classes (wm_ws G M) H) (hS : va_S G.2.2.2.2.1 s.heap H locs) (hl : lv_has la 4 [(3, .int (nI i)), (2, wm_r G 96), (1, wm_r G 0), (0, .ref b)])
    (kk : ∀ (O : wm_M) (H1 : Heap) (locs1 : List Loc), RelA O → va_P G.2.1 classes (wm_ws G O) H1 → va_S G.2.2.2.2.1 s.heap H1 locs1 → W p G.1 e room_1 s m #[Value.ref b] below meth c H1 locs1 600000 7302250 (lw_Z below #[Value.ref b] s) (F0 m 1375 la [])) : W p G.1 e room_1 s m #[Value.ref b] below meth c H locs 600000 7302250 (lw_Z below #[Value.ref b] s) (F0 m 1261 la []) := by
  obtain ⟨w, h, rn, s0, yr, ci, x⟩ := hM
  obtain ⟨v, hv⟩ := (s_asked (G := G) ci).b.two ci x
  have hx := C0.1
  have hb := C0.2.1
  refine lv_aload_n hx hb dL_1261 rfl (lv_at hl 2 rfl) ?_
  refine wl_call C0 hF (As := []) (k := 0) (st := []) hv vX9_asked kL_159 dL_1262 rfl rfl rfl rfl (by decide) (by decide) hP hS hl (fun u N H1 locs1 q hP1 hS1 => ?_)
  obtain ⟨rfl, q⟩ := q
  refine W.eq (g2 := F0 m 1265 la [.int v]) rfl ?_
  refine lv_aload_n hx hb dL_1265 rfl (lv_at hl 1 rfl) ?_
  refine wl_call C0 hF (As := []) (k := 96) (st := [.int v]) q vX10_asked kL_162 dL_1266 rfl rfl rfl rfl (Nat.le_of_ble_eq_true rfl) (by decide) hP1 hS1 hl (fun u O H2 locs2 q2 hP2 hS2 => ?_)
  obtain ⟨rfl, q2⟩ := q2
  refine W.eq (g2 := F0 m 1269 la [.int v, .int v]) rfl ?_
  refine lv_icmp_eq (tgt := 1375) hx hb dL_1269 (by decide) (fun _ => kk O H2 locs2 q2 hP2 hS2) (fun c9 => absurd rfl c9)
theorem lc_36 (C0 : lw_At p s m meth c b L xs) (hF : wm_F G s) (hA : G.2.2.2.2.1 = fun q => s.heap.size ≤ q) {i : Nat} (hi : i + 6 ≤ L) (hL : L ≤ 3072) {M : wm_M} (hM : RelA M) {H : Heap} {locs : List Loc} {la : Array Slot} (hP : va_P G.2.1 classes (wm_ws G M) H) (hS : va_S G.2.2.2.2.1 s.heap H locs) (hl : lv_has la 4 [(3, .int (nI i)), (2, wm_r G 96), (1, wm_r G 0), (0, .ref b)])
    (kk : ∀ (O : wm_M) (H1 : Heap) (locs1 : List Loc), RelA O → va_P G.2.1 classes (wm_ws G O) H1 → va_S G.2.2.2.2.1 s.heap H1 locs1 → W p G.1 e room_1 s m #[Value.ref b] below meth c H1 locs1 600000 7302250 (lw_Z below #[Value.ref b] s) (F0 m 1375 la [])) : W p G.1 e room_1 s m #[Value.ref b] below meth c H locs 600000 7302250 (lw_Z below #[Value.ref b] s) (F0 m 1274 la []) := by
  obtain ⟨w, h, rn, s0, yr, ci, x⟩ := hM
  obtain ⟨v, hv⟩ := (s_upper (G := G) ci).two ci x
  have hx := C0.1
  have hb := C0.2.1
  refine lv_aload_n hx hb dL_1274 rfl (lv_at hl 2 rfl) ?_
  refine wl_call C0 hF (As := []) (k := 0) (st := []) hv vX9_upper kL_163 dL_1275 rfl rfl rfl rfl (by decide) (by decide) hP hS hl (fun u N H1 locs1 q hP1 hS1 => ?_)
  obtain ⟨rfl, q⟩ := q
  refine W.eq (g2 := F0 m 1278 la [.long v]) rfl ?_
  refine lv_aload_n hx hb dL_1278 rfl (lv_at hl 1 rfl) ?_
  refine wl_call C0 hF (As := []) (k := 96) (st := [.long v]) q vX10_upper kL_167 dL_1279 rfl rfl rfl rfl (Nat.le_of_ble_eq_true rfl) (by decide) hP1 hS1 hl (fun u O H2 locs2 q2 hP2 hS2 => ?_)
  obtain ⟨rfl, q2⟩ := q2
  refine W.eq (g2 := F0 m 1282 la [.long v, .long v]) rfl ?_
  refine W.lcmp hx hb dL_1282 ?_
  refine lv_if_eq (tgt := 1375) hx hb dL_1283 (by decide) (fun _ => kk O H2 locs2 q2 hP2 hS2) (fun c9 => absurd (lg_cmp_self v) c9)
theorem lc_37 (C0 : lw_At p s m meth c b L xs) (hF : wm_F G s) (hA : G.2.2.2.2.1 = fun q => s.heap.size ≤ q) {i : Nat} (hi : i + 6 ≤ L) (hL : L ≤ 3072) {M : wm_M} (hM : RelA M) {H : Heap} {locs : List Loc} {la : Array Slot} (hP : va_P G.2.1 classes (wm_ws G M) H) (hS : va_S G.2.2.2.2.1 s.heap H locs) (hl : lv_has la 4 [(3, .int (nI i)), (2, wm_r G 96), (1, wm_r G 0), (0, .ref b)])
    (kk : ∀ (O : wm_M) (H1 : Heap) (locs1 : List Loc), RelA O → va_P G.2.1 classes (wm_ws G O) H1 → va_S G.2.2.2.2.1 s.heap H1 locs1 → W p G.1 e room_1 s m #[Value.ref b] below meth c H1 locs1 600000 7302250 (lw_Z below #[Value.ref b] s) (F0 m 1375 la [])) : W p G.1 e room_1 s m #[Value.ref b] below meth c H locs 600000 7302250 (lw_Z below #[Value.ref b] s) (F0 m 1288 la []) := by
  obtain ⟨w, h, rn, s0, yr, ci, x⟩ := hM
  obtain ⟨v, hv⟩ := (s_lower (G := G) ci).two ci x
  have hx := C0.1
  have hb := C0.2.1
  refine lv_aload_n hx hb dL_1288 rfl (lv_at hl 2 rfl) ?_
  refine wl_call C0 hF (As := []) (k := 0) (st := []) hv vX9_lower kL_168 dL_1289 rfl rfl rfl rfl (by decide) (by decide) hP hS hl (fun u N H1 locs1 q hP1 hS1 => ?_)
  obtain ⟨rfl, q⟩ := q
  refine W.eq (g2 := F0 m 1292 la [.long v]) rfl ?_
  refine lv_aload_n hx hb dL_1292 rfl (lv_at hl 1 rfl) ?_
  refine wl_call C0 hF (As := []) (k := 96) (st := [.long v]) q vX10_lower kL_171 dL_1293 rfl rfl rfl rfl (Nat.le_of_ble_eq_true rfl) (by decide) hP1 hS1 hl (fun u O H2 locs2 q2 hP2 hS2 => ?_)
  obtain ⟨rfl, q2⟩ := q2
  refine W.eq (g2 := F0 m 1296 la [.long v, .long v]) rfl ?_
  refine W.lcmp hx hb dL_1296 ?_
  refine lv_if_eq (tgt := 1375) hx hb dL_1297 (by decide) (fun _ => kk O H2 locs2 q2 hP2 hS2) (fun c9 => absurd (lg_cmp_self v) c9)
theorem lc_38 (C0 : lw_At p s m meth c b L xs) (hF : wm_F G s) (hA : G.2.2.2.2.1 = fun q => s.heap.size ≤ q) {i : Nat} (hi : i + 6 ≤ L) (hL : L ≤ 3072) {M : wm_M} (hM : RelA M) {H : Heap} {locs : List Loc} {la : Array Slot} (hP : va_P G.2.1 classes (wm_ws G M) H) (hS : va_S G.2.2.2.2.1 s.heap H locs) (hl : lv_has la 4 [(3, .int (nI i)), (2, wm_r G 96), (1, wm_r G 0), (0, .ref b)])
    (kk : ∀ (O : wm_M) (H1 : Heap) (locs1 : List Loc), RelA O → va_P G.2.1 classes (wm_ws G O) H1 → va_S G.2.2.2.2.1 s.heap H1 locs1 → W p G.1 e room_1 s m #[Value.ref b] below meth c H1 locs1 600000 7302250 (lw_Z below #[Value.ref b] s) (F0 m 1375 la [])) : W p G.1 e room_1 s m #[Value.ref b] below meth c H locs 600000 7302250 (lw_Z below #[Value.ref b] s) (F0 m 1302 la []) := by
  obtain ⟨w, h, rn, s0, yr, ci, x⟩ := hM
  obtain ⟨v, hv⟩ := (s_count (G := G) ci (xs (i + 1))).b.two ci x
  have hx := C0.1
  have hb := C0.2.1
  refine lv_aload_n hx hb dL_1302 rfl (lv_at hl 2 rfl) ?_
  refine wl_arg (k := 1) C0 dL_1303 dL_1304 dL_1305 dL_1306 dL_1307 hl hA hS (by omega) hL (by decide) ?_
  refine wl_call C0 hF (As := [.int (xs (i + 1))]) (k := 0) (st := []) hv vX9_count kL_172 dL_1308 rfl rfl rfl rfl (by decide) (by decide) hP hS hl (fun u N H1 locs1 q hP1 hS1 => ?_)
  obtain ⟨rfl, q⟩ := q
  refine W.eq (g2 := F0 m 1311 la [.int v]) rfl ?_
  refine lv_aload_n hx hb dL_1311 rfl (lv_at hl 1 rfl) ?_
  refine wl_arg (k := 1) C0 dL_1312 dL_1313 dL_1314 dL_1315 dL_1316 hl hA hS1 (by omega) hL (by decide) ?_
  refine wl_call C0 hF (As := [.int (xs (i + 1))]) (k := 96) (st := [.int v]) q vX10_count kL_175 dL_1317 rfl rfl rfl rfl (Nat.le_of_ble_eq_true rfl) (by decide) hP1 hS1 hl (fun u O H2 locs2 q2 hP2 hS2 => ?_)
  obtain ⟨rfl, q2⟩ := q2
  refine W.eq (g2 := F0 m 1320 la [.int v, .int v]) rfl ?_
  refine lv_icmp_eq (tgt := 1375) hx hb dL_1320 (by decide) (fun _ => kk O H2 locs2 q2 hP2 hS2) (fun c9 => absurd rfl c9)
theorem lc_39 (C0 : lw_At p s m meth c b L xs) (hF : wm_F G s) (hA : G.2.2.2.2.1 = fun q => s.heap.size ≤ q) {i : Nat} (hi : i + 6 ≤ L) (hL : L ≤ 3072) {M : wm_M} (hM : RelA M) {H : Heap} {locs : List Loc} {la : Array Slot} (hP : va_P G.2.1 classes (wm_ws G M) H) (hS : va_S G.2.2.2.2.1 s.heap H locs) (hl : lv_has la 4 [(3, .int (nI i)), (2, wm_r G 96), (1, wm_r G 0), (0, .ref b)])
    (kk : ∀ (O : wm_M) (H1 : Heap) (locs1 : List Loc), RelA O → va_P G.2.1 classes (wm_ws G O) H1 → va_S G.2.2.2.2.1 s.heap H1 locs1 → W p G.1 e room_1 s m #[Value.ref b] below meth c H1 locs1 600000 7302250 (lw_Z below #[Value.ref b] s) (F0 m 1375 la [])) : W p G.1 e room_1 s m #[Value.ref b] below meth c H locs 600000 7302250 (lw_Z below #[Value.ref b] s) (F0 m 1325 la []) := by
  obtain ⟨w, h, rn, s0, yr, ci, x⟩ := hM
  obtain ⟨v, hv⟩ := (s_finding (G := G) ci).b.two ci x
  have hx := C0.1
  have hb := C0.2.1
  refine lv_aload_n hx hb dL_1325 rfl (lv_at hl 2 rfl) ?_
  refine wl_call C0 hF (As := []) (k := 0) (st := []) hv vX9_finding kL_176 dL_1326 rfl rfl rfl rfl (by decide) (by decide) hP hS hl (fun u N H1 locs1 q hP1 hS1 => ?_)
  obtain ⟨rfl, q⟩ := q
  refine W.eq (g2 := F0 m 1329 la [.int v]) rfl ?_
  refine lv_aload_n hx hb dL_1329 rfl (lv_at hl 1 rfl) ?_
  refine wl_call C0 hF (As := []) (k := 96) (st := [.int v]) q vX10_finding kL_179 dL_1330 rfl rfl rfl rfl (Nat.le_of_ble_eq_true rfl) (by decide) hP1 hS1 hl (fun u O H2 locs2 q2 hP2 hS2 => ?_)
  obtain ⟨rfl, q2⟩ := q2
  refine W.eq (g2 := F0 m 1333 la [.int v, .int v]) rfl ?_
  refine lv_icmp_eq (tgt := 1375) hx hb dL_1333 (by decide) (fun _ => kk O H2 locs2 q2 hP2 hS2) (fun c9 => absurd rfl c9)
theorem lc_40 (C0 : lw_At p s m meth c b L xs) (hF : wm_F G s) (hA : G.2.2.2.2.1 = fun q => s.heap.size ≤ q) {i : Nat} (hi : i + 6 ≤ L) (hL : L ≤ 3072) {M : wm_M} (hM : RelA M) {H : Heap} {locs : List Loc} {la : Array Slot} (hP : va_P G.2.1 classes (wm_ws G M) H) (hS : va_S G.2.2.2.2.1 s.heap H locs) (hl : lv_has la 4 [(3, .int (nI i)), (2, wm_r G 96), (1, wm_r G 0), (0, .ref b)])
    (kk : ∀ (O : wm_M) (H1 : Heap) (locs1 : List Loc), RelA O → va_P G.2.1 classes (wm_ws G O) H1 → va_S G.2.2.2.2.1 s.heap H1 locs1 → W p G.1 e room_1 s m #[Value.ref b] below meth c H1 locs1 600000 7302250 (lw_Z below #[Value.ref b] s) (F0 m 1375 la [])) : W p G.1 e room_1 s m #[Value.ref b] below meth c H locs 600000 7302250 (lw_Z below #[Value.ref b] s) (F0 m 1338 la []) := by
  obtain ⟨w, h, rn, s0, yr, ci, x⟩ := hM
  obtain ⟨v, hv⟩ := (s_findings (G := G) ci (xs (i + 1))).b.two ci x
  have hx := C0.1
  have hb := C0.2.1
  refine lv_aload_n hx hb dL_1338 rfl (lv_at hl 2 rfl) ?_
  refine wl_arg (k := 1) C0 dL_1339 dL_1340 dL_1341 dL_1342 dL_1343 hl hA hS (by omega) hL (by decide) ?_
  refine wl_call C0 hF (As := [.int (xs (i + 1))]) (k := 0) (st := []) hv vX9_findings kL_180 dL_1344 rfl rfl rfl rfl (by decide) (by decide) hP hS hl (fun u N H1 locs1 q hP1 hS1 => ?_)
  obtain ⟨rfl, q⟩ := q
  refine W.eq (g2 := F0 m 1347 la [.int v]) rfl ?_
  refine lv_aload_n hx hb dL_1347 rfl (lv_at hl 1 rfl) ?_
  refine wl_arg (k := 1) C0 dL_1348 dL_1349 dL_1350 dL_1351 dL_1352 hl hA hS1 (by omega) hL (by decide) ?_
  refine wl_call C0 hF (As := [.int (xs (i + 1))]) (k := 96) (st := [.int v]) q vX10_findings kL_183 dL_1353 rfl rfl rfl rfl (Nat.le_of_ble_eq_true rfl) (by decide) hP1 hS1 hl (fun u O H2 locs2 q2 hP2 hS2 => ?_)
  obtain ⟨rfl, q2⟩ := q2
  refine W.eq (g2 := F0 m 1356 la [.int v, .int v]) rfl ?_
  refine lv_icmp_eq (tgt := 1375) hx hb dL_1356 (by decide) (fun _ => kk O H2 locs2 q2 hP2 hS2) (fun c9 => absurd rfl c9)
theorem lc_41 (C0 : lw_At p s m meth c b L xs) (hF : wm_F G s) (hA : G.2.2.2.2.1 = fun q => s.heap.size ≤ q) {i : Nat} (hi : i + 6 ≤ L) (hL : L ≤ 3072) {M : wm_M} (hM : RelA M) {H : Heap} {locs : List Loc} {la : Array Slot} (hP : va_P G.2.1 classes (wm_ws G M) H) (hS : va_S G.2.2.2.2.1 s.heap H locs) (hl : lv_has la 4 [(3, .int (nI i)), (2, wm_r G 96), (1, wm_r G 0), (0, .ref b)])
    (kk : ∀ (O : wm_M) (H1 : Heap) (locs1 : List Loc), RelA O → va_P G.2.1 classes (wm_ws G O) H1 → va_S G.2.2.2.2.1 s.heap H1 locs1 → W p G.1 e room_1 s m #[Value.ref b] below meth c H1 locs1 600000 7302250 (lw_Z below #[Value.ref b] s) (F0 m 1375 la [])) : W p G.1 e room_1 s m #[Value.ref b] below meth c H locs 600000 7302250 (lw_Z below #[Value.ref b] s) (F0 m 1361 la []) := by
  obtain ⟨w, h, rn, s0, yr, ci, x⟩ := hM
  obtain ⟨v, hv⟩ := (s_digest (G := G) ci).two ci x
  have hx := C0.1
  have hb := C0.2.1
  refine lv_aload_n hx hb dL_1361 rfl (lv_at hl 2 rfl) ?_
  refine wl_call C0 hF (As := []) (k := 0) (st := []) hv vX9_digest kL_184 dL_1362 rfl rfl rfl rfl (by decide) (by decide) hP hS hl (fun u N H1 locs1 q hP1 hS1 => ?_)
  obtain ⟨rfl, q⟩ := q
  refine W.eq (g2 := F0 m 1365 la [.long v]) rfl ?_
  refine lv_aload_n hx hb dL_1365 rfl (lv_at hl 1 rfl) ?_
  refine wl_call C0 hF (As := []) (k := 96) (st := [.long v]) q vX10_digest kL_187 dL_1366 rfl rfl rfl rfl (Nat.le_of_ble_eq_true rfl) (by decide) hP1 hS1 hl (fun u O H2 locs2 q2 hP2 hS2 => ?_)
  obtain ⟨rfl, q2⟩ := q2
  refine W.eq (g2 := F0 m 1369 la [.long v, .long v]) rfl ?_
  refine W.lcmp hx hb dL_1369 ?_
  refine lv_if_eq (tgt := 1375) hx hb dL_1370 (by decide) (fun _ => kk O H2 locs2 q2 hP2 hS2) (fun c9 => absurd (lg_cmp_self v) c9)
end LAWC
