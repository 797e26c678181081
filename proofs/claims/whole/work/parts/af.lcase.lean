/-! the law's cases -/
section LC
variable {p : Program} {l : Launch} {e : Env} {s : State} {m : MethodId} {args : Array Value} {below : List Frame} {meth : Method} {c : Code} {Q : State → Prop} {D : va_G} {ar : Nat → ClassId} {b : Nat} {w : zcW} {n : Nat} {cells slots : Nat} {o : olP} {σ : Nat → Nat → Int} {a0 L : Nat} {xs : Nat → Int32} {i : Nat}
theorem lc_0 (E : lwX p m c s args D ar b o a0 L xs) (hi : i + 8 ≤ L) (hf : cells + 130 ≤ 600000 ∧ slots + 7523 ≤ 7302250) (hS : LS9 ar b o.2.1 σ w n) (k : ∀ σ9 w9 n9, LS9 ar b o.2.1 σ9 w9 n9 → hvV p l e room_1 s m args below meth c 4 (FB9 b) (cells + 130) (slots + 7523) Q (lwI D ar b s.heap σ9 w9 n9) 1614 (lwL a0 b i) []) : hvV p l e room_1 s m args below meth c 4 (FB9 b) cells slots Q (lwI D ar b s.heap σ w n) 200 (lwL a0 b i) [] := by
  obtain ⟨C, K, O, htx, X, ha, hsb, hL⟩ := E
  obtain ⟨fr, lo, mc, ms, fq, lq, r, σ9, hb9, hz, hm⟩ := lop_town (l := l) (D := D) (B := BB9 b)   hS
  obtain ⟨fs, hw⟩ := hS.b
  refine hv_aload_n C 1 2 dL_200 rfl rfl ?_
  refine lw_callC [] [] C K O hsb hw hz ck_L_13 (by show fr + 1 ≤ 2048 ∧ 8 + (1 + 11) + lo ≤ 84000; omega) (by show cells + mc ≤ 600000 ∧ slots + ms ≤ 7302250; omega) rfl (Nat.le_of_ble_eq_true rfl) (fun r9 w9 n9 z => z.2.n) dL_201 (fun r9 w9 n9 z => ?_)
  obtain ⟨rfl, hS2⟩ := z
  refine hv_aload_n C 2 1 dL_204 rfl rfl ?_
  refine lw_callM [] [.int (iz r)] C K hm ck_L_17 (by show fq + 1 ≤ 2048 ∧ 8 + (1 + 11) + lq ≤ 84000; omega) (by show cells + mc ≤ 600000 ∧ slots + ms ≤ 7302250; omega) rfl (Nat.le_of_ble_eq_true rfl) dL_205 ?_
  refine lw_eq (x := iz r) (stk := []) 1614 C dL_208 rfl ?_
  exact hv_widen (cells + 130) (slots + 7523) (by omega) (by omega) (k _ _ _ hS2)
theorem lc_1 (E : lwX p m c s args D ar b o a0 L xs) (hi : i + 8 ≤ L) (hf : cells + 130 ≤ 600000 ∧ slots + 7523 ≤ 7302250) (hS : LS9 ar b o.2.1 σ w n) (k : ∀ σ9 w9 n9, LS9 ar b o.2.1 σ9 w9 n9 → hvV p l e room_1 s m args below meth c 4 (FB9 b) (cells + 130) (slots + 7523) Q (lwI D ar b s.heap σ9 w9 n9) 1614 (lwL a0 b i) []) : hvV p l e room_1 s m args below meth c 4 (FB9 b) cells slots Q (lwI D ar b s.heap σ w n) 213 (lwL a0 b i) [] := by
  obtain ⟨C, K, O, htx, X, ha, hsb, hL⟩ := E
  obtain ⟨fr, lo, mc, ms, fq, lq, r, σ9, hb9, hz, hm⟩ := lop_wire (l := l) (D := D) (B := BB9 b) ((xs (i + 1)).toInt) ((xs (i + 2)).toInt) ((xs (i + 3)).toInt) ((xs (i + 4)).toInt) (inI_toInt _) (inI_toInt _) (inI_toInt _) (inI_toInt _) bb_b hS
  obtain ⟨fs, hw⟩ := hS.b
  refine hv_aload_n C 1 2 dL_213 rfl rfl ?_
  refine lw_arg 1 C X ha hsb hL (by omega) dL_214 dL_215 dL_216 dL_217 dL_218 ?_
  refine lw_arg 2 C X ha hsb hL (by omega) dL_219 dL_220 dL_221 dL_222 dL_223 ?_
  refine lw_arg 3 C X ha hsb hL (by omega) dL_224 dL_225 dL_226 dL_227 dL_228 ?_
  refine lw_arg 4 C X ha hsb hL (by omega) dL_229 dL_230 dL_231 dL_232 dL_233 ?_
  refine lw_callC [.int (iz (xs (i + 1)).toInt), .int (iz (xs (i + 2)).toInt), .int (iz (xs (i + 3)).toInt), .int (iz (xs (i + 4)).toInt)] [] C K O hsb hw hz ck_L_18 (by show fr + 1 ≤ 2048 ∧ 8 + (5 + 11) + lo ≤ 84000; omega) (by show cells + mc ≤ 600000 ∧ slots + ms ≤ 7302250; omega) rfl (Nat.le_of_ble_eq_true rfl) (fun r9 w9 n9 z => z.2.n) dL_234 (fun r9 w9 n9 z => ?_)
  obtain ⟨rfl, hS2⟩ := z
  refine hv_aload_n C 2 1 dL_237 rfl rfl ?_
  refine lw_arg 1 C X ha hsb hL (by omega) dL_238 dL_239 dL_240 dL_241 dL_242 ?_
  refine lw_arg 2 C X ha hsb hL (by omega) dL_243 dL_244 dL_245 dL_246 dL_247 ?_
  refine lw_arg 3 C X ha hsb hL (by omega) dL_248 dL_249 dL_250 dL_251 dL_252 ?_
  refine lw_arg 4 C X ha hsb hL (by omega) dL_253 dL_254 dL_255 dL_256 dL_257 ?_
  refine lw_callM [.int (iz (xs (i + 1)).toInt), .int (iz (xs (i + 2)).toInt), .int (iz (xs (i + 3)).toInt), .int (iz (xs (i + 4)).toInt)] [.int (iz r)] C K hm ck_L_22 (by show fq + 1 ≤ 2048 ∧ 8 + (6 + 11) + lq ≤ 84000; omega) (by show cells + mc ≤ 600000 ∧ slots + ms ≤ 7302250; omega) rfl (Nat.le_of_ble_eq_true rfl) dL_258 ?_
  refine lw_eq (x := iz r) (stk := []) 1614 C dL_261 rfl ?_
  exact hv_widen (cells + 130) (slots + 7523) (by omega) (by omega) (k _ _ _ hS2)
theorem lc_2 (E : lwX p m c s args D ar b o a0 L xs) (hi : i + 8 ≤ L) (hf : cells + 130 ≤ 600000 ∧ slots + 7523 ≤ 7302250) (hS : LS9 ar b o.2.1 σ w n) (k : ∀ σ9 w9 n9, LS9 ar b o.2.1 σ9 w9 n9 → hvV p l e room_1 s m args below meth c 4 (FB9 b) (cells + 130) (slots + 7523) Q (lwI D ar b s.heap σ9 w9 n9) 1614 (lwL a0 b i) []) : hvV p l e room_1 s m args below meth c 4 (FB9 b) cells slots Q (lwI D ar b s.heap σ w n) 266 (lwL a0 b i) [] := by
  obtain ⟨C, K, O, htx, X, ha, hsb, hL⟩ := E
  obtain ⟨fr, lo, mc, ms, fq, lq, r, σ9, hb9, hz, hm⟩ := lop_station (l := l) (D := D) (B := BB9 b) ((xs (i + 1)).toInt) ((xs (i + 2)).toInt) ((xs (i + 3)).toInt) (inI_toInt _) (inI_toInt _) (inI_toInt _) bb_b hS
  obtain ⟨fs, hw⟩ := hS.b
  refine hv_aload_n C 1 2 dL_266 rfl rfl ?_
  refine lw_arg 1 C X ha hsb hL (by omega) dL_267 dL_268 dL_269 dL_270 dL_271 ?_
  refine lw_arg 2 C X ha hsb hL (by omega) dL_272 dL_273 dL_274 dL_275 dL_276 ?_
  refine lw_arg 3 C X ha hsb hL (by omega) dL_277 dL_278 dL_279 dL_280 dL_281 ?_
  refine lw_callC [.int (iz (xs (i + 1)).toInt), .int (iz (xs (i + 2)).toInt), .int (iz (xs (i + 3)).toInt)] [] C K O hsb hw hz ck_L_23 (by show fr + 1 ≤ 2048 ∧ 8 + (4 + 11) + lo ≤ 84000; omega) (by show cells + mc ≤ 600000 ∧ slots + ms ≤ 7302250; omega) rfl (Nat.le_of_ble_eq_true rfl) (fun r9 w9 n9 z => z.2.n) dL_282 (fun r9 w9 n9 z => ?_)
  obtain ⟨rfl, hS2⟩ := z
  refine hv_aload_n C 2 1 dL_285 rfl rfl ?_
  refine lw_arg 1 C X ha hsb hL (by omega) dL_286 dL_287 dL_288 dL_289 dL_290 ?_
  refine lw_arg 2 C X ha hsb hL (by omega) dL_291 dL_292 dL_293 dL_294 dL_295 ?_
  refine lw_arg 3 C X ha hsb hL (by omega) dL_296 dL_297 dL_298 dL_299 dL_300 ?_
  refine lw_callM [.int (iz (xs (i + 1)).toInt), .int (iz (xs (i + 2)).toInt), .int (iz (xs (i + 3)).toInt)] [.int (iz r)] C K hm ck_L_27 (by show fq + 1 ≤ 2048 ∧ 8 + (5 + 11) + lq ≤ 84000; omega) (by show cells + mc ≤ 600000 ∧ slots + ms ≤ 7302250; omega) rfl (Nat.le_of_ble_eq_true rfl) dL_301 ?_
  refine lw_eq (x := iz r) (stk := []) 1614 C dL_304 rfl ?_
  exact hv_widen (cells + 130) (slots + 7523) (by omega) (by omega) (k _ _ _ hS2)
theorem lc_3 (E : lwX p m c s args D ar b o a0 L xs) (hi : i + 8 ≤ L) (hf : cells + 130 ≤ 600000 ∧ slots + 7523 ≤ 7302250) (hS : LS9 ar b o.2.1 σ w n) (k : ∀ σ9 w9 n9, LS9 ar b o.2.1 σ9 w9 n9 → hvV p l e room_1 s m args below meth c 4 (FB9 b) (cells + 130) (slots + 7523) Q (lwI D ar b s.heap σ9 w9 n9) 1614 (lwL a0 b i) []) : hvV p l e room_1 s m args below meth c 4 (FB9 b) cells slots Q (lwI D ar b s.heap σ w n) 309 (lwL a0 b i) [] := by
  obtain ⟨C, K, O, htx, X, ha, hsb, hL⟩ := E
  obtain ⟨fr, lo, mc, ms, fq, lq, r, σ9, hb9, hz, hm⟩ := lop_summer (l := l) (D := D) (B := BB9 b) ((xs (i + 1)).toInt) ((xs (i + 2)).toInt) ((xs (i + 3)).toInt) (inI_toInt _) (inI_toInt _) (inI_toInt _) hS
  obtain ⟨fs, hw⟩ := hS.b
  refine hv_aload_n C 1 2 dL_309 rfl rfl ?_
  refine lw_arg 1 C X ha hsb hL (by omega) dL_310 dL_311 dL_312 dL_313 dL_314 ?_
  refine lw_arg 2 C X ha hsb hL (by omega) dL_315 dL_316 dL_317 dL_318 dL_319 ?_
  refine lw_arg 3 C X ha hsb hL (by omega) dL_320 dL_321 dL_322 dL_323 dL_324 ?_
  refine lw_callC [.int (iz (xs (i + 1)).toInt), .int (iz (xs (i + 2)).toInt), .int (iz (xs (i + 3)).toInt)] [] C K O hsb hw hz ck_L_28 (by show fr + 1 ≤ 2048 ∧ 8 + (4 + 11) + lo ≤ 84000; omega) (by show cells + mc ≤ 600000 ∧ slots + ms ≤ 7302250; omega) rfl (Nat.le_of_ble_eq_true rfl) (fun r9 w9 n9 z => z.2.n) dL_325 (fun r9 w9 n9 z => ?_)
  obtain ⟨rfl, hS2⟩ := z
  refine hv_aload_n C 2 1 dL_328 rfl rfl ?_
  refine lw_arg 1 C X ha hsb hL (by omega) dL_329 dL_330 dL_331 dL_332 dL_333 ?_
  refine lw_arg 2 C X ha hsb hL (by omega) dL_334 dL_335 dL_336 dL_337 dL_338 ?_
  refine lw_arg 3 C X ha hsb hL (by omega) dL_339 dL_340 dL_341 dL_342 dL_343 ?_
  refine lw_callM [.int (iz (xs (i + 1)).toInt), .int (iz (xs (i + 2)).toInt), .int (iz (xs (i + 3)).toInt)] [.int (iz r)] C K hm ck_L_32 (by show fq + 1 ≤ 2048 ∧ 8 + (4 + 11) + lq ≤ 84000; omega) (by show cells + mc ≤ 600000 ∧ slots + ms ≤ 7302250; omega) rfl (Nat.le_of_ble_eq_true rfl) dL_344 ?_
  refine lw_eq (x := iz r) (stk := []) 1614 C dL_347 rfl ?_
  exact hv_widen (cells + 130) (slots + 7523) (by omega) (by omega) (k _ _ _ hS2)
theorem lc_4 (E : lwX p m c s args D ar b o a0 L xs) (hi : i + 8 ≤ L) (hf : cells + 130 ≤ 600000 ∧ slots + 7523 ≤ 7302250) (hS : LS9 ar b o.2.1 σ w n) (k : ∀ σ9 w9 n9, LS9 ar b o.2.1 σ9 w9 n9 → hvV p l e room_1 s m args below meth c 4 (FB9 b) (cells + 130) (slots + 7523) Q (lwI D ar b s.heap σ9 w9 n9) 1614 (lwL a0 b i) []) : hvV p l e room_1 s m args below meth c 4 (FB9 b) cells slots Q (lwI D ar b s.heap σ w n) 352 (lwL a0 b i) [] := by
  obtain ⟨C, K, O, htx, X, ha, hsb, hL⟩ := E
  obtain ⟨fr, lo, mc, ms, fq, lq, r, σ9, hb9, hz, hm⟩ := lop_local (l := l) (D := D) (B := BB9 b) ((xs (i + 1)).toInt) ((xs (i + 2)).toInt) ((xs (i + 3)).toInt) (inI_toInt _) (inI_toInt _) (inI_toInt _) hS
  obtain ⟨fs, hw⟩ := hS.b
  refine hv_aload_n C 1 2 dL_352 rfl rfl ?_
  refine lw_arg 1 C X ha hsb hL (by omega) dL_353 dL_354 dL_355 dL_356 dL_357 ?_
  refine lw_arg 2 C X ha hsb hL (by omega) dL_358 dL_359 dL_360 dL_361 dL_362 ?_
  refine lw_arg 3 C X ha hsb hL (by omega) dL_363 dL_364 dL_365 dL_366 dL_367 ?_
  refine lw_callC [.int (iz (xs (i + 1)).toInt), .int (iz (xs (i + 2)).toInt), .int (iz (xs (i + 3)).toInt)] [] C K O hsb hw hz ck_L_33 (by show fr + 1 ≤ 2048 ∧ 8 + (4 + 11) + lo ≤ 84000; omega) (by show cells + mc ≤ 600000 ∧ slots + ms ≤ 7302250; omega) rfl (Nat.le_of_ble_eq_true rfl) (fun r9 w9 n9 z => z.2.n) dL_368 (fun r9 w9 n9 z => ?_)
  obtain ⟨rfl, hS2⟩ := z
  refine hv_aload_n C 2 1 dL_371 rfl rfl ?_
  refine lw_arg 1 C X ha hsb hL (by omega) dL_372 dL_373 dL_374 dL_375 dL_376 ?_
  refine lw_arg 2 C X ha hsb hL (by omega) dL_377 dL_378 dL_379 dL_380 dL_381 ?_
  refine lw_arg 3 C X ha hsb hL (by omega) dL_382 dL_383 dL_384 dL_385 dL_386 ?_
  refine lw_callM [.int (iz (xs (i + 1)).toInt), .int (iz (xs (i + 2)).toInt), .int (iz (xs (i + 3)).toInt)] [.int (iz r)] C K hm ck_L_36 (by show fq + 1 ≤ 2048 ∧ 8 + (4 + 11) + lq ≤ 84000; omega) (by show cells + mc ≤ 600000 ∧ slots + ms ≤ 7302250; omega) rfl (Nat.le_of_ble_eq_true rfl) dL_387 ?_
  refine lw_eq (x := iz r) (stk := []) 1614 C dL_390 rfl ?_
  exact hv_widen (cells + 130) (slots + 7523) (by omega) (by omega) (k _ _ _ hS2)
theorem lc_5 (E : lwX p m c s args D ar b o a0 L xs) (hi : i + 8 ≤ L) (hf : cells + 130 ≤ 600000 ∧ slots + 7523 ≤ 7302250) (hS : LS9 ar b o.2.1 σ w n) (k : ∀ σ9 w9 n9, LS9 ar b o.2.1 σ9 w9 n9 → hvV p l e room_1 s m args below meth c 4 (FB9 b) (cells + 130) (slots + 7523) Q (lwI D ar b s.heap σ9 w9 n9) 1614 (lwL a0 b i) []) : hvV p l e room_1 s m args below meth c 4 (FB9 b) cells slots Q (lwI D ar b s.heap σ w n) 395 (lwL a0 b i) [] := by
  obtain ⟨C, K, O, htx, X, ha, hsb, hL⟩ := E
  obtain ⟨fr, lo, mc, ms, fq, lq, r, σ9, hb9, hz, hm⟩ := lop_twice (l := l) (D := D) (B := BB9 b) ((xs (i + 1)).toInt) ((xs (i + 2)).toInt) ((xs (i + 3)).toInt) (inI_toInt _) (inI_toInt _) (inI_toInt _) hS
  obtain ⟨fs, hw⟩ := hS.b
  refine hv_aload_n C 1 2 dL_395 rfl rfl ?_
  refine lw_arg 1 C X ha hsb hL (by omega) dL_396 dL_397 dL_398 dL_399 dL_400 ?_
  refine lw_arg 2 C X ha hsb hL (by omega) dL_401 dL_402 dL_403 dL_404 dL_405 ?_
  refine lw_arg 3 C X ha hsb hL (by omega) dL_406 dL_407 dL_408 dL_409 dL_410 ?_
  refine lw_callC [.int (iz (xs (i + 1)).toInt), .int (iz (xs (i + 2)).toInt), .int (iz (xs (i + 3)).toInt)] [] C K O hsb hw hz ck_L_37 (by show fr + 1 ≤ 2048 ∧ 8 + (8 + 11) + lo ≤ 84000; omega) (by show cells + mc ≤ 600000 ∧ slots + ms ≤ 7302250; omega) rfl (Nat.le_of_ble_eq_true rfl) (fun r9 w9 n9 z => z.2.n) dL_411 (fun r9 w9 n9 z => ?_)
  obtain ⟨rfl, hS2⟩ := z
  refine hv_aload_n C 2 1 dL_414 rfl rfl ?_
  refine lw_arg 1 C X ha hsb hL (by omega) dL_415 dL_416 dL_417 dL_418 dL_419 ?_
  refine lw_arg 2 C X ha hsb hL (by omega) dL_420 dL_421 dL_422 dL_423 dL_424 ?_
  refine lw_arg 3 C X ha hsb hL (by omega) dL_425 dL_426 dL_427 dL_428 dL_429 ?_
  refine lw_callM [.int (iz (xs (i + 1)).toInt), .int (iz (xs (i + 2)).toInt), .int (iz (xs (i + 3)).toInt)] [.int (iz r)] C K hm ck_L_40 (by show fq + 1 ≤ 2048 ∧ 8 + (6 + 11) + lq ≤ 84000; omega) (by show cells + mc ≤ 600000 ∧ slots + ms ≤ 7302250; omega) rfl (Nat.le_of_ble_eq_true rfl) dL_430 ?_
  refine lw_eq (x := iz r) (stk := []) 1614 C dL_433 rfl ?_
  exact hv_widen (cells + 130) (slots + 7523) (by omega) (by omega) (k _ _ _ hS2)
theorem lc_6 (E : lwX p m c s args D ar b o a0 L xs) (hi : i + 8 ≤ L) (hf : cells + 130 ≤ 600000 ∧ slots + 7523 ≤ 7302250) (hS : LS9 ar b o.2.1 σ w n) (k : ∀ σ9 w9 n9, LS9 ar b o.2.1 σ9 w9 n9 → hvV p l e room_1 s m args below meth c 4 (FB9 b) (cells + 130) (slots + 7523) Q (lwI D ar b s.heap σ9 w9 n9) 1614 (lwL a0 b i) []) : hvV p l e room_1 s m args below meth c 4 (FB9 b) cells slots Q (lwI D ar b s.heap σ w n) 438 (lwL a0 b i) [] := by
  obtain ⟨C, K, O, htx, X, ha, hsb, hL⟩ := E
  obtain ⟨fr, lo, mc, ms, fq, lq, r, σ9, hb9, hz, hm⟩ := lop_day (l := l) (D := D) (B := BB9 b) ((xs (i + 1)).toInt) (inI_toInt _) hS
  obtain ⟨fs, hw⟩ := hS.b
  refine hv_aload_n C 1 2 dL_438 rfl rfl ?_
  refine lw_arg 1 C X ha hsb hL (by omega) dL_439 dL_440 dL_441 dL_442 dL_443 ?_
  refine lw_callC [.int (iz (xs (i + 1)).toInt)] [] C K O hsb hw hz ck_L_41 (by show fr + 1 ≤ 2048 ∧ 8 + (2 + 11) + lo ≤ 84000; omega) (by show cells + mc ≤ 600000 ∧ slots + ms ≤ 7302250; omega) rfl (Nat.le_of_ble_eq_true rfl) (fun r9 w9 n9 z => z.2.n) dL_444 (fun r9 w9 n9 z => ?_)
  obtain ⟨rfl, hS2⟩ := z
  refine hv_aload_n C 2 1 dL_447 rfl rfl ?_
  refine lw_arg 1 C X ha hsb hL (by omega) dL_448 dL_449 dL_450 dL_451 dL_452 ?_
  refine lw_callM [.int (iz (xs (i + 1)).toInt)] [.int (iz r)] C K hm ck_L_45 (by show fq + 1 ≤ 2048 ∧ 8 + (2 + 11) + lq ≤ 84000; omega) (by show cells + mc ≤ 600000 ∧ slots + ms ≤ 7302250; omega) rfl (Nat.le_of_ble_eq_true rfl) dL_453 ?_
  refine lw_eq (x := iz r) (stk := []) 1614 C dL_456 rfl ?_
  exact hv_widen (cells + 130) (slots + 7523) (by omega) (by omega) (k _ _ _ hS2)
theorem lc_7 (E : lwX p m c s args D ar b o a0 L xs) (hi : i + 8 ≤ L) (hf : cells + 130 ≤ 600000 ∧ slots + 7523 ≤ 7302250) (hS : LS9 ar b o.2.1 σ w n) (k : ∀ σ9 w9 n9, LS9 ar b o.2.1 σ9 w9 n9 → hvV p l e room_1 s m args below meth c 4 (FB9 b) (cells + 130) (slots + 7523) Q (lwI D ar b s.heap σ9 w9 n9) 1614 (lwL a0 b i) []) : hvV p l e room_1 s m args below meth c 4 (FB9 b) cells slots Q (lwI D ar b s.heap σ w n) 461 (lwL a0 b i) [] := by
  obtain ⟨C, K, O, htx, X, ha, hsb, hL⟩ := E
  obtain ⟨fr, lo, mc, ms, fq, lq, r, σ9, hb9, hz, hm⟩ := lop_view (l := l) (D := D) (B := BB9 b) ((xs (i + 1)).toInt) (inI_toInt _) hS
  obtain ⟨fs, hw⟩ := hS.b
  refine hv_aload_n C 1 2 dL_461 rfl rfl ?_
  refine lw_arg 1 C X ha hsb hL (by omega) dL_462 dL_463 dL_464 dL_465 dL_466 ?_
  refine lw_callC [.int (iz (xs (i + 1)).toInt)] [] C K O hsb hw hz ck_L_46 (by show fr + 1 ≤ 2048 ∧ 8 + (2 + 11) + lo ≤ 84000; omega) (by show cells + mc ≤ 600000 ∧ slots + ms ≤ 7302250; omega) rfl (Nat.le_of_ble_eq_true rfl) (fun r9 w9 n9 z => z.2.n) dL_467 (fun r9 w9 n9 z => ?_)
  obtain ⟨rfl, hS2⟩ := z
  refine hv_aload_n C 2 1 dL_470 rfl rfl ?_
  refine lw_arg 1 C X ha hsb hL (by omega) dL_471 dL_472 dL_473 dL_474 dL_475 ?_
  refine lw_callM [.int (iz (xs (i + 1)).toInt)] [.int (iz r)] C K hm ck_L_49 (by show fq + 1 ≤ 2048 ∧ 8 + (2 + 11) + lq ≤ 84000; omega) (by show cells + mc ≤ 600000 ∧ slots + ms ≤ 7302250; omega) rfl (Nat.le_of_ble_eq_true rfl) dL_476 ?_
  refine lw_eq (x := iz r) (stk := []) 1614 C dL_479 rfl ?_
  exact hv_widen (cells + 130) (slots + 7523) (by omega) (by omega) (k _ _ _ hS2)
theorem lc_8 (E : lwX p m c s args D ar b o a0 L xs) (hi : i + 8 ≤ L) (hf : cells + 130 ≤ 600000 ∧ slots + 7523 ≤ 7302250) (hS : LS9 ar b o.2.1 σ w n) (k : ∀ σ9 w9 n9, LS9 ar b o.2.1 σ9 w9 n9 → hvV p l e room_1 s m args below meth c 4 (FB9 b) (cells + 130) (slots + 7523) Q (lwI D ar b s.heap σ9 w9 n9) 1614 (lwL a0 b i) []) : hvV p l e room_1 s m args below meth c 4 (FB9 b) cells slots Q (lwI D ar b s.heap σ w n) 484 (lwL a0 b i) [] := by
  obtain ⟨C, K, O, htx, X, ha, hsb, hL⟩ := E
  obtain ⟨fr, lo, mc, ms, fq, lq, r, σ9, hb9, hz, hm⟩ := lop_join (l := l) (D := D) (B := BB9 b) ((xs (i + 1)).toInt) ((xs (i + 2)).toInt) ((xs (i + 3)).toInt) (inI_toInt _) (inI_toInt _) (inI_toInt _) bb_b hS
  obtain ⟨fs, hw⟩ := hS.b
  refine hv_aload_n C 1 2 dL_484 rfl rfl ?_
  refine lw_arg 1 C X ha hsb hL (by omega) dL_485 dL_486 dL_487 dL_488 dL_489 ?_
  refine lw_arg 2 C X ha hsb hL (by omega) dL_490 dL_491 dL_492 dL_493 dL_494 ?_
  refine lw_arg 3 C X ha hsb hL (by omega) dL_495 dL_496 dL_497 dL_498 dL_499 ?_
  refine lw_callC [.int (iz (xs (i + 1)).toInt), .int (iz (xs (i + 2)).toInt), .int (iz (xs (i + 3)).toInt)] [] C K O hsb hw hz ck_L_50 (by show fr + 1 ≤ 2048 ∧ 8 + (4 + 11) + lo ≤ 84000; omega) (by show cells + mc ≤ 600000 ∧ slots + ms ≤ 7302250; omega) rfl (Nat.le_of_ble_eq_true rfl) (fun r9 w9 n9 z => z.2.n) dL_500 (fun r9 w9 n9 z => ?_)
  obtain ⟨rfl, hS2⟩ := z
  refine hv_aload_n C 2 1 dL_503 rfl rfl ?_
  refine lw_arg 1 C X ha hsb hL (by omega) dL_504 dL_505 dL_506 dL_507 dL_508 ?_
  refine lw_arg 2 C X ha hsb hL (by omega) dL_509 dL_510 dL_511 dL_512 dL_513 ?_
  refine lw_arg 3 C X ha hsb hL (by omega) dL_514 dL_515 dL_516 dL_517 dL_518 ?_
  refine lw_callM [.int (iz (xs (i + 1)).toInt), .int (iz (xs (i + 2)).toInt), .int (iz (xs (i + 3)).toInt)] [.int (iz r)] C K hm ck_L_53 (by show fq + 1 ≤ 2048 ∧ 8 + (5 + 11) + lq ≤ 84000; omega) (by show cells + mc ≤ 600000 ∧ slots + ms ≤ 7302250; omega) rfl (Nat.le_of_ble_eq_true rfl) dL_519 ?_
  refine lw_eq (x := iz r) (stk := []) 1614 C dL_522 rfl ?_
  exact hv_widen (cells + 130) (slots + 7523) (by omega) (by omega) (k _ _ _ hS2)
theorem lc_9 (E : lwX p m c s args D ar b o a0 L xs) (hi : i + 8 ≤ L) (hf : cells + 130 ≤ 600000 ∧ slots + 7523 ≤ 7302250) (hS : LS9 ar b o.2.1 σ w n) (k : ∀ σ9 w9 n9, LS9 ar b o.2.1 σ9 w9 n9 → hvV p l e room_1 s m args below meth c 4 (FB9 b) (cells + 130) (slots + 7523) Q (lwI D ar b s.heap σ9 w9 n9) 1614 (lwL a0 b i) []) : hvV p l e room_1 s m args below meth c 4 (FB9 b) cells slots Q (lwI D ar b s.heap σ w n) 527 (lwL a0 b i) [] := by
  obtain ⟨C, K, O, htx, X, ha, hsb, hL⟩ := E
  obtain ⟨fr, lo, mc, ms, fq, lq, r, σ9, hb9, hz, hm⟩ := lop_member (l := l) (D := D) (B := BB9 b) ((xs (i + 1)).toInt) ((xs (i + 2)).toInt) (inI_toInt _) (inI_toInt _) hS
  obtain ⟨fs, hw⟩ := hS.b
  refine hv_aload_n C 1 2 dL_527 rfl rfl ?_
  refine lw_arg 1 C X ha hsb hL (by omega) dL_528 dL_529 dL_530 dL_531 dL_532 ?_
  refine lw_arg 2 C X ha hsb hL (by omega) dL_533 dL_534 dL_535 dL_536 dL_537 ?_
  refine lw_callC [.int (iz (xs (i + 1)).toInt), .int (iz (xs (i + 2)).toInt)] [] C K O hsb hw hz ck_L_54 (by show fr + 1 ≤ 2048 ∧ 8 + (3 + 11) + lo ≤ 84000; omega) (by show cells + mc ≤ 600000 ∧ slots + ms ≤ 7302250; omega) rfl (Nat.le_of_ble_eq_true rfl) (fun r9 w9 n9 z => z.2.n) dL_538 (fun r9 w9 n9 z => ?_)
  obtain ⟨rfl, hS2⟩ := z
  refine hv_aload_n C 2 1 dL_541 rfl rfl ?_
  refine lw_arg 1 C X ha hsb hL (by omega) dL_542 dL_543 dL_544 dL_545 dL_546 ?_
  refine lw_arg 2 C X ha hsb hL (by omega) dL_547 dL_548 dL_549 dL_550 dL_551 ?_
  refine lw_callM [.int (iz (xs (i + 1)).toInt), .int (iz (xs (i + 2)).toInt)] [.int (iz r)] C K hm ck_L_58 (by show fq + 1 ≤ 2048 ∧ 8 + (3 + 11) + lq ≤ 84000; omega) (by show cells + mc ≤ 600000 ∧ slots + ms ≤ 7302250; omega) rfl (Nat.le_of_ble_eq_true rfl) dL_552 ?_
  refine lw_eq (x := iz r) (stk := []) 1614 C dL_555 rfl ?_
  exact hv_widen (cells + 130) (slots + 7523) (by omega) (by omega) (k _ _ _ hS2)
theorem lc_10 (E : lwX p m c s args D ar b o a0 L xs) (hi : i + 8 ≤ L) (hf : cells + 130 ≤ 600000 ∧ slots + 7523 ≤ 7302250) (hS : LS9 ar b o.2.1 σ w n) (k : ∀ σ9 w9 n9, LS9 ar b o.2.1 σ9 w9 n9 → hvV p l e room_1 s m args below meth c 4 (FB9 b) (cells + 130) (slots + 7523) Q (lwI D ar b s.heap σ9 w9 n9) 1614 (lwL a0 b i) []) : hvV p l e room_1 s m args below meth c 4 (FB9 b) cells slots Q (lwI D ar b s.heap σ w n) 560 (lwL a0 b i) [] := by
  obtain ⟨C, K, O, htx, X, ha, hsb, hL⟩ := E
  obtain ⟨fr, lo, mc, ms, fq, lq, r, σ9, hb9, hz, hm⟩ := lop_hour (l := l) (D := D) (B := BB9 b) ((xs (i + 1)).toInt) ((xs (i + 2)).toInt) ((xs (i + 3)).toInt) ((xs (i + 4)).toInt) ((xs (i + 5)).toInt) ((xs (i + 6)).toInt) ((xs (i + 7)).toInt) (inI_toInt _) (inI_toInt _) (inI_toInt _) (inI_toInt _) (inI_toInt _) (inI_toInt _) (inI_toInt _) bb_b hS
  obtain ⟨fs, hw⟩ := hS.b
  refine hv_aload_n C 1 2 dL_560 rfl rfl ?_
  refine lw_arg 1 C X ha hsb hL (by omega) dL_561 dL_562 dL_563 dL_564 dL_565 ?_
  refine lw_arg 2 C X ha hsb hL (by omega) dL_566 dL_567 dL_568 dL_569 dL_570 ?_
  refine lw_arg 3 C X ha hsb hL (by omega) dL_571 dL_572 dL_573 dL_574 dL_575 ?_
  refine lw_arg 4 C X ha hsb hL (by omega) dL_576 dL_577 dL_578 dL_579 dL_580 ?_
  refine lw_arg 5 C X ha hsb hL (by omega) dL_581 dL_582 dL_583 dL_584 dL_585 ?_
  refine lw_argb 6 C X ha hsb hL (by omega) rfl dL_586 dL_587 dL_588 dL_590 dL_591 ?_
  refine lw_argb 7 C X ha hsb hL (by omega) rfl dL_592 dL_593 dL_594 dL_596 dL_597 ?_
  refine lw_callC [.int (iz (xs (i + 1)).toInt), .int (iz (xs (i + 2)).toInt), .int (iz (xs (i + 3)).toInt), .int (iz (xs (i + 4)).toInt), .int (iz (xs (i + 5)).toInt), .int (iz (xs (i + 6)).toInt), .int (iz (xs (i + 7)).toInt)] [] C K O hsb hw hz ck_L_59 (by show fr + 1 ≤ 2048 ∧ 8 + (8 + 11) + lo ≤ 84000; omega) (by show cells + mc ≤ 600000 ∧ slots + ms ≤ 7302250; omega) rfl (Nat.le_of_ble_eq_true rfl) (fun r9 w9 n9 z => z.2.n) dL_598 (fun r9 w9 n9 z => ?_)
  obtain ⟨rfl, hS2⟩ := z
  refine hv_aload_n C 2 1 dL_601 rfl rfl ?_
  refine lw_arg 1 C X ha hsb hL (by omega) dL_602 dL_603 dL_604 dL_605 dL_606 ?_
  refine lw_arg 2 C X ha hsb hL (by omega) dL_607 dL_608 dL_609 dL_610 dL_611 ?_
  refine lw_arg 3 C X ha hsb hL (by omega) dL_612 dL_613 dL_614 dL_615 dL_616 ?_
  refine lw_arg 4 C X ha hsb hL (by omega) dL_617 dL_618 dL_619 dL_620 dL_621 ?_
  refine lw_arg 5 C X ha hsb hL (by omega) dL_622 dL_623 dL_624 dL_625 dL_626 ?_
  refine lw_argb 6 C X ha hsb hL (by omega) rfl dL_627 dL_628 dL_629 dL_631 dL_632 ?_
  refine lw_argb 7 C X ha hsb hL (by omega) rfl dL_633 dL_634 dL_635 dL_637 dL_638 ?_
  refine lw_callM [.int (iz (xs (i + 1)).toInt), .int (iz (xs (i + 2)).toInt), .int (iz (xs (i + 3)).toInt), .int (iz (xs (i + 4)).toInt), .int (iz (xs (i + 5)).toInt), .int (iz (xs (i + 6)).toInt), .int (iz (xs (i + 7)).toInt)] [.int (iz r)] C K hm ck_L_63 (by show fq + 1 ≤ 2048 ∧ 8 + (9 + 11) + lq ≤ 84000; omega) (by show cells + mc ≤ 600000 ∧ slots + ms ≤ 7302250; omega) rfl (Nat.le_of_ble_eq_true rfl) dL_639 ?_
  refine lw_eq (x := iz r) (stk := []) 1614 C dL_642 rfl ?_
  exact hv_widen (cells + 130) (slots + 7523) (by omega) (by omega) (k _ _ _ hS2)
theorem lc_11 (E : lwX p m c s args D ar b o a0 L xs) (hi : i + 8 ≤ L) (hf : cells + 130 ≤ 600000 ∧ slots + 7523 ≤ 7302250) (hS : LS9 ar b o.2.1 σ w n) (k : ∀ σ9 w9 n9, LS9 ar b o.2.1 σ9 w9 n9 → hvV p l e room_1 s m args below meth c 4 (FB9 b) (cells + 130) (slots + 7523) Q (lwI D ar b s.heap σ9 w9 n9) 1614 (lwL a0 b i) []) : hvV p l e room_1 s m args below meth c 4 (FB9 b) cells slots Q (lwI D ar b s.heap σ w n) 647 (lwL a0 b i) [] := by
  obtain ⟨C, K, O, htx, X, ha, hsb, hL⟩ := E
  obtain ⟨fr, lo, mc, ms, fq, lq, r, σ9, hb9, hz, hm⟩ := lop_cut (l := l) (D := D) (B := BB9 b) ((xs (i + 1)).toInt) ((xs (i + 2)).toInt) ((xs (i + 3)).toInt) ((xs (i + 4)).toInt) ((xs (i + 5)).toInt) (inI_toInt _) (inI_toInt _) (inI_toInt _) (inI_toInt _) (inI_toInt _) bb_b hS
  obtain ⟨fs, hw⟩ := hS.b
  refine hv_aload_n C 1 2 dL_647 rfl rfl ?_
  refine lw_arg 1 C X ha hsb hL (by omega) dL_648 dL_649 dL_650 dL_651 dL_652 ?_
  refine lw_arg 2 C X ha hsb hL (by omega) dL_653 dL_654 dL_655 dL_656 dL_657 ?_
  refine lw_arg 3 C X ha hsb hL (by omega) dL_658 dL_659 dL_660 dL_661 dL_662 ?_
  refine lw_arg 4 C X ha hsb hL (by omega) dL_663 dL_664 dL_665 dL_666 dL_667 ?_
  refine lw_arg 5 C X ha hsb hL (by omega) dL_668 dL_669 dL_670 dL_671 dL_672 ?_
  refine lw_callC [.int (iz (xs (i + 1)).toInt), .int (iz (xs (i + 2)).toInt), .int (iz (xs (i + 3)).toInt), .int (iz (xs (i + 4)).toInt), .int (iz (xs (i + 5)).toInt)] [] C K O hsb hw hz ck_L_64 (by show fr + 1 ≤ 2048 ∧ 8 + (7 + 11) + lo ≤ 84000; omega) (by show cells + mc ≤ 600000 ∧ slots + ms ≤ 7302250; omega) rfl (Nat.le_of_ble_eq_true rfl) (fun r9 w9 n9 z => z.2.n) dL_673 (fun r9 w9 n9 z => ?_)
  obtain ⟨rfl, hS2⟩ := z
  refine hv_aload_n C 2 1 dL_676 rfl rfl ?_
  refine lw_arg 1 C X ha hsb hL (by omega) dL_677 dL_678 dL_679 dL_680 dL_681 ?_
  refine lw_arg 2 C X ha hsb hL (by omega) dL_682 dL_683 dL_684 dL_685 dL_686 ?_
  refine lw_arg 3 C X ha hsb hL (by omega) dL_687 dL_688 dL_689 dL_690 dL_691 ?_
  refine lw_arg 4 C X ha hsb hL (by omega) dL_692 dL_693 dL_694 dL_695 dL_696 ?_
  refine lw_arg 5 C X ha hsb hL (by omega) dL_697 dL_698 dL_699 dL_700 dL_701 ?_
  refine lw_callM [.int (iz (xs (i + 1)).toInt), .int (iz (xs (i + 2)).toInt), .int (iz (xs (i + 3)).toInt), .int (iz (xs (i + 4)).toInt), .int (iz (xs (i + 5)).toInt)] [.int (iz r)] C K hm ck_L_68 (by show fq + 1 ≤ 2048 ∧ 8 + (7 + 11) + lq ≤ 84000; omega) (by show cells + mc ≤ 600000 ∧ slots + ms ≤ 7302250; omega) rfl (Nat.le_of_ble_eq_true rfl) dL_702 ?_
  refine lw_eq (x := iz r) (stk := []) 1614 C dL_705 rfl ?_
  exact hv_widen (cells + 130) (slots + 7523) (by omega) (by omega) (k _ _ _ hS2)
theorem lc_12 (E : lwX p m c s args D ar b o a0 L xs) (hi : i + 8 ≤ L) (hf : cells + 130 ≤ 600000 ∧ slots + 7523 ≤ 7302250) (hS : LS9 ar b o.2.1 σ w n) (k : ∀ σ9 w9 n9, LS9 ar b o.2.1 σ9 w9 n9 → hvV p l e room_1 s m args below meth c 4 (FB9 b) (cells + 130) (slots + 7523) Q (lwI D ar b s.heap σ9 w9 n9) 1614 (lwL a0 b i) []) : hvV p l e room_1 s m args below meth c 4 (FB9 b) cells slots Q (lwI D ar b s.heap σ w n) 710 (lwL a0 b i) [] := by
  obtain ⟨C, K, O, htx, X, ha, hsb, hL⟩ := E
  obtain ⟨fr, lo, mc, ms, fq, lq, r, σ9, hb9, hz, hm⟩ := lop_own (l := l) (D := D) (B := BB9 b) ((xs (i + 1)).toInt) ((xs (i + 2)).toInt) (inI_toInt _) (inI_toInt _) hS
  obtain ⟨fs, hw⟩ := hS.b
  refine hv_aload_n C 1 2 dL_710 rfl rfl ?_
  refine lw_arg 1 C X ha hsb hL (by omega) dL_711 dL_712 dL_713 dL_714 dL_715 ?_
  refine lw_arg 2 C X ha hsb hL (by omega) dL_716 dL_717 dL_718 dL_719 dL_720 ?_
  refine lw_callC [.int (iz (xs (i + 1)).toInt), .int (iz (xs (i + 2)).toInt)] [] C K O hsb hw hz ck_L_69 (by show fr + 1 ≤ 2048 ∧ 8 + (3 + 11) + lo ≤ 84000; omega) (by show cells + mc ≤ 600000 ∧ slots + ms ≤ 7302250; omega) rfl (Nat.le_of_ble_eq_true rfl) (fun r9 w9 n9 z => z.2.n) dL_721 (fun r9 w9 n9 z => ?_)
  obtain ⟨rfl, hS2⟩ := z
  refine hv_aload_n C 2 1 dL_724 rfl rfl ?_
  refine lw_arg 1 C X ha hsb hL (by omega) dL_725 dL_726 dL_727 dL_728 dL_729 ?_
  refine lw_arg 2 C X ha hsb hL (by omega) dL_730 dL_731 dL_732 dL_733 dL_734 ?_
  refine lw_callM [.int (iz (xs (i + 1)).toInt), .int (iz (xs (i + 2)).toInt)] [.int (iz r)] C K hm ck_L_73 (by show fq + 1 ≤ 2048 ∧ 8 + (3 + 11) + lq ≤ 84000; omega) (by show cells + mc ≤ 600000 ∧ slots + ms ≤ 7302250; omega) rfl (Nat.le_of_ble_eq_true rfl) dL_735 ?_
  refine lw_eq (x := iz r) (stk := []) 1614 C dL_738 rfl ?_
  exact hv_widen (cells + 130) (slots + 7523) (by omega) (by omega) (k _ _ _ hS2)
theorem lc_13 (E : lwX p m c s args D ar b o a0 L xs) (hi : i + 8 ≤ L) (hf : cells + 130 ≤ 600000 ∧ slots + 7523 ≤ 7302250) (hS : LS9 ar b o.2.1 σ w n) (k : ∀ σ9 w9 n9, LS9 ar b o.2.1 σ9 w9 n9 → hvV p l e room_1 s m args below meth c 4 (FB9 b) (cells + 130) (slots + 7523) Q (lwI D ar b s.heap σ9 w9 n9) 1614 (lwL a0 b i) []) : hvV p l e room_1 s m args below meth c 4 (FB9 b) cells slots Q (lwI D ar b s.heap σ w n) 743 (lwL a0 b i) [] := by
  obtain ⟨C, K, O, htx, X, ha, hsb, hL⟩ := E
  obtain ⟨fr, lo, mc, ms, fq, lq, r, σ9, hb9, hz, hm⟩ := lop_about (l := l) (D := D) (B := BB9 b) ((xs (i + 1)).toInt) ((xs (i + 2)).toInt) (inI_toInt _) (inI_toInt _) hS
  obtain ⟨fs, hw⟩ := hS.b
  refine hv_aload_n C 1 2 dL_743 rfl rfl ?_
  refine lw_arg 1 C X ha hsb hL (by omega) dL_744 dL_745 dL_746 dL_747 dL_748 ?_
  refine lw_arg 2 C X ha hsb hL (by omega) dL_749 dL_750 dL_751 dL_752 dL_753 ?_
  refine lw_callC [.int (iz (xs (i + 1)).toInt), .int (iz (xs (i + 2)).toInt)] [] C K O hsb hw hz ck_L_74 (by show fr + 1 ≤ 2048 ∧ 8 + (4 + 11) + lo ≤ 84000; omega) (by show cells + mc ≤ 600000 ∧ slots + ms ≤ 7302250; omega) rfl (Nat.le_of_ble_eq_true rfl) (fun r9 w9 n9 z => z.2.n) dL_754 (fun r9 w9 n9 z => ?_)
  obtain ⟨rfl, hS2⟩ := z
  refine hv_aload_n C 2 1 dL_757 rfl rfl ?_
  refine lw_arg 1 C X ha hsb hL (by omega) dL_758 dL_759 dL_760 dL_761 dL_762 ?_
  refine lw_arg 2 C X ha hsb hL (by omega) dL_763 dL_764 dL_765 dL_766 dL_767 ?_
  refine lw_callM [.int (iz (xs (i + 1)).toInt), .int (iz (xs (i + 2)).toInt)] [.int (iz r)] C K hm ck_L_77 (by show fq + 1 ≤ 2048 ∧ 8 + (3 + 11) + lq ≤ 84000; omega) (by show cells + mc ≤ 600000 ∧ slots + ms ≤ 7302250; omega) rfl (Nat.le_of_ble_eq_true rfl) dL_768 ?_
  refine lw_eq (x := iz r) (stk := []) 1614 C dL_771 rfl ?_
  exact hv_widen (cells + 130) (slots + 7523) (by omega) (by omega) (k _ _ _ hS2)
theorem lc_14 (E : lwX p m c s args D ar b o a0 L xs) (hi : i + 8 ≤ L) (hf : cells + 130 ≤ 600000 ∧ slots + 7523 ≤ 7302250) (hS : LS9 ar b o.2.1 σ w n) (k : ∀ σ9 w9 n9, LS9 ar b o.2.1 σ9 w9 n9 → hvV p l e room_1 s m args below meth c 4 (FB9 b) (cells + 130) (slots + 7523) Q (lwI D ar b s.heap σ9 w9 n9) 1614 (lwL a0 b i) []) : hvV p l e room_1 s m args below meth c 4 (FB9 b) cells slots Q (lwI D ar b s.heap σ w n) 776 (lwL a0 b i) [] := by
  obtain ⟨C, K, O, htx, X, ha, hsb, hL⟩ := E
  obtain ⟨fr, lo, mc, ms, fq, lq, r, σ9, hb9, hz, hm⟩ := lop_feed (l := l) (D := D) (B := BB9 b) ((xs (i + 1)).toInt) ((xs (i + 2)).toInt) ((xs (i + 3)).toInt) ((xs (i + 4)).toInt) ((xs (i + 5)).toInt) (inI_toInt _) (inI_toInt _) (inI_toInt _) (inI_toInt _) (inI_toInt _) hS
  obtain ⟨fs, hw⟩ := hS.b
  refine hv_aload_n C 1 2 dL_776 rfl rfl ?_
  refine lw_arg 1 C X ha hsb hL (by omega) dL_777 dL_778 dL_779 dL_780 dL_781 ?_
  refine lw_arg 2 C X ha hsb hL (by omega) dL_782 dL_783 dL_784 dL_785 dL_786 ?_
  refine lw_arg 3 C X ha hsb hL (by omega) dL_787 dL_788 dL_789 dL_790 dL_791 ?_
  refine lw_arg 4 C X ha hsb hL (by omega) dL_792 dL_793 dL_794 dL_795 dL_796 ?_
  refine lw_arg 5 C X ha hsb hL (by omega) dL_797 dL_798 dL_799 dL_800 dL_801 ?_
  refine lw_callC [.int (iz (xs (i + 1)).toInt), .int (iz (xs (i + 2)).toInt), .int (iz (xs (i + 3)).toInt), .int (iz (xs (i + 4)).toInt), .int (iz (xs (i + 5)).toInt)] [] C K O hsb hw hz ck_L_78 (by show fr + 1 ≤ 2048 ∧ 8 + (6 + 11) + lo ≤ 84000; omega) (by show cells + mc ≤ 600000 ∧ slots + ms ≤ 7302250; omega) rfl (Nat.le_of_ble_eq_true rfl) (fun r9 w9 n9 z => z.2.n) dL_802 (fun r9 w9 n9 z => ?_)
  obtain ⟨rfl, hS2⟩ := z
  refine hv_aload_n C 2 1 dL_805 rfl rfl ?_
  refine lw_arg 1 C X ha hsb hL (by omega) dL_806 dL_807 dL_808 dL_809 dL_810 ?_
  refine lw_arg 2 C X ha hsb hL (by omega) dL_811 dL_812 dL_813 dL_814 dL_815 ?_
  refine lw_arg 3 C X ha hsb hL (by omega) dL_816 dL_817 dL_818 dL_819 dL_820 ?_
  refine lw_arg 4 C X ha hsb hL (by omega) dL_821 dL_822 dL_823 dL_824 dL_825 ?_
  refine lw_arg 5 C X ha hsb hL (by omega) dL_826 dL_827 dL_828 dL_829 dL_830 ?_
  refine lw_callM [.int (iz (xs (i + 1)).toInt), .int (iz (xs (i + 2)).toInt), .int (iz (xs (i + 3)).toInt), .int (iz (xs (i + 4)).toInt), .int (iz (xs (i + 5)).toInt)] [.int (iz r)] C K hm ck_L_81 (by show fq + 1 ≤ 2048 ∧ 8 + (8 + 11) + lq ≤ 84000; omega) (by show cells + mc ≤ 600000 ∧ slots + ms ≤ 7302250; omega) rfl (Nat.le_of_ble_eq_true rfl) dL_831 ?_
  refine lw_eq (x := iz r) (stk := []) 1614 C dL_834 rfl ?_
  exact hv_widen (cells + 130) (slots + 7523) (by omega) (by omega) (k _ _ _ hS2)
theorem lc_15 (E : lwX p m c s args D ar b o a0 L xs) (hi : i + 8 ≤ L) (hf : cells + 130 ≤ 600000 ∧ slots + 7523 ≤ 7302250) (hS : LS9 ar b o.2.1 σ w n) (k : ∀ σ9 w9 n9, LS9 ar b o.2.1 σ9 w9 n9 → hvV p l e room_1 s m args below meth c 4 (FB9 b) (cells + 130) (slots + 7523) Q (lwI D ar b s.heap σ9 w9 n9) 1614 (lwL a0 b i) []) : hvV p l e room_1 s m args below meth c 4 (FB9 b) cells slots Q (lwI D ar b s.heap σ w n) 839 (lwL a0 b i) [] := by
  obtain ⟨C, K, O, htx, X, ha, hsb, hL⟩ := E
  obtain ⟨fr, lo, mc, ms, fq, lq, r, σ9, hb9, hz, hm⟩ := lop_end (l := l) (D := D) (B := BB9 b) ((xs (i + 1)).toInt) (inI_toInt _) hS
  obtain ⟨fs, hw⟩ := hS.b
  refine hv_aload_n C 1 2 dL_839 rfl rfl ?_
  refine lw_arg 1 C X ha hsb hL (by omega) dL_840 dL_841 dL_842 dL_843 dL_844 ?_
  refine lw_callC [.int (iz (xs (i + 1)).toInt)] [] C K O hsb hw hz ck_L_82 (by show fr + 1 ≤ 2048 ∧ 8 + (2 + 11) + lo ≤ 84000; omega) (by show cells + mc ≤ 600000 ∧ slots + ms ≤ 7302250; omega) rfl (Nat.le_of_ble_eq_true rfl) (fun r9 w9 n9 z => z.2.n) dL_845 (fun r9 w9 n9 z => ?_)
  obtain ⟨rfl, hS2⟩ := z
  refine hv_aload_n C 2 1 dL_848 rfl rfl ?_
  refine lw_arg 1 C X ha hsb hL (by omega) dL_849 dL_850 dL_851 dL_852 dL_853 ?_
  refine lw_callM [.int (iz (xs (i + 1)).toInt)] [.int (iz r)] C K hm ck_L_86 (by show fq + 1 ≤ 2048 ∧ 8 + (2 + 11) + lq ≤ 84000; omega) (by show cells + mc ≤ 600000 ∧ slots + ms ≤ 7302250; omega) rfl (Nat.le_of_ble_eq_true rfl) dL_854 ?_
  refine lw_eq (x := iz r) (stk := []) 1614 C dL_857 rfl ?_
  exact hv_widen (cells + 130) (slots + 7523) (by omega) (by omega) (k _ _ _ hS2)
theorem lc_16 (E : lwX p m c s args D ar b o a0 L xs) (hi : i + 8 ≤ L) (hf : cells + 130 ≤ 600000 ∧ slots + 7523 ≤ 7302250) (hS : LS9 ar b o.2.1 σ w n) (k : ∀ σ9 w9 n9, LS9 ar b o.2.1 σ9 w9 n9 → hvV p l e room_1 s m args below meth c 4 (FB9 b) (cells + 130) (slots + 7523) Q (lwI D ar b s.heap σ9 w9 n9) 1614 (lwL a0 b i) []) : hvV p l e room_1 s m args below meth c 4 (FB9 b) cells slots Q (lwI D ar b s.heap σ w n) 862 (lwL a0 b i) [] := by
  obtain ⟨C, K, O, htx, X, ha, hsb, hL⟩ := E
  obtain ⟨fr, lo, mc, ms, fq, lq, r, σ9, hb9, hz, hm⟩ := lop_contract (l := l) (D := D) (B := BB9 b) ((xs (i + 1)).toInt) (inI_toInt _) htx hS
  obtain ⟨fs, hw⟩ := hS.b
  refine hv_aload_n C 1 2 dL_862 rfl rfl ?_
  refine lw_arg 1 C X ha hsb hL (by omega) dL_863 dL_864 dL_865 dL_866 dL_867 ?_
  refine lw_callC [.int (iz (xs (i + 1)).toInt)] [] C K O hsb hw hz ck_L_87 (by show fr + 1 ≤ 2048 ∧ 8 + (3 + 11) + lo ≤ 84000; omega) (by show cells + mc ≤ 600000 ∧ slots + ms ≤ 7302250; omega) rfl (Nat.le_of_ble_eq_true rfl) (fun r9 w9 n9 z => z.2.n) dL_868 (fun r9 w9 n9 z => ?_)
  obtain ⟨rfl, hS2⟩ := z
  refine hv_aload_n C 2 1 dL_871 rfl rfl ?_
  refine lw_arg 1 C X ha hsb hL (by omega) dL_872 dL_873 dL_874 dL_875 dL_876 ?_
  refine lw_callM [.int (iz (xs (i + 1)).toInt)] [.int (iz r)] C K hm ck_L_90 (by show fq + 1 ≤ 2048 ∧ 8 + (3 + 11) + lq ≤ 84000; omega) (by show cells + mc ≤ 600000 ∧ slots + ms ≤ 7302250; omega) rfl (Nat.le_of_ble_eq_true rfl) dL_877 ?_
  refine lw_eq (x := iz r) (stk := []) 1614 C dL_880 rfl ?_
  exact hv_widen (cells + 130) (slots + 7523) (by omega) (by omega) (k _ _ _ hS2)
theorem lc_17 (E : lwX p m c s args D ar b o a0 L xs) (hi : i + 8 ≤ L) (hf : cells + 130 ≤ 600000 ∧ slots + 7523 ≤ 7302250) (hS : LS9 ar b o.2.1 σ w n) (k : ∀ σ9 w9 n9, LS9 ar b o.2.1 σ9 w9 n9 → hvV p l e room_1 s m args below meth c 4 (FB9 b) (cells + 130) (slots + 7523) Q (lwI D ar b s.heap σ9 w9 n9) 1614 (lwL a0 b i) []) : hvV p l e room_1 s m args below meth c 4 (FB9 b) cells slots Q (lwI D ar b s.heap σ w n) 885 (lwL a0 b i) [] := by
  obtain ⟨C, K, O, htx, X, ha, hsb, hL⟩ := E
  obtain ⟨fr, lo, mc, ms, fq, lq, r, σ9, hb9, hz, hm⟩ := lop_fault (l := l) (D := D) (B := BB9 b) ((xs (i + 1)).toInt) (inI_toInt _) hS
  obtain ⟨fs, hw⟩ := hS.b
  refine hv_aload_n C 1 2 dL_885 rfl rfl ?_
  refine lw_arg 1 C X ha hsb hL (by omega) dL_886 dL_887 dL_888 dL_889 dL_890 ?_
  refine lw_callC [.int (iz (xs (i + 1)).toInt)] [] C K O hsb hw hz ck_L_91 (by show fr + 1 ≤ 2048 ∧ 8 + (2 + 11) + lo ≤ 84000; omega) (by show cells + mc ≤ 600000 ∧ slots + ms ≤ 7302250; omega) rfl (Nat.le_of_ble_eq_true rfl) (fun r9 w9 n9 z => z.2.n) dL_891 (fun r9 w9 n9 z => ?_)
  obtain ⟨rfl, hS2⟩ := z
  refine hv_aload_n C 2 1 dL_894 rfl rfl ?_
  refine lw_arg 1 C X ha hsb hL (by omega) dL_895 dL_896 dL_897 dL_898 dL_899 ?_
  refine lw_callM [.int (iz (xs (i + 1)).toInt)] [.int (iz r)] C K hm ck_L_94 (by show fq + 1 ≤ 2048 ∧ 8 + (2 + 11) + lq ≤ 84000; omega) (by show cells + mc ≤ 600000 ∧ slots + ms ≤ 7302250; omega) rfl (Nat.le_of_ble_eq_true rfl) dL_900 ?_
  refine lw_eq (x := iz r) (stk := []) 1614 C dL_903 rfl ?_
  exact hv_widen (cells + 130) (slots + 7523) (by omega) (by omega) (k _ _ _ hS2)
theorem lc_18 (E : lwX p m c s args D ar b o a0 L xs) (hi : i + 8 ≤ L) (hf : cells + 130 ≤ 600000 ∧ slots + 7523 ≤ 7302250) (hS : LS9 ar b o.2.1 σ w n) (k : ∀ σ9 w9 n9, LS9 ar b o.2.1 σ9 w9 n9 → hvV p l e room_1 s m args below meth c 4 (FB9 b) (cells + 130) (slots + 7523) Q (lwI D ar b s.heap σ9 w9 n9) 1614 (lwL a0 b i) []) : hvV p l e room_1 s m args below meth c 4 (FB9 b) cells slots Q (lwI D ar b s.heap σ w n) 908 (lwL a0 b i) [] := by
  obtain ⟨C, K, O, htx, X, ha, hsb, hL⟩ := E
  obtain ⟨fr, lo, mc, ms, fq, lq, r, σ9, hb9, hz, hm⟩ := lop_clears (l := l) (D := D) (B := BB9 b) ((xs (i + 1)).toInt) ((xs (i + 2)).toInt) ((xs (i + 3)).toInt) (inI_toInt _) (inI_toInt _) (inI_toInt _) hS
  obtain ⟨fs, hw⟩ := hS.b
  refine hv_aload_n C 1 2 dL_908 rfl rfl ?_
  refine lw_arg 1 C X ha hsb hL (by omega) dL_909 dL_910 dL_911 dL_912 dL_913 ?_
  refine lw_arg 2 C X ha hsb hL (by omega) dL_914 dL_915 dL_916 dL_917 dL_918 ?_
  refine lw_arg 3 C X ha hsb hL (by omega) dL_919 dL_920 dL_921 dL_922 dL_923 ?_
  refine lw_callC [.int (iz (xs (i + 1)).toInt), .int (iz (xs (i + 2)).toInt), .int (iz (xs (i + 3)).toInt)] [] C K O hsb hw hz ck_L_95 (by show fr + 1 ≤ 2048 ∧ 8 + (6 + 11) + lo ≤ 84000; omega) (by show cells + mc ≤ 600000 ∧ slots + ms ≤ 7302250; omega) rfl (Nat.le_of_ble_eq_true rfl) (fun r9 w9 n9 z => z.2.n) dL_924 (fun r9 w9 n9 z => ?_)
  obtain ⟨rfl, hS2⟩ := z
  refine hv_aload_n C 2 1 dL_927 rfl rfl ?_
  refine lw_arg 1 C X ha hsb hL (by omega) dL_928 dL_929 dL_930 dL_931 dL_932 ?_
  refine lw_arg 2 C X ha hsb hL (by omega) dL_933 dL_934 dL_935 dL_936 dL_937 ?_
  refine lw_arg 3 C X ha hsb hL (by omega) dL_938 dL_939 dL_940 dL_941 dL_942 ?_
  refine lw_callM [.int (iz (xs (i + 1)).toInt), .int (iz (xs (i + 2)).toInt), .int (iz (xs (i + 3)).toInt)] [.int (iz r)] C K hm ck_L_98 (by show fq + 1 ≤ 2048 ∧ 8 + (4 + 11) + lq ≤ 84000; omega) (by show cells + mc ≤ 600000 ∧ slots + ms ≤ 7302250; omega) rfl (Nat.le_of_ble_eq_true rfl) dL_943 ?_
  refine lw_eq (x := iz r) (stk := []) 1614 C dL_946 rfl ?_
  exact hv_widen (cells + 130) (slots + 7523) (by omega) (by omega) (k _ _ _ hS2)
end LC
