/-! THE LAW'S CALLS, one by one -/
section WC
variable {p : Program} {l : Launch} {e : Env} {s : State} {m : MethodId} {below : List Frame} {meth : Method} {c : Code} {b L : Nat} {xs : Nat → Int32} {D : va_G} {iC : Nat → ClassId} {ad1 ad2 : Nat → Nat} {mc ms i K : Nat} {σ μ : x_Hp}
set_option maxHeartbeats 4000000 in
set_option maxRecDepth 100000 in
theorem wl_0 (C : wl_C p s m meth c b L xs D iC ad1 ad2) (hcs : mc ≤ 600000 ∧ ms ≤ 7302250) (hK : K ≤ 512) (h : r_full K σ μ) (hi : i + 6 ≤ L) (k : ∀ τ ν, r_full (K + 1) τ ν → wl_W p l e s m below meth c b D iC ad1 ad2 mc ms i 1373 [] τ ν) : wl_W p l e s m below meth c b D iC ad1 ad2 mc ms i 212 [] σ μ := by
  obtain ⟨r, τ, ν, e1, e2, hR⟩ := f_feed hK h (xs (i + 1)) (xs (i + 2)) (xs (i + 3)) (xs (i + 4)) (xs (i + 5))
  refine wl_x C dL_law_212 ?_
  refine wl_arg C (k := 1) dL_law_213 dL_law_214 dL_law_215 rfl dL_law_216 dL_law_217 (by omega) ?_
  refine wl_arg C (k := 2) dL_law_218 dL_law_219 dL_law_220 rfl dL_law_221 dL_law_222 (by omega) ?_
  refine wl_arg C (k := 3) dL_law_223 dL_law_224 dL_law_225 rfl dL_law_226 dL_law_227 (by omega) ?_
  refine wl_arg C (k := 4) dL_law_228 dL_law_229 dL_law_230 rfl dL_law_231 dL_law_232 (by omega) ?_
  refine wl_arg C (k := 5) dL_law_233 dL_law_234 dL_law_235 rfl dL_law_236 dL_law_237 (by omega) ?_
  refine wl_callX C (na := 5) (av := [.int (xs (i + 1)), .int (xs (i + 2)), .int (xs (i + 3)), .int (xs (i + 4)), .int (xs (i + 5))]) (c_X8_feed C.2.2.2.1 e1) (x_tb (i := 586) (by decide +kernel) rfl) (x_tb (i := 587) (by decide +kernel) rfl) (x_tb (i := 588) (by decide +kernel) rfl) (x_tb (i := 102) (by decide +kernel) rfl) (x_tb (i := 589) (by decide +kernel) rfl) (by decide +kernel) rfl ⟨Nat.le_of_ble_eq_true rfl, Nat.le_of_ble_eq_true rfl⟩ ⟨rfl, rfl⟩ hcs rfl (Nat.le_of_ble_eq_true rfl) dL_law_238 ?_
  refine wl_m C dL_law_241 ?_
  refine wl_arg C (k := 1) dL_law_242 dL_law_243 dL_law_244 rfl dL_law_245 dL_law_246 (by omega) ?_
  refine wl_arg C (k := 2) dL_law_247 dL_law_248 dL_law_249 rfl dL_law_250 dL_law_251 (by omega) ?_
  refine wl_arg C (k := 3) dL_law_252 dL_law_253 dL_law_254 rfl dL_law_255 dL_law_256 (by omega) ?_
  refine wl_arg C (k := 4) dL_law_257 dL_law_258 dL_law_259 rfl dL_law_260 dL_law_261 (by omega) ?_
  refine wl_arg C (k := 5) dL_law_262 dL_law_263 dL_law_264 rfl dL_law_265 dL_law_266 (by omega) ?_
  refine wl_callM C (na := 5) (av := [.int (xs (i + 1)), .int (xs (i + 2)), .int (xs (i + 3)), .int (xs (i + 4)), .int (xs (i + 5))]) (c_X9_feed C.2.2.2.2.1 e2) (x_tb (i := 1429) (by decide +kernel) rfl) (x_tb (i := 1430) (by decide +kernel) rfl) (x_tb (i := 1431) (by decide +kernel) rfl) (x_tb (i := 111) (by decide +kernel) rfl) (x_tb (i := 1432) (by decide +kernel) rfl) (by decide +kernel) rfl ⟨Nat.le_of_ble_eq_true rfl, Nat.le_of_ble_eq_true rfl⟩ ⟨rfl, rfl⟩ hcs rfl (Nat.le_of_ble_eq_true rfl) dL_law_267 ?_
  exact wl_eq C 1373 dL_law_270 rfl (k τ ν hR)
set_option maxHeartbeats 4000000 in
set_option maxRecDepth 100000 in
theorem wl_1 (C : wl_C p s m meth c b L xs D iC ad1 ad2) (hcs : mc ≤ 600000 ∧ ms ≤ 7302250) (hK : K ≤ 512) (h : r_full K σ μ) (hi : i + 6 ≤ L) (k : ∀ τ ν, r_full (K + 1) τ ν → wl_W p l e s m below meth c b D iC ad1 ad2 mc ms i 1373 [] τ ν) : wl_W p l e s m below meth c b D iC ad1 ad2 mc ms i 275 [] σ μ := by
  obtain ⟨r, τ, ν, e1, e2, hR⟩ := f_back hK h (xs (i + 1))
  refine wl_x C dL_law_275 ?_
  refine wl_arg C (k := 1) dL_law_276 dL_law_277 dL_law_278 rfl dL_law_279 dL_law_280 (by omega) ?_
  refine wl_callX C (na := 1) (av := [.int (xs (i + 1))]) (c_X8_back C.2.2.2.1 e1) (x_tb (i := 598) (by decide +kernel) rfl) (x_tb (i := 599) (by decide +kernel) rfl) (x_tb (i := 600) (by decide +kernel) rfl) (x_tb (i := 102) (by decide +kernel) rfl) (x_tb (i := 601) (by decide +kernel) rfl) (by decide +kernel) rfl ⟨Nat.le_of_ble_eq_true rfl, Nat.le_of_ble_eq_true rfl⟩ ⟨rfl, rfl⟩ hcs rfl (Nat.le_of_ble_eq_true rfl) dL_law_281 ?_
  refine wl_m C dL_law_284 ?_
  refine wl_arg C (k := 1) dL_law_285 dL_law_286 dL_law_287 rfl dL_law_288 dL_law_289 (by omega) ?_
  refine wl_callM C (na := 1) (av := [.int (xs (i + 1))]) (c_X9_back C.2.2.2.2.1 e2) (x_tb (i := 1437) (by decide +kernel) rfl) (x_tb (i := 1438) (by decide +kernel) rfl) (x_tb (i := 1439) (by decide +kernel) rfl) (x_tb (i := 111) (by decide +kernel) rfl) (x_tb (i := 1440) (by decide +kernel) rfl) (by decide +kernel) rfl ⟨Nat.le_of_ble_eq_true rfl, Nat.le_of_ble_eq_true rfl⟩ ⟨rfl, rfl⟩ hcs rfl (Nat.le_of_ble_eq_true rfl) dL_law_290 ?_
  exact wl_eq C 1373 dL_law_293 rfl (k τ ν hR)
set_option maxHeartbeats 4000000 in
set_option maxRecDepth 100000 in
theorem wl_2 (C : wl_C p s m meth c b L xs D iC ad1 ad2) (hcs : mc ≤ 600000 ∧ ms ≤ 7302250) (hK : K ≤ 512) (h : r_full K σ μ) (hi : i + 6 ≤ L) (k : ∀ τ ν, r_full (K + 1) τ ν → wl_W p l e s m below meth c b D iC ad1 ad2 mc ms i 1373 [] τ ν) : wl_W p l e s m below meth c b D iC ad1 ad2 mc ms i 298 [] σ μ := by
  obtain ⟨r, τ, ν, e1, e2, hR⟩ := f_read hK h 
  refine wl_x C dL_law_298 ?_
  refine wl_callX C (na := 0) (av := []) (c_X8_read C.2.2.2.1 e1) (x_tb (i := 606) (by decide +kernel) rfl) (x_tb (i := 607) (by decide +kernel) rfl) (x_tb (i := 608) (by decide +kernel) rfl) (x_tb (i := 102) (by decide +kernel) rfl) (x_tb (i := 609) (by decide +kernel) rfl) (by decide +kernel) rfl ⟨Nat.le_of_ble_eq_true rfl, Nat.le_of_ble_eq_true rfl⟩ ⟨rfl, rfl⟩ hcs rfl (Nat.le_of_ble_eq_true rfl) dL_law_299 ?_
  refine wl_m C dL_law_302 ?_
  refine wl_callM C (na := 0) (av := []) (c_X9_read C.2.2.2.2.1 e2) (x_tb (i := 1441) (by decide +kernel) rfl) (x_tb (i := 1442) (by decide +kernel) rfl) (x_tb (i := 1443) (by decide +kernel) rfl) (x_tb (i := 111) (by decide +kernel) rfl) (x_tb (i := 1444) (by decide +kernel) rfl) (by decide +kernel) rfl ⟨Nat.le_of_ble_eq_true rfl, Nat.le_of_ble_eq_true rfl⟩ ⟨rfl, rfl⟩ hcs rfl (Nat.le_of_ble_eq_true rfl) dL_law_303 ?_
  exact wl_eq C 1373 dL_law_306 rfl (k τ ν hR)
set_option maxHeartbeats 4000000 in
set_option maxRecDepth 100000 in
theorem wl_3 (C : wl_C p s m meth c b L xs D iC ad1 ad2) (hcs : mc ≤ 600000 ∧ ms ≤ 7302250) (hK : K ≤ 512) (h : r_full K σ μ) (hi : i + 6 ≤ L) (k : ∀ τ ν, r_full (K + 1) τ ν → wl_W p l e s m below meth c b D iC ad1 ad2 mc ms i 1373 [] τ ν) : wl_W p l e s m below meth c b D iC ad1 ad2 mc ms i 311 [] σ μ := by
  obtain ⟨r, τ, ν, e1, e2, hR⟩ := f_place hK h 
  refine wl_x C dL_law_311 ?_
  refine wl_callX C (na := 0) (av := []) (c_X8_place C.2.2.2.1 e1) (x_tb (i := 819) (by decide +kernel) rfl) (x_tb (i := 820) (by decide +kernel) rfl) (x_tb (i := 821) (by decide +kernel) rfl) (x_tb (i := 102) (by decide +kernel) rfl) (x_tb (i := 822) (by decide +kernel) rfl) (by decide +kernel) rfl ⟨Nat.le_of_ble_eq_true rfl, Nat.le_of_ble_eq_true rfl⟩ ⟨rfl, rfl⟩ hcs rfl (Nat.le_of_ble_eq_true rfl) dL_law_312 ?_
  refine wl_m C dL_law_315 ?_
  refine wl_callM C (na := 0) (av := []) (c_X9_place C.2.2.2.2.1 e2) (x_tb (i := 1523) (by decide +kernel) rfl) (x_tb (i := 1524) (by decide +kernel) rfl) (x_tb (i := 1525) (by decide +kernel) rfl) (x_tb (i := 111) (by decide +kernel) rfl) (x_tb (i := 1526) (by decide +kernel) rfl) (by decide +kernel) rfl ⟨Nat.le_of_ble_eq_true rfl, Nat.le_of_ble_eq_true rfl⟩ ⟨rfl, rfl⟩ hcs rfl (Nat.le_of_ble_eq_true rfl) dL_law_316 ?_
  exact wl_eq C 1373 dL_law_319 rfl (k τ ν hR)
set_option maxHeartbeats 4000000 in
set_option maxRecDepth 100000 in
theorem wl_4 (C : wl_C p s m meth c b L xs D iC ad1 ad2) (hcs : mc ≤ 600000 ∧ ms ≤ 7302250) (hK : K ≤ 512) (h : r_full K σ μ) (hi : i + 6 ≤ L) (k : ∀ τ ν, r_full (K + 1) τ ν → wl_W p l e s m below meth c b D iC ad1 ad2 mc ms i 1373 [] τ ν) : wl_W p l e s m below meth c b D iC ad1 ad2 mc ms i 324 [] σ μ := by
  obtain ⟨r, τ, ν, e1, e2, hR⟩ := f_now hK h (xs (i + 1))
  refine wl_x C dL_law_324 ?_
  refine wl_arg C (k := 1) dL_law_325 dL_law_326 dL_law_327 rfl dL_law_328 dL_law_329 (by omega) ?_
  refine wl_callX C (na := 1) (av := [.int (xs (i + 1))]) (c_X8_now C.2.2.2.1 e1) (x_tb (i := 823) (by decide +kernel) rfl) (x_tb (i := 824) (by decide +kernel) rfl) (x_tb (i := 825) (by decide +kernel) rfl) (x_tb (i := 102) (by decide +kernel) rfl) (x_tb (i := 826) (by decide +kernel) rfl) (by decide +kernel) rfl ⟨Nat.le_of_ble_eq_true rfl, Nat.le_of_ble_eq_true rfl⟩ ⟨rfl, rfl⟩ hcs rfl (Nat.le_of_ble_eq_true rfl) dL_law_330 ?_
  refine wl_m C dL_law_333 ?_
  refine wl_arg C (k := 1) dL_law_334 dL_law_335 dL_law_336 rfl dL_law_337 dL_law_338 (by omega) ?_
  refine wl_callM C (na := 1) (av := [.int (xs (i + 1))]) (c_X9_now C.2.2.2.2.1 e2) (x_tb (i := 1527) (by decide +kernel) rfl) (x_tb (i := 1528) (by decide +kernel) rfl) (x_tb (i := 1529) (by decide +kernel) rfl) (x_tb (i := 111) (by decide +kernel) rfl) (x_tb (i := 1530) (by decide +kernel) rfl) (by decide +kernel) rfl ⟨Nat.le_of_ble_eq_true rfl, Nat.le_of_ble_eq_true rfl⟩ ⟨rfl, rfl⟩ hcs rfl (Nat.le_of_ble_eq_true rfl) dL_law_339 ?_
  exact wl_eq C 1373 dL_law_342 rfl (k τ ν hR)
set_option maxHeartbeats 4000000 in
set_option maxRecDepth 100000 in
theorem wl_5 (C : wl_C p s m meth c b L xs D iC ad1 ad2) (hcs : mc ≤ 600000 ∧ ms ≤ 7302250) (hK : K ≤ 512) (h : r_full K σ μ) (hi : i + 6 ≤ L) (k : ∀ τ ν, r_full (K + 1) τ ν → wl_W p l e s m below meth c b D iC ad1 ad2 mc ms i 1373 [] τ ν) : wl_W p l e s m below meth c b D iC ad1 ad2 mc ms i 347 [] σ μ := by
  obtain ⟨r, τ, ν, e1, e2, hR⟩ := f_aunt hK h (xs (i + 1)) (xs (i + 2))
  refine wl_x C dL_law_347 ?_
  refine wl_arg C (k := 1) dL_law_348 dL_law_349 dL_law_350 rfl dL_law_351 dL_law_352 (by omega) ?_
  refine wl_arg C (k := 2) dL_law_353 dL_law_354 dL_law_355 rfl dL_law_356 dL_law_357 (by omega) ?_
  refine wl_callX C (na := 2) (av := [.int (xs (i + 1)), .int (xs (i + 2))]) (c_X8_aunt C.2.2.2.1 e1) (x_tb (i := 827) (by decide +kernel) rfl) (x_tb (i := 828) (by decide +kernel) rfl) (x_tb (i := 829) (by decide +kernel) rfl) (x_tb (i := 102) (by decide +kernel) rfl) (x_tb (i := 830) (by decide +kernel) rfl) (by decide +kernel) rfl ⟨Nat.le_of_ble_eq_true rfl, Nat.le_of_ble_eq_true rfl⟩ ⟨rfl, rfl⟩ hcs rfl (Nat.le_of_ble_eq_true rfl) dL_law_358 ?_
  refine wl_m C dL_law_361 ?_
  refine wl_arg C (k := 1) dL_law_362 dL_law_363 dL_law_364 rfl dL_law_365 dL_law_366 (by omega) ?_
  refine wl_arg C (k := 2) dL_law_367 dL_law_368 dL_law_369 rfl dL_law_370 dL_law_371 (by omega) ?_
  refine wl_callM C (na := 2) (av := [.int (xs (i + 1)), .int (xs (i + 2))]) (c_X9_aunt C.2.2.2.2.1 e2) (x_tb (i := 1534) (by decide +kernel) rfl) (x_tb (i := 1535) (by decide +kernel) rfl) (x_tb (i := 1536) (by decide +kernel) rfl) (x_tb (i := 111) (by decide +kernel) rfl) (x_tb (i := 1537) (by decide +kernel) rfl) (by decide +kernel) rfl ⟨Nat.le_of_ble_eq_true rfl, Nat.le_of_ble_eq_true rfl⟩ ⟨rfl, rfl⟩ hcs rfl (Nat.le_of_ble_eq_true rfl) dL_law_372 ?_
  exact wl_eq C 1373 dL_law_375 rfl (k τ ν hR)
set_option maxHeartbeats 4000000 in
set_option maxRecDepth 100000 in
theorem wl_6 (C : wl_C p s m meth c b L xs D iC ad1 ad2) (hcs : mc ≤ 600000 ∧ ms ≤ 7302250) (hK : K ≤ 512) (h : r_full K σ μ) (hi : i + 6 ≤ L) (k : ∀ τ ν, r_full (K + 1) τ ν → wl_W p l e s m below meth c b D iC ad1 ad2 mc ms i 1373 [] τ ν) : wl_W p l e s m below meth c b D iC ad1 ad2 mc ms i 380 [] σ μ := by
  obtain ⟨r, τ, ν, e1, e2, hR⟩ := f_law hK h (xs (i + 1))
  refine wl_x C dL_law_380 ?_
  refine wl_arg C (k := 1) dL_law_381 dL_law_382 dL_law_383 rfl dL_law_384 dL_law_385 (by omega) ?_
  refine wl_callX C (na := 1) (av := [.int (xs (i + 1))]) (c_X8_law C.2.2.2.1 e1) (x_tb (i := 844) (by decide +kernel) rfl) (x_tb (i := 845) (by decide +kernel) rfl) (x_tb (i := 846) (by decide +kernel) rfl) (x_tb (i := 102) (by decide +kernel) rfl) (x_tb (i := 847) (by decide +kernel) rfl) (by decide +kernel) rfl ⟨Nat.le_of_ble_eq_true rfl, Nat.le_of_ble_eq_true rfl⟩ ⟨rfl, rfl⟩ hcs rfl (Nat.le_of_ble_eq_true rfl) dL_law_386 ?_
  refine wl_m C dL_law_389 ?_
  refine wl_arg C (k := 1) dL_law_390 dL_law_391 dL_law_392 rfl dL_law_393 dL_law_394 (by omega) ?_
  refine wl_callM C (na := 1) (av := [.int (xs (i + 1))]) (c_X9_law C.2.2.2.2.1 e2) (x_tb (i := 1542) (by decide +kernel) rfl) (x_tb (i := 1543) (by decide +kernel) rfl) (x_tb (i := 1544) (by decide +kernel) rfl) (x_tb (i := 111) (by decide +kernel) rfl) (x_tb (i := 1545) (by decide +kernel) rfl) (by decide +kernel) rfl ⟨Nat.le_of_ble_eq_true rfl, Nat.le_of_ble_eq_true rfl⟩ ⟨rfl, rfl⟩ hcs rfl (Nat.le_of_ble_eq_true rfl) dL_law_395 ?_
  exact wl_eq C 1373 dL_law_398 rfl (k τ ν hR)
set_option maxHeartbeats 4000000 in
set_option maxRecDepth 100000 in
theorem wl_7 (C : wl_C p s m meth c b L xs D iC ad1 ad2) (hcs : mc ≤ 600000 ∧ ms ≤ 7302250) (hK : K ≤ 512) (h : r_full K σ μ) (hi : i + 6 ≤ L) (k : ∀ τ ν, r_full (K + 1) τ ν → wl_W p l e s m below meth c b D iC ad1 ad2 mc ms i 1373 [] τ ν) : wl_W p l e s m below meth c b D iC ad1 ad2 mc ms i 403 [] σ μ := by
  obtain ⟨r, τ, ν, e1, e2, hR⟩ := f_minutes hK h (xs (i + 1))
  refine wl_x C dL_law_403 ?_
  refine wl_arg C (k := 1) dL_law_404 dL_law_405 dL_law_406 rfl dL_law_407 dL_law_408 (by omega) ?_
  refine wl_callX C (na := 1) (av := [.int (xs (i + 1))]) (c_X8_minutes C.2.2.2.1 e1) (x_tb (i := 877) (by decide +kernel) rfl) (x_tb (i := 878) (by decide +kernel) rfl) (x_tb (i := 879) (by decide +kernel) rfl) (x_tb (i := 102) (by decide +kernel) rfl) (x_tb (i := 880) (by decide +kernel) rfl) (by decide +kernel) rfl ⟨Nat.le_of_ble_eq_true rfl, Nat.le_of_ble_eq_true rfl⟩ ⟨rfl, rfl⟩ hcs rfl (Nat.le_of_ble_eq_true rfl) dL_law_409 ?_
  refine wl_m C dL_law_412 ?_
  refine wl_arg C (k := 1) dL_law_413 dL_law_414 dL_law_415 rfl dL_law_416 dL_law_417 (by omega) ?_
  refine wl_callM C (na := 1) (av := [.int (xs (i + 1))]) (c_X9_minutes C.2.2.2.2.1 e2) (x_tb (i := 1565) (by decide +kernel) rfl) (x_tb (i := 1566) (by decide +kernel) rfl) (x_tb (i := 1567) (by decide +kernel) rfl) (x_tb (i := 111) (by decide +kernel) rfl) (x_tb (i := 1568) (by decide +kernel) rfl) (by decide +kernel) rfl ⟨Nat.le_of_ble_eq_true rfl, Nat.le_of_ble_eq_true rfl⟩ ⟨rfl, rfl⟩ hcs rfl (Nat.le_of_ble_eq_true rfl) dL_law_418 ?_
  exact wl_eq C 1373 dL_law_421 rfl (k τ ν hR)
set_option maxHeartbeats 4000000 in
set_option maxRecDepth 100000 in
theorem wl_8 (C : wl_C p s m meth c b L xs D iC ad1 ad2) (hcs : mc ≤ 600000 ∧ ms ≤ 7302250) (hK : K ≤ 512) (h : r_full K σ μ) (hi : i + 6 ≤ L) (k : ∀ τ ν, r_full (K + 1) τ ν → wl_W p l e s m below meth c b D iC ad1 ad2 mc ms i 1373 [] τ ν) : wl_W p l e s m below meth c b D iC ad1 ad2 mc ms i 426 [] σ μ := by
  obtain ⟨r, τ, ν, e1, e2, hR⟩ := f_hand hK h (xs (i + 1))
  refine wl_x C dL_law_426 ?_
  refine wl_arg C (k := 1) dL_law_427 dL_law_428 dL_law_429 rfl dL_law_430 dL_law_431 (by omega) ?_
  refine wl_callX C (na := 1) (av := [.int (xs (i + 1))]) (c_X8_hand C.2.2.2.1 e1) (x_tb (i := 925) (by decide +kernel) rfl) (x_tb (i := 926) (by decide +kernel) rfl) (x_tb (i := 927) (by decide +kernel) rfl) (x_tb (i := 102) (by decide +kernel) rfl) (x_tb (i := 928) (by decide +kernel) rfl) (by decide +kernel) rfl ⟨Nat.le_of_ble_eq_true rfl, Nat.le_of_ble_eq_true rfl⟩ ⟨rfl, rfl⟩ hcs rfl (Nat.le_of_ble_eq_true rfl) dL_law_432 ?_
  refine wl_m C dL_law_435 ?_
  refine wl_arg C (k := 1) dL_law_436 dL_law_437 dL_law_438 rfl dL_law_439 dL_law_440 (by omega) ?_
  refine wl_callM C (na := 1) (av := [.int (xs (i + 1))]) (c_X9_hand C.2.2.2.2.1 e2) (x_tb (i := 1601) (by decide +kernel) rfl) (x_tb (i := 1602) (by decide +kernel) rfl) (x_tb (i := 1603) (by decide +kernel) rfl) (x_tb (i := 111) (by decide +kernel) rfl) (x_tb (i := 1604) (by decide +kernel) rfl) (by decide +kernel) rfl ⟨Nat.le_of_ble_eq_true rfl, Nat.le_of_ble_eq_true rfl⟩ ⟨rfl, rfl⟩ hcs rfl (Nat.le_of_ble_eq_true rfl) dL_law_441 ?_
  exact wl_eq C 1373 dL_law_444 rfl (k τ ν hR)
set_option maxHeartbeats 4000000 in
set_option maxRecDepth 100000 in
theorem wl_9 (C : wl_C p s m meth c b L xs D iC ad1 ad2) (hcs : mc ≤ 600000 ∧ ms ≤ 7302250) (hK : K ≤ 512) (h : r_full K σ μ) (hi : i + 6 ≤ L) (k : ∀ τ ν, r_full (K + 1) τ ν → wl_W p l e s m below meth c b D iC ad1 ad2 mc ms i 1373 [] τ ν) : wl_W p l e s m below meth c b D iC ad1 ad2 mc ms i 449 [] σ μ := by
  obtain ⟨r, τ, ν, e1, e2, hR⟩ := f_nurse hK h 
  refine wl_x C dL_law_449 ?_
  refine wl_callX C (na := 0) (av := []) (c_X8_nurse C.2.2.2.1 e1) (x_tb (i := 934) (by decide +kernel) rfl) (x_tb (i := 935) (by decide +kernel) rfl) (x_tb (i := 936) (by decide +kernel) rfl) (x_tb (i := 102) (by decide +kernel) rfl) (x_tb (i := 937) (by decide +kernel) rfl) (by decide +kernel) rfl ⟨Nat.le_of_ble_eq_true rfl, Nat.le_of_ble_eq_true rfl⟩ ⟨rfl, rfl⟩ hcs rfl (Nat.le_of_ble_eq_true rfl) dL_law_450 ?_
  refine wl_m C dL_law_453 ?_
  refine wl_callM C (na := 0) (av := []) (c_X9_nurse C.2.2.2.2.1 e2) (x_tb (i := 1613) (by decide +kernel) rfl) (x_tb (i := 1614) (by decide +kernel) rfl) (x_tb (i := 1615) (by decide +kernel) rfl) (x_tb (i := 111) (by decide +kernel) rfl) (x_tb (i := 1616) (by decide +kernel) rfl) (by decide +kernel) rfl ⟨Nat.le_of_ble_eq_true rfl, Nat.le_of_ble_eq_true rfl⟩ ⟨rfl, rfl⟩ hcs rfl (Nat.le_of_ble_eq_true rfl) dL_law_454 ?_
  exact wl_eq C 1373 dL_law_457 rfl (k τ ν hR)
set_option maxHeartbeats 4000000 in
set_option maxRecDepth 100000 in
theorem wl_10 (C : wl_C p s m meth c b L xs D iC ad1 ad2) (hcs : mc ≤ 600000 ∧ ms ≤ 7302250) (hK : K ≤ 512) (h : r_full K σ μ) (hi : i + 6 ≤ L) (k : ∀ τ ν, r_full (K + 1) τ ν → wl_W p l e s m below meth c b D iC ad1 ad2 mc ms i 1373 [] τ ν) : wl_W p l e s m below meth c b D iC ad1 ad2 mc ms i 462 [] σ μ := by
  obtain ⟨r, τ, ν, e1, e2, hR⟩ := f_lay hK h 
  refine wl_x C dL_law_462 ?_
  refine wl_callX C (na := 0) (av := []) (c_X8_lay C.2.2.2.1 e1) (x_tb (i := 946) (by decide +kernel) rfl) (x_tb (i := 947) (by decide +kernel) rfl) (x_tb (i := 948) (by decide +kernel) rfl) (x_tb (i := 102) (by decide +kernel) rfl) (x_tb (i := 949) (by decide +kernel) rfl) (by decide +kernel) rfl ⟨Nat.le_of_ble_eq_true rfl, Nat.le_of_ble_eq_true rfl⟩ ⟨rfl, rfl⟩ hcs rfl (Nat.le_of_ble_eq_true rfl) dL_law_463 ?_
  refine wl_m C dL_law_466 ?_
  refine wl_callM C (na := 0) (av := []) (c_X9_lay C.2.2.2.2.1 e2) (x_tb (i := 1621) (by decide +kernel) rfl) (x_tb (i := 1622) (by decide +kernel) rfl) (x_tb (i := 1623) (by decide +kernel) rfl) (x_tb (i := 111) (by decide +kernel) rfl) (x_tb (i := 1624) (by decide +kernel) rfl) (by decide +kernel) rfl ⟨Nat.le_of_ble_eq_true rfl, Nat.le_of_ble_eq_true rfl⟩ ⟨rfl, rfl⟩ hcs rfl (Nat.le_of_ble_eq_true rfl) dL_law_467 ?_
  exact wl_eq C 1373 dL_law_470 rfl (k τ ν hR)
set_option maxHeartbeats 4000000 in
set_option maxRecDepth 100000 in
theorem wl_11 (C : wl_C p s m meth c b L xs D iC ad1 ad2) (hcs : mc ≤ 600000 ∧ ms ≤ 7302250) (hK : K ≤ 512) (h : r_full K σ μ) (hi : i + 6 ≤ L) (k : ∀ τ ν, r_full (K + 1) τ ν → wl_W p l e s m below meth c b D iC ad1 ad2 mc ms i 1373 [] τ ν) : wl_W p l e s m below meth c b D iC ad1 ad2 mc ms i 475 [] σ μ := by
  obtain ⟨r, τ, ν, e1, e2, hR⟩ := f_cloth hK h (zB (xs (i + 1)))
  refine wl_x C dL_law_475 ?_
  refine wl_arg C (k := 1) dL_law_476 dL_law_477 dL_law_478 rfl dL_law_479 dL_law_480 (by omega) ?_
  refine wl_bool C 488 489 dL_law_481 rfl dL_law_484 dL_law_485 rfl dL_law_488 rfl ?_
  refine wl_callX C (na := 1) (av := [.int (zB (xs (i + 1)))]) (c_X8_cloth C.2.2.2.1 e1) (x_tb (i := 951) (by decide +kernel) rfl) (x_tb (i := 952) (by decide +kernel) rfl) (x_tb (i := 953) (by decide +kernel) rfl) (x_tb (i := 102) (by decide +kernel) rfl) (x_tb (i := 954) (by decide +kernel) rfl) (by decide +kernel) rfl ⟨Nat.le_of_ble_eq_true rfl, Nat.le_of_ble_eq_true rfl⟩ ⟨rfl, rfl⟩ hcs rfl (Nat.le_of_ble_eq_true rfl) dL_law_489 ?_
  refine wl_m C dL_law_492 ?_
  refine wl_arg C (k := 1) dL_law_493 dL_law_494 dL_law_495 rfl dL_law_496 dL_law_497 (by omega) ?_
  refine wl_bool C 505 506 dL_law_498 rfl dL_law_501 dL_law_502 rfl dL_law_505 rfl ?_
  refine wl_callM C (na := 1) (av := [.int (zB (xs (i + 1)))]) (c_X9_cloth C.2.2.2.2.1 e2) (x_tb (i := 1625) (by decide +kernel) rfl) (x_tb (i := 1626) (by decide +kernel) rfl) (x_tb (i := 1627) (by decide +kernel) rfl) (x_tb (i := 111) (by decide +kernel) rfl) (x_tb (i := 1628) (by decide +kernel) rfl) (by decide +kernel) rfl ⟨Nat.le_of_ble_eq_true rfl, Nat.le_of_ble_eq_true rfl⟩ ⟨rfl, rfl⟩ hcs rfl (Nat.le_of_ble_eq_true rfl) dL_law_506 ?_
  exact wl_eq C 1373 dL_law_509 rfl (k τ ν hR)
set_option maxHeartbeats 4000000 in
set_option maxRecDepth 100000 in
theorem wl_12 (C : wl_C p s m meth c b L xs D iC ad1 ad2) (hcs : mc ≤ 600000 ∧ ms ≤ 7302250) (hK : K ≤ 512) (h : r_full K σ μ) (hi : i + 6 ≤ L) (k : ∀ τ ν, r_full (K + 1) τ ν → wl_W p l e s m below meth c b D iC ad1 ad2 mc ms i 1373 [] τ ν) : wl_W p l e s m below meth c b D iC ad1 ad2 mc ms i 514 [] σ μ := by
  obtain ⟨r, τ, ν, e1, e2, hR⟩ := f_mother hK h (zB (xs (i + 1)))
  refine wl_x C dL_law_514 ?_
  refine wl_arg C (k := 1) dL_law_515 dL_law_516 dL_law_517 rfl dL_law_518 dL_law_519 (by omega) ?_
  refine wl_bool C 527 528 dL_law_520 rfl dL_law_523 dL_law_524 rfl dL_law_527 rfl ?_
  refine wl_callX C (na := 1) (av := [.int (zB (xs (i + 1)))]) (c_X8_mother C.2.2.2.1 e1) (x_tb (i := 955) (by decide +kernel) rfl) (x_tb (i := 956) (by decide +kernel) rfl) (x_tb (i := 957) (by decide +kernel) rfl) (x_tb (i := 102) (by decide +kernel) rfl) (x_tb (i := 958) (by decide +kernel) rfl) (by decide +kernel) rfl ⟨Nat.le_of_ble_eq_true rfl, Nat.le_of_ble_eq_true rfl⟩ ⟨rfl, rfl⟩ hcs rfl (Nat.le_of_ble_eq_true rfl) dL_law_528 ?_
  refine wl_m C dL_law_531 ?_
  refine wl_arg C (k := 1) dL_law_532 dL_law_533 dL_law_534 rfl dL_law_535 dL_law_536 (by omega) ?_
  refine wl_bool C 544 545 dL_law_537 rfl dL_law_540 dL_law_541 rfl dL_law_544 rfl ?_
  refine wl_callM C (na := 1) (av := [.int (zB (xs (i + 1)))]) (c_X9_mother C.2.2.2.2.1 e2) (x_tb (i := 1633) (by decide +kernel) rfl) (x_tb (i := 1634) (by decide +kernel) rfl) (x_tb (i := 1635) (by decide +kernel) rfl) (x_tb (i := 111) (by decide +kernel) rfl) (x_tb (i := 1636) (by decide +kernel) rfl) (by decide +kernel) rfl ⟨Nat.le_of_ble_eq_true rfl, Nat.le_of_ble_eq_true rfl⟩ ⟨rfl, rfl⟩ hcs rfl (Nat.le_of_ble_eq_true rfl) dL_law_545 ?_
  exact wl_eq C 1373 dL_law_548 rfl (k τ ν hR)
set_option maxHeartbeats 4000000 in
set_option maxRecDepth 100000 in
theorem wl_13 (C : wl_C p s m meth c b L xs D iC ad1 ad2) (hcs : mc ≤ 600000 ∧ ms ≤ 7302250) (hK : K ≤ 512) (h : r_full K σ μ) (hi : i + 6 ≤ L) (k : ∀ τ ν, r_full (K + 1) τ ν → wl_W p l e s m below meth c b D iC ad1 ad2 mc ms i 1373 [] τ ν) : wl_W p l e s m below meth c b D iC ad1 ad2 mc ms i 553 [] σ μ := by
  obtain ⟨r, τ, ν, e1, e2, hR⟩ := f_undo hK h 
  refine wl_x C dL_law_553 ?_
  refine wl_callX C (na := 0) (av := []) (c_X8_undo C.2.2.2.1 e1) (x_tb (i := 959) (by decide +kernel) rfl) (x_tb (i := 960) (by decide +kernel) rfl) (x_tb (i := 961) (by decide +kernel) rfl) (x_tb (i := 102) (by decide +kernel) rfl) (x_tb (i := 962) (by decide +kernel) rfl) (by decide +kernel) rfl ⟨Nat.le_of_ble_eq_true rfl, Nat.le_of_ble_eq_true rfl⟩ ⟨rfl, rfl⟩ hcs rfl (Nat.le_of_ble_eq_true rfl) dL_law_554 ?_
  refine wl_m C dL_law_557 ?_
  refine wl_callM C (na := 0) (av := []) (c_X9_undo C.2.2.2.2.1 e2) (x_tb (i := 1637) (by decide +kernel) rfl) (x_tb (i := 1638) (by decide +kernel) rfl) (x_tb (i := 1639) (by decide +kernel) rfl) (x_tb (i := 111) (by decide +kernel) rfl) (x_tb (i := 1640) (by decide +kernel) rfl) (by decide +kernel) rfl ⟨Nat.le_of_ble_eq_true rfl, Nat.le_of_ble_eq_true rfl⟩ ⟨rfl, rfl⟩ hcs rfl (Nat.le_of_ble_eq_true rfl) dL_law_558 ?_
  exact wl_eq C 1373 dL_law_561 rfl (k τ ν hR)
set_option maxHeartbeats 4000000 in
set_option maxRecDepth 100000 in
theorem wl_14 (C : wl_C p s m meth c b L xs D iC ad1 ad2) (hcs : mc ≤ 600000 ∧ ms ≤ 7302250) (hK : K ≤ 512) (h : r_full K σ μ) (hi : i + 6 ≤ L) (k : ∀ τ ν, r_full (K + 1) τ ν → wl_W p l e s m below meth c b D iC ad1 ad2 mc ms i 1373 [] τ ν) : wl_W p l e s m below meth c b D iC ad1 ad2 mc ms i 566 [] σ μ := by
  obtain ⟨r, τ, ν, e1, e2, hR⟩ := f_crying hK h (xs (i + 1))
  refine wl_x C dL_law_566 ?_
  refine wl_arg C (k := 1) dL_law_567 dL_law_568 dL_law_569 rfl dL_law_570 dL_law_571 (by omega) ?_
  refine wl_callX C (na := 1) (av := [.int (xs (i + 1))]) (c_X8_crying C.2.2.2.1 e1) (x_tb (i := 967) (by decide +kernel) rfl) (x_tb (i := 968) (by decide +kernel) rfl) (x_tb (i := 969) (by decide +kernel) rfl) (x_tb (i := 102) (by decide +kernel) rfl) (x_tb (i := 970) (by decide +kernel) rfl) (by decide +kernel) rfl ⟨Nat.le_of_ble_eq_true rfl, Nat.le_of_ble_eq_true rfl⟩ ⟨rfl, rfl⟩ hcs rfl (Nat.le_of_ble_eq_true rfl) dL_law_572 ?_
  refine wl_m C dL_law_575 ?_
  refine wl_arg C (k := 1) dL_law_576 dL_law_577 dL_law_578 rfl dL_law_579 dL_law_580 (by omega) ?_
  refine wl_callM C (na := 1) (av := [.int (xs (i + 1))]) (c_X9_crying C.2.2.2.2.1 e2) (x_tb (i := 1641) (by decide +kernel) rfl) (x_tb (i := 1642) (by decide +kernel) rfl) (x_tb (i := 1643) (by decide +kernel) rfl) (x_tb (i := 111) (by decide +kernel) rfl) (x_tb (i := 1644) (by decide +kernel) rfl) (by decide +kernel) rfl ⟨Nat.le_of_ble_eq_true rfl, Nat.le_of_ble_eq_true rfl⟩ ⟨rfl, rfl⟩ hcs rfl (Nat.le_of_ble_eq_true rfl) dL_law_581 ?_
  exact wl_eq C 1373 dL_law_584 rfl (k τ ν hR)
set_option maxHeartbeats 4000000 in
set_option maxRecDepth 100000 in
theorem wl_15 (C : wl_C p s m meth c b L xs D iC ad1 ad2) (hcs : mc ≤ 600000 ∧ ms ≤ 7302250) (hK : K ≤ 512) (h : r_full K σ μ) (hi : i + 6 ≤ L) (k : ∀ τ ν, r_full (K + 1) τ ν → wl_W p l e s m below meth c b D iC ad1 ad2 mc ms i 1373 [] τ ν) : wl_W p l e s m below meth c b D iC ad1 ad2 mc ms i 589 [] σ μ := by
  obtain ⟨r, τ, ν, e1, e2, hR⟩ := f_next hK h (xs (i + 1)) (xs (i + 2))
  refine wl_x C dL_law_589 ?_
  refine wl_arg C (k := 1) dL_law_590 dL_law_591 dL_law_592 rfl dL_law_593 dL_law_594 (by omega) ?_
  refine wl_arg C (k := 2) dL_law_595 dL_law_596 dL_law_597 rfl dL_law_598 dL_law_599 (by omega) ?_
  refine wl_callX C (na := 2) (av := [.int (xs (i + 1)), .int (xs (i + 2))]) (c_X8_next C.2.2.2.1 e1) (x_tb (i := 981) (by decide +kernel) rfl) (x_tb (i := 982) (by decide +kernel) rfl) (x_tb (i := 983) (by decide +kernel) rfl) (x_tb (i := 102) (by decide +kernel) rfl) (x_tb (i := 984) (by decide +kernel) rfl) (by decide +kernel) rfl ⟨Nat.le_of_ble_eq_true rfl, Nat.le_of_ble_eq_true rfl⟩ ⟨rfl, rfl⟩ hcs rfl (Nat.le_of_ble_eq_true rfl) dL_law_600 ?_
  refine wl_m C dL_law_603 ?_
  refine wl_arg C (k := 1) dL_law_604 dL_law_605 dL_law_606 rfl dL_law_607 dL_law_608 (by omega) ?_
  refine wl_arg C (k := 2) dL_law_609 dL_law_610 dL_law_611 rfl dL_law_612 dL_law_613 (by omega) ?_
  refine wl_callM C (na := 2) (av := [.int (xs (i + 1)), .int (xs (i + 2))]) (c_X9_next C.2.2.2.2.1 e2) (x_tb (i := 1649) (by decide +kernel) rfl) (x_tb (i := 1650) (by decide +kernel) rfl) (x_tb (i := 1651) (by decide +kernel) rfl) (x_tb (i := 111) (by decide +kernel) rfl) (x_tb (i := 1652) (by decide +kernel) rfl) (by decide +kernel) rfl ⟨Nat.le_of_ble_eq_true rfl, Nat.le_of_ble_eq_true rfl⟩ ⟨rfl, rfl⟩ hcs rfl (Nat.le_of_ble_eq_true rfl) dL_law_614 ?_
  exact wl_eq C 1373 dL_law_617 rfl (k τ ν hR)
set_option maxHeartbeats 4000000 in
set_option maxRecDepth 100000 in
theorem wl_16 (C : wl_C p s m meth c b L xs D iC ad1 ad2) (hcs : mc ≤ 600000 ∧ ms ≤ 7302250) (hK : K ≤ 512) (h : r_full K σ μ) (hi : i + 6 ≤ L) (k : ∀ τ ν, r_full (K + 1) τ ν → wl_W p l e s m below meth c b D iC ad1 ad2 mc ms i 1373 [] τ ν) : wl_W p l e s m below meth c b D iC ad1 ad2 mc ms i 622 [] σ μ := by
  obtain ⟨r, τ, ν, e1, e2, hR⟩ := f_order hK h (xs (i + 1))
  refine wl_x C dL_law_622 ?_
  refine wl_arg C (k := 1) dL_law_623 dL_law_624 dL_law_625 rfl dL_law_626 dL_law_627 (by omega) ?_
  refine wl_callX C (na := 1) (av := [.int (xs (i + 1))]) (c_X8_order C.2.2.2.1 e1) (x_tb (i := 997) (by decide +kernel) rfl) (x_tb (i := 998) (by decide +kernel) rfl) (x_tb (i := 999) (by decide +kernel) rfl) (x_tb (i := 102) (by decide +kernel) rfl) (x_tb (i := 1000) (by decide +kernel) rfl) (by decide +kernel) rfl ⟨Nat.le_of_ble_eq_true rfl, Nat.le_of_ble_eq_true rfl⟩ ⟨rfl, rfl⟩ hcs rfl (Nat.le_of_ble_eq_true rfl) dL_law_628 ?_
  refine wl_m C dL_law_631 ?_
  refine wl_arg C (k := 1) dL_law_632 dL_law_633 dL_law_634 rfl dL_law_635 dL_law_636 (by omega) ?_
  refine wl_callM C (na := 1) (av := [.int (xs (i + 1))]) (c_X9_order C.2.2.2.2.1 e2) (x_tb (i := 1653) (by decide +kernel) rfl) (x_tb (i := 1654) (by decide +kernel) rfl) (x_tb (i := 1655) (by decide +kernel) rfl) (x_tb (i := 111) (by decide +kernel) rfl) (x_tb (i := 1656) (by decide +kernel) rfl) (by decide +kernel) rfl ⟨Nat.le_of_ble_eq_true rfl, Nat.le_of_ble_eq_true rfl⟩ ⟨rfl, rfl⟩ hcs rfl (Nat.le_of_ble_eq_true rfl) dL_law_637 ?_
  exact wl_eq C 1373 dL_law_640 rfl (k τ ν hR)
set_option maxHeartbeats 4000000 in
set_option maxRecDepth 100000 in
theorem wl_17 (C : wl_C p s m meth c b L xs D iC ad1 ad2) (hcs : mc ≤ 600000 ∧ ms ≤ 7302250) (hK : K ≤ 512) (h : r_full K σ μ) (hi : i + 6 ≤ L) (k : ∀ τ ν, r_full (K + 1) τ ν → wl_W p l e s m below meth c b D iC ad1 ad2 mc ms i 1373 [] τ ν) : wl_W p l e s m below meth c b D iC ad1 ad2 mc ms i 645 [] σ μ := by
  obtain ⟨r, τ, ν, e1, e2, hR⟩ := f_orderAt hK h (xs (i + 1)) (xs (i + 2))
  refine wl_x C dL_law_645 ?_
  refine wl_arg C (k := 1) dL_law_646 dL_law_647 dL_law_648 rfl dL_law_649 dL_law_650 (by omega) ?_
  refine wl_arg C (k := 2) dL_law_651 dL_law_652 dL_law_653 rfl dL_law_654 dL_law_655 (by omega) ?_
  refine wl_callX C (na := 2) (av := [.int (xs (i + 1)), .int (xs (i + 2))]) (c_X8_orderAt C.2.2.2.1 e1) (x_tb (i := 1043) (by decide +kernel) rfl) (x_tb (i := 1044) (by decide +kernel) rfl) (x_tb (i := 1045) (by decide +kernel) rfl) (x_tb (i := 102) (by decide +kernel) rfl) (x_tb (i := 1046) (by decide +kernel) rfl) (by decide +kernel) rfl ⟨Nat.le_of_ble_eq_true rfl, Nat.le_of_ble_eq_true rfl⟩ ⟨rfl, rfl⟩ hcs rfl (Nat.le_of_ble_eq_true rfl) dL_law_656 ?_
  refine wl_m C dL_law_659 ?_
  refine wl_arg C (k := 1) dL_law_660 dL_law_661 dL_law_662 rfl dL_law_663 dL_law_664 (by omega) ?_
  refine wl_arg C (k := 2) dL_law_665 dL_law_666 dL_law_667 rfl dL_law_668 dL_law_669 (by omega) ?_
  refine wl_callM C (na := 2) (av := [.int (xs (i + 1)), .int (xs (i + 2))]) (c_X9_orderAt C.2.2.2.2.1 e2) (x_tb (i := 1692) (by decide +kernel) rfl) (x_tb (i := 1693) (by decide +kernel) rfl) (x_tb (i := 1694) (by decide +kernel) rfl) (x_tb (i := 111) (by decide +kernel) rfl) (x_tb (i := 1695) (by decide +kernel) rfl) (by decide +kernel) rfl ⟨Nat.le_of_ble_eq_true rfl, Nat.le_of_ble_eq_true rfl⟩ ⟨rfl, rfl⟩ hcs rfl (Nat.le_of_ble_eq_true rfl) dL_law_670 ?_
  exact wl_eq C 1373 dL_law_673 rfl (k τ ν hR)
set_option maxHeartbeats 4000000 in
set_option maxRecDepth 100000 in
theorem wl_18 (C : wl_C p s m meth c b L xs D iC ad1 ad2) (hcs : mc ≤ 600000 ∧ ms ≤ 7302250) (hK : K ≤ 512) (h : r_full K σ μ) (hi : i + 6 ≤ L) (k : ∀ τ ν, r_full (K + 1) τ ν → wl_W p l e s m below meth c b D iC ad1 ad2 mc ms i 1373 [] τ ν) : wl_W p l e s m below meth c b D iC ad1 ad2 mc ms i 678 [] σ μ := by
  obtain ⟨r, τ, ν, e1, e2, hR⟩ := f_sitters hK h (xs (i + 1))
  refine wl_x C dL_law_678 ?_
  refine wl_arg C (k := 1) dL_law_679 dL_law_680 dL_law_681 rfl dL_law_682 dL_law_683 (by omega) ?_
  refine wl_callX C (na := 1) (av := [.int (xs (i + 1))]) (c_X8_sitters C.2.2.2.1 e1) (x_tb (i := 1047) (by decide +kernel) rfl) (x_tb (i := 1048) (by decide +kernel) rfl) (x_tb (i := 1049) (by decide +kernel) rfl) (x_tb (i := 102) (by decide +kernel) rfl) (x_tb (i := 1050) (by decide +kernel) rfl) (by decide +kernel) rfl ⟨Nat.le_of_ble_eq_true rfl, Nat.le_of_ble_eq_true rfl⟩ ⟨rfl, rfl⟩ hcs rfl (Nat.le_of_ble_eq_true rfl) dL_law_684 ?_
  refine wl_m C dL_law_687 ?_
  refine wl_arg C (k := 1) dL_law_688 dL_law_689 dL_law_690 rfl dL_law_691 dL_law_692 (by omega) ?_
  refine wl_callM C (na := 1) (av := [.int (xs (i + 1))]) (c_X9_sitters C.2.2.2.2.1 e2) (x_tb (i := 1696) (by decide +kernel) rfl) (x_tb (i := 1697) (by decide +kernel) rfl) (x_tb (i := 1698) (by decide +kernel) rfl) (x_tb (i := 111) (by decide +kernel) rfl) (x_tb (i := 1699) (by decide +kernel) rfl) (by decide +kernel) rfl ⟨Nat.le_of_ble_eq_true rfl, Nat.le_of_ble_eq_true rfl⟩ ⟨rfl, rfl⟩ hcs rfl (Nat.le_of_ble_eq_true rfl) dL_law_693 ?_
  exact wl_eq C 1373 dL_law_696 rfl (k τ ν hR)
set_option maxHeartbeats 4000000 in
set_option maxRecDepth 100000 in
theorem wl_19 (C : wl_C p s m meth c b L xs D iC ad1 ad2) (hcs : mc ≤ 600000 ∧ ms ≤ 7302250) (hK : K ≤ 512) (h : r_full K σ μ) (hi : i + 6 ≤ L) (k : ∀ τ ν, r_full (K + 1) τ ν → wl_W p l e s m below meth c b D iC ad1 ad2 mc ms i 1373 [] τ ν) : wl_W p l e s m below meth c b D iC ad1 ad2 mc ms i 701 [] σ μ := by
  obtain ⟨r, τ, ν, e1, e2, hR⟩ := f_luck hK h (xs (i + 1)) (xs (i + 2))
  refine wl_x C dL_law_701 ?_
  refine wl_arg C (k := 1) dL_law_702 dL_law_703 dL_law_704 rfl dL_law_705 dL_law_706 (by omega) ?_
  refine wl_arg C (k := 2) dL_law_707 dL_law_708 dL_law_709 rfl dL_law_710 dL_law_711 (by omega) ?_
  refine wl_callX C (na := 2) (av := [.int (xs (i + 1)), .int (xs (i + 2))]) (c_X8_luck C.2.2.2.1 e1) (x_tb (i := 1051) (by decide +kernel) rfl) (x_tb (i := 1052) (by decide +kernel) rfl) (x_tb (i := 1053) (by decide +kernel) rfl) (x_tb (i := 102) (by decide +kernel) rfl) (x_tb (i := 1054) (by decide +kernel) rfl) (by decide +kernel) rfl ⟨Nat.le_of_ble_eq_true rfl, Nat.le_of_ble_eq_true rfl⟩ ⟨rfl, rfl⟩ hcs rfl (Nat.le_of_ble_eq_true rfl) dL_law_712 ?_
  refine wl_m C dL_law_715 ?_
  refine wl_arg C (k := 1) dL_law_716 dL_law_717 dL_law_718 rfl dL_law_719 dL_law_720 (by omega) ?_
  refine wl_arg C (k := 2) dL_law_721 dL_law_722 dL_law_723 rfl dL_law_724 dL_law_725 (by omega) ?_
  refine wl_callM C (na := 2) (av := [.int (xs (i + 1)), .int (xs (i + 2))]) (c_X9_luck C.2.2.2.2.1 e2) (x_tb (i := 1700) (by decide +kernel) rfl) (x_tb (i := 1701) (by decide +kernel) rfl) (x_tb (i := 1702) (by decide +kernel) rfl) (x_tb (i := 111) (by decide +kernel) rfl) (x_tb (i := 1703) (by decide +kernel) rfl) (by decide +kernel) rfl ⟨Nat.le_of_ble_eq_true rfl, Nat.le_of_ble_eq_true rfl⟩ ⟨rfl, rfl⟩ hcs rfl (Nat.le_of_ble_eq_true rfl) dL_law_726 ?_
  exact wl_eq C 1373 dL_law_729 rfl (k τ ν hR)
set_option maxHeartbeats 4000000 in
set_option maxRecDepth 100000 in
theorem wl_20 (C : wl_C p s m meth c b L xs D iC ad1 ad2) (hcs : mc ≤ 600000 ∧ ms ≤ 7302250) (hK : K ≤ 512) (h : r_full K σ μ) (hi : i + 6 ≤ L) (k : ∀ τ ν, r_full (K + 1) τ ν → wl_W p l e s m below meth c b D iC ad1 ad2 mc ms i 1373 [] τ ν) : wl_W p l e s m below meth c b D iC ad1 ad2 mc ms i 734 [] σ μ := by
  obtain ⟨r, τ, ν, e1, e2, hR⟩ := f_wants hK h (xs (i + 1)) (xs (i + 2))
  refine wl_x C dL_law_734 ?_
  refine wl_arg C (k := 1) dL_law_735 dL_law_736 dL_law_737 rfl dL_law_738 dL_law_739 (by omega) ?_
  refine wl_arg C (k := 2) dL_law_740 dL_law_741 dL_law_742 rfl dL_law_743 dL_law_744 (by omega) ?_
  refine wl_callX C (na := 2) (av := [.int (xs (i + 1)), .int (xs (i + 2))]) (c_X8_wants C.2.2.2.1 e1) (x_tb (i := 1055) (by decide +kernel) rfl) (x_tb (i := 1056) (by decide +kernel) rfl) (x_tb (i := 1057) (by decide +kernel) rfl) (x_tb (i := 102) (by decide +kernel) rfl) (x_tb (i := 1058) (by decide +kernel) rfl) (by decide +kernel) rfl ⟨Nat.le_of_ble_eq_true rfl, Nat.le_of_ble_eq_true rfl⟩ ⟨rfl, rfl⟩ hcs rfl (Nat.le_of_ble_eq_true rfl) dL_law_745 ?_
  refine wl_m C dL_law_748 ?_
  refine wl_arg C (k := 1) dL_law_749 dL_law_750 dL_law_751 rfl dL_law_752 dL_law_753 (by omega) ?_
  refine wl_arg C (k := 2) dL_law_754 dL_law_755 dL_law_756 rfl dL_law_757 dL_law_758 (by omega) ?_
  refine wl_callM C (na := 2) (av := [.int (xs (i + 1)), .int (xs (i + 2))]) (c_X9_wants C.2.2.2.2.1 e2) (x_tb (i := 1712) (by decide +kernel) rfl) (x_tb (i := 1713) (by decide +kernel) rfl) (x_tb (i := 1714) (by decide +kernel) rfl) (x_tb (i := 111) (by decide +kernel) rfl) (x_tb (i := 1715) (by decide +kernel) rfl) (by decide +kernel) rfl ⟨Nat.le_of_ble_eq_true rfl, Nat.le_of_ble_eq_true rfl⟩ ⟨rfl, rfl⟩ hcs rfl (Nat.le_of_ble_eq_true rfl) dL_law_759 ?_
  exact wl_eq C 1373 dL_law_762 rfl (k τ ν hR)
set_option maxHeartbeats 4000000 in
set_option maxRecDepth 100000 in
theorem wl_21 (C : wl_C p s m meth c b L xs D iC ad1 ad2) (hcs : mc ≤ 600000 ∧ ms ≤ 7302250) (hK : K ≤ 512) (h : r_full K σ μ) (hi : i + 6 ≤ L) (k : ∀ τ ν, r_full (K + 1) τ ν → wl_W p l e s m below meth c b D iC ad1 ad2 mc ms i 1373 [] τ ν) : wl_W p l e s m below meth c b D iC ad1 ad2 mc ms i 767 [] σ μ := by
  obtain ⟨r, τ, ν, e1, e2, hR⟩ := f_moment hK h (xs (i + 1))
  refine wl_x C dL_law_767 ?_
  refine wl_arg C (k := 1) dL_law_768 dL_law_769 dL_law_770 rfl dL_law_771 dL_law_772 (by omega) ?_
  refine wl_callX C (na := 1) (av := [.int (xs (i + 1))]) (c_X8_moment C.2.2.2.1 e1) (x_tb (i := 1063) (by decide +kernel) rfl) (x_tb (i := 1064) (by decide +kernel) rfl) (x_tb (i := 1065) (by decide +kernel) rfl) (x_tb (i := 102) (by decide +kernel) rfl) (x_tb (i := 1066) (by decide +kernel) rfl) (by decide +kernel) rfl ⟨Nat.le_of_ble_eq_true rfl, Nat.le_of_ble_eq_true rfl⟩ ⟨rfl, rfl⟩ hcs rfl (Nat.le_of_ble_eq_true rfl) dL_law_773 ?_
  refine wl_m C dL_law_776 ?_
  refine wl_arg C (k := 1) dL_law_777 dL_law_778 dL_law_779 rfl dL_law_780 dL_law_781 (by omega) ?_
  refine wl_callM C (na := 1) (av := [.int (xs (i + 1))]) (c_X9_moment C.2.2.2.2.1 e2) (x_tb (i := 1720) (by decide +kernel) rfl) (x_tb (i := 1721) (by decide +kernel) rfl) (x_tb (i := 1722) (by decide +kernel) rfl) (x_tb (i := 111) (by decide +kernel) rfl) (x_tb (i := 1723) (by decide +kernel) rfl) (by decide +kernel) rfl ⟨Nat.le_of_ble_eq_true rfl, Nat.le_of_ble_eq_true rfl⟩ ⟨rfl, rfl⟩ hcs rfl (Nat.le_of_ble_eq_true rfl) dL_law_782 ?_
  exact wl_eq C 1373 dL_law_785 rfl (k τ ν hR)
set_option maxHeartbeats 4000000 in
set_option maxRecDepth 100000 in
theorem wl_22 (C : wl_C p s m meth c b L xs D iC ad1 ad2) (hcs : mc ≤ 600000 ∧ ms ≤ 7302250) (hK : K ≤ 512) (h : r_full K σ μ) (hi : i + 6 ≤ L) (k : ∀ τ ν, r_full (K + 1) τ ν → wl_W p l e s m below meth c b D iC ad1 ad2 mc ms i 1373 [] τ ν) : wl_W p l e s m below meth c b D iC ad1 ad2 mc ms i 790 [] σ μ := by
  obtain ⟨r, τ, ν, e1, e2, hR⟩ := f_beat hK h (xs (i + 1)) (xs (i + 2)) (xs (i + 3))
  refine wl_x C dL_law_790 ?_
  refine wl_arg C (k := 1) dL_law_791 dL_law_792 dL_law_793 rfl dL_law_794 dL_law_795 (by omega) ?_
  refine wl_arg C (k := 2) dL_law_796 dL_law_797 dL_law_798 rfl dL_law_799 dL_law_800 (by omega) ?_
  refine wl_arg C (k := 3) dL_law_801 dL_law_802 dL_law_803 rfl dL_law_804 dL_law_805 (by omega) ?_
  refine wl_callX C (na := 3) (av := [.int (xs (i + 1)), .int (xs (i + 2)), .int (xs (i + 3))]) (c_X8_beat C.2.2.2.1 e1) (x_tb (i := 1072) (by decide +kernel) rfl) (x_tb (i := 1073) (by decide +kernel) rfl) (x_tb (i := 1074) (by decide +kernel) rfl) (x_tb (i := 102) (by decide +kernel) rfl) (x_tb (i := 1075) (by decide +kernel) rfl) (by decide +kernel) rfl ⟨Nat.le_of_ble_eq_true rfl, Nat.le_of_ble_eq_true rfl⟩ ⟨rfl, rfl⟩ hcs rfl (Nat.le_of_ble_eq_true rfl) dL_law_806 ?_
  refine wl_m C dL_law_809 ?_
  refine wl_arg C (k := 1) dL_law_810 dL_law_811 dL_law_812 rfl dL_law_813 dL_law_814 (by omega) ?_
  refine wl_arg C (k := 2) dL_law_815 dL_law_816 dL_law_817 rfl dL_law_818 dL_law_819 (by omega) ?_
  refine wl_arg C (k := 3) dL_law_820 dL_law_821 dL_law_822 rfl dL_law_823 dL_law_824 (by omega) ?_
  refine wl_callM C (na := 3) (av := [.int (xs (i + 1)), .int (xs (i + 2)), .int (xs (i + 3))]) (c_X9_beat C.2.2.2.2.1 e2) (x_tb (i := 1733) (by decide +kernel) rfl) (x_tb (i := 1734) (by decide +kernel) rfl) (x_tb (i := 1735) (by decide +kernel) rfl) (x_tb (i := 111) (by decide +kernel) rfl) (x_tb (i := 1736) (by decide +kernel) rfl) (by decide +kernel) rfl ⟨Nat.le_of_ble_eq_true rfl, Nat.le_of_ble_eq_true rfl⟩ ⟨rfl, rfl⟩ hcs rfl (Nat.le_of_ble_eq_true rfl) dL_law_825 ?_
  exact wl_eq C 1373 dL_law_828 rfl (k τ ν hR)
set_option maxHeartbeats 4000000 in
set_option maxRecDepth 100000 in
theorem wl_23 (C : wl_C p s m meth c b L xs D iC ad1 ad2) (hcs : mc ≤ 600000 ∧ ms ≤ 7302250) (hK : K ≤ 512) (h : r_full K σ μ) (hi : i + 6 ≤ L) (k : ∀ τ ν, r_full (K + 1) τ ν → wl_W p l e s m below meth c b D iC ad1 ad2 mc ms i 1373 [] τ ν) : wl_W p l e s m below meth c b D iC ad1 ad2 mc ms i 833 [] σ μ := by
  obtain ⟨r, τ, ν, e1, e2, hR⟩ := f_round hK h (xs (i + 1)) (xs (i + 2)) (xs (i + 3)) (xs (i + 4))
  refine wl_x C dL_law_833 ?_
  refine wl_arg C (k := 1) dL_law_834 dL_law_835 dL_law_836 rfl dL_law_837 dL_law_838 (by omega) ?_
  refine wl_arg C (k := 2) dL_law_839 dL_law_840 dL_law_841 rfl dL_law_842 dL_law_843 (by omega) ?_
  refine wl_arg C (k := 3) dL_law_844 dL_law_845 dL_law_846 rfl dL_law_847 dL_law_848 (by omega) ?_
  refine wl_arg C (k := 4) dL_law_849 dL_law_850 dL_law_851 rfl dL_law_852 dL_law_853 (by omega) ?_
  refine wl_callX C (na := 4) (av := [.int (xs (i + 1)), .int (xs (i + 2)), .int (xs (i + 3)), .int (xs (i + 4))]) (c_X8_round C.2.2.2.1 e1) (x_tb (i := 1076) (by decide +kernel) rfl) (x_tb (i := 1077) (by decide +kernel) rfl) (x_tb (i := 1078) (by decide +kernel) rfl) (x_tb (i := 102) (by decide +kernel) rfl) (x_tb (i := 1079) (by decide +kernel) rfl) (by decide +kernel) rfl ⟨Nat.le_of_ble_eq_true rfl, Nat.le_of_ble_eq_true rfl⟩ ⟨rfl, rfl⟩ hcs rfl (Nat.le_of_ble_eq_true rfl) dL_law_854 ?_
  refine wl_m C dL_law_857 ?_
  refine wl_arg C (k := 1) dL_law_858 dL_law_859 dL_law_860 rfl dL_law_861 dL_law_862 (by omega) ?_
  refine wl_arg C (k := 2) dL_law_863 dL_law_864 dL_law_865 rfl dL_law_866 dL_law_867 (by omega) ?_
  refine wl_arg C (k := 3) dL_law_868 dL_law_869 dL_law_870 rfl dL_law_871 dL_law_872 (by omega) ?_
  refine wl_arg C (k := 4) dL_law_873 dL_law_874 dL_law_875 rfl dL_law_876 dL_law_877 (by omega) ?_
  refine wl_callM C (na := 4) (av := [.int (xs (i + 1)), .int (xs (i + 2)), .int (xs (i + 3)), .int (xs (i + 4))]) (c_X9_round C.2.2.2.2.1 e2) (x_tb (i := 1737) (by decide +kernel) rfl) (x_tb (i := 1738) (by decide +kernel) rfl) (x_tb (i := 1739) (by decide +kernel) rfl) (x_tb (i := 111) (by decide +kernel) rfl) (x_tb (i := 1740) (by decide +kernel) rfl) (by decide +kernel) rfl ⟨Nat.le_of_ble_eq_true rfl, Nat.le_of_ble_eq_true rfl⟩ ⟨rfl, rfl⟩ hcs rfl (Nat.le_of_ble_eq_true rfl) dL_law_878 ?_
  exact wl_eq C 1373 dL_law_881 rfl (k τ ν hR)
set_option maxHeartbeats 4000000 in
set_option maxRecDepth 100000 in
theorem wl_24 (C : wl_C p s m meth c b L xs D iC ad1 ad2) (hcs : mc ≤ 600000 ∧ ms ≤ 7302250) (hK : K ≤ 512) (h : r_full K σ μ) (hi : i + 6 ≤ L) (k : ∀ τ ν, r_full (K + 1) τ ν → wl_W p l e s m below meth c b D iC ad1 ad2 mc ms i 1373 [] τ ν) : wl_W p l e s m below meth c b D iC ad1 ad2 mc ms i 886 [] σ μ := by
  obtain ⟨r, τ, ν, e1, e2, hR⟩ := f_fairest hK h (xs (i + 1)) (xs (i + 2))
  refine wl_x C dL_law_886 ?_
  refine wl_arg C (k := 1) dL_law_887 dL_law_888 dL_law_889 rfl dL_law_890 dL_law_891 (by omega) ?_
  refine wl_arg C (k := 2) dL_law_892 dL_law_893 dL_law_894 rfl dL_law_895 dL_law_896 (by omega) ?_
  refine wl_callX C (na := 2) (av := [.int (xs (i + 1)), .int (xs (i + 2))]) (c_X8_fairest C.2.2.2.1 e1) (x_tb (i := 1094) (by decide +kernel) rfl) (x_tb (i := 1095) (by decide +kernel) rfl) (x_tb (i := 1096) (by decide +kernel) rfl) (x_tb (i := 102) (by decide +kernel) rfl) (x_tb (i := 1097) (by decide +kernel) rfl) (by decide +kernel) rfl ⟨Nat.le_of_ble_eq_true rfl, Nat.le_of_ble_eq_true rfl⟩ ⟨rfl, rfl⟩ hcs rfl (Nat.le_of_ble_eq_true rfl) dL_law_897 ?_
  refine wl_m C dL_law_900 ?_
  refine wl_arg C (k := 1) dL_law_901 dL_law_902 dL_law_903 rfl dL_law_904 dL_law_905 (by omega) ?_
  refine wl_arg C (k := 2) dL_law_906 dL_law_907 dL_law_908 rfl dL_law_909 dL_law_910 (by omega) ?_
  refine wl_callM C (na := 2) (av := [.int (xs (i + 1)), .int (xs (i + 2))]) (c_X9_fairest C.2.2.2.2.1 e2) (x_tb (i := 1704) (by decide +kernel) rfl) (x_tb (i := 1705) (by decide +kernel) rfl) (x_tb (i := 1706) (by decide +kernel) rfl) (x_tb (i := 111) (by decide +kernel) rfl) (x_tb (i := 1707) (by decide +kernel) rfl) (by decide +kernel) rfl ⟨Nat.le_of_ble_eq_true rfl, Nat.le_of_ble_eq_true rfl⟩ ⟨rfl, rfl⟩ hcs rfl (Nat.le_of_ble_eq_true rfl) dL_law_911 ?_
  exact wl_eq C 1373 dL_law_914 rfl (k τ ν hR)
set_option maxHeartbeats 4000000 in
set_option maxRecDepth 100000 in
theorem wl_25 (C : wl_C p s m meth c b L xs D iC ad1 ad2) (hcs : mc ≤ 600000 ∧ ms ≤ 7302250) (hK : K ≤ 512) (h : r_full K σ μ) (hi : i + 6 ≤ L) (k : ∀ τ ν, r_full (K + 1) τ ν → wl_W p l e s m below meth c b D iC ad1 ad2 mc ms i 1373 [] τ ν) : wl_W p l e s m below meth c b D iC ad1 ad2 mc ms i 919 [] σ μ := by
  obtain ⟨r, τ, ν, e1, e2, hR⟩ := f_leftOut hK h (xs (i + 1)) (xs (i + 2))
  refine wl_x C dL_law_919 ?_
  refine wl_arg C (k := 1) dL_law_920 dL_law_921 dL_law_922 rfl dL_law_923 dL_law_924 (by omega) ?_
  refine wl_arg C (k := 2) dL_law_925 dL_law_926 dL_law_927 rfl dL_law_928 dL_law_929 (by omega) ?_
  refine wl_callX C (na := 2) (av := [.int (xs (i + 1)), .int (xs (i + 2))]) (c_X8_leftOut C.2.2.2.1 e1) (x_tb (i := 1098) (by decide +kernel) rfl) (x_tb (i := 1099) (by decide +kernel) rfl) (x_tb (i := 1100) (by decide +kernel) rfl) (x_tb (i := 102) (by decide +kernel) rfl) (x_tb (i := 1101) (by decide +kernel) rfl) (by decide +kernel) rfl ⟨Nat.le_of_ble_eq_true rfl, Nat.le_of_ble_eq_true rfl⟩ ⟨rfl, rfl⟩ hcs rfl (Nat.le_of_ble_eq_true rfl) dL_law_930 ?_
  refine wl_m C dL_law_933 ?_
  refine wl_arg C (k := 1) dL_law_934 dL_law_935 dL_law_936 rfl dL_law_937 dL_law_938 (by omega) ?_
  refine wl_arg C (k := 2) dL_law_939 dL_law_940 dL_law_941 rfl dL_law_942 dL_law_943 (by omega) ?_
  refine wl_callM C (na := 2) (av := [.int (xs (i + 1)), .int (xs (i + 2))]) (c_X9_leftOut C.2.2.2.2.1 e2) (x_tb (i := 1708) (by decide +kernel) rfl) (x_tb (i := 1709) (by decide +kernel) rfl) (x_tb (i := 1710) (by decide +kernel) rfl) (x_tb (i := 111) (by decide +kernel) rfl) (x_tb (i := 1711) (by decide +kernel) rfl) (by decide +kernel) rfl ⟨Nat.le_of_ble_eq_true rfl, Nat.le_of_ble_eq_true rfl⟩ ⟨rfl, rfl⟩ hcs rfl (Nat.le_of_ble_eq_true rfl) dL_law_944 ?_
  exact wl_eq C 1373 dL_law_947 rfl (k τ ν hR)
set_option maxHeartbeats 4000000 in
set_option maxRecDepth 100000 in
theorem wl_26 (C : wl_C p s m meth c b L xs D iC ad1 ad2) (hcs : mc ≤ 600000 ∧ ms ≤ 7302250) (hK : K ≤ 512) (h : r_full K σ μ) (hi : i + 6 ≤ L) (k : ∀ τ ν, r_full (K + 1) τ ν → wl_W p l e s m below meth c b D iC ad1 ad2 mc ms i 1373 [] τ ν) : wl_W p l e s m below meth c b D iC ad1 ad2 mc ms i 952 [] σ μ := by
  obtain ⟨r, τ, ν, e1, e2, hR⟩ := f_bestRound hK h (xs (i + 1)) (xs (i + 2))
  refine wl_x C dL_law_952 ?_
  refine wl_arg C (k := 1) dL_law_953 dL_law_954 dL_law_955 rfl dL_law_956 dL_law_957 (by omega) ?_
  refine wl_arg C (k := 2) dL_law_958 dL_law_959 dL_law_960 rfl dL_law_961 dL_law_962 (by omega) ?_
  refine wl_callX C (na := 2) (av := [.int (xs (i + 1)), .int (xs (i + 2))]) (c_X8_bestRound C.2.2.2.1 e1) (x_tb (i := 1103) (by decide +kernel) rfl) (x_tb (i := 1104) (by decide +kernel) rfl) (x_tb (i := 1105) (by decide +kernel) rfl) (x_tb (i := 102) (by decide +kernel) rfl) (x_tb (i := 1106) (by decide +kernel) rfl) (by decide +kernel) rfl ⟨Nat.le_of_ble_eq_true rfl, Nat.le_of_ble_eq_true rfl⟩ ⟨rfl, rfl⟩ hcs rfl (Nat.le_of_ble_eq_true rfl) dL_law_963 ?_
  refine wl_m C dL_law_966 ?_
  refine wl_arg C (k := 1) dL_law_967 dL_law_968 dL_law_969 rfl dL_law_970 dL_law_971 (by omega) ?_
  refine wl_arg C (k := 2) dL_law_972 dL_law_973 dL_law_974 rfl dL_law_975 dL_law_976 (by omega) ?_
  refine wl_callM C (na := 2) (av := [.int (xs (i + 1)), .int (xs (i + 2))]) (c_X9_bestRound C.2.2.2.2.1 e2) (x_tb (i := 1749) (by decide +kernel) rfl) (x_tb (i := 1750) (by decide +kernel) rfl) (x_tb (i := 1751) (by decide +kernel) rfl) (x_tb (i := 111) (by decide +kernel) rfl) (x_tb (i := 1752) (by decide +kernel) rfl) (by decide +kernel) rfl ⟨Nat.le_of_ble_eq_true rfl, Nat.le_of_ble_eq_true rfl⟩ ⟨rfl, rfl⟩ hcs rfl (Nat.le_of_ble_eq_true rfl) dL_law_977 ?_
  exact wl_eq C 1373 dL_law_980 rfl (k τ ν hR)
set_option maxHeartbeats 4000000 in
set_option maxRecDepth 100000 in
theorem wl_27 (C : wl_C p s m meth c b L xs D iC ad1 ad2) (hcs : mc ≤ 600000 ∧ ms ≤ 7302250) (hK : K ≤ 512) (h : r_full K σ μ) (hi : i + 6 ≤ L) (k : ∀ τ ν, r_full (K + 1) τ ν → wl_W p l e s m below meth c b D iC ad1 ad2 mc ms i 1373 [] τ ν) : wl_W p l e s m below meth c b D iC ad1 ad2 mc ms i 985 [] σ μ := by
  obtain ⟨r, τ, ν, e1, e2, hR⟩ := f_feedAt hK h (xs (i + 1)) (xs (i + 2))
  refine wl_x C dL_law_985 ?_
  refine wl_arg C (k := 1) dL_law_986 dL_law_987 dL_law_988 rfl dL_law_989 dL_law_990 (by omega) ?_
  refine wl_arg C (k := 2) dL_law_991 dL_law_992 dL_law_993 rfl dL_law_994 dL_law_995 (by omega) ?_
  refine wl_callX C (na := 2) (av := [.int (xs (i + 1)), .int (xs (i + 2))]) (c_X8_feedAt C.2.2.2.1 e1) (x_tb (i := 1107) (by decide +kernel) rfl) (x_tb (i := 1108) (by decide +kernel) rfl) (x_tb (i := 1109) (by decide +kernel) rfl) (x_tb (i := 102) (by decide +kernel) rfl) (x_tb (i := 1110) (by decide +kernel) rfl) (by decide +kernel) rfl ⟨Nat.le_of_ble_eq_true rfl, Nat.le_of_ble_eq_true rfl⟩ ⟨rfl, rfl⟩ hcs rfl (Nat.le_of_ble_eq_true rfl) dL_law_996 ?_
  refine wl_m C dL_law_999 ?_
  refine wl_arg C (k := 1) dL_law_1000 dL_law_1001 dL_law_1002 rfl dL_law_1003 dL_law_1004 (by omega) ?_
  refine wl_arg C (k := 2) dL_law_1005 dL_law_1006 dL_law_1007 rfl dL_law_1008 dL_law_1009 (by omega) ?_
  refine wl_callM C (na := 2) (av := [.int (xs (i + 1)), .int (xs (i + 2))]) (c_X9_feedAt C.2.2.2.2.1 e2) (x_tb (i := 1753) (by decide +kernel) rfl) (x_tb (i := 1754) (by decide +kernel) rfl) (x_tb (i := 1755) (by decide +kernel) rfl) (x_tb (i := 111) (by decide +kernel) rfl) (x_tb (i := 1756) (by decide +kernel) rfl) (by decide +kernel) rfl ⟨Nat.le_of_ble_eq_true rfl, Nat.le_of_ble_eq_true rfl⟩ ⟨rfl, rfl⟩ hcs rfl (Nat.le_of_ble_eq_true rfl) dL_law_1010 ?_
  exact wl_eq C 1373 dL_law_1013 rfl (k τ ν hR)
set_option maxHeartbeats 4000000 in
set_option maxRecDepth 100000 in
theorem wl_28 (C : wl_C p s m meth c b L xs D iC ad1 ad2) (hcs : mc ≤ 600000 ∧ ms ≤ 7302250) (hK : K ≤ 512) (h : r_full K σ μ) (hi : i + 6 ≤ L) (k : ∀ τ ν, r_full (K + 1) τ ν → wl_W p l e s m below meth c b D iC ad1 ad2 mc ms i 1373 [] τ ν) : wl_W p l e s m below meth c b D iC ad1 ad2 mc ms i 1018 [] σ μ := by
  obtain ⟨r, τ, ν, e1, e2, hR⟩ := f_inSight hK h (xs (i + 1)) (xs (i + 2))
  refine wl_x C dL_law_1018 ?_
  refine wl_arg C (k := 1) dL_law_1019 dL_law_1020 dL_law_1021 rfl dL_law_1022 dL_law_1023 (by omega) ?_
  refine wl_arg C (k := 2) dL_law_1024 dL_law_1025 dL_law_1026 rfl dL_law_1027 dL_law_1028 (by omega) ?_
  refine wl_callX C (na := 2) (av := [.int (xs (i + 1)), .int (xs (i + 2))]) (c_X8_inSight C.2.2.2.1 e1) (x_tb (i := 1111) (by decide +kernel) rfl) (x_tb (i := 1112) (by decide +kernel) rfl) (x_tb (i := 1113) (by decide +kernel) rfl) (x_tb (i := 102) (by decide +kernel) rfl) (x_tb (i := 1114) (by decide +kernel) rfl) (by decide +kernel) rfl ⟨Nat.le_of_ble_eq_true rfl, Nat.le_of_ble_eq_true rfl⟩ ⟨rfl, rfl⟩ hcs rfl (Nat.le_of_ble_eq_true rfl) dL_law_1029 ?_
  refine wl_m C dL_law_1032 ?_
  refine wl_arg C (k := 1) dL_law_1033 dL_law_1034 dL_law_1035 rfl dL_law_1036 dL_law_1037 (by omega) ?_
  refine wl_arg C (k := 2) dL_law_1038 dL_law_1039 dL_law_1040 rfl dL_law_1041 dL_law_1042 (by omega) ?_
  refine wl_callM C (na := 2) (av := [.int (xs (i + 1)), .int (xs (i + 2))]) (c_X9_inSight C.2.2.2.2.1 e2) (x_tb (i := 1729) (by decide +kernel) rfl) (x_tb (i := 1730) (by decide +kernel) rfl) (x_tb (i := 1731) (by decide +kernel) rfl) (x_tb (i := 111) (by decide +kernel) rfl) (x_tb (i := 1732) (by decide +kernel) rfl) (by decide +kernel) rfl ⟨Nat.le_of_ble_eq_true rfl, Nat.le_of_ble_eq_true rfl⟩ ⟨rfl, rfl⟩ hcs rfl (Nat.le_of_ble_eq_true rfl) dL_law_1043 ?_
  exact wl_eq C 1373 dL_law_1046 rfl (k τ ν hR)
set_option maxHeartbeats 4000000 in
set_option maxRecDepth 100000 in
theorem wl_29 (C : wl_C p s m meth c b L xs D iC ad1 ad2) (hcs : mc ≤ 600000 ∧ ms ≤ 7302250) (hK : K ≤ 512) (h : r_full K σ μ) (hi : i + 6 ≤ L) (k : ∀ τ ν, r_full (K + 1) τ ν → wl_W p l e s m below meth c b D iC ad1 ad2 mc ms i 1373 [] τ ν) : wl_W p l e s m below meth c b D iC ad1 ad2 mc ms i 1051 [] σ μ := by
  obtain ⟨r, τ, ν, e1, e2, hR⟩ := f_peak hK h (xs (i + 1)) (xs (i + 2))
  refine wl_x C dL_law_1051 ?_
  refine wl_arg C (k := 1) dL_law_1052 dL_law_1053 dL_law_1054 rfl dL_law_1055 dL_law_1056 (by omega) ?_
  refine wl_arg C (k := 2) dL_law_1057 dL_law_1058 dL_law_1059 rfl dL_law_1060 dL_law_1061 (by omega) ?_
  refine wl_callX C (na := 2) (av := [.int (xs (i + 1)), .int (xs (i + 2))]) (c_X8_peak C.2.2.2.1 e1) (x_tb (i := 1115) (by decide +kernel) rfl) (x_tb (i := 1116) (by decide +kernel) rfl) (x_tb (i := 1117) (by decide +kernel) rfl) (x_tb (i := 102) (by decide +kernel) rfl) (x_tb (i := 1118) (by decide +kernel) rfl) (by decide +kernel) rfl ⟨Nat.le_of_ble_eq_true rfl, Nat.le_of_ble_eq_true rfl⟩ ⟨rfl, rfl⟩ hcs rfl (Nat.le_of_ble_eq_true rfl) dL_law_1062 ?_
  refine wl_m C dL_law_1065 ?_
  refine wl_arg C (k := 1) dL_law_1066 dL_law_1067 dL_law_1068 rfl dL_law_1069 dL_law_1070 (by omega) ?_
  refine wl_arg C (k := 2) dL_law_1071 dL_law_1072 dL_law_1073 rfl dL_law_1074 dL_law_1075 (by omega) ?_
  refine wl_callM C (na := 2) (av := [.int (xs (i + 1)), .int (xs (i + 2))]) (c_X9_peak C.2.2.2.2.1 e2) (x_tb (i := 1757) (by decide +kernel) rfl) (x_tb (i := 1758) (by decide +kernel) rfl) (x_tb (i := 1759) (by decide +kernel) rfl) (x_tb (i := 111) (by decide +kernel) rfl) (x_tb (i := 1760) (by decide +kernel) rfl) (by decide +kernel) rfl ⟨Nat.le_of_ble_eq_true rfl, Nat.le_of_ble_eq_true rfl⟩ ⟨rfl, rfl⟩ hcs rfl (Nat.le_of_ble_eq_true rfl) dL_law_1076 ?_
  exact wl_eq C 1373 dL_law_1079 rfl (k τ ν hR)
set_option maxHeartbeats 4000000 in
set_option maxRecDepth 100000 in
theorem wl_30 (C : wl_C p s m meth c b L xs D iC ad1 ad2) (hcs : mc ≤ 600000 ∧ ms ≤ 7302250) (hK : K ≤ 512) (h : r_full K σ μ) (hi : i + 6 ≤ L) (k : ∀ τ ν, r_full (K + 1) τ ν → wl_W p l e s m below meth c b D iC ad1 ad2 mc ms i 1373 [] τ ν) : wl_W p l e s m below meth c b D iC ad1 ad2 mc ms i 1084 [] σ μ := by
  obtain ⟨r, τ, ν, e1, e2, hR⟩ := f_merry hK h 
  refine wl_x C dL_law_1084 ?_
  refine wl_callX C (na := 0) (av := []) (c_X8_merry C.2.2.2.1 e1) (x_tb (i := 1120) (by decide +kernel) rfl) (x_tb (i := 1121) (by decide +kernel) rfl) (x_tb (i := 1122) (by decide +kernel) rfl) (x_tb (i := 102) (by decide +kernel) rfl) (x_tb (i := 1123) (by decide +kernel) rfl) (by decide +kernel) rfl ⟨Nat.le_of_ble_eq_true rfl, Nat.le_of_ble_eq_true rfl⟩ ⟨rfl, rfl⟩ hcs rfl (Nat.le_of_ble_eq_true rfl) dL_law_1085 ?_
  refine wl_m C dL_law_1088 ?_
  refine wl_callM C (na := 0) (av := []) (c_X9_merry C.2.2.2.2.1 e2) (x_tb (i := 1761) (by decide +kernel) rfl) (x_tb (i := 1762) (by decide +kernel) rfl) (x_tb (i := 1763) (by decide +kernel) rfl) (x_tb (i := 111) (by decide +kernel) rfl) (x_tb (i := 1764) (by decide +kernel) rfl) (by decide +kernel) rfl ⟨Nat.le_of_ble_eq_true rfl, Nat.le_of_ble_eq_true rfl⟩ ⟨rfl, rfl⟩ hcs rfl (Nat.le_of_ble_eq_true rfl) dL_law_1089 ?_
  exact wl_eq C 1373 dL_law_1092 rfl (k τ ν hR)
set_option maxHeartbeats 4000000 in
set_option maxRecDepth 100000 in
theorem wl_31 (C : wl_C p s m meth c b L xs D iC ad1 ad2) (hcs : mc ≤ 600000 ∧ ms ≤ 7302250) (hK : K ≤ 512) (h : r_full K σ μ) (hi : i + 6 ≤ L) (k : ∀ τ ν, r_full (K + 1) τ ν → wl_W p l e s m below meth c b D iC ad1 ad2 mc ms i 1373 [] τ ν) : wl_W p l e s m below meth c b D iC ad1 ad2 mc ms i 1097 [] σ μ := by
  obtain ⟨r, τ, ν, e1, e2, hR⟩ := f_rests hK h (xs (i + 1)) (xs (i + 2))
  refine wl_x C dL_law_1097 ?_
  refine wl_arg C (k := 1) dL_law_1098 dL_law_1099 dL_law_1100 rfl dL_law_1101 dL_law_1102 (by omega) ?_
  refine wl_arg C (k := 2) dL_law_1103 dL_law_1104 dL_law_1105 rfl dL_law_1106 dL_law_1107 (by omega) ?_
  refine wl_callX C (na := 2) (av := [.int (xs (i + 1)), .int (xs (i + 2))]) (c_X8_rests C.2.2.2.1 e1) (x_tb (i := 1124) (by decide +kernel) rfl) (x_tb (i := 1125) (by decide +kernel) rfl) (x_tb (i := 1126) (by decide +kernel) rfl) (x_tb (i := 102) (by decide +kernel) rfl) (x_tb (i := 1127) (by decide +kernel) rfl) (by decide +kernel) rfl ⟨Nat.le_of_ble_eq_true rfl, Nat.le_of_ble_eq_true rfl⟩ ⟨rfl, rfl⟩ hcs rfl (Nat.le_of_ble_eq_true rfl) dL_law_1108 ?_
  refine wl_m C dL_law_1111 ?_
  refine wl_arg C (k := 1) dL_law_1112 dL_law_1113 dL_law_1114 rfl dL_law_1115 dL_law_1116 (by omega) ?_
  refine wl_arg C (k := 2) dL_law_1117 dL_law_1118 dL_law_1119 rfl dL_law_1120 dL_law_1121 (by omega) ?_
  refine wl_callM C (na := 2) (av := [.int (xs (i + 1)), .int (xs (i + 2))]) (c_X9_rests C.2.2.2.2.1 e2) (x_tb (i := 1769) (by decide +kernel) rfl) (x_tb (i := 1770) (by decide +kernel) rfl) (x_tb (i := 1771) (by decide +kernel) rfl) (x_tb (i := 111) (by decide +kernel) rfl) (x_tb (i := 1772) (by decide +kernel) rfl) (by decide +kernel) rfl ⟨Nat.le_of_ble_eq_true rfl, Nat.le_of_ble_eq_true rfl⟩ ⟨rfl, rfl⟩ hcs rfl (Nat.le_of_ble_eq_true rfl) dL_law_1122 ?_
  exact wl_eq C 1373 dL_law_1125 rfl (k τ ν hR)
set_option maxHeartbeats 4000000 in
set_option maxRecDepth 100000 in
theorem wl_32 (C : wl_C p s m meth c b L xs D iC ad1 ad2) (hcs : mc ≤ 600000 ∧ ms ≤ 7302250) (hK : K ≤ 512) (h : r_full K σ μ) (hi : i + 6 ≤ L) (k : ∀ τ ν, r_full (K + 1) τ ν → wl_W p l e s m below meth c b D iC ad1 ad2 mc ms i 1373 [] τ ν) : wl_W p l e s m below meth c b D iC ad1 ad2 mc ms i 1130 [] σ μ := by
  obtain ⟨r, τ, ν, e1, e2, hR⟩ := f_silk hK h (xs (i + 1)) (xs (i + 2))
  refine wl_x C dL_law_1130 ?_
  refine wl_arg C (k := 1) dL_law_1131 dL_law_1132 dL_law_1133 rfl dL_law_1134 dL_law_1135 (by omega) ?_
  refine wl_arg C (k := 2) dL_law_1136 dL_law_1137 dL_law_1138 rfl dL_law_1139 dL_law_1140 (by omega) ?_
  refine wl_callX C (na := 2) (av := [.int (xs (i + 1)), .int (xs (i + 2))]) (c_X8_silk C.2.2.2.1 e1) (x_tb (i := 1137) (by decide +kernel) rfl) (x_tb (i := 1138) (by decide +kernel) rfl) (x_tb (i := 1139) (by decide +kernel) rfl) (x_tb (i := 102) (by decide +kernel) rfl) (x_tb (i := 1140) (by decide +kernel) rfl) (by decide +kernel) rfl ⟨Nat.le_of_ble_eq_true rfl, Nat.le_of_ble_eq_true rfl⟩ ⟨rfl, rfl⟩ hcs rfl (Nat.le_of_ble_eq_true rfl) dL_law_1141 ?_
  refine wl_m C dL_law_1144 ?_
  refine wl_arg C (k := 1) dL_law_1145 dL_law_1146 dL_law_1147 rfl dL_law_1148 dL_law_1149 (by omega) ?_
  refine wl_arg C (k := 2) dL_law_1150 dL_law_1151 dL_law_1152 rfl dL_law_1153 dL_law_1154 (by omega) ?_
  refine wl_callM C (na := 2) (av := [.int (xs (i + 1)), .int (xs (i + 2))]) (c_X9_silk C.2.2.2.2.1 e2) (x_tb (i := 1781) (by decide +kernel) rfl) (x_tb (i := 1782) (by decide +kernel) rfl) (x_tb (i := 1783) (by decide +kernel) rfl) (x_tb (i := 111) (by decide +kernel) rfl) (x_tb (i := 1784) (by decide +kernel) rfl) (by decide +kernel) rfl ⟨Nat.le_of_ble_eq_true rfl, Nat.le_of_ble_eq_true rfl⟩ ⟨rfl, rfl⟩ hcs rfl (Nat.le_of_ble_eq_true rfl) dL_law_1155 ?_
  exact wl_eq C 1373 dL_law_1158 rfl (k τ ν hR)
set_option maxHeartbeats 4000000 in
set_option maxRecDepth 100000 in
theorem wl_33 (C : wl_C p s m meth c b L xs D iC ad1 ad2) (hcs : mc ≤ 600000 ∧ ms ≤ 7302250) (hK : K ≤ 512) (h : r_full K σ μ) (hi : i + 6 ≤ L) (k : ∀ τ ν, r_full (K + 1) τ ν → wl_W p l e s m below meth c b D iC ad1 ad2 mc ms i 1373 [] τ ν) : wl_W p l e s m below meth c b D iC ad1 ad2 mc ms i 1163 [] σ μ := by
  obtain ⟨r, τ, ν, e1, e2, hR⟩ := f_likes hK h (xs (i + 1)) (zB (xs (i + 2)))
  refine wl_x C dL_law_1163 ?_
  refine wl_arg C (k := 1) dL_law_1164 dL_law_1165 dL_law_1166 rfl dL_law_1167 dL_law_1168 (by omega) ?_
  refine wl_arg C (k := 2) dL_law_1169 dL_law_1170 dL_law_1171 rfl dL_law_1172 dL_law_1173 (by omega) ?_
  refine wl_bool C 1181 1182 dL_law_1174 rfl dL_law_1177 dL_law_1178 rfl dL_law_1181 rfl ?_
  refine wl_callX C (na := 2) (av := [.int (xs (i + 1)), .int (zB (xs (i + 2)))]) (c_X8_likes C.2.2.2.1 e1) (x_tb (i := 1141) (by decide +kernel) rfl) (x_tb (i := 1142) (by decide +kernel) rfl) (x_tb (i := 1143) (by decide +kernel) rfl) (x_tb (i := 102) (by decide +kernel) rfl) (x_tb (i := 1144) (by decide +kernel) rfl) (by decide +kernel) rfl ⟨Nat.le_of_ble_eq_true rfl, Nat.le_of_ble_eq_true rfl⟩ ⟨rfl, rfl⟩ hcs rfl (Nat.le_of_ble_eq_true rfl) dL_law_1182 ?_
  refine wl_m C dL_law_1185 ?_
  refine wl_arg C (k := 1) dL_law_1186 dL_law_1187 dL_law_1188 rfl dL_law_1189 dL_law_1190 (by omega) ?_
  refine wl_arg C (k := 2) dL_law_1191 dL_law_1192 dL_law_1193 rfl dL_law_1194 dL_law_1195 (by omega) ?_
  refine wl_bool C 1203 1204 dL_law_1196 rfl dL_law_1199 dL_law_1200 rfl dL_law_1203 rfl ?_
  refine wl_callM C (na := 2) (av := [.int (xs (i + 1)), .int (zB (xs (i + 2)))]) (c_X9_likes C.2.2.2.2.1 e2) (x_tb (i := 1785) (by decide +kernel) rfl) (x_tb (i := 1786) (by decide +kernel) rfl) (x_tb (i := 1787) (by decide +kernel) rfl) (x_tb (i := 111) (by decide +kernel) rfl) (x_tb (i := 1788) (by decide +kernel) rfl) (by decide +kernel) rfl ⟨Nat.le_of_ble_eq_true rfl, Nat.le_of_ble_eq_true rfl⟩ ⟨rfl, rfl⟩ hcs rfl (Nat.le_of_ble_eq_true rfl) dL_law_1204 ?_
  exact wl_eq C 1373 dL_law_1207 rfl (k τ ν hR)
set_option maxHeartbeats 4000000 in
set_option maxRecDepth 100000 in
theorem wl_34 (C : wl_C p s m meth c b L xs D iC ad1 ad2) (hcs : mc ≤ 600000 ∧ ms ≤ 7302250) (hK : K ≤ 512) (h : r_full K σ μ) (hi : i + 6 ≤ L) (k : ∀ τ ν, r_full (K + 1) τ ν → wl_W p l e s m below meth c b D iC ad1 ad2 mc ms i 1373 [] τ ν) : wl_W p l e s m below meth c b D iC ad1 ad2 mc ms i 1212 [] σ μ := by
  obtain ⟨r, τ, ν, e1, e2, hR⟩ := f_sleeps hK h 
  refine wl_x C dL_law_1212 ?_
  refine wl_callX C (na := 0) (av := []) (c_X8_sleeps C.2.2.2.1 e1) (x_tb (i := 1148) (by decide +kernel) rfl) (x_tb (i := 1149) (by decide +kernel) rfl) (x_tb (i := 1150) (by decide +kernel) rfl) (x_tb (i := 102) (by decide +kernel) rfl) (x_tb (i := 1151) (by decide +kernel) rfl) (by decide +kernel) rfl ⟨Nat.le_of_ble_eq_true rfl, Nat.le_of_ble_eq_true rfl⟩ ⟨rfl, rfl⟩ hcs rfl (Nat.le_of_ble_eq_true rfl) dL_law_1213 ?_
  refine wl_m C dL_law_1216 ?_
  refine wl_callM C (na := 0) (av := []) (c_X9_sleeps C.2.2.2.2.1 e2) (x_tb (i := 1765) (by decide +kernel) rfl) (x_tb (i := 1766) (by decide +kernel) rfl) (x_tb (i := 1767) (by decide +kernel) rfl) (x_tb (i := 111) (by decide +kernel) rfl) (x_tb (i := 1768) (by decide +kernel) rfl) (by decide +kernel) rfl ⟨Nat.le_of_ble_eq_true rfl, Nat.le_of_ble_eq_true rfl⟩ ⟨rfl, rfl⟩ hcs rfl (Nat.le_of_ble_eq_true rfl) dL_law_1217 ?_
  exact wl_eq C 1373 dL_law_1220 rfl (k τ ν hR)
set_option maxHeartbeats 4000000 in
set_option maxRecDepth 100000 in
theorem wl_35 (C : wl_C p s m meth c b L xs D iC ad1 ad2) (hcs : mc ≤ 600000 ∧ ms ≤ 7302250) (hK : K ≤ 512) (h : r_full K σ μ) (hi : i + 6 ≤ L) (k : ∀ τ ν, r_full (K + 1) τ ν → wl_W p l e s m below meth c b D iC ad1 ad2 mc ms i 1373 [] τ ν) : wl_W p l e s m below meth c b D iC ad1 ad2 mc ms i 1225 [] σ μ := by
  obtain ⟨r, τ, ν, e1, e2, hR⟩ := f_tell hK h (xs (i + 1)) (xs (i + 2))
  refine wl_x C dL_law_1225 ?_
  refine wl_arg C (k := 1) dL_law_1226 dL_law_1227 dL_law_1228 rfl dL_law_1229 dL_law_1230 (by omega) ?_
  refine wl_arg C (k := 2) dL_law_1231 dL_law_1232 dL_law_1233 rfl dL_law_1234 dL_law_1235 (by omega) ?_
  refine wl_callX C (na := 2) (av := [.int (xs (i + 1)), .int (xs (i + 2))]) (c_X8_tell C.2.2.2.1 e1) (x_tb (i := 1152) (by decide +kernel) rfl) (x_tb (i := 1153) (by decide +kernel) rfl) (x_tb (i := 1154) (by decide +kernel) rfl) (x_tb (i := 102) (by decide +kernel) rfl) (x_tb (i := 1155) (by decide +kernel) rfl) (by decide +kernel) rfl ⟨Nat.le_of_ble_eq_true rfl, Nat.le_of_ble_eq_true rfl⟩ ⟨rfl, rfl⟩ hcs rfl (Nat.le_of_ble_eq_true rfl) dL_law_1236 ?_
  refine wl_m C dL_law_1239 ?_
  refine wl_arg C (k := 1) dL_law_1240 dL_law_1241 dL_law_1242 rfl dL_law_1243 dL_law_1244 (by omega) ?_
  refine wl_arg C (k := 2) dL_law_1245 dL_law_1246 dL_law_1247 rfl dL_law_1248 dL_law_1249 (by omega) ?_
  refine wl_callM C (na := 2) (av := [.int (xs (i + 1)), .int (xs (i + 2))]) (c_X9_tell C.2.2.2.2.1 e2) (x_tb (i := 1792) (by decide +kernel) rfl) (x_tb (i := 1793) (by decide +kernel) rfl) (x_tb (i := 1794) (by decide +kernel) rfl) (x_tb (i := 111) (by decide +kernel) rfl) (x_tb (i := 1795) (by decide +kernel) rfl) (by decide +kernel) rfl ⟨Nat.le_of_ble_eq_true rfl, Nat.le_of_ble_eq_true rfl⟩ ⟨rfl, rfl⟩ hcs rfl (Nat.le_of_ble_eq_true rfl) dL_law_1250 ?_
  exact wl_eq C 1373 dL_law_1253 rfl (k τ ν hR)
set_option maxHeartbeats 4000000 in
set_option maxRecDepth 100000 in
theorem wl_36 (C : wl_C p s m meth c b L xs D iC ad1 ad2) (hcs : mc ≤ 600000 ∧ ms ≤ 7302250) (hK : K ≤ 512) (h : r_full K σ μ) (hi : i + 6 ≤ L) (k : ∀ τ ν, r_full (K + 1) τ ν → wl_W p l e s m below meth c b D iC ad1 ad2 mc ms i 1373 [] τ ν) : wl_W p l e s m below meth c b D iC ad1 ad2 mc ms i 1258 [] σ μ := by
  obtain ⟨r, τ, ν, e1, e2, hR⟩ := f_forget hK h 
  refine wl_x C dL_law_1258 ?_
  refine wl_callX C (na := 0) (av := []) (c_X8_forget C.2.2.2.1 e1) (x_tb (i := 1156) (by decide +kernel) rfl) (x_tb (i := 1157) (by decide +kernel) rfl) (x_tb (i := 1158) (by decide +kernel) rfl) (x_tb (i := 102) (by decide +kernel) rfl) (x_tb (i := 1159) (by decide +kernel) rfl) (by decide +kernel) rfl ⟨Nat.le_of_ble_eq_true rfl, Nat.le_of_ble_eq_true rfl⟩ ⟨rfl, rfl⟩ hcs rfl (Nat.le_of_ble_eq_true rfl) dL_law_1259 ?_
  refine wl_m C dL_law_1262 ?_
  refine wl_callM C (na := 0) (av := []) (c_X9_forget C.2.2.2.2.1 e2) (x_tb (i := 1796) (by decide +kernel) rfl) (x_tb (i := 1797) (by decide +kernel) rfl) (x_tb (i := 1798) (by decide +kernel) rfl) (x_tb (i := 111) (by decide +kernel) rfl) (x_tb (i := 1799) (by decide +kernel) rfl) (by decide +kernel) rfl ⟨Nat.le_of_ble_eq_true rfl, Nat.le_of_ble_eq_true rfl⟩ ⟨rfl, rfl⟩ hcs rfl (Nat.le_of_ble_eq_true rfl) dL_law_1263 ?_
  exact wl_eq C 1373 dL_law_1266 rfl (k τ ν hR)
set_option maxHeartbeats 4000000 in
set_option maxRecDepth 100000 in
theorem wl_37 (C : wl_C p s m meth c b L xs D iC ad1 ad2) (hcs : mc ≤ 600000 ∧ ms ≤ 7302250) (hK : K ≤ 512) (h : r_full K σ μ) (hi : i + 6 ≤ L) (k : ∀ τ ν, r_full (K + 1) τ ν → wl_W p l e s m below meth c b D iC ad1 ad2 mc ms i 1373 [] τ ν) : wl_W p l e s m below meth c b D iC ad1 ad2 mc ms i 1271 [] σ μ := by
  obtain ⟨r, τ, ν, e1, e2, hR⟩ := f_fed hK h (xs (i + 1)) (xs (i + 2))
  refine wl_x C dL_law_1271 ?_
  refine wl_arg C (k := 1) dL_law_1272 dL_law_1273 dL_law_1274 rfl dL_law_1275 dL_law_1276 (by omega) ?_
  refine wl_arg C (k := 2) dL_law_1277 dL_law_1278 dL_law_1279 rfl dL_law_1280 dL_law_1281 (by omega) ?_
  refine wl_callX C (na := 2) (av := [.int (xs (i + 1)), .int (xs (i + 2))]) (c_X8_fed C.2.2.2.1 e1) (x_tb (i := 1160) (by decide +kernel) rfl) (x_tb (i := 1161) (by decide +kernel) rfl) (x_tb (i := 1162) (by decide +kernel) rfl) (x_tb (i := 102) (by decide +kernel) rfl) (x_tb (i := 1163) (by decide +kernel) rfl) (by decide +kernel) rfl ⟨Nat.le_of_ble_eq_true rfl, Nat.le_of_ble_eq_true rfl⟩ ⟨rfl, rfl⟩ hcs rfl (Nat.le_of_ble_eq_true rfl) dL_law_1282 ?_
  refine wl_m C dL_law_1285 ?_
  refine wl_arg C (k := 1) dL_law_1286 dL_law_1287 dL_law_1288 rfl dL_law_1289 dL_law_1290 (by omega) ?_
  refine wl_arg C (k := 2) dL_law_1291 dL_law_1292 dL_law_1293 rfl dL_law_1294 dL_law_1295 (by omega) ?_
  refine wl_callM C (na := 2) (av := [.int (xs (i + 1)), .int (xs (i + 2))]) (c_X9_fed C.2.2.2.2.1 e2) (x_tb (i := 1800) (by decide +kernel) rfl) (x_tb (i := 1801) (by decide +kernel) rfl) (x_tb (i := 1802) (by decide +kernel) rfl) (x_tb (i := 111) (by decide +kernel) rfl) (x_tb (i := 1803) (by decide +kernel) rfl) (by decide +kernel) rfl ⟨Nat.le_of_ble_eq_true rfl, Nat.le_of_ble_eq_true rfl⟩ ⟨rfl, rfl⟩ hcs rfl (Nat.le_of_ble_eq_true rfl) dL_law_1296 ?_
  exact wl_eq C 1373 dL_law_1299 rfl (k τ ν hR)
set_option maxHeartbeats 4000000 in
set_option maxRecDepth 100000 in
theorem wl_38 (C : wl_C p s m meth c b L xs D iC ad1 ad2) (hcs : mc ≤ 600000 ∧ ms ≤ 7302250) (hK : K ≤ 512) (h : r_full K σ μ) (hi : i + 6 ≤ L) (k : ∀ τ ν, r_full (K + 1) τ ν → wl_W p l e s m below meth c b D iC ad1 ad2 mc ms i 1373 [] τ ν) : wl_W p l e s m below meth c b D iC ad1 ad2 mc ms i 1304 [] σ μ := by
  obtain ⟨r, τ, ν, e1, e2, hR⟩ := f_hold hK h (xs (i + 1))
  refine wl_x C dL_law_1304 ?_
  refine wl_arg C (k := 1) dL_law_1305 dL_law_1306 dL_law_1307 rfl dL_law_1308 dL_law_1309 (by omega) ?_
  refine wl_callX C (na := 1) (av := [.int (xs (i + 1))]) (c_X8_hold C.2.2.2.1 e1) (x_tb (i := 1168) (by decide +kernel) rfl) (x_tb (i := 1169) (by decide +kernel) rfl) (x_tb (i := 1170) (by decide +kernel) rfl) (x_tb (i := 102) (by decide +kernel) rfl) (x_tb (i := 1171) (by decide +kernel) rfl) (by decide +kernel) rfl ⟨Nat.le_of_ble_eq_true rfl, Nat.le_of_ble_eq_true rfl⟩ ⟨rfl, rfl⟩ hcs rfl (Nat.le_of_ble_eq_true rfl) dL_law_1310 ?_
  refine wl_m C dL_law_1313 ?_
  refine wl_arg C (k := 1) dL_law_1314 dL_law_1315 dL_law_1316 rfl dL_law_1317 dL_law_1318 (by omega) ?_
  refine wl_callM C (na := 1) (av := [.int (xs (i + 1))]) (c_X9_hold C.2.2.2.2.1 e2) (x_tb (i := 1808) (by decide +kernel) rfl) (x_tb (i := 1809) (by decide +kernel) rfl) (x_tb (i := 1810) (by decide +kernel) rfl) (x_tb (i := 111) (by decide +kernel) rfl) (x_tb (i := 1811) (by decide +kernel) rfl) (by decide +kernel) rfl ⟨Nat.le_of_ble_eq_true rfl, Nat.le_of_ble_eq_true rfl⟩ ⟨rfl, rfl⟩ hcs rfl (Nat.le_of_ble_eq_true rfl) dL_law_1319 ?_
  exact wl_eq C 1373 dL_law_1322 rfl (k τ ν hR)
set_option maxHeartbeats 4000000 in
set_option maxRecDepth 100000 in
theorem wl_39 (C : wl_C p s m meth c b L xs D iC ad1 ad2) (hcs : mc ≤ 600000 ∧ ms ≤ 7302250) (hK : K ≤ 512) (h : r_full K σ μ) (hi : i + 6 ≤ L) (k : ∀ τ ν, r_full (K + 1) τ ν → wl_W p l e s m below meth c b D iC ad1 ad2 mc ms i 1373 [] τ ν) : wl_W p l e s m below meth c b D iC ad1 ad2 mc ms i 1327 [] σ μ := by
  obtain ⟨r, τ, ν, e1, e2, hR⟩ := f_restore hK h (xs (i + 1))
  refine wl_x C dL_law_1327 ?_
  refine wl_arg C (k := 1) dL_law_1328 dL_law_1329 dL_law_1330 rfl dL_law_1331 dL_law_1332 (by omega) ?_
  refine wl_callX C (na := 1) (av := [.int (xs (i + 1))]) (c_X8_restore C.2.2.2.1 e1) (x_tb (i := 1172) (by decide +kernel) rfl) (x_tb (i := 1173) (by decide +kernel) rfl) (x_tb (i := 1174) (by decide +kernel) rfl) (x_tb (i := 102) (by decide +kernel) rfl) (x_tb (i := 1175) (by decide +kernel) rfl) (by decide +kernel) rfl ⟨Nat.le_of_ble_eq_true rfl, Nat.le_of_ble_eq_true rfl⟩ ⟨rfl, rfl⟩ hcs rfl (Nat.le_of_ble_eq_true rfl) dL_law_1333 ?_
  refine wl_m C dL_law_1336 ?_
  refine wl_arg C (k := 1) dL_law_1337 dL_law_1338 dL_law_1339 rfl dL_law_1340 dL_law_1341 (by omega) ?_
  refine wl_callM C (na := 1) (av := [.int (xs (i + 1))]) (c_X9_restore C.2.2.2.2.1 e2) (x_tb (i := 1812) (by decide +kernel) rfl) (x_tb (i := 1813) (by decide +kernel) rfl) (x_tb (i := 1814) (by decide +kernel) rfl) (x_tb (i := 111) (by decide +kernel) rfl) (x_tb (i := 1815) (by decide +kernel) rfl) (by decide +kernel) rfl ⟨Nat.le_of_ble_eq_true rfl, Nat.le_of_ble_eq_true rfl⟩ ⟨rfl, rfl⟩ hcs rfl (Nat.le_of_ble_eq_true rfl) dL_law_1342 ?_
  exact wl_eq C 1373 dL_law_1345 rfl (k τ ν hR)
set_option maxHeartbeats 4000000 in
set_option maxRecDepth 100000 in
theorem wl_40 (C : wl_C p s m meth c b L xs D iC ad1 ad2) (hcs : mc ≤ 600000 ∧ ms ≤ 7302250) (hK : K ≤ 512) (h : r_full K σ μ) (hi : i + 6 ≤ L) (k : ∀ τ ν, r_full (K + 1) τ ν → wl_W p l e s m below meth c b D iC ad1 ad2 mc ms i 1373 [] τ ν) : wl_W p l e s m below meth c b D iC ad1 ad2 mc ms i 1350 [] σ μ := by
  obtain ⟨r, τ, ν, e1, e2, hR⟩ := f_count hK h (xs (i + 1))
  refine wl_x C dL_law_1350 ?_
  refine wl_arg C (k := 1) dL_law_1351 dL_law_1352 dL_law_1353 rfl dL_law_1354 dL_law_1355 (by omega) ?_
  refine wl_callX C (na := 1) (av := [.int (xs (i + 1))]) (c_X8_count C.2.2.2.1 e1) (x_tb (i := 1176) (by decide +kernel) rfl) (x_tb (i := 1177) (by decide +kernel) rfl) (x_tb (i := 1178) (by decide +kernel) rfl) (x_tb (i := 102) (by decide +kernel) rfl) (x_tb (i := 1179) (by decide +kernel) rfl) (by decide +kernel) rfl ⟨Nat.le_of_ble_eq_true rfl, Nat.le_of_ble_eq_true rfl⟩ ⟨rfl, rfl⟩ hcs rfl (Nat.le_of_ble_eq_true rfl) dL_law_1356 ?_
  refine wl_m C dL_law_1359 ?_
  refine wl_arg C (k := 1) dL_law_1360 dL_law_1361 dL_law_1362 rfl dL_law_1363 dL_law_1364 (by omega) ?_
  refine wl_callM C (na := 1) (av := [.int (xs (i + 1))]) (c_X9_count C.2.2.2.2.1 e2) (x_tb (i := 1816) (by decide +kernel) rfl) (x_tb (i := 1817) (by decide +kernel) rfl) (x_tb (i := 1818) (by decide +kernel) rfl) (x_tb (i := 111) (by decide +kernel) rfl) (x_tb (i := 1819) (by decide +kernel) rfl) (by decide +kernel) rfl ⟨Nat.le_of_ble_eq_true rfl, Nat.le_of_ble_eq_true rfl⟩ ⟨rfl, rfl⟩ hcs rfl (Nat.le_of_ble_eq_true rfl) dL_law_1365 ?_
  exact wl_eq C 1373 dL_law_1368 rfl (k τ ν hR)
set_option maxRecDepth 100000 in
theorem wl_switch (C : wl_C p s m meth c b L xs D iC ad1 ad2) (hcs : mc ≤ 600000 ∧ ms ≤ 7302250) (hK : K ≤ 512) (h : r_full K σ μ) (hi : i + 6 ≤ L) (k : ∀ K2 τ ν, K2 ≤ K + 1 → r_full K2 τ ν → wl_W p l e s m below meth c b D iC ad1 ad2 mc ms i 1373 [] τ ν) (x : Int32) : wl_W p l e s m below meth c b D iC ad1 ad2 mc ms i 33 [.int x] σ μ := by
  have k1 := fun τ ν => k (K + 1) τ ν (Nat.le_refl _)
  by_cases h1 : x.toInt < 0
  · exact wl_tout C 1373 dL_law_33 (Or.inl h1) rfl (k K σ μ (Nat.le_succ K) h)
  by_cases h2 : 40 < x.toInt
  · exact wl_tout C 1373 dL_law_33 (Or.inr h2) rfl (k K σ μ (Nat.le_succ K) h)
  obtain ⟨n, hn, e⟩ : ∃ n : Nat, n < 41 ∧ x.toInt = (n : Int) := ⟨x.toInt.toNat, by omega, by omega⟩
  match n, hn, e with
  | 0, _, e => exact wl_tin C 179 212 dL_law_33 h1 h2 (by rw [e]; rfl) rfl (wl_0 C hcs hK h hi k1)
  | 1, _, e => exact wl_tin C 242 275 dL_law_33 h1 h2 (by rw [e]; rfl) rfl (wl_1 C hcs hK h hi k1)
  | 2, _, e => exact wl_tin C 265 298 dL_law_33 h1 h2 (by rw [e]; rfl) rfl (wl_2 C hcs hK h hi k1)
  | 3, _, e => exact wl_tin C 278 311 dL_law_33 h1 h2 (by rw [e]; rfl) rfl (wl_3 C hcs hK h hi k1)
  | 4, _, e => exact wl_tin C 291 324 dL_law_33 h1 h2 (by rw [e]; rfl) rfl (wl_4 C hcs hK h hi k1)
  | 5, _, e => exact wl_tin C 314 347 dL_law_33 h1 h2 (by rw [e]; rfl) rfl (wl_5 C hcs hK h hi k1)
  | 6, _, e => exact wl_tin C 347 380 dL_law_33 h1 h2 (by rw [e]; rfl) rfl (wl_6 C hcs hK h hi k1)
  | 7, _, e => exact wl_tin C 370 403 dL_law_33 h1 h2 (by rw [e]; rfl) rfl (wl_7 C hcs hK h hi k1)
  | 8, _, e => exact wl_tin C 393 426 dL_law_33 h1 h2 (by rw [e]; rfl) rfl (wl_8 C hcs hK h hi k1)
  | 9, _, e => exact wl_tin C 416 449 dL_law_33 h1 h2 (by rw [e]; rfl) rfl (wl_9 C hcs hK h hi k1)
  | 10, _, e => exact wl_tin C 429 462 dL_law_33 h1 h2 (by rw [e]; rfl) rfl (wl_10 C hcs hK h hi k1)
  | 11, _, e => exact wl_tin C 442 475 dL_law_33 h1 h2 (by rw [e]; rfl) rfl (wl_11 C hcs hK h hi k1)
  | 12, _, e => exact wl_tin C 481 514 dL_law_33 h1 h2 (by rw [e]; rfl) rfl (wl_12 C hcs hK h hi k1)
  | 13, _, e => exact wl_tin C 520 553 dL_law_33 h1 h2 (by rw [e]; rfl) rfl (wl_13 C hcs hK h hi k1)
  | 14, _, e => exact wl_tin C 533 566 dL_law_33 h1 h2 (by rw [e]; rfl) rfl (wl_14 C hcs hK h hi k1)
  | 15, _, e => exact wl_tin C 556 589 dL_law_33 h1 h2 (by rw [e]; rfl) rfl (wl_15 C hcs hK h hi k1)
  | 16, _, e => exact wl_tin C 589 622 dL_law_33 h1 h2 (by rw [e]; rfl) rfl (wl_16 C hcs hK h hi k1)
  | 17, _, e => exact wl_tin C 612 645 dL_law_33 h1 h2 (by rw [e]; rfl) rfl (wl_17 C hcs hK h hi k1)
  | 18, _, e => exact wl_tin C 645 678 dL_law_33 h1 h2 (by rw [e]; rfl) rfl (wl_18 C hcs hK h hi k1)
  | 19, _, e => exact wl_tin C 668 701 dL_law_33 h1 h2 (by rw [e]; rfl) rfl (wl_19 C hcs hK h hi k1)
  | 20, _, e => exact wl_tin C 701 734 dL_law_33 h1 h2 (by rw [e]; rfl) rfl (wl_20 C hcs hK h hi k1)
  | 21, _, e => exact wl_tin C 734 767 dL_law_33 h1 h2 (by rw [e]; rfl) rfl (wl_21 C hcs hK h hi k1)
  | 22, _, e => exact wl_tin C 757 790 dL_law_33 h1 h2 (by rw [e]; rfl) rfl (wl_22 C hcs hK h hi k1)
  | 23, _, e => exact wl_tin C 800 833 dL_law_33 h1 h2 (by rw [e]; rfl) rfl (wl_23 C hcs hK h hi k1)
  | 24, _, e => exact wl_tin C 853 886 dL_law_33 h1 h2 (by rw [e]; rfl) rfl (wl_24 C hcs hK h hi k1)
  | 25, _, e => exact wl_tin C 886 919 dL_law_33 h1 h2 (by rw [e]; rfl) rfl (wl_25 C hcs hK h hi k1)
  | 26, _, e => exact wl_tin C 919 952 dL_law_33 h1 h2 (by rw [e]; rfl) rfl (wl_26 C hcs hK h hi k1)
  | 27, _, e => exact wl_tin C 952 985 dL_law_33 h1 h2 (by rw [e]; rfl) rfl (wl_27 C hcs hK h hi k1)
  | 28, _, e => exact wl_tin C 985 1018 dL_law_33 h1 h2 (by rw [e]; rfl) rfl (wl_28 C hcs hK h hi k1)
  | 29, _, e => exact wl_tin C 1018 1051 dL_law_33 h1 h2 (by rw [e]; rfl) rfl (wl_29 C hcs hK h hi k1)
  | 30, _, e => exact wl_tin C 1051 1084 dL_law_33 h1 h2 (by rw [e]; rfl) rfl (wl_30 C hcs hK h hi k1)
  | 31, _, e => exact wl_tin C 1064 1097 dL_law_33 h1 h2 (by rw [e]; rfl) rfl (wl_31 C hcs hK h hi k1)
  | 32, _, e => exact wl_tin C 1097 1130 dL_law_33 h1 h2 (by rw [e]; rfl) rfl (wl_32 C hcs hK h hi k1)
  | 33, _, e => exact wl_tin C 1130 1163 dL_law_33 h1 h2 (by rw [e]; rfl) rfl (wl_33 C hcs hK h hi k1)
  | 34, _, e => exact wl_tin C 1179 1212 dL_law_33 h1 h2 (by rw [e]; rfl) rfl (wl_34 C hcs hK h hi k1)
  | 35, _, e => exact wl_tin C 1192 1225 dL_law_33 h1 h2 (by rw [e]; rfl) rfl (wl_35 C hcs hK h hi k1)
  | 36, _, e => exact wl_tin C 1225 1258 dL_law_33 h1 h2 (by rw [e]; rfl) rfl (wl_36 C hcs hK h hi k1)
  | 37, _, e => exact wl_tin C 1238 1271 dL_law_33 h1 h2 (by rw [e]; rfl) rfl (wl_37 C hcs hK h hi k1)
  | 38, _, e => exact wl_tin C 1271 1304 dL_law_33 h1 h2 (by rw [e]; rfl) rfl (wl_38 C hcs hK h hi k1)
  | 39, _, e => exact wl_tin C 1294 1327 dL_law_33 h1 h2 (by rw [e]; rfl) rfl (wl_39 C hcs hK h hi k1)
  | 40, _, e => exact wl_tin C 1317 1350 dL_law_33 h1 h2 (by rw [e]; rfl) rfl (wl_40 C hcs hK h hi k1)
  | n + 41, q, _ => exact absurd q (by omega)
end WC
