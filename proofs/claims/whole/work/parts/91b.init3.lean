section ZI3
variable {l : Launch} {D : va_G} {iC : Nat → ClassId} {b0 : Nat} {Z : State → Prop}
set_option maxHeartbeats 4000000 in
set_option maxRecDepth 100000 in
theorem zt_K1 {p : Program} {e : Env} {s : State} {m : MethodId} {args : Array Value} {below : List Frame} {meth : Method} {c : Code} {Q : State → Prop} {ad : Nat → Nat} {σ : x_Hp} (C : zw_C p s m args meth c cX9_init 1 yX9_init.cls D iC b0 Z) (hG : x_OK TM (D, iC, ad, Z)) (hA : ∀ q, x_A TM (D, iC, ad, Z) q → b0 ≤ q) (kx : zx_W p l e rm_zM s m args below meth c Q TM (D, iC, ad, Z) b0 1 481 [(0, .ref (ad 0))] [] (x_pL (x_pL (x_pL (x_pL (x_pL σ 7 (x_ix (0 : Int32)) (zk_w 98 97 98 121 0 0 0)) 7 (x_ix (1 : Int32)) (zk_w 97 117 110 116 0 0 0)) 7 (x_ix (2 : Int32)) (zk_w 115 105 116 115 0 0 0)) 7 (x_ix (3 : Int32)) (zk_w 104 117 110 103 101 114 115)) 7 (x_ix (4 : Int32)) (zk_w 116 105 114 101 115 0 0)) 44 12961) : zx_W p l e rm_zM s m args below meth c Q TM (D, iC, ad, Z) b0 1 377 [(0, .ref (ad 0))] [] σ 44 12961 := by
  refine zx_aload C 0 dX9_init_377 rfl ?_
  refine zx_getR C hG (o := 0) (ci := 9) (k := 9) (j := 7) (by decide +kernel) (by decide) rfl x_in9 (by decide) (by decide) rfl rfl (x_tb (i := 1217) (by decide +kernel) rfl) (by decide +kernel) dX9_init_378 ?_
  refine zx_iconst C (0 : Int32) dX9_init_381 (by decide) ?_
  refine zx_bipush C (98 : Int32) dX9_init_382 (by decide) ?_
  refine zx_bipush C (97 : Int32) dX9_init_384 (by decide) ?_
  refine zx_bipush C (98 : Int32) dX9_init_386 (by decide) ?_
  refine zx_bipush C (121 : Int32) dX9_init_388 (by decide) ?_
  refine zx_iconst C (0 : Int32) dX9_init_390 (by decide) ?_
  refine zx_iconst C (0 : Int32) dX9_init_391 (by decide) ?_
  refine zx_iconst C (0 : Int32) dX9_init_392 (by decide) ?_
  refine zx_callS C hG hA (na := 7) (av := [.int 98, .int 97, .int 98, .int 121, .int 0, .int 0, .int 0]) (c_X9_word hG (zk_word 98 97 98 121 0 0 0 _)) (x_tb (i := 1190) (by decide +kernel) rfl) (x_tb (i := 1191) (by decide +kernel) rfl) (x_tb (i := 111) (by decide +kernel) rfl) (x_tb (i := 1192) (by decide +kernel) rfl) (by decide +kernel) rfl ⟨Nat.le_of_ble_eq_true rfl, Nat.le_of_ble_eq_true rfl⟩ ⟨rfl, rfl⟩ ⟨Nat.le_of_ble_eq_true rfl, Nat.le_of_ble_eq_true rfl⟩ rfl (Nat.le_of_ble_eq_true rfl) dX9_init_393 ?_
  refine zx_last C hG hA (o := 7) (by decide +kernel) (by decide +kernel) dX9_init_396 ?_
  refine zx_aload C 0 dX9_init_397 rfl ?_
  refine zx_getR C hG (o := 0) (ci := 9) (k := 9) (j := 7) (by decide +kernel) (by decide) rfl x_in9 (by decide) (by decide) rfl rfl (x_tb (i := 1217) (by decide +kernel) rfl) (by decide +kernel) dX9_init_398 ?_
  refine zx_iconst C (1 : Int32) dX9_init_401 (by decide) ?_
  refine zx_bipush C (97 : Int32) dX9_init_402 (by decide) ?_
  refine zx_bipush C (117 : Int32) dX9_init_404 (by decide) ?_
  refine zx_bipush C (110 : Int32) dX9_init_406 (by decide) ?_
  refine zx_bipush C (116 : Int32) dX9_init_408 (by decide) ?_
  refine zx_iconst C (0 : Int32) dX9_init_410 (by decide) ?_
  refine zx_iconst C (0 : Int32) dX9_init_411 (by decide) ?_
  refine zx_iconst C (0 : Int32) dX9_init_412 (by decide) ?_
  refine zx_callS C hG hA (na := 7) (av := [.int 97, .int 117, .int 110, .int 116, .int 0, .int 0, .int 0]) (c_X9_word hG (zk_word 97 117 110 116 0 0 0 _)) (x_tb (i := 1190) (by decide +kernel) rfl) (x_tb (i := 1191) (by decide +kernel) rfl) (x_tb (i := 111) (by decide +kernel) rfl) (x_tb (i := 1192) (by decide +kernel) rfl) (by decide +kernel) rfl ⟨Nat.le_of_ble_eq_true rfl, Nat.le_of_ble_eq_true rfl⟩ ⟨rfl, rfl⟩ ⟨Nat.le_of_ble_eq_true rfl, Nat.le_of_ble_eq_true rfl⟩ rfl (Nat.le_of_ble_eq_true rfl) dX9_init_413 ?_
  refine zx_last C hG hA (o := 7) (by decide +kernel) (by decide +kernel) dX9_init_416 ?_
  refine zx_aload C 0 dX9_init_417 rfl ?_
  refine zx_getR C hG (o := 0) (ci := 9) (k := 9) (j := 7) (by decide +kernel) (by decide) rfl x_in9 (by decide) (by decide) rfl rfl (x_tb (i := 1217) (by decide +kernel) rfl) (by decide +kernel) dX9_init_418 ?_
  refine zx_iconst C (2 : Int32) dX9_init_421 (by decide) ?_
  refine zx_bipush C (115 : Int32) dX9_init_422 (by decide) ?_
  refine zx_bipush C (105 : Int32) dX9_init_424 (by decide) ?_
  refine zx_bipush C (116 : Int32) dX9_init_426 (by decide) ?_
  refine zx_bipush C (115 : Int32) dX9_init_428 (by decide) ?_
  refine zx_iconst C (0 : Int32) dX9_init_430 (by decide) ?_
  refine zx_iconst C (0 : Int32) dX9_init_431 (by decide) ?_
  refine zx_iconst C (0 : Int32) dX9_init_432 (by decide) ?_
  refine zx_callS C hG hA (na := 7) (av := [.int 115, .int 105, .int 116, .int 115, .int 0, .int 0, .int 0]) (c_X9_word hG (zk_word 115 105 116 115 0 0 0 _)) (x_tb (i := 1190) (by decide +kernel) rfl) (x_tb (i := 1191) (by decide +kernel) rfl) (x_tb (i := 111) (by decide +kernel) rfl) (x_tb (i := 1192) (by decide +kernel) rfl) (by decide +kernel) rfl ⟨Nat.le_of_ble_eq_true rfl, Nat.le_of_ble_eq_true rfl⟩ ⟨rfl, rfl⟩ ⟨Nat.le_of_ble_eq_true rfl, Nat.le_of_ble_eq_true rfl⟩ rfl (Nat.le_of_ble_eq_true rfl) dX9_init_433 ?_
  refine zx_last C hG hA (o := 7) (by decide +kernel) (by decide +kernel) dX9_init_436 ?_
  refine zx_aload C 0 dX9_init_437 rfl ?_
  refine zx_getR C hG (o := 0) (ci := 9) (k := 9) (j := 7) (by decide +kernel) (by decide) rfl x_in9 (by decide) (by decide) rfl rfl (x_tb (i := 1217) (by decide +kernel) rfl) (by decide +kernel) dX9_init_438 ?_
  refine zx_iconst C (3 : Int32) dX9_init_441 (by decide) ?_
  refine zx_bipush C (104 : Int32) dX9_init_442 (by decide) ?_
  refine zx_bipush C (117 : Int32) dX9_init_444 (by decide) ?_
  refine zx_bipush C (110 : Int32) dX9_init_446 (by decide) ?_
  refine zx_bipush C (103 : Int32) dX9_init_448 (by decide) ?_
  refine zx_bipush C (101 : Int32) dX9_init_450 (by decide) ?_
  refine zx_bipush C (114 : Int32) dX9_init_452 (by decide) ?_
  refine zx_bipush C (115 : Int32) dX9_init_454 (by decide) ?_
  refine zx_callS C hG hA (na := 7) (av := [.int 104, .int 117, .int 110, .int 103, .int 101, .int 114, .int 115]) (c_X9_word hG (zk_word 104 117 110 103 101 114 115 _)) (x_tb (i := 1190) (by decide +kernel) rfl) (x_tb (i := 1191) (by decide +kernel) rfl) (x_tb (i := 111) (by decide +kernel) rfl) (x_tb (i := 1192) (by decide +kernel) rfl) (by decide +kernel) rfl ⟨Nat.le_of_ble_eq_true rfl, Nat.le_of_ble_eq_true rfl⟩ ⟨rfl, rfl⟩ ⟨Nat.le_of_ble_eq_true rfl, Nat.le_of_ble_eq_true rfl⟩ rfl (Nat.le_of_ble_eq_true rfl) dX9_init_456 ?_
  refine zx_last C hG hA (o := 7) (by decide +kernel) (by decide +kernel) dX9_init_459 ?_
  refine zx_aload C 0 dX9_init_460 rfl ?_
  refine zx_getR C hG (o := 0) (ci := 9) (k := 9) (j := 7) (by decide +kernel) (by decide) rfl x_in9 (by decide) (by decide) rfl rfl (x_tb (i := 1217) (by decide +kernel) rfl) (by decide +kernel) dX9_init_461 ?_
  refine zx_iconst C (4 : Int32) dX9_init_464 (by decide) ?_
  refine zx_bipush C (116 : Int32) dX9_init_465 (by decide) ?_
  refine zx_bipush C (105 : Int32) dX9_init_467 (by decide) ?_
  refine zx_bipush C (114 : Int32) dX9_init_469 (by decide) ?_
  refine zx_bipush C (101 : Int32) dX9_init_471 (by decide) ?_
  refine zx_bipush C (115 : Int32) dX9_init_473 (by decide) ?_
  refine zx_iconst C (0 : Int32) dX9_init_475 (by decide) ?_
  refine zx_iconst C (0 : Int32) dX9_init_476 (by decide) ?_
  refine zx_callS C hG hA (na := 7) (av := [.int 116, .int 105, .int 114, .int 101, .int 115, .int 0, .int 0]) (c_X9_word hG (zk_word 116 105 114 101 115 0 0 _)) (x_tb (i := 1190) (by decide +kernel) rfl) (x_tb (i := 1191) (by decide +kernel) rfl) (x_tb (i := 111) (by decide +kernel) rfl) (x_tb (i := 1192) (by decide +kernel) rfl) (by decide +kernel) rfl ⟨Nat.le_of_ble_eq_true rfl, Nat.le_of_ble_eq_true rfl⟩ ⟨rfl, rfl⟩ ⟨Nat.le_of_ble_eq_true rfl, Nat.le_of_ble_eq_true rfl⟩ rfl (Nat.le_of_ble_eq_true rfl) dX9_init_477 ?_
  refine zx_last C hG hA (o := 7) (by decide +kernel) (by decide +kernel) dX9_init_480 ?_
  exact kx
set_option maxHeartbeats 4000000 in
set_option maxRecDepth 100000 in
theorem zt_K2 {p : Program} {e : Env} {s : State} {m : MethodId} {args : Array Value} {below : List Frame} {meth : Method} {c : Code} {Q : State → Prop} {ad : Nat → Nat} {σ : x_Hp} (C : zw_C p s m args meth c cX9_init 1 yX9_init.cls D iC b0 Z) (hG : x_OK TM (D, iC, ad, Z)) (hA : ∀ q, x_A TM (D, iC, ad, Z) q → b0 ≤ q) (kx : zx_W p l e rm_zM s m args below meth c Q TM (D, iC, ad, Z) b0 1 593 [(0, .ref (ad 0))] [] (x_pL (x_pL (x_pL (x_pL (x_pL σ 7 (x_ix (5 : Int32)) (zk_w 119 111 110 100 101 114 115)) 7 (x_ix (6 : Int32)) (zk_w 119 105 110 100 115 0 0)) 7 (x_ix (7 : Int32)) (zk_w 99 114 105 101 115 0 0)) 7 (x_ix (8 : Int32)) (zk_w 115 108 101 101 112 115 0)) 7 (x_ix (9 : Int32)) (zk_w 115 112 105 116 115 0 0)) 44 12961) : zx_W p l e rm_zM s m args below meth c Q TM (D, iC, ad, Z) b0 1 481 [(0, .ref (ad 0))] [] σ 44 12961 := by
  refine zx_aload C 0 dX9_init_481 rfl ?_
  refine zx_getR C hG (o := 0) (ci := 9) (k := 9) (j := 7) (by decide +kernel) (by decide) rfl x_in9 (by decide) (by decide) rfl rfl (x_tb (i := 1217) (by decide +kernel) rfl) (by decide +kernel) dX9_init_482 ?_
  refine zx_iconst C (5 : Int32) dX9_init_485 (by decide) ?_
  refine zx_bipush C (119 : Int32) dX9_init_486 (by decide) ?_
  refine zx_bipush C (111 : Int32) dX9_init_488 (by decide) ?_
  refine zx_bipush C (110 : Int32) dX9_init_490 (by decide) ?_
  refine zx_bipush C (100 : Int32) dX9_init_492 (by decide) ?_
  refine zx_bipush C (101 : Int32) dX9_init_494 (by decide) ?_
  refine zx_bipush C (114 : Int32) dX9_init_496 (by decide) ?_
  refine zx_bipush C (115 : Int32) dX9_init_498 (by decide) ?_
  refine zx_callS C hG hA (na := 7) (av := [.int 119, .int 111, .int 110, .int 100, .int 101, .int 114, .int 115]) (c_X9_word hG (zk_word 119 111 110 100 101 114 115 _)) (x_tb (i := 1190) (by decide +kernel) rfl) (x_tb (i := 1191) (by decide +kernel) rfl) (x_tb (i := 111) (by decide +kernel) rfl) (x_tb (i := 1192) (by decide +kernel) rfl) (by decide +kernel) rfl ⟨Nat.le_of_ble_eq_true rfl, Nat.le_of_ble_eq_true rfl⟩ ⟨rfl, rfl⟩ ⟨Nat.le_of_ble_eq_true rfl, Nat.le_of_ble_eq_true rfl⟩ rfl (Nat.le_of_ble_eq_true rfl) dX9_init_500 ?_
  refine zx_last C hG hA (o := 7) (by decide +kernel) (by decide +kernel) dX9_init_503 ?_
  refine zx_aload C 0 dX9_init_504 rfl ?_
  refine zx_getR C hG (o := 0) (ci := 9) (k := 9) (j := 7) (by decide +kernel) (by decide) rfl x_in9 (by decide) (by decide) rfl rfl (x_tb (i := 1217) (by decide +kernel) rfl) (by decide +kernel) dX9_init_505 ?_
  refine zx_bipush C (6 : Int32) dX9_init_508 (by decide) ?_
  refine zx_bipush C (119 : Int32) dX9_init_510 (by decide) ?_
  refine zx_bipush C (105 : Int32) dX9_init_512 (by decide) ?_
  refine zx_bipush C (110 : Int32) dX9_init_514 (by decide) ?_
  refine zx_bipush C (100 : Int32) dX9_init_516 (by decide) ?_
  refine zx_bipush C (115 : Int32) dX9_init_518 (by decide) ?_
  refine zx_iconst C (0 : Int32) dX9_init_520 (by decide) ?_
  refine zx_iconst C (0 : Int32) dX9_init_521 (by decide) ?_
  refine zx_callS C hG hA (na := 7) (av := [.int 119, .int 105, .int 110, .int 100, .int 115, .int 0, .int 0]) (c_X9_word hG (zk_word 119 105 110 100 115 0 0 _)) (x_tb (i := 1190) (by decide +kernel) rfl) (x_tb (i := 1191) (by decide +kernel) rfl) (x_tb (i := 111) (by decide +kernel) rfl) (x_tb (i := 1192) (by decide +kernel) rfl) (by decide +kernel) rfl ⟨Nat.le_of_ble_eq_true rfl, Nat.le_of_ble_eq_true rfl⟩ ⟨rfl, rfl⟩ ⟨Nat.le_of_ble_eq_true rfl, Nat.le_of_ble_eq_true rfl⟩ rfl (Nat.le_of_ble_eq_true rfl) dX9_init_522 ?_
  refine zx_last C hG hA (o := 7) (by decide +kernel) (by decide +kernel) dX9_init_525 ?_
  refine zx_aload C 0 dX9_init_526 rfl ?_
  refine zx_getR C hG (o := 0) (ci := 9) (k := 9) (j := 7) (by decide +kernel) (by decide) rfl x_in9 (by decide) (by decide) rfl rfl (x_tb (i := 1217) (by decide +kernel) rfl) (by decide +kernel) dX9_init_527 ?_
  refine zx_bipush C (7 : Int32) dX9_init_530 (by decide) ?_
  refine zx_bipush C (99 : Int32) dX9_init_532 (by decide) ?_
  refine zx_bipush C (114 : Int32) dX9_init_534 (by decide) ?_
  refine zx_bipush C (105 : Int32) dX9_init_536 (by decide) ?_
  refine zx_bipush C (101 : Int32) dX9_init_538 (by decide) ?_
  refine zx_bipush C (115 : Int32) dX9_init_540 (by decide) ?_
  refine zx_iconst C (0 : Int32) dX9_init_542 (by decide) ?_
  refine zx_iconst C (0 : Int32) dX9_init_543 (by decide) ?_
  refine zx_callS C hG hA (na := 7) (av := [.int 99, .int 114, .int 105, .int 101, .int 115, .int 0, .int 0]) (c_X9_word hG (zk_word 99 114 105 101 115 0 0 _)) (x_tb (i := 1190) (by decide +kernel) rfl) (x_tb (i := 1191) (by decide +kernel) rfl) (x_tb (i := 111) (by decide +kernel) rfl) (x_tb (i := 1192) (by decide +kernel) rfl) (by decide +kernel) rfl ⟨Nat.le_of_ble_eq_true rfl, Nat.le_of_ble_eq_true rfl⟩ ⟨rfl, rfl⟩ ⟨Nat.le_of_ble_eq_true rfl, Nat.le_of_ble_eq_true rfl⟩ rfl (Nat.le_of_ble_eq_true rfl) dX9_init_544 ?_
  refine zx_last C hG hA (o := 7) (by decide +kernel) (by decide +kernel) dX9_init_547 ?_
  refine zx_aload C 0 dX9_init_548 rfl ?_
  refine zx_getR C hG (o := 0) (ci := 9) (k := 9) (j := 7) (by decide +kernel) (by decide) rfl x_in9 (by decide) (by decide) rfl rfl (x_tb (i := 1217) (by decide +kernel) rfl) (by decide +kernel) dX9_init_549 ?_
  refine zx_bipush C (8 : Int32) dX9_init_552 (by decide) ?_
  refine zx_bipush C (115 : Int32) dX9_init_554 (by decide) ?_
  refine zx_bipush C (108 : Int32) dX9_init_556 (by decide) ?_
  refine zx_bipush C (101 : Int32) dX9_init_558 (by decide) ?_
  refine zx_bipush C (101 : Int32) dX9_init_560 (by decide) ?_
  refine zx_bipush C (112 : Int32) dX9_init_562 (by decide) ?_
  refine zx_bipush C (115 : Int32) dX9_init_564 (by decide) ?_
  refine zx_iconst C (0 : Int32) dX9_init_566 (by decide) ?_
  refine zx_callS C hG hA (na := 7) (av := [.int 115, .int 108, .int 101, .int 101, .int 112, .int 115, .int 0]) (c_X9_word hG (zk_word 115 108 101 101 112 115 0 _)) (x_tb (i := 1190) (by decide +kernel) rfl) (x_tb (i := 1191) (by decide +kernel) rfl) (x_tb (i := 111) (by decide +kernel) rfl) (x_tb (i := 1192) (by decide +kernel) rfl) (by decide +kernel) rfl ⟨Nat.le_of_ble_eq_true rfl, Nat.le_of_ble_eq_true rfl⟩ ⟨rfl, rfl⟩ ⟨Nat.le_of_ble_eq_true rfl, Nat.le_of_ble_eq_true rfl⟩ rfl (Nat.le_of_ble_eq_true rfl) dX9_init_567 ?_
  refine zx_last C hG hA (o := 7) (by decide +kernel) (by decide +kernel) dX9_init_570 ?_
  refine zx_aload C 0 dX9_init_571 rfl ?_
  refine zx_getR C hG (o := 0) (ci := 9) (k := 9) (j := 7) (by decide +kernel) (by decide) rfl x_in9 (by decide) (by decide) rfl rfl (x_tb (i := 1217) (by decide +kernel) rfl) (by decide +kernel) dX9_init_572 ?_
  refine zx_bipush C (9 : Int32) dX9_init_575 (by decide) ?_
  refine zx_bipush C (115 : Int32) dX9_init_577 (by decide) ?_
  refine zx_bipush C (112 : Int32) dX9_init_579 (by decide) ?_
  refine zx_bipush C (105 : Int32) dX9_init_581 (by decide) ?_
  refine zx_bipush C (116 : Int32) dX9_init_583 (by decide) ?_
  refine zx_bipush C (115 : Int32) dX9_init_585 (by decide) ?_
  refine zx_iconst C (0 : Int32) dX9_init_587 (by decide) ?_
  refine zx_iconst C (0 : Int32) dX9_init_588 (by decide) ?_
  refine zx_callS C hG hA (na := 7) (av := [.int 115, .int 112, .int 105, .int 116, .int 115, .int 0, .int 0]) (c_X9_word hG (zk_word 115 112 105 116 115 0 0 _)) (x_tb (i := 1190) (by decide +kernel) rfl) (x_tb (i := 1191) (by decide +kernel) rfl) (x_tb (i := 111) (by decide +kernel) rfl) (x_tb (i := 1192) (by decide +kernel) rfl) (by decide +kernel) rfl ⟨Nat.le_of_ble_eq_true rfl, Nat.le_of_ble_eq_true rfl⟩ ⟨rfl, rfl⟩ ⟨Nat.le_of_ble_eq_true rfl, Nat.le_of_ble_eq_true rfl⟩ rfl (Nat.le_of_ble_eq_true rfl) dX9_init_589 ?_
  refine zx_last C hG hA (o := 7) (by decide +kernel) (by decide +kernel) dX9_init_592 ?_
  exact kx
set_option maxHeartbeats 4000000 in
set_option maxRecDepth 100000 in
theorem zt_K3 {p : Program} {e : Env} {s : State} {m : MethodId} {args : Array Value} {below : List Frame} {meth : Method} {c : Code} {Q : State → Prop} {ad : Nat → Nat} {σ : x_Hp} (C : zw_C p s m args meth c cX9_init 1 yX9_init.cls D iC b0 Z) (hG : x_OK TM (D, iC, ad, Z)) (hA : ∀ q, x_A TM (D, iC, ad, Z) q → b0 ≤ q) (kx : zx_W p l e rm_zM s m args below meth c Q TM (D, iC, ad, Z) b0 1 698 [(0, .ref (ad 0))] [] (x_pL (x_pL (x_pL (x_pL (x_pL σ 7 (x_ix (10 : Int32)) (zk_w 102 114 101 115 104 0 0)) 7 (x_ix (11 : Int32)) (zk_w 102 101 101 100 115 0 0)) 7 (x_ix (12 : Int32)) (zk_w 115 101 101 100 0 0 0)) 7 (x_ix (13 : Int32)) (zk_w 105 102 0 0 0 0 0)) 7 (x_ix (14 : Int32)) (zk_w 116 104 101 110 0 0 0)) 44 12961) : zx_W p l e rm_zM s m args below meth c Q TM (D, iC, ad, Z) b0 1 593 [(0, .ref (ad 0))] [] σ 44 12961 := by
  refine zx_aload C 0 dX9_init_593 rfl ?_
  refine zx_getR C hG (o := 0) (ci := 9) (k := 9) (j := 7) (by decide +kernel) (by decide) rfl x_in9 (by decide) (by decide) rfl rfl (x_tb (i := 1217) (by decide +kernel) rfl) (by decide +kernel) dX9_init_594 ?_
  refine zx_bipush C (10 : Int32) dX9_init_597 (by decide) ?_
  refine zx_bipush C (102 : Int32) dX9_init_599 (by decide) ?_
  refine zx_bipush C (114 : Int32) dX9_init_601 (by decide) ?_
  refine zx_bipush C (101 : Int32) dX9_init_603 (by decide) ?_
  refine zx_bipush C (115 : Int32) dX9_init_605 (by decide) ?_
  refine zx_bipush C (104 : Int32) dX9_init_607 (by decide) ?_
  refine zx_iconst C (0 : Int32) dX9_init_609 (by decide) ?_
  refine zx_iconst C (0 : Int32) dX9_init_610 (by decide) ?_
  refine zx_callS C hG hA (na := 7) (av := [.int 102, .int 114, .int 101, .int 115, .int 104, .int 0, .int 0]) (c_X9_word hG (zk_word 102 114 101 115 104 0 0 _)) (x_tb (i := 1190) (by decide +kernel) rfl) (x_tb (i := 1191) (by decide +kernel) rfl) (x_tb (i := 111) (by decide +kernel) rfl) (x_tb (i := 1192) (by decide +kernel) rfl) (by decide +kernel) rfl ⟨Nat.le_of_ble_eq_true rfl, Nat.le_of_ble_eq_true rfl⟩ ⟨rfl, rfl⟩ ⟨Nat.le_of_ble_eq_true rfl, Nat.le_of_ble_eq_true rfl⟩ rfl (Nat.le_of_ble_eq_true rfl) dX9_init_611 ?_
  refine zx_last C hG hA (o := 7) (by decide +kernel) (by decide +kernel) dX9_init_614 ?_
  refine zx_aload C 0 dX9_init_615 rfl ?_
  refine zx_getR C hG (o := 0) (ci := 9) (k := 9) (j := 7) (by decide +kernel) (by decide) rfl x_in9 (by decide) (by decide) rfl rfl (x_tb (i := 1217) (by decide +kernel) rfl) (by decide +kernel) dX9_init_616 ?_
  refine zx_bipush C (11 : Int32) dX9_init_619 (by decide) ?_
  refine zx_bipush C (102 : Int32) dX9_init_621 (by decide) ?_
  refine zx_bipush C (101 : Int32) dX9_init_623 (by decide) ?_
  refine zx_bipush C (101 : Int32) dX9_init_625 (by decide) ?_
  refine zx_bipush C (100 : Int32) dX9_init_627 (by decide) ?_
  refine zx_bipush C (115 : Int32) dX9_init_629 (by decide) ?_
  refine zx_iconst C (0 : Int32) dX9_init_631 (by decide) ?_
  refine zx_iconst C (0 : Int32) dX9_init_632 (by decide) ?_
  refine zx_callS C hG hA (na := 7) (av := [.int 102, .int 101, .int 101, .int 100, .int 115, .int 0, .int 0]) (c_X9_word hG (zk_word 102 101 101 100 115 0 0 _)) (x_tb (i := 1190) (by decide +kernel) rfl) (x_tb (i := 1191) (by decide +kernel) rfl) (x_tb (i := 111) (by decide +kernel) rfl) (x_tb (i := 1192) (by decide +kernel) rfl) (by decide +kernel) rfl ⟨Nat.le_of_ble_eq_true rfl, Nat.le_of_ble_eq_true rfl⟩ ⟨rfl, rfl⟩ ⟨Nat.le_of_ble_eq_true rfl, Nat.le_of_ble_eq_true rfl⟩ rfl (Nat.le_of_ble_eq_true rfl) dX9_init_633 ?_
  refine zx_last C hG hA (o := 7) (by decide +kernel) (by decide +kernel) dX9_init_636 ?_
  refine zx_aload C 0 dX9_init_637 rfl ?_
  refine zx_getR C hG (o := 0) (ci := 9) (k := 9) (j := 7) (by decide +kernel) (by decide) rfl x_in9 (by decide) (by decide) rfl rfl (x_tb (i := 1217) (by decide +kernel) rfl) (by decide +kernel) dX9_init_638 ?_
  refine zx_bipush C (12 : Int32) dX9_init_641 (by decide) ?_
  refine zx_bipush C (115 : Int32) dX9_init_643 (by decide) ?_
  refine zx_bipush C (101 : Int32) dX9_init_645 (by decide) ?_
  refine zx_bipush C (101 : Int32) dX9_init_647 (by decide) ?_
  refine zx_bipush C (100 : Int32) dX9_init_649 (by decide) ?_
  refine zx_iconst C (0 : Int32) dX9_init_651 (by decide) ?_
  refine zx_iconst C (0 : Int32) dX9_init_652 (by decide) ?_
  refine zx_iconst C (0 : Int32) dX9_init_653 (by decide) ?_
  refine zx_callS C hG hA (na := 7) (av := [.int 115, .int 101, .int 101, .int 100, .int 0, .int 0, .int 0]) (c_X9_word hG (zk_word 115 101 101 100 0 0 0 _)) (x_tb (i := 1190) (by decide +kernel) rfl) (x_tb (i := 1191) (by decide +kernel) rfl) (x_tb (i := 111) (by decide +kernel) rfl) (x_tb (i := 1192) (by decide +kernel) rfl) (by decide +kernel) rfl ⟨Nat.le_of_ble_eq_true rfl, Nat.le_of_ble_eq_true rfl⟩ ⟨rfl, rfl⟩ ⟨Nat.le_of_ble_eq_true rfl, Nat.le_of_ble_eq_true rfl⟩ rfl (Nat.le_of_ble_eq_true rfl) dX9_init_654 ?_
  refine zx_last C hG hA (o := 7) (by decide +kernel) (by decide +kernel) dX9_init_657 ?_
  refine zx_aload C 0 dX9_init_658 rfl ?_
  refine zx_getR C hG (o := 0) (ci := 9) (k := 9) (j := 7) (by decide +kernel) (by decide) rfl x_in9 (by decide) (by decide) rfl rfl (x_tb (i := 1217) (by decide +kernel) rfl) (by decide +kernel) dX9_init_659 ?_
  refine zx_bipush C (13 : Int32) dX9_init_662 (by decide) ?_
  refine zx_bipush C (105 : Int32) dX9_init_664 (by decide) ?_
  refine zx_bipush C (102 : Int32) dX9_init_666 (by decide) ?_
  refine zx_iconst C (0 : Int32) dX9_init_668 (by decide) ?_
  refine zx_iconst C (0 : Int32) dX9_init_669 (by decide) ?_
  refine zx_iconst C (0 : Int32) dX9_init_670 (by decide) ?_
  refine zx_iconst C (0 : Int32) dX9_init_671 (by decide) ?_
  refine zx_iconst C (0 : Int32) dX9_init_672 (by decide) ?_
  refine zx_callS C hG hA (na := 7) (av := [.int 105, .int 102, .int 0, .int 0, .int 0, .int 0, .int 0]) (c_X9_word hG (zk_word 105 102 0 0 0 0 0 _)) (x_tb (i := 1190) (by decide +kernel) rfl) (x_tb (i := 1191) (by decide +kernel) rfl) (x_tb (i := 111) (by decide +kernel) rfl) (x_tb (i := 1192) (by decide +kernel) rfl) (by decide +kernel) rfl ⟨Nat.le_of_ble_eq_true rfl, Nat.le_of_ble_eq_true rfl⟩ ⟨rfl, rfl⟩ ⟨Nat.le_of_ble_eq_true rfl, Nat.le_of_ble_eq_true rfl⟩ rfl (Nat.le_of_ble_eq_true rfl) dX9_init_673 ?_
  refine zx_last C hG hA (o := 7) (by decide +kernel) (by decide +kernel) dX9_init_676 ?_
  refine zx_aload C 0 dX9_init_677 rfl ?_
  refine zx_getR C hG (o := 0) (ci := 9) (k := 9) (j := 7) (by decide +kernel) (by decide) rfl x_in9 (by decide) (by decide) rfl rfl (x_tb (i := 1217) (by decide +kernel) rfl) (by decide +kernel) dX9_init_678 ?_
  refine zx_bipush C (14 : Int32) dX9_init_681 (by decide) ?_
  refine zx_bipush C (116 : Int32) dX9_init_683 (by decide) ?_
  refine zx_bipush C (104 : Int32) dX9_init_685 (by decide) ?_
  refine zx_bipush C (101 : Int32) dX9_init_687 (by decide) ?_
  refine zx_bipush C (110 : Int32) dX9_init_689 (by decide) ?_
  refine zx_iconst C (0 : Int32) dX9_init_691 (by decide) ?_
  refine zx_iconst C (0 : Int32) dX9_init_692 (by decide) ?_
  refine zx_iconst C (0 : Int32) dX9_init_693 (by decide) ?_
  refine zx_callS C hG hA (na := 7) (av := [.int 116, .int 104, .int 101, .int 110, .int 0, .int 0, .int 0]) (c_X9_word hG (zk_word 116 104 101 110 0 0 0 _)) (x_tb (i := 1190) (by decide +kernel) rfl) (x_tb (i := 1191) (by decide +kernel) rfl) (x_tb (i := 111) (by decide +kernel) rfl) (x_tb (i := 1192) (by decide +kernel) rfl) (by decide +kernel) rfl ⟨Nat.le_of_ble_eq_true rfl, Nat.le_of_ble_eq_true rfl⟩ ⟨rfl, rfl⟩ ⟨Nat.le_of_ble_eq_true rfl, Nat.le_of_ble_eq_true rfl⟩ rfl (Nat.le_of_ble_eq_true rfl) dX9_init_694 ?_
  refine zx_last C hG hA (o := 7) (by decide +kernel) (by decide +kernel) dX9_init_697 ?_
  exact kx
set_option maxHeartbeats 4000000 in
set_option maxRecDepth 100000 in
theorem zt_K4 {p : Program} {e : Env} {s : State} {m : MethodId} {args : Array Value} {below : List Frame} {meth : Method} {c : Code} {Q : State → Prop} {ad : Nat → Nat} {σ : x_Hp} (C : zw_C p s m args meth c cX9_init 1 yX9_init.cls D iC b0 Z) (hG : x_OK TM (D, iC, ad, Z)) (hA : ∀ q, x_A TM (D, iC, ad, Z) q → b0 ≤ q) (kx : zx_W p l e rm_zM s m args below meth c Q TM (D, iC, ad, Z) b0 1 808 [(0, .ref (ad 0))] [] (x_pL (x_pL (x_pL (x_pL (x_pL σ 7 (x_ix (15 : Int32)) (zk_w 101 108 115 101 0 0 0)) 7 (x_ix (16 : Int32)) (zk_w 104 117 110 103 101 114 0)) 7 (x_ix (17 : Int32)) (zk_w 116 105 114 101 100 0 0)) 7 (x_ix (18 : Int32)) (zk_w 119 111 110 100 101 114 0)) 7 (x_ix (19 : Int32)) (zk_w 119 105 110 100 0 0 0)) 44 12961) : zx_W p l e rm_zM s m args below meth c Q TM (D, iC, ad, Z) b0 1 698 [(0, .ref (ad 0))] [] σ 44 12961 := by
  refine zx_aload C 0 dX9_init_698 rfl ?_
  refine zx_getR C hG (o := 0) (ci := 9) (k := 9) (j := 7) (by decide +kernel) (by decide) rfl x_in9 (by decide) (by decide) rfl rfl (x_tb (i := 1217) (by decide +kernel) rfl) (by decide +kernel) dX9_init_699 ?_
  refine zx_bipush C (15 : Int32) dX9_init_702 (by decide) ?_
  refine zx_bipush C (101 : Int32) dX9_init_704 (by decide) ?_
  refine zx_bipush C (108 : Int32) dX9_init_706 (by decide) ?_
  refine zx_bipush C (115 : Int32) dX9_init_708 (by decide) ?_
  refine zx_bipush C (101 : Int32) dX9_init_710 (by decide) ?_
  refine zx_iconst C (0 : Int32) dX9_init_712 (by decide) ?_
  refine zx_iconst C (0 : Int32) dX9_init_713 (by decide) ?_
  refine zx_iconst C (0 : Int32) dX9_init_714 (by decide) ?_
  refine zx_callS C hG hA (na := 7) (av := [.int 101, .int 108, .int 115, .int 101, .int 0, .int 0, .int 0]) (c_X9_word hG (zk_word 101 108 115 101 0 0 0 _)) (x_tb (i := 1190) (by decide +kernel) rfl) (x_tb (i := 1191) (by decide +kernel) rfl) (x_tb (i := 111) (by decide +kernel) rfl) (x_tb (i := 1192) (by decide +kernel) rfl) (by decide +kernel) rfl ⟨Nat.le_of_ble_eq_true rfl, Nat.le_of_ble_eq_true rfl⟩ ⟨rfl, rfl⟩ ⟨Nat.le_of_ble_eq_true rfl, Nat.le_of_ble_eq_true rfl⟩ rfl (Nat.le_of_ble_eq_true rfl) dX9_init_715 ?_
  refine zx_last C hG hA (o := 7) (by decide +kernel) (by decide +kernel) dX9_init_718 ?_
  refine zx_aload C 0 dX9_init_719 rfl ?_
  refine zx_getR C hG (o := 0) (ci := 9) (k := 9) (j := 7) (by decide +kernel) (by decide) rfl x_in9 (by decide) (by decide) rfl rfl (x_tb (i := 1217) (by decide +kernel) rfl) (by decide +kernel) dX9_init_720 ?_
  refine zx_bipush C (16 : Int32) dX9_init_723 (by decide) ?_
  refine zx_bipush C (104 : Int32) dX9_init_725 (by decide) ?_
  refine zx_bipush C (117 : Int32) dX9_init_727 (by decide) ?_
  refine zx_bipush C (110 : Int32) dX9_init_729 (by decide) ?_
  refine zx_bipush C (103 : Int32) dX9_init_731 (by decide) ?_
  refine zx_bipush C (101 : Int32) dX9_init_733 (by decide) ?_
  refine zx_bipush C (114 : Int32) dX9_init_735 (by decide) ?_
  refine zx_iconst C (0 : Int32) dX9_init_737 (by decide) ?_
  refine zx_callS C hG hA (na := 7) (av := [.int 104, .int 117, .int 110, .int 103, .int 101, .int 114, .int 0]) (c_X9_word hG (zk_word 104 117 110 103 101 114 0 _)) (x_tb (i := 1190) (by decide +kernel) rfl) (x_tb (i := 1191) (by decide +kernel) rfl) (x_tb (i := 111) (by decide +kernel) rfl) (x_tb (i := 1192) (by decide +kernel) rfl) (by decide +kernel) rfl ⟨Nat.le_of_ble_eq_true rfl, Nat.le_of_ble_eq_true rfl⟩ ⟨rfl, rfl⟩ ⟨Nat.le_of_ble_eq_true rfl, Nat.le_of_ble_eq_true rfl⟩ rfl (Nat.le_of_ble_eq_true rfl) dX9_init_738 ?_
  refine zx_last C hG hA (o := 7) (by decide +kernel) (by decide +kernel) dX9_init_741 ?_
  refine zx_aload C 0 dX9_init_742 rfl ?_
  refine zx_getR C hG (o := 0) (ci := 9) (k := 9) (j := 7) (by decide +kernel) (by decide) rfl x_in9 (by decide) (by decide) rfl rfl (x_tb (i := 1217) (by decide +kernel) rfl) (by decide +kernel) dX9_init_743 ?_
  refine zx_bipush C (17 : Int32) dX9_init_746 (by decide) ?_
  refine zx_bipush C (116 : Int32) dX9_init_748 (by decide) ?_
  refine zx_bipush C (105 : Int32) dX9_init_750 (by decide) ?_
  refine zx_bipush C (114 : Int32) dX9_init_752 (by decide) ?_
  refine zx_bipush C (101 : Int32) dX9_init_754 (by decide) ?_
  refine zx_bipush C (100 : Int32) dX9_init_756 (by decide) ?_
  refine zx_iconst C (0 : Int32) dX9_init_758 (by decide) ?_
  refine zx_iconst C (0 : Int32) dX9_init_759 (by decide) ?_
  refine zx_callS C hG hA (na := 7) (av := [.int 116, .int 105, .int 114, .int 101, .int 100, .int 0, .int 0]) (c_X9_word hG (zk_word 116 105 114 101 100 0 0 _)) (x_tb (i := 1190) (by decide +kernel) rfl) (x_tb (i := 1191) (by decide +kernel) rfl) (x_tb (i := 111) (by decide +kernel) rfl) (x_tb (i := 1192) (by decide +kernel) rfl) (by decide +kernel) rfl ⟨Nat.le_of_ble_eq_true rfl, Nat.le_of_ble_eq_true rfl⟩ ⟨rfl, rfl⟩ ⟨Nat.le_of_ble_eq_true rfl, Nat.le_of_ble_eq_true rfl⟩ rfl (Nat.le_of_ble_eq_true rfl) dX9_init_760 ?_
  refine zx_last C hG hA (o := 7) (by decide +kernel) (by decide +kernel) dX9_init_763 ?_
  refine zx_aload C 0 dX9_init_764 rfl ?_
  refine zx_getR C hG (o := 0) (ci := 9) (k := 9) (j := 7) (by decide +kernel) (by decide) rfl x_in9 (by decide) (by decide) rfl rfl (x_tb (i := 1217) (by decide +kernel) rfl) (by decide +kernel) dX9_init_765 ?_
  refine zx_bipush C (18 : Int32) dX9_init_768 (by decide) ?_
  refine zx_bipush C (119 : Int32) dX9_init_770 (by decide) ?_
  refine zx_bipush C (111 : Int32) dX9_init_772 (by decide) ?_
  refine zx_bipush C (110 : Int32) dX9_init_774 (by decide) ?_
  refine zx_bipush C (100 : Int32) dX9_init_776 (by decide) ?_
  refine zx_bipush C (101 : Int32) dX9_init_778 (by decide) ?_
  refine zx_bipush C (114 : Int32) dX9_init_780 (by decide) ?_
  refine zx_iconst C (0 : Int32) dX9_init_782 (by decide) ?_
  refine zx_callS C hG hA (na := 7) (av := [.int 119, .int 111, .int 110, .int 100, .int 101, .int 114, .int 0]) (c_X9_word hG (zk_word 119 111 110 100 101 114 0 _)) (x_tb (i := 1190) (by decide +kernel) rfl) (x_tb (i := 1191) (by decide +kernel) rfl) (x_tb (i := 111) (by decide +kernel) rfl) (x_tb (i := 1192) (by decide +kernel) rfl) (by decide +kernel) rfl ⟨Nat.le_of_ble_eq_true rfl, Nat.le_of_ble_eq_true rfl⟩ ⟨rfl, rfl⟩ ⟨Nat.le_of_ble_eq_true rfl, Nat.le_of_ble_eq_true rfl⟩ rfl (Nat.le_of_ble_eq_true rfl) dX9_init_783 ?_
  refine zx_last C hG hA (o := 7) (by decide +kernel) (by decide +kernel) dX9_init_786 ?_
  refine zx_aload C 0 dX9_init_787 rfl ?_
  refine zx_getR C hG (o := 0) (ci := 9) (k := 9) (j := 7) (by decide +kernel) (by decide) rfl x_in9 (by decide) (by decide) rfl rfl (x_tb (i := 1217) (by decide +kernel) rfl) (by decide +kernel) dX9_init_788 ?_
  refine zx_bipush C (19 : Int32) dX9_init_791 (by decide) ?_
  refine zx_bipush C (119 : Int32) dX9_init_793 (by decide) ?_
  refine zx_bipush C (105 : Int32) dX9_init_795 (by decide) ?_
  refine zx_bipush C (110 : Int32) dX9_init_797 (by decide) ?_
  refine zx_bipush C (100 : Int32) dX9_init_799 (by decide) ?_
  refine zx_iconst C (0 : Int32) dX9_init_801 (by decide) ?_
  refine zx_iconst C (0 : Int32) dX9_init_802 (by decide) ?_
  refine zx_iconst C (0 : Int32) dX9_init_803 (by decide) ?_
  refine zx_callS C hG hA (na := 7) (av := [.int 119, .int 105, .int 110, .int 100, .int 0, .int 0, .int 0]) (c_X9_word hG (zk_word 119 105 110 100 0 0 0 _)) (x_tb (i := 1190) (by decide +kernel) rfl) (x_tb (i := 1191) (by decide +kernel) rfl) (x_tb (i := 111) (by decide +kernel) rfl) (x_tb (i := 1192) (by decide +kernel) rfl) (by decide +kernel) rfl ⟨Nat.le_of_ble_eq_true rfl, Nat.le_of_ble_eq_true rfl⟩ ⟨rfl, rfl⟩ ⟨Nat.le_of_ble_eq_true rfl, Nat.le_of_ble_eq_true rfl⟩ rfl (Nat.le_of_ble_eq_true rfl) dX9_init_804 ?_
  refine zx_last C hG hA (o := 7) (by decide +kernel) (by decide +kernel) dX9_init_807 ?_
  exact kx
set_option maxHeartbeats 4000000 in
set_option maxRecDepth 100000 in
theorem zt_K5 {p : Program} {e : Env} {s : State} {m : MethodId} {args : Array Value} {below : List Frame} {meth : Method} {c : Code} {Q : State → Prop} {ad : Nat → Nat} {σ : x_Hp} (C : zw_C p s m args meth c cX9_init 1 yX9_init.cls D iC b0 Z) (hG : x_OK TM (D, iC, ad, Z)) (hA : ∀ q, x_A TM (D, iC, ad, Z) q → b0 ≤ q) (kx : zx_W p l e rm_zM s m args below meth c Q TM (D, iC, ad, Z) b0 1 914 [(0, .ref (ad 0))] [] (x_pL (x_pL (x_pL (x_pL (x_pL σ 7 (x_ix (20 : Int32)) (zk_w 104 101 108 100 0 0 0)) 7 (x_ix (21 : Int32)) (zk_w 114 111 99 107 0 0 0)) 7 (x_ix (22 : Int32)) (zk_w 115 104 111 119 0 0 0)) 7 (x_ix (23 : Int32)) (zk_w 98 101 97 114 100 0 0)) 7 (x_ix (24 : Int32)) (zk_w 115 101 101 110 0 0 0)) 44 12961) : zx_W p l e rm_zM s m args below meth c Q TM (D, iC, ad, Z) b0 1 808 [(0, .ref (ad 0))] [] σ 44 12961 := by
  refine zx_aload C 0 dX9_init_808 rfl ?_
  refine zx_getR C hG (o := 0) (ci := 9) (k := 9) (j := 7) (by decide +kernel) (by decide) rfl x_in9 (by decide) (by decide) rfl rfl (x_tb (i := 1217) (by decide +kernel) rfl) (by decide +kernel) dX9_init_809 ?_
  refine zx_bipush C (20 : Int32) dX9_init_812 (by decide) ?_
  refine zx_bipush C (104 : Int32) dX9_init_814 (by decide) ?_
  refine zx_bipush C (101 : Int32) dX9_init_816 (by decide) ?_
  refine zx_bipush C (108 : Int32) dX9_init_818 (by decide) ?_
  refine zx_bipush C (100 : Int32) dX9_init_820 (by decide) ?_
  refine zx_iconst C (0 : Int32) dX9_init_822 (by decide) ?_
  refine zx_iconst C (0 : Int32) dX9_init_823 (by decide) ?_
  refine zx_iconst C (0 : Int32) dX9_init_824 (by decide) ?_
  refine zx_callS C hG hA (na := 7) (av := [.int 104, .int 101, .int 108, .int 100, .int 0, .int 0, .int 0]) (c_X9_word hG (zk_word 104 101 108 100 0 0 0 _)) (x_tb (i := 1190) (by decide +kernel) rfl) (x_tb (i := 1191) (by decide +kernel) rfl) (x_tb (i := 111) (by decide +kernel) rfl) (x_tb (i := 1192) (by decide +kernel) rfl) (by decide +kernel) rfl ⟨Nat.le_of_ble_eq_true rfl, Nat.le_of_ble_eq_true rfl⟩ ⟨rfl, rfl⟩ ⟨Nat.le_of_ble_eq_true rfl, Nat.le_of_ble_eq_true rfl⟩ rfl (Nat.le_of_ble_eq_true rfl) dX9_init_825 ?_
  refine zx_last C hG hA (o := 7) (by decide +kernel) (by decide +kernel) dX9_init_828 ?_
  refine zx_aload C 0 dX9_init_829 rfl ?_
  refine zx_getR C hG (o := 0) (ci := 9) (k := 9) (j := 7) (by decide +kernel) (by decide) rfl x_in9 (by decide) (by decide) rfl rfl (x_tb (i := 1217) (by decide +kernel) rfl) (by decide +kernel) dX9_init_830 ?_
  refine zx_bipush C (21 : Int32) dX9_init_833 (by decide) ?_
  refine zx_bipush C (114 : Int32) dX9_init_835 (by decide) ?_
  refine zx_bipush C (111 : Int32) dX9_init_837 (by decide) ?_
  refine zx_bipush C (99 : Int32) dX9_init_839 (by decide) ?_
  refine zx_bipush C (107 : Int32) dX9_init_841 (by decide) ?_
  refine zx_iconst C (0 : Int32) dX9_init_843 (by decide) ?_
  refine zx_iconst C (0 : Int32) dX9_init_844 (by decide) ?_
  refine zx_iconst C (0 : Int32) dX9_init_845 (by decide) ?_
  refine zx_callS C hG hA (na := 7) (av := [.int 114, .int 111, .int 99, .int 107, .int 0, .int 0, .int 0]) (c_X9_word hG (zk_word 114 111 99 107 0 0 0 _)) (x_tb (i := 1190) (by decide +kernel) rfl) (x_tb (i := 1191) (by decide +kernel) rfl) (x_tb (i := 111) (by decide +kernel) rfl) (x_tb (i := 1192) (by decide +kernel) rfl) (by decide +kernel) rfl ⟨Nat.le_of_ble_eq_true rfl, Nat.le_of_ble_eq_true rfl⟩ ⟨rfl, rfl⟩ ⟨Nat.le_of_ble_eq_true rfl, Nat.le_of_ble_eq_true rfl⟩ rfl (Nat.le_of_ble_eq_true rfl) dX9_init_846 ?_
  refine zx_last C hG hA (o := 7) (by decide +kernel) (by decide +kernel) dX9_init_849 ?_
  refine zx_aload C 0 dX9_init_850 rfl ?_
  refine zx_getR C hG (o := 0) (ci := 9) (k := 9) (j := 7) (by decide +kernel) (by decide) rfl x_in9 (by decide) (by decide) rfl rfl (x_tb (i := 1217) (by decide +kernel) rfl) (by decide +kernel) dX9_init_851 ?_
  refine zx_bipush C (22 : Int32) dX9_init_854 (by decide) ?_
  refine zx_bipush C (115 : Int32) dX9_init_856 (by decide) ?_
  refine zx_bipush C (104 : Int32) dX9_init_858 (by decide) ?_
  refine zx_bipush C (111 : Int32) dX9_init_860 (by decide) ?_
  refine zx_bipush C (119 : Int32) dX9_init_862 (by decide) ?_
  refine zx_iconst C (0 : Int32) dX9_init_864 (by decide) ?_
  refine zx_iconst C (0 : Int32) dX9_init_865 (by decide) ?_
  refine zx_iconst C (0 : Int32) dX9_init_866 (by decide) ?_
  refine zx_callS C hG hA (na := 7) (av := [.int 115, .int 104, .int 111, .int 119, .int 0, .int 0, .int 0]) (c_X9_word hG (zk_word 115 104 111 119 0 0 0 _)) (x_tb (i := 1190) (by decide +kernel) rfl) (x_tb (i := 1191) (by decide +kernel) rfl) (x_tb (i := 111) (by decide +kernel) rfl) (x_tb (i := 1192) (by decide +kernel) rfl) (by decide +kernel) rfl ⟨Nat.le_of_ble_eq_true rfl, Nat.le_of_ble_eq_true rfl⟩ ⟨rfl, rfl⟩ ⟨Nat.le_of_ble_eq_true rfl, Nat.le_of_ble_eq_true rfl⟩ rfl (Nat.le_of_ble_eq_true rfl) dX9_init_867 ?_
  refine zx_last C hG hA (o := 7) (by decide +kernel) (by decide +kernel) dX9_init_870 ?_
  refine zx_aload C 0 dX9_init_871 rfl ?_
  refine zx_getR C hG (o := 0) (ci := 9) (k := 9) (j := 7) (by decide +kernel) (by decide) rfl x_in9 (by decide) (by decide) rfl rfl (x_tb (i := 1217) (by decide +kernel) rfl) (by decide +kernel) dX9_init_872 ?_
  refine zx_bipush C (23 : Int32) dX9_init_875 (by decide) ?_
  refine zx_bipush C (98 : Int32) dX9_init_877 (by decide) ?_
  refine zx_bipush C (101 : Int32) dX9_init_879 (by decide) ?_
  refine zx_bipush C (97 : Int32) dX9_init_881 (by decide) ?_
  refine zx_bipush C (114 : Int32) dX9_init_883 (by decide) ?_
  refine zx_bipush C (100 : Int32) dX9_init_885 (by decide) ?_
  refine zx_iconst C (0 : Int32) dX9_init_887 (by decide) ?_
  refine zx_iconst C (0 : Int32) dX9_init_888 (by decide) ?_
  refine zx_callS C hG hA (na := 7) (av := [.int 98, .int 101, .int 97, .int 114, .int 100, .int 0, .int 0]) (c_X9_word hG (zk_word 98 101 97 114 100 0 0 _)) (x_tb (i := 1190) (by decide +kernel) rfl) (x_tb (i := 1191) (by decide +kernel) rfl) (x_tb (i := 111) (by decide +kernel) rfl) (x_tb (i := 1192) (by decide +kernel) rfl) (by decide +kernel) rfl ⟨Nat.le_of_ble_eq_true rfl, Nat.le_of_ble_eq_true rfl⟩ ⟨rfl, rfl⟩ ⟨Nat.le_of_ble_eq_true rfl, Nat.le_of_ble_eq_true rfl⟩ rfl (Nat.le_of_ble_eq_true rfl) dX9_init_889 ?_
  refine zx_last C hG hA (o := 7) (by decide +kernel) (by decide +kernel) dX9_init_892 ?_
  refine zx_aload C 0 dX9_init_893 rfl ?_
  refine zx_getR C hG (o := 0) (ci := 9) (k := 9) (j := 7) (by decide +kernel) (by decide) rfl x_in9 (by decide) (by decide) rfl rfl (x_tb (i := 1217) (by decide +kernel) rfl) (by decide +kernel) dX9_init_894 ?_
  refine zx_bipush C (24 : Int32) dX9_init_897 (by decide) ?_
  refine zx_bipush C (115 : Int32) dX9_init_899 (by decide) ?_
  refine zx_bipush C (101 : Int32) dX9_init_901 (by decide) ?_
  refine zx_bipush C (101 : Int32) dX9_init_903 (by decide) ?_
  refine zx_bipush C (110 : Int32) dX9_init_905 (by decide) ?_
  refine zx_iconst C (0 : Int32) dX9_init_907 (by decide) ?_
  refine zx_iconst C (0 : Int32) dX9_init_908 (by decide) ?_
  refine zx_iconst C (0 : Int32) dX9_init_909 (by decide) ?_
  refine zx_callS C hG hA (na := 7) (av := [.int 115, .int 101, .int 101, .int 110, .int 0, .int 0, .int 0]) (c_X9_word hG (zk_word 115 101 101 110 0 0 0 _)) (x_tb (i := 1190) (by decide +kernel) rfl) (x_tb (i := 1191) (by decide +kernel) rfl) (x_tb (i := 111) (by decide +kernel) rfl) (x_tb (i := 1192) (by decide +kernel) rfl) (by decide +kernel) rfl ⟨Nat.le_of_ble_eq_true rfl, Nat.le_of_ble_eq_true rfl⟩ ⟨rfl, rfl⟩ ⟨Nat.le_of_ble_eq_true rfl, Nat.le_of_ble_eq_true rfl⟩ rfl (Nat.le_of_ble_eq_true rfl) dX9_init_910 ?_
  refine zx_last C hG hA (o := 7) (by decide +kernel) (by decide +kernel) dX9_init_913 ?_
  exact kx
set_option maxHeartbeats 4000000 in
set_option maxRecDepth 100000 in
theorem zx_Mo (hZ : zw_OK b0 Z) {μ1 μ2 μ3 : x_Hp} (h1 : F_X9_plain (0 : Int32) zs_M = some ((), μ1)) (h2 : F_X9_begins (zk_put μ1) = some ((), μ2)) (h3 : F_X9_keepsRow μ2 = some ((), μ3)) : zx_M l D iC TM b0 Z yX9_init cX9_init 1 rm_zM 44 12961 μ3 := by
  refine zx_M.of hZ (by decide) rfl (by decide) (fun ad0 p e s m args below meth c C => ?_)
  refine zt_M1 C ?_
  refine zt_M2 C ?_
  refine zt_M3 C ?_
  refine zt_M4 C ?_
  refine zt_M5 C ?_
  refine zt_M6 C ?_
  intro ad H locs ls he hn hcl hl hP hD hS
  obtain ⟨hG, hb⟩ := zx_OK (T := TM) (D := D) zk_TM hZ hD
  have hPW := zx_PW (T := TM) (Z := Z) (rq := zr_M) (σ := zs_M) zk_RM hP
  have hA : ∀ q, x_A TM (D, iC, ad, Z) q → b0 ≤ q := fun q ⟨o, ho, eq⟩ => by rw [eq]; exact hb o ho
  have go2 : zx_W p l e rm_zM s m args below meth c (MQ below (zx_Q TM D iC Z b0 ad0 μ3) args s 44 12961 (zw_A b0)) TM (D, iC, ad, Z) b0 1 914 [(0, .ref (ad 0))] [] (zk_put μ1) 44 12961 := by
    refine zx_aload C 0 dX9_init_914 rfl ?_
    refine zx_callV C hG hA (na := 0) (o := 0) (ci := 9) (q := (RX9, TX9, 73)) (c_X9_begins hG h2) (by decide +kernel) (by decide) rfl (x_tb (i := 1197) (by decide +kernel) rfl) (x_tb (i := 1199) (by decide +kernel) rfl) (x_tb (i := 47) (by decide +kernel) rfl) (x_tb (i := 111) (by decide +kernel) rfl) (x_tb (i := 1200) (by decide +kernel) rfl) (by decide +kernel) rfl ⟨Nat.le_of_ble_eq_true rfl, Nat.le_of_ble_eq_true rfl⟩ ⟨rfl, rfl⟩ ⟨Nat.le_of_ble_eq_true rfl, Nat.le_of_ble_eq_true rfl⟩ rfl (Nat.le_of_ble_eq_true rfl) dX9_init_915 ?_
    refine zx_aload C 0 dX9_init_918 rfl ?_
    refine zx_callV C hG hA (na := 0) (o := 0) (ci := 9) (q := (RX9, TX9, 73)) (c_X9_keepsRow hG h3) (by decide +kernel) (by decide) rfl (x_tb (i := 1205) (by decide +kernel) rfl) (x_tb (i := 1207) (by decide +kernel) rfl) (x_tb (i := 49) (by decide +kernel) rfl) (x_tb (i := 111) (by decide +kernel) rfl) (x_tb (i := 1208) (by decide +kernel) rfl) (by decide +kernel) rfl ⟨Nat.le_of_ble_eq_true rfl, Nat.le_of_ble_eq_true rfl⟩ ⟨rfl, rfl⟩ ⟨Nat.le_of_ble_eq_true rfl, Nat.le_of_ble_eq_true rfl⟩ rfl (Nat.le_of_ble_eq_true rfl) dX9_init_919 ?_
    exact zx_vret C hG (he 0 (by omega)) hb dX9_init_922
  have go : zx_W p l e rm_zM s m args below meth c (MQ below (zx_Q TM D iC Z b0 ad0 μ3) args s 44 12961 (zw_A b0)) TM (D, iC, ad, Z) b0 1 372 [(0, .ref (ad 0))] [] zs_M 44 12961 := by
    refine zx_aload C 0 dX9_init_372 rfl ?_
    refine zx_iconst C (0 : Int32) dX9_init_373 (by decide) ?_
    refine zx_callV C hG hA (na := 1) (o := 0) (ci := 9) (q := (RX9, TX9, 73)) (av := [.int 0]) (c_X9_plain hG h1) (by decide +kernel) (by decide) rfl (x_tb (i := 1186) (by decide +kernel) rfl) (x_tb (i := 1188) (by decide +kernel) rfl) (x_tb (i := 46) (by decide +kernel) rfl) (x_tb (i := 111) (by decide +kernel) rfl) (x_tb (i := 1189) (by decide +kernel) rfl) (by decide +kernel) rfl ⟨Nat.le_of_ble_eq_true rfl, Nat.le_of_ble_eq_true rfl⟩ ⟨rfl, rfl⟩ ⟨Nat.le_of_ble_eq_true rfl, Nat.le_of_ble_eq_true rfl⟩ rfl (Nat.le_of_ble_eq_true rfl) dX9_init_374 ?_
    refine zt_K1 C hG hA ?_
    refine zt_K2 C hG hA ?_
    refine zt_K3 C hG hA ?_
    refine zt_K4 C hG hA ?_
    refine zt_K5 C hG hA ?_
    exact go2
  exact go H locs ls hl hPW hS
theorem zk_keys : ∀ r, r < 25 → ([zk_w 98 97 98 121 0 0 0, zk_w 97 117 110 116 0 0 0, zk_w 115 105 116 115 0 0 0, zk_w 104 117 110 103 101 114 115, zk_w 116 105 114 101 115 0 0, zk_w 119 111 110 100 101 114 115, zk_w 119 105 110 100 115 0 0, zk_w 99 114 105 101 115 0 0, zk_w 115 108 101 101 112 115 0, zk_w 115 112 105 116 115 0 0, zk_w 102 114 101 115 104 0 0, zk_w 102 101 101 100 115 0 0, zk_w 115 101 101 100 0 0 0, zk_w 105 102 0 0 0 0 0, zk_w 116 104 101 110 0 0 0, zk_w 101 108 115 101 0 0 0, zk_w 104 117 110 103 101 114 0, zk_w 116 105 114 101 100 0 0, zk_w 119 111 110 100 101 114 0, zk_w 119 105 110 100 0 0 0, zk_w 104 101 108 100 0 0 0, zk_w 114 111 99 107 0 0 0, zk_w 115 104 111 119 0 0 0, zk_w 98 101 97 114 100 0 0, zk_w 115 101 101 110 0 0 0] : List Int64).getD r 0 = lN (n_kv (n_wr.getD r 0)) := by decide +kernel
end ZI3
