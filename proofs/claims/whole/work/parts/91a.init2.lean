/-! THE TWO CONSTRUCTORS, WHOLE -/
theorem zk_TX : ∀ o, x_kd TX o < 16 ↔ o < TX.1 := fun o => ⟨fun h => TX_lt rfl h, fun h => of_decide_eq_true (List.all_eq_true.mp (show (List.range TX.1).all (fun o => decide (x_kd TX o < 16)) = true by decide +kernel) o (List.mem_range.mpr h))⟩
theorem zk_TM : ∀ o, x_kd TM o < 16 ↔ o < TM.1 := fun o => ⟨fun h => TM_lt rfl h, fun h => of_decide_eq_true (List.all_eq_true.mp (show (List.range TM.1).all (fun o => decide (x_kd TM o < 16)) = true by decide +kernel) o (List.mem_range.mpr h))⟩
theorem zk_RX : ∀ o, o < TX.1 → zx_ok TX zr_X o = true := fun o h => List.all_eq_true.mp (show (List.range TX.1).all (zx_ok TX zr_X) = true by decide +kernel) o (List.mem_range.mpr h)
def zk_ap (y : Int64) (x : Int32) : Int64 := if x = 0 then y else ((27 : Int64) * y) + (((x - (97 : Int32)) + (1 : Int32)).toInt64)
def zk_w (a b c d e f g : Int32) : Int64 := zk_ap (zk_ap (zk_ap (zk_ap (zk_ap (zk_ap (zk_ap 0 a) b) c) d) e) f) g
theorem zk_app (y : Int64) (x : Int32) (σ : x_Hp) : F_X9_appends y x σ = some (zk_ap y x, σ) := by
  rw [F_X9_appends, zk_ap]
  split <;> rfl
theorem zk_word (a b c d e f g : Int32) (σ : x_Hp) : F_X9_word a b c d e f g σ = some (zk_w a b c d e f g, σ) := by
  rw [F_X9_word, zk_app, x_b_s, zk_app, x_b_s, zk_app, x_b_s, zk_app, x_b_s, zk_app, x_b_s, zk_app, x_b_s, zk_app, x_b_s]
  rfl
section ZI2
variable {l : Launch} {D : va_G} {iC : Nat → ClassId} {b0 : Nat} {Z : State → Prop}
abbrev rm_zX : Room := { frames := 4, cells := 176, slots := 9676, locals := 84 }
set_option maxHeartbeats 4000000 in
set_option maxRecDepth 100000 in
theorem zx_X (hZ : zw_OK b0 Z) {τ1 τ2 : x_Hp} (h1 : F_X6_begin 1 zs_X = some ((), τ1)) (h2 : F_X0_begin 34 35 τ1 = some ((), τ2)) : zx_M l D iC TX b0 Z yX8_init cX8_init 2 rm_zX 176 9676 τ2 := by
  refine zx_M.of hZ (by decide) rfl (by decide) (fun ad0 p e s m args below meth c C => ?_)
  refine zt_X hZ C ⟨Nat.le_of_ble_eq_true rfl, Nat.le_of_ble_eq_true rfl⟩ ⟨Nat.le_of_ble_eq_true rfl, Nat.le_of_ble_eq_true rfl⟩ ?_
  intro ad H locs ls he hn hcl hl hP hD hS
  obtain ⟨hG, hb⟩ := zx_OK (T := TX) (D := D) zk_TX hZ hD
  have hPW := zx_PW (T := TX) (Z := Z) zk_RX hP
  have hA : ∀ q, x_A TX (D, iC, ad, Z) q → b0 ≤ q := fun q ⟨o, ho, eq⟩ => by rw [eq]; exact hb o ho
  have go : zx_W p l e rm_zX s m args below meth c (MQ below (zx_Q TX D iC Z b0 ad0 τ2) args s 176 9676 (zw_A b0)) TX (D, iC, ad, Z) b0 2 170 [(1, .int (nI 3)), (0, .ref (ad 0))] [] zs_X 176 9676 := by
    refine zx_aload C 1 dX8_init_170 rfl ?_
    refine zx_getR C hG (o := 0) (ci := 8) (k := 0) (j := 1) (by decide +kernel) (by decide) rfl x_in8 (by decide) (by decide) rfl rfl (x_tb (i := 543) (by decide +kernel) rfl) (by decide +kernel) dX8_init_171 ?_
    refine zx_callV C hG hA (na := 0) (o := 1) (ci := 6) (q := (RX6, TX6, 15)) (c_X6_begin hG (o := 1) (by decide +kernel) h1) (by decide +kernel) (by decide) rfl (x_tb (i := 505) (by decide +kernel) rfl) (x_tb (i := 506) (by decide +kernel) rfl) (x_tb (i := 507) (by decide +kernel) rfl) (x_tb (i := 103) (by decide +kernel) rfl) (x_tb (i := 508) (by decide +kernel) rfl) (by decide +kernel) rfl ⟨Nat.le_of_ble_eq_true rfl, Nat.le_of_ble_eq_true rfl⟩ ⟨rfl, rfl⟩ ⟨Nat.le_of_ble_eq_true rfl, Nat.le_of_ble_eq_true rfl⟩ rfl (Nat.le_of_ble_eq_true rfl) dX8_init_174 ?_
    refine zx_aload C 1 dX8_init_177 rfl ?_
    refine zx_getR C hG (o := 0) (ci := 8) (k := 2) (j := 34) (by decide +kernel) (by decide) rfl x_in8 (by decide) (by decide) rfl rfl (x_tb (i := 545) (by decide +kernel) rfl) (by decide +kernel) dX8_init_178 ?_
    refine zx_aload C 1 dX8_init_181 rfl ?_
    refine zx_getR C hG (o := 0) (ci := 8) (k := 3) (j := 35) (by decide +kernel) (by decide) rfl x_in8 (by decide) (by decide) rfl rfl (x_tb (i := 546) (by decide +kernel) rfl) (by decide +kernel) dX8_init_182 ?_
    refine zx_callV C hG hA (na := 1) (o := 34) (ci := 0) (q := (RX0, TX0, 1)) (av := [.ref (ad 35)]) (c_X0_begin hG (o := 34) (r1 := 35) (by decide +kernel) (by decide +kernel) h2) (by decide +kernel) (by decide) rfl (x_tb (i := 532) (by decide +kernel) rfl) (x_tb (i := 533) (by decide +kernel) rfl) (x_tb (i := 534) (by decide +kernel) rfl) (x_tb (i := 106) (by decide +kernel) rfl) (x_tb (i := 535) (by decide +kernel) rfl) (by decide +kernel) rfl ⟨Nat.le_of_ble_eq_true rfl, Nat.le_of_ble_eq_true rfl⟩ ⟨rfl, rfl⟩ ⟨Nat.le_of_ble_eq_true rfl, Nat.le_of_ble_eq_true rfl⟩ rfl (Nat.le_of_ble_eq_true rfl) dX8_init_185 ?_
    exact zx_vret C hG (he 0 (by omega)) hb dX8_init_188
  exact go H locs ls hl hPW hS
def zr_M1 : zw_R := (zw_u (zw_u (zw_u (zw_u (zw_u (zw_u (zw_u zq_0 0 1 1) 0 3 2) 0 5 3) 0 6 4) 0 7 5) 0 8 6) 0 9 7)
def zr_M2 : zw_R := (zw_u (zw_u (zw_u (zw_u (zw_u (zw_u (zw_u zr_M1 0 21 8) 0 22 9) 0 23 10) 0 24 11) 0 25 12) 0 26 13) 0 27 14)
def zr_M3 : zw_R := (zw_u (zw_u (zw_u (zw_u (zw_u (zw_u (zw_u (zw_u zr_M2 0 28 15) 0 29 16) 0 30 17) 0 31 18) 0 32 19) 0 33 20) 0 35 21) 0 36 22)
def zr_M4 : zw_R := (zw_u (zw_u (zw_u (zw_u (zw_u (zw_u (zw_u (zw_u zr_M3 0 37 23) 0 38 24) 0 39 25) 0 41 26) 0 42 27) 0 43 28) 0 45 29) 0 46 30)
def zr_M5 : zw_R := (zw_u (zw_u (zw_u (zw_u (zw_u (zw_u (zw_u (zw_u zr_M4 0 48 31) 0 49 32) 0 53 33) 0 55 34) 0 58 35) 0 59 36) 0 60 37) 0 62 38)
def zr_M : zw_R := (zw_u (zw_u (zw_u (zw_u (zw_u (zw_u zr_M5 0 64 39) 0 67 40) 0 69 41) 0 70 42) 0 71 43) 0 72 44)
def zs_M : x_Hp := (x_pI zs_0 0 17 (-1))
def zk_put (μ1 : x_Hp) : x_Hp := (x_pL (x_pL (x_pL (x_pL (x_pL (x_pL (x_pL (x_pL (x_pL (x_pL (x_pL (x_pL (x_pL (x_pL (x_pL (x_pL (x_pL (x_pL (x_pL (x_pL (x_pL (x_pL (x_pL (x_pL (x_pL μ1 7 (x_ix (0 : Int32)) (zk_w 98 97 98 121 0 0 0)) 7 (x_ix (1 : Int32)) (zk_w 97 117 110 116 0 0 0)) 7 (x_ix (2 : Int32)) (zk_w 115 105 116 115 0 0 0)) 7 (x_ix (3 : Int32)) (zk_w 104 117 110 103 101 114 115)) 7 (x_ix (4 : Int32)) (zk_w 116 105 114 101 115 0 0)) 7 (x_ix (5 : Int32)) (zk_w 119 111 110 100 101 114 115)) 7 (x_ix (6 : Int32)) (zk_w 119 105 110 100 115 0 0)) 7 (x_ix (7 : Int32)) (zk_w 99 114 105 101 115 0 0)) 7 (x_ix (8 : Int32)) (zk_w 115 108 101 101 112 115 0)) 7 (x_ix (9 : Int32)) (zk_w 115 112 105 116 115 0 0)) 7 (x_ix (10 : Int32)) (zk_w 102 114 101 115 104 0 0)) 7 (x_ix (11 : Int32)) (zk_w 102 101 101 100 115 0 0)) 7 (x_ix (12 : Int32)) (zk_w 115 101 101 100 0 0 0)) 7 (x_ix (13 : Int32)) (zk_w 105 102 0 0 0 0 0)) 7 (x_ix (14 : Int32)) (zk_w 116 104 101 110 0 0 0)) 7 (x_ix (15 : Int32)) (zk_w 101 108 115 101 0 0 0)) 7 (x_ix (16 : Int32)) (zk_w 104 117 110 103 101 114 0)) 7 (x_ix (17 : Int32)) (zk_w 116 105 114 101 100 0 0)) 7 (x_ix (18 : Int32)) (zk_w 119 111 110 100 101 114 0)) 7 (x_ix (19 : Int32)) (zk_w 119 105 110 100 0 0 0)) 7 (x_ix (20 : Int32)) (zk_w 104 101 108 100 0 0 0)) 7 (x_ix (21 : Int32)) (zk_w 114 111 99 107 0 0 0)) 7 (x_ix (22 : Int32)) (zk_w 115 104 111 119 0 0 0)) 7 (x_ix (23 : Int32)) (zk_w 98 101 97 114 100 0 0)) 7 (x_ix (24 : Int32)) (zk_w 115 101 101 110 0 0 0))
abbrev rm_zM : Room := { frames := 2, cells := 44, slots := 12961, locals := 48 }
theorem zk_RM : ∀ o, o < TM.1 → zx_ok TM zr_M o = true := fun o h => List.all_eq_true.mp (show (List.range TM.1).all (zx_ok TM zr_M) = true by decide +kernel) o (List.mem_range.mpr h)
set_option maxHeartbeats 4000000 in
set_option maxRecDepth 100000 in
theorem zt_M1 {p : Program} {e : Env} {s : State} {m : MethodId} {args : Array Value} {below : List Frame} {meth : Method} {c : Code} {Q : State → Prop} {ad0 : Nat → Nat} (C : zw_C p s m args meth c cX9_init 1 yX9_init.cls D iC b0 Z) (kx : zw_W p l e rm_zM s m args below meth c Q D iC TM b0 1 ad0 1 66 [(0, .inl (some 0))] [] 8 zr_M1 zs_0 7 5637) : zw_W p l e rm_zM s m args below meth c Q D iC TM b0 1 ad0 1 0 [(0, .inl (some 0))] [] 1 zq_0 zs_0 0 0 := by
  refine zw_aload C 0 dX9_init_0 rfl ?_
  refine zw_obj C (x_tb (i := 1185) (by decide +kernel) rfl) (x_tb (i := 123) (by decide +kernel) rfl) (x_tb (i := 124) (by decide +kernel) rfl) ⟨Nat.le_of_ble_eq_true rfl, Nat.le_of_ble_eq_true rfl⟩ dX9_init_1 ?_
  refine zw_aload C 0 dX9_init_4 rfl ?_
  refine zw_sipush C (2000 : Int32) dX9_init_5 (by decide) ?_
  refine zw_newa C (atype := .byte) (ty := .byte) (t0 := 0) (N' := 2000) (a0 := (2000, .inl (fun _ => 0))) rfl (x_tb (i := 818) (by decide +kernel) rfl) rfl (fun ad rq hc => zw_E0i (kk := 10) hc (by decide +kernel) (by decide +kernel) (by decide)) (fun _ => rfl) (by decide) (by decide) (Nat.le_of_ble_eq_true rfl) (by simp [zw_b] <;> omega) (by simp [zw_b] <;> omega) ⟨Nat.le_of_ble_eq_true rfl, Nat.le_of_ble_eq_true rfl⟩ dX9_init_8 ?_
  refine zw_putR C (ci := 9) (f := 1) tyX9 (by decide +kernel) (by decide) rfl x_in9 tyX9_ok nmX9 (by decide) (by decide) rfl rfl (x_tb (i := 1209) (by decide +kernel) rfl) rfl rfl (tyX9_ok 1 (by decide)) (fun _ => rfl) (fun _ => rfl) (by omega) (by omega) dX9_init_10 ?_
  refine zw_aload C 0 dX9_init_13 rfl ?_
  refine zw_sipush C (2000 : Int32) dX9_init_14 (by decide) ?_
  refine zw_newa C (atype := .byte) (ty := .byte) (t0 := 0) (N' := 2000) (a0 := (2000, .inl (fun _ => 0))) rfl (x_tb (i := 818) (by decide +kernel) rfl) rfl (fun ad rq hc => zw_E0i (kk := 10) hc (by decide +kernel) (by decide +kernel) (by decide)) (fun _ => rfl) (by decide) (by decide) (Nat.le_of_ble_eq_true rfl) (by simp [zw_b] <;> omega) (by simp [zw_b] <;> omega) ⟨Nat.le_of_ble_eq_true rfl, Nat.le_of_ble_eq_true rfl⟩ dX9_init_17 ?_
  refine zw_putR C (ci := 9) (f := 3) tyX9 (by decide +kernel) (by decide) rfl x_in9 tyX9_ok nmX9 (by decide) (by decide) rfl rfl (x_tb (i := 1211) (by decide +kernel) rfl) rfl rfl (tyX9_ok 3 (by decide)) (fun _ => rfl) (fun _ => rfl) (by omega) (by omega) dX9_init_19 ?_
  refine zw_aload C 0 dX9_init_22 rfl ?_
  refine zw_sipush C (403 : Int32) dX9_init_23 (by decide) ?_
  refine zw_newa C (atype := .int) (ty := .int) (t0 := 2) (N' := 403) (a0 := (403, .inl (fun _ => 0))) rfl (x_tb (i := 163) (by decide +kernel) rfl) rfl (fun ad rq hc => zw_E0i (kk := 12) hc (by decide +kernel) (by decide +kernel) (by decide)) (fun _ => rfl) (by decide) (by decide) (Nat.le_of_ble_eq_true rfl) (by simp [zw_b] <;> omega) (by simp [zw_b] <;> omega) ⟨Nat.le_of_ble_eq_true rfl, Nat.le_of_ble_eq_true rfl⟩ dX9_init_26 ?_
  refine zw_putR C (ci := 9) (f := 5) tyX9 (by decide +kernel) (by decide) rfl x_in9 tyX9_ok nmX9 (by decide) (by decide) rfl rfl (x_tb (i := 1213) (by decide +kernel) rfl) rfl rfl (tyX9_ok 5 (by decide)) (fun _ => rfl) (fun _ => rfl) (by omega) (by omega) dX9_init_28 ?_
  refine zw_aload C 0 dX9_init_31 rfl ?_
  refine zw_sipush C (403 : Int32) dX9_init_32 (by decide) ?_
  refine zw_newa C (atype := .int) (ty := .int) (t0 := 2) (N' := 403) (a0 := (403, .inl (fun _ => 0))) rfl (x_tb (i := 163) (by decide +kernel) rfl) rfl (fun ad rq hc => zw_E0i (kk := 12) hc (by decide +kernel) (by decide +kernel) (by decide)) (fun _ => rfl) (by decide) (by decide) (Nat.le_of_ble_eq_true rfl) (by simp [zw_b] <;> omega) (by simp [zw_b] <;> omega) ⟨Nat.le_of_ble_eq_true rfl, Nat.le_of_ble_eq_true rfl⟩ dX9_init_35 ?_
  refine zw_putR C (ci := 9) (f := 6) tyX9 (by decide +kernel) (by decide) rfl x_in9 tyX9_ok nmX9 (by decide) (by decide) rfl rfl (x_tb (i := 1214) (by decide +kernel) rfl) rfl rfl (tyX9_ok 6 (by decide)) (fun _ => rfl) (fun _ => rfl) (by omega) (by omega) dX9_init_37 ?_
  refine zw_aload C 0 dX9_init_40 rfl ?_
  refine zw_sipush C (403 : Int32) dX9_init_41 (by decide) ?_
  refine zw_newa C (atype := .int) (ty := .int) (t0 := 2) (N' := 403) (a0 := (403, .inl (fun _ => 0))) rfl (x_tb (i := 163) (by decide +kernel) rfl) rfl (fun ad rq hc => zw_E0i (kk := 12) hc (by decide +kernel) (by decide +kernel) (by decide)) (fun _ => rfl) (by decide) (by decide) (Nat.le_of_ble_eq_true rfl) (by simp [zw_b] <;> omega) (by simp [zw_b] <;> omega) ⟨Nat.le_of_ble_eq_true rfl, Nat.le_of_ble_eq_true rfl⟩ dX9_init_44 ?_
  refine zw_putR C (ci := 9) (f := 7) tyX9 (by decide +kernel) (by decide) rfl x_in9 tyX9_ok nmX9 (by decide) (by decide) rfl rfl (x_tb (i := 1215) (by decide +kernel) rfl) rfl rfl (tyX9_ok 7 (by decide)) (fun _ => rfl) (fun _ => rfl) (by omega) (by omega) dX9_init_46 ?_
  refine zw_aload C 0 dX9_init_49 rfl ?_
  refine zw_sipush C (403 : Int32) dX9_init_50 (by decide) ?_
  refine zw_newa C (atype := .long) (ty := .long) (t0 := 3) (N' := 403) (a0 := (403, .inr (.inl (fun _ => 0)))) rfl (x_tb (i := 162) (by decide +kernel) rfl) rfl (fun ad rq hc => zw_E0l hc (by decide +kernel) (by decide +kernel)) (fun _ => rfl) (by decide) (by decide) (Nat.le_of_ble_eq_true rfl) (by simp [zw_b] <;> omega) (by simp [zw_b] <;> omega) ⟨Nat.le_of_ble_eq_true rfl, Nat.le_of_ble_eq_true rfl⟩ dX9_init_53 ?_
  refine zw_putR C (ci := 9) (f := 8) tyX9 (by decide +kernel) (by decide) rfl x_in9 tyX9_ok nmX9 (by decide) (by decide) rfl rfl (x_tb (i := 1216) (by decide +kernel) rfl) rfl rfl (tyX9_ok 8 (by decide)) (fun _ => rfl) (fun _ => rfl) (by omega) (by omega) dX9_init_55 ?_
  refine zw_aload C 0 dX9_init_58 rfl ?_
  refine zw_bipush C (25 : Int32) dX9_init_59 (by decide) ?_
  refine zw_newa C (atype := .long) (ty := .long) (t0 := 3) (N' := 25) (a0 := (25, .inr (.inl (fun _ => 0)))) rfl (x_tb (i := 162) (by decide +kernel) rfl) rfl (fun ad rq hc => zw_E0l hc (by decide +kernel) (by decide +kernel)) (fun _ => rfl) (by decide) (by decide) (Nat.le_of_ble_eq_true rfl) (by simp [zw_b] <;> omega) (by simp [zw_b] <;> omega) ⟨Nat.le_of_ble_eq_true rfl, Nat.le_of_ble_eq_true rfl⟩ dX9_init_61 ?_
  refine zw_putR C (ci := 9) (f := 9) tyX9 (by decide +kernel) (by decide) rfl x_in9 tyX9_ok nmX9 (by decide) (by decide) rfl rfl (x_tb (i := 1217) (by decide +kernel) rfl) rfl rfl (tyX9_ok 9 (by decide)) (fun _ => rfl) (fun _ => rfl) (by omega) (by omega) dX9_init_63 ?_
  exact kx
set_option maxHeartbeats 4000000 in
set_option maxRecDepth 100000 in
theorem zt_M2 {p : Program} {e : Env} {s : State} {m : MethodId} {args : Array Value} {below : List Frame} {meth : Method} {c : Code} {Q : State → Prop} {ad0 : Nat → Nat} (C : zw_C p s m args meth c cX9_init 1 yX9_init.cls D iC b0 Z) (kx : zw_W p l e rm_zM s m args below meth c Q D iC TM b0 1 ad0 1 126 [(0, .inl (some 0))] [] 15 zr_M2 zs_M 14 5701) : zw_W p l e rm_zM s m args below meth c Q D iC TM b0 1 ad0 1 66 [(0, .inl (some 0))] [] 8 zr_M1 zs_0 7 5637 := by
  refine zw_aload C 0 dX9_init_66 rfl ?_
  refine zw_iconst C (-1 : Int32) dX9_init_67 (by decide) ?_
  refine zw_putI C (ci := 9) (f := 17) tyX9 (by decide +kernel) (by decide) rfl x_in9 tyX9_ok nmX9 (by decide) (by decide) rfl rfl (x_tb (i := 1225) (by decide +kernel) rfl) rfl (tyX9_ok 17 (by decide)) rfl rfl (by omega) dX9_init_68 ?_
  refine zw_aload C 0 dX9_init_71 rfl ?_
  refine zw_bipush C (6 : Int32) dX9_init_72 (by decide) ?_
  refine zw_newa C (atype := .long) (ty := .long) (t0 := 3) (N' := 6) (a0 := (6, .inr (.inl (fun _ => 0)))) rfl (x_tb (i := 162) (by decide +kernel) rfl) rfl (fun ad rq hc => zw_E0l hc (by decide +kernel) (by decide +kernel)) (fun _ => rfl) (by decide) (by decide) (Nat.le_of_ble_eq_true rfl) (by simp [zw_b] <;> omega) (by simp [zw_b] <;> omega) ⟨Nat.le_of_ble_eq_true rfl, Nat.le_of_ble_eq_true rfl⟩ dX9_init_74 ?_
  refine zw_putR C (ci := 9) (f := 21) tyX9 (by decide +kernel) (by decide) rfl x_in9 tyX9_ok nmX9 (by decide) (by decide) rfl rfl (x_tb (i := 1229) (by decide +kernel) rfl) rfl rfl (tyX9_ok 21 (by decide)) (fun _ => rfl) (fun _ => rfl) (by omega) (by omega) dX9_init_76 ?_
  refine zw_aload C 0 dX9_init_79 rfl ?_
  refine zw_bipush C (8 : Int32) dX9_init_80 (by decide) ?_
  refine zw_newa C (atype := .int) (ty := .int) (t0 := 2) (N' := 8) (a0 := (8, .inl (fun _ => 0))) rfl (x_tb (i := 163) (by decide +kernel) rfl) rfl (fun ad rq hc => zw_E0i (kk := 12) hc (by decide +kernel) (by decide +kernel) (by decide)) (fun _ => rfl) (by decide) (by decide) (Nat.le_of_ble_eq_true rfl) (by simp [zw_b] <;> omega) (by simp [zw_b] <;> omega) ⟨Nat.le_of_ble_eq_true rfl, Nat.le_of_ble_eq_true rfl⟩ dX9_init_82 ?_
  refine zw_putR C (ci := 9) (f := 22) tyX9 (by decide +kernel) (by decide) rfl x_in9 tyX9_ok nmX9 (by decide) (by decide) rfl rfl (x_tb (i := 1230) (by decide +kernel) rfl) rfl rfl (tyX9_ok 22 (by decide)) (fun _ => rfl) (fun _ => rfl) (by omega) (by omega) dX9_init_84 ?_
  refine zw_aload C 0 dX9_init_87 rfl ?_
  refine zw_iconst C (2 : Int32) dX9_init_88 (by decide) ?_
  refine zw_newa C (atype := .int) (ty := .int) (t0 := 2) (N' := 2) (a0 := (2, .inl (fun _ => 0))) rfl (x_tb (i := 163) (by decide +kernel) rfl) rfl (fun ad rq hc => zw_E0i (kk := 12) hc (by decide +kernel) (by decide +kernel) (by decide)) (fun _ => rfl) (by decide) (by decide) (Nat.le_of_ble_eq_true rfl) (by simp [zw_b] <;> omega) (by simp [zw_b] <;> omega) ⟨Nat.le_of_ble_eq_true rfl, Nat.le_of_ble_eq_true rfl⟩ dX9_init_89 ?_
  refine zw_putR C (ci := 9) (f := 23) tyX9 (by decide +kernel) (by decide) rfl x_in9 tyX9_ok nmX9 (by decide) (by decide) rfl rfl (x_tb (i := 1231) (by decide +kernel) rfl) rfl rfl (tyX9_ok 23 (by decide)) (fun _ => rfl) (fun _ => rfl) (by omega) (by omega) dX9_init_91 ?_
  refine zw_aload C 0 dX9_init_94 rfl ?_
  refine zw_bipush C (12 : Int32) dX9_init_95 (by decide) ?_
  refine zw_newa C (atype := .int) (ty := .int) (t0 := 2) (N' := 12) (a0 := (12, .inl (fun _ => 0))) rfl (x_tb (i := 163) (by decide +kernel) rfl) rfl (fun ad rq hc => zw_E0i (kk := 12) hc (by decide +kernel) (by decide +kernel) (by decide)) (fun _ => rfl) (by decide) (by decide) (Nat.le_of_ble_eq_true rfl) (by simp [zw_b] <;> omega) (by simp [zw_b] <;> omega) ⟨Nat.le_of_ble_eq_true rfl, Nat.le_of_ble_eq_true rfl⟩ dX9_init_97 ?_
  refine zw_putR C (ci := 9) (f := 24) tyX9 (by decide +kernel) (by decide) rfl x_in9 tyX9_ok nmX9 (by decide) (by decide) rfl rfl (x_tb (i := 1232) (by decide +kernel) rfl) rfl rfl (tyX9_ok 24 (by decide)) (fun _ => rfl) (fun _ => rfl) (by omega) (by omega) dX9_init_99 ?_
  refine zw_aload C 0 dX9_init_102 rfl ?_
  refine zw_bipush C (12 : Int32) dX9_init_103 (by decide) ?_
  refine zw_newa C (atype := .int) (ty := .int) (t0 := 2) (N' := 12) (a0 := (12, .inl (fun _ => 0))) rfl (x_tb (i := 163) (by decide +kernel) rfl) rfl (fun ad rq hc => zw_E0i (kk := 12) hc (by decide +kernel) (by decide +kernel) (by decide)) (fun _ => rfl) (by decide) (by decide) (Nat.le_of_ble_eq_true rfl) (by simp [zw_b] <;> omega) (by simp [zw_b] <;> omega) ⟨Nat.le_of_ble_eq_true rfl, Nat.le_of_ble_eq_true rfl⟩ dX9_init_105 ?_
  refine zw_putR C (ci := 9) (f := 25) tyX9 (by decide +kernel) (by decide) rfl x_in9 tyX9_ok nmX9 (by decide) (by decide) rfl rfl (x_tb (i := 1233) (by decide +kernel) rfl) rfl rfl (tyX9_ok 25 (by decide)) (fun _ => rfl) (fun _ => rfl) (by omega) (by omega) dX9_init_107 ?_
  refine zw_aload C 0 dX9_init_110 rfl ?_
  refine zw_bipush C (12 : Int32) dX9_init_111 (by decide) ?_
  refine zw_newa C (atype := .int) (ty := .int) (t0 := 2) (N' := 12) (a0 := (12, .inl (fun _ => 0))) rfl (x_tb (i := 163) (by decide +kernel) rfl) rfl (fun ad rq hc => zw_E0i (kk := 12) hc (by decide +kernel) (by decide +kernel) (by decide)) (fun _ => rfl) (by decide) (by decide) (Nat.le_of_ble_eq_true rfl) (by simp [zw_b] <;> omega) (by simp [zw_b] <;> omega) ⟨Nat.le_of_ble_eq_true rfl, Nat.le_of_ble_eq_true rfl⟩ dX9_init_113 ?_
  refine zw_putR C (ci := 9) (f := 26) tyX9 (by decide +kernel) (by decide) rfl x_in9 tyX9_ok nmX9 (by decide) (by decide) rfl rfl (x_tb (i := 1234) (by decide +kernel) rfl) rfl rfl (tyX9_ok 26 (by decide)) (fun _ => rfl) (fun _ => rfl) (by omega) (by omega) dX9_init_115 ?_
  refine zw_aload C 0 dX9_init_118 rfl ?_
  refine zw_bipush C (12 : Int32) dX9_init_119 (by decide) ?_
  refine zw_newa C (atype := .int) (ty := .int) (t0 := 2) (N' := 12) (a0 := (12, .inl (fun _ => 0))) rfl (x_tb (i := 163) (by decide +kernel) rfl) rfl (fun ad rq hc => zw_E0i (kk := 12) hc (by decide +kernel) (by decide +kernel) (by decide)) (fun _ => rfl) (by decide) (by decide) (Nat.le_of_ble_eq_true rfl) (by simp [zw_b] <;> omega) (by simp [zw_b] <;> omega) ⟨Nat.le_of_ble_eq_true rfl, Nat.le_of_ble_eq_true rfl⟩ dX9_init_121 ?_
  refine zw_putR C (ci := 9) (f := 27) tyX9 (by decide +kernel) (by decide) rfl x_in9 tyX9_ok nmX9 (by decide) (by decide) rfl rfl (x_tb (i := 1235) (by decide +kernel) rfl) rfl rfl (tyX9_ok 27 (by decide)) (fun _ => rfl) (fun _ => rfl) (by omega) (by omega) dX9_init_123 ?_
  exact kx
set_option maxHeartbeats 4000000 in
set_option maxRecDepth 100000 in
theorem zt_M3 {p : Program} {e : Env} {s : State} {m : MethodId} {args : Array Value} {below : List Frame} {meth : Method} {c : Code} {Q : State → Prop} {ad0 : Nat → Nat} (C : zw_C p s m args meth c cX9_init 1 yX9_init.cls D iC b0 Z) (kx : zw_W p l e rm_zM s m args below meth c Q D iC TM b0 1 ad0 1 189 [(0, .inl (some 0))] [] 23 zr_M3 zs_M 22 6267) : zw_W p l e rm_zM s m args below meth c Q D iC TM b0 1 ad0 1 126 [(0, .inl (some 0))] [] 15 zr_M2 zs_M 14 5701 := by
  refine zw_aload C 0 dX9_init_126 rfl ?_
  refine zw_bipush C (12 : Int32) dX9_init_127 (by decide) ?_
  refine zw_newa C (atype := .boolean) (ty := .boolean) (t0 := 4) (N' := 12) (a0 := (12, .inl (fun _ => 0))) rfl (x_tb (i := 1428) (by decide +kernel) rfl) rfl (fun ad rq hc => zw_E0i (kk := 14) hc (by decide +kernel) (by decide +kernel) (by decide)) (fun _ => rfl) (by decide) (by decide) (Nat.le_of_ble_eq_true rfl) (by simp [zw_b] <;> omega) (by simp [zw_b] <;> omega) ⟨Nat.le_of_ble_eq_true rfl, Nat.le_of_ble_eq_true rfl⟩ dX9_init_129 ?_
  refine zw_putR C (ci := 9) (f := 28) tyX9 (by decide +kernel) (by decide) rfl x_in9 tyX9_ok nmX9 (by decide) (by decide) rfl rfl (x_tb (i := 1236) (by decide +kernel) rfl) rfl rfl (tyX9_ok 28 (by decide)) (fun _ => rfl) (fun _ => rfl) (by omega) (by omega) dX9_init_131 ?_
  refine zw_aload C 0 dX9_init_134 rfl ?_
  refine zw_iconst C (2 : Int32) dX9_init_135 (by decide) ?_
  refine zw_newa C (atype := .int) (ty := .int) (t0 := 2) (N' := 2) (a0 := (2, .inl (fun _ => 0))) rfl (x_tb (i := 163) (by decide +kernel) rfl) rfl (fun ad rq hc => zw_E0i (kk := 12) hc (by decide +kernel) (by decide +kernel) (by decide)) (fun _ => rfl) (by decide) (by decide) (Nat.le_of_ble_eq_true rfl) (by simp [zw_b] <;> omega) (by simp [zw_b] <;> omega) ⟨Nat.le_of_ble_eq_true rfl, Nat.le_of_ble_eq_true rfl⟩ dX9_init_136 ?_
  refine zw_putR C (ci := 9) (f := 29) tyX9 (by decide +kernel) (by decide) rfl x_in9 tyX9_ok nmX9 (by decide) (by decide) rfl rfl (x_tb (i := 1237) (by decide +kernel) rfl) rfl rfl (tyX9_ok 29 (by decide)) (fun _ => rfl) (fun _ => rfl) (by omega) (by omega) dX9_init_138 ?_
  refine zw_aload C 0 dX9_init_141 rfl ?_
  refine zw_iconst C (2 : Int32) dX9_init_142 (by decide) ?_
  refine zw_newa C (atype := .int) (ty := .int) (t0 := 2) (N' := 2) (a0 := (2, .inl (fun _ => 0))) rfl (x_tb (i := 163) (by decide +kernel) rfl) rfl (fun ad rq hc => zw_E0i (kk := 12) hc (by decide +kernel) (by decide +kernel) (by decide)) (fun _ => rfl) (by decide) (by decide) (Nat.le_of_ble_eq_true rfl) (by simp [zw_b] <;> omega) (by simp [zw_b] <;> omega) ⟨Nat.le_of_ble_eq_true rfl, Nat.le_of_ble_eq_true rfl⟩ dX9_init_143 ?_
  refine zw_putR C (ci := 9) (f := 30) tyX9 (by decide +kernel) (by decide) rfl x_in9 tyX9_ok nmX9 (by decide) (by decide) rfl rfl (x_tb (i := 1238) (by decide +kernel) rfl) rfl rfl (tyX9_ok 30 (by decide)) (fun _ => rfl) (fun _ => rfl) (by omega) (by omega) dX9_init_145 ?_
  refine zw_aload C 0 dX9_init_148 rfl ?_
  refine zw_iconst C (2 : Int32) dX9_init_149 (by decide) ?_
  refine zw_newa C (atype := .int) (ty := .int) (t0 := 2) (N' := 2) (a0 := (2, .inl (fun _ => 0))) rfl (x_tb (i := 163) (by decide +kernel) rfl) rfl (fun ad rq hc => zw_E0i (kk := 12) hc (by decide +kernel) (by decide +kernel) (by decide)) (fun _ => rfl) (by decide) (by decide) (Nat.le_of_ble_eq_true rfl) (by simp [zw_b] <;> omega) (by simp [zw_b] <;> omega) ⟨Nat.le_of_ble_eq_true rfl, Nat.le_of_ble_eq_true rfl⟩ dX9_init_150 ?_
  refine zw_putR C (ci := 9) (f := 31) tyX9 (by decide +kernel) (by decide) rfl x_in9 tyX9_ok nmX9 (by decide) (by decide) rfl rfl (x_tb (i := 1239) (by decide +kernel) rfl) rfl rfl (tyX9_ok 31 (by decide)) (fun _ => rfl) (fun _ => rfl) (by omega) (by omega) dX9_init_152 ?_
  refine zw_aload C 0 dX9_init_155 rfl ?_
  refine zw_bipush C (14 : Int32) dX9_init_156 (by decide) ?_
  refine zw_newa C (atype := .int) (ty := .int) (t0 := 2) (N' := 14) (a0 := (14, .inl (fun _ => 0))) rfl (x_tb (i := 163) (by decide +kernel) rfl) rfl (fun ad rq hc => zw_E0i (kk := 12) hc (by decide +kernel) (by decide +kernel) (by decide)) (fun _ => rfl) (by decide) (by decide) (Nat.le_of_ble_eq_true rfl) (by simp [zw_b] <;> omega) (by simp [zw_b] <;> omega) ⟨Nat.le_of_ble_eq_true rfl, Nat.le_of_ble_eq_true rfl⟩ dX9_init_158 ?_
  refine zw_putR C (ci := 9) (f := 32) tyX9 (by decide +kernel) (by decide) rfl x_in9 tyX9_ok nmX9 (by decide) (by decide) rfl rfl (x_tb (i := 1240) (by decide +kernel) rfl) rfl rfl (tyX9_ok 32 (by decide)) (fun _ => rfl) (fun _ => rfl) (by omega) (by omega) dX9_init_160 ?_
  refine zw_aload C 0 dX9_init_163 rfl ?_
  refine zw_bipush C (14 : Int32) dX9_init_164 (by decide) ?_
  refine zw_newa C (atype := .int) (ty := .int) (t0 := 2) (N' := 14) (a0 := (14, .inl (fun _ => 0))) rfl (x_tb (i := 163) (by decide +kernel) rfl) rfl (fun ad rq hc => zw_E0i (kk := 12) hc (by decide +kernel) (by decide +kernel) (by decide)) (fun _ => rfl) (by decide) (by decide) (Nat.le_of_ble_eq_true rfl) (by simp [zw_b] <;> omega) (by simp [zw_b] <;> omega) ⟨Nat.le_of_ble_eq_true rfl, Nat.le_of_ble_eq_true rfl⟩ dX9_init_166 ?_
  refine zw_putR C (ci := 9) (f := 33) tyX9 (by decide +kernel) (by decide) rfl x_in9 tyX9_ok nmX9 (by decide) (by decide) rfl rfl (x_tb (i := 1241) (by decide +kernel) rfl) rfl rfl (tyX9_ok 33 (by decide)) (fun _ => rfl) (fun _ => rfl) (by omega) (by omega) dX9_init_168 ?_
  refine zw_aload C 0 dX9_init_171 rfl ?_
  refine zw_sipush C (260 : Int32) dX9_init_172 (by decide) ?_
  refine zw_newa C (atype := .boolean) (ty := .boolean) (t0 := 4) (N' := 260) (a0 := (260, .inl (fun _ => 0))) rfl (x_tb (i := 1428) (by decide +kernel) rfl) rfl (fun ad rq hc => zw_E0i (kk := 14) hc (by decide +kernel) (by decide +kernel) (by decide)) (fun _ => rfl) (by decide) (by decide) (Nat.le_of_ble_eq_true rfl) (by simp [zw_b] <;> omega) (by simp [zw_b] <;> omega) ⟨Nat.le_of_ble_eq_true rfl, Nat.le_of_ble_eq_true rfl⟩ dX9_init_175 ?_
  refine zw_putR C (ci := 9) (f := 35) tyX9 (by decide +kernel) (by decide) rfl x_in9 tyX9_ok nmX9 (by decide) (by decide) rfl rfl (x_tb (i := 1243) (by decide +kernel) rfl) rfl rfl (tyX9_ok 35 (by decide)) (fun _ => rfl) (fun _ => rfl) (by omega) (by omega) dX9_init_177 ?_
  refine zw_aload C 0 dX9_init_180 rfl ?_
  refine zw_sipush C (260 : Int32) dX9_init_181 (by decide) ?_
  refine zw_newa C (atype := .int) (ty := .int) (t0 := 2) (N' := 260) (a0 := (260, .inl (fun _ => 0))) rfl (x_tb (i := 163) (by decide +kernel) rfl) rfl (fun ad rq hc => zw_E0i (kk := 12) hc (by decide +kernel) (by decide +kernel) (by decide)) (fun _ => rfl) (by decide) (by decide) (Nat.le_of_ble_eq_true rfl) (by simp [zw_b] <;> omega) (by simp [zw_b] <;> omega) ⟨Nat.le_of_ble_eq_true rfl, Nat.le_of_ble_eq_true rfl⟩ dX9_init_184 ?_
  refine zw_putR C (ci := 9) (f := 36) tyX9 (by decide +kernel) (by decide) rfl x_in9 tyX9_ok nmX9 (by decide) (by decide) rfl rfl (x_tb (i := 1244) (by decide +kernel) rfl) rfl rfl (tyX9_ok 36 (by decide)) (fun _ => rfl) (fun _ => rfl) (by omega) (by omega) dX9_init_186 ?_
  exact kx
set_option maxHeartbeats 4000000 in
set_option maxRecDepth 100000 in
theorem zt_M4 {p : Program} {e : Env} {s : State} {m : MethodId} {args : Array Value} {below : List Frame} {meth : Method} {c : Code} {Q : State → Prop} {ad0 : Nat → Nat} (C : zw_C p s m args meth c cX9_init 1 yX9_init.cls D iC b0 Z) (kx : zw_W p l e rm_zM s m args below meth c Q D iC TM b0 1 ad0 1 259 [(0, .inl (some 0))] [] 31 zr_M4 zs_M 30 9200) : zw_W p l e rm_zM s m args below meth c Q D iC TM b0 1 ad0 1 189 [(0, .inl (some 0))] [] 23 zr_M3 zs_M 22 6267 := by
  refine zw_aload C 0 dX9_init_189 rfl ?_
  refine zw_sipush C (260 : Int32) dX9_init_190 (by decide) ?_
  refine zw_newa C (atype := .int) (ty := .int) (t0 := 2) (N' := 260) (a0 := (260, .inl (fun _ => 0))) rfl (x_tb (i := 163) (by decide +kernel) rfl) rfl (fun ad rq hc => zw_E0i (kk := 12) hc (by decide +kernel) (by decide +kernel) (by decide)) (fun _ => rfl) (by decide) (by decide) (Nat.le_of_ble_eq_true rfl) (by simp [zw_b] <;> omega) (by simp [zw_b] <;> omega) ⟨Nat.le_of_ble_eq_true rfl, Nat.le_of_ble_eq_true rfl⟩ dX9_init_193 ?_
  refine zw_putR C (ci := 9) (f := 37) tyX9 (by decide +kernel) (by decide) rfl x_in9 tyX9_ok nmX9 (by decide) (by decide) rfl rfl (x_tb (i := 1245) (by decide +kernel) rfl) rfl rfl (tyX9_ok 37 (by decide)) (fun _ => rfl) (fun _ => rfl) (by omega) (by omega) dX9_init_195 ?_
  refine zw_aload C 0 dX9_init_198 rfl ?_
  refine zw_sipush C (260 : Int32) dX9_init_199 (by decide) ?_
  refine zw_newa C (atype := .int) (ty := .int) (t0 := 2) (N' := 260) (a0 := (260, .inl (fun _ => 0))) rfl (x_tb (i := 163) (by decide +kernel) rfl) rfl (fun ad rq hc => zw_E0i (kk := 12) hc (by decide +kernel) (by decide +kernel) (by decide)) (fun _ => rfl) (by decide) (by decide) (Nat.le_of_ble_eq_true rfl) (by simp [zw_b] <;> omega) (by simp [zw_b] <;> omega) ⟨Nat.le_of_ble_eq_true rfl, Nat.le_of_ble_eq_true rfl⟩ dX9_init_202 ?_
  refine zw_putR C (ci := 9) (f := 38) tyX9 (by decide +kernel) (by decide) rfl x_in9 tyX9_ok nmX9 (by decide) (by decide) rfl rfl (x_tb (i := 1246) (by decide +kernel) rfl) rfl rfl (tyX9_ok 38 (by decide)) (fun _ => rfl) (fun _ => rfl) (by omega) (by omega) dX9_init_204 ?_
  refine zw_aload C 0 dX9_init_207 rfl ?_
  refine zw_sipush C (260 : Int32) dX9_init_208 (by decide) ?_
  refine zw_newa C (atype := .int) (ty := .int) (t0 := 2) (N' := 260) (a0 := (260, .inl (fun _ => 0))) rfl (x_tb (i := 163) (by decide +kernel) rfl) rfl (fun ad rq hc => zw_E0i (kk := 12) hc (by decide +kernel) (by decide +kernel) (by decide)) (fun _ => rfl) (by decide) (by decide) (Nat.le_of_ble_eq_true rfl) (by simp [zw_b] <;> omega) (by simp [zw_b] <;> omega) ⟨Nat.le_of_ble_eq_true rfl, Nat.le_of_ble_eq_true rfl⟩ dX9_init_211 ?_
  refine zw_putR C (ci := 9) (f := 39) tyX9 (by decide +kernel) (by decide) rfl x_in9 tyX9_ok nmX9 (by decide) (by decide) rfl rfl (x_tb (i := 1247) (by decide +kernel) rfl) rfl rfl (tyX9_ok 39 (by decide)) (fun _ => rfl) (fun _ => rfl) (by omega) (by omega) dX9_init_213 ?_
  refine zw_aload C 0 dX9_init_216 rfl ?_
  refine zw_sipush C (840 : Int32) dX9_init_217 (by decide) ?_
  refine zw_newa C (atype := .int) (ty := .int) (t0 := 2) (N' := 840) (a0 := (840, .inl (fun _ => 0))) rfl (x_tb (i := 163) (by decide +kernel) rfl) rfl (fun ad rq hc => zw_E0i (kk := 12) hc (by decide +kernel) (by decide +kernel) (by decide)) (fun _ => rfl) (by decide) (by decide) (Nat.le_of_ble_eq_true rfl) (by simp [zw_b] <;> omega) (by simp [zw_b] <;> omega) ⟨Nat.le_of_ble_eq_true rfl, Nat.le_of_ble_eq_true rfl⟩ dX9_init_220 ?_
  refine zw_putR C (ci := 9) (f := 41) tyX9 (by decide +kernel) (by decide) rfl x_in9 tyX9_ok nmX9 (by decide) (by decide) rfl rfl (x_tb (i := 1249) (by decide +kernel) rfl) rfl rfl (tyX9_ok 41 (by decide)) (fun _ => rfl) (fun _ => rfl) (by omega) (by omega) dX9_init_222 ?_
  refine zw_aload C 0 dX9_init_225 rfl ?_
  refine zw_sipush C (840 : Int32) dX9_init_226 (by decide) ?_
  refine zw_newa C (atype := .int) (ty := .int) (t0 := 2) (N' := 840) (a0 := (840, .inl (fun _ => 0))) rfl (x_tb (i := 163) (by decide +kernel) rfl) rfl (fun ad rq hc => zw_E0i (kk := 12) hc (by decide +kernel) (by decide +kernel) (by decide)) (fun _ => rfl) (by decide) (by decide) (Nat.le_of_ble_eq_true rfl) (by simp [zw_b] <;> omega) (by simp [zw_b] <;> omega) ⟨Nat.le_of_ble_eq_true rfl, Nat.le_of_ble_eq_true rfl⟩ dX9_init_229 ?_
  refine zw_putR C (ci := 9) (f := 42) tyX9 (by decide +kernel) (by decide) rfl x_in9 tyX9_ok nmX9 (by decide) (by decide) rfl rfl (x_tb (i := 1250) (by decide +kernel) rfl) rfl rfl (tyX9_ok 42 (by decide)) (fun _ => rfl) (fun _ => rfl) (by omega) (by omega) dX9_init_231 ?_
  refine zw_aload C 0 dX9_init_234 rfl ?_
  refine zw_bipush C (64 : Int32) dX9_init_235 (by decide) ?_
  refine zw_newa C (atype := .int) (ty := .int) (t0 := 2) (N' := 64) (a0 := (64, .inl (fun _ => 0))) rfl (x_tb (i := 163) (by decide +kernel) rfl) rfl (fun ad rq hc => zw_E0i (kk := 12) hc (by decide +kernel) (by decide +kernel) (by decide)) (fun _ => rfl) (by decide) (by decide) (Nat.le_of_ble_eq_true rfl) (by simp [zw_b] <;> omega) (by simp [zw_b] <;> omega) ⟨Nat.le_of_ble_eq_true rfl, Nat.le_of_ble_eq_true rfl⟩ dX9_init_237 ?_
  refine zw_putR C (ci := 9) (f := 43) tyX9 (by decide +kernel) (by decide) rfl x_in9 tyX9_ok nmX9 (by decide) (by decide) rfl rfl (x_tb (i := 1251) (by decide +kernel) rfl) rfl rfl (tyX9_ok 43 (by decide)) (fun _ => rfl) (fun _ => rfl) (by omega) (by omega) dX9_init_239 ?_
  refine zw_aload C 0 dX9_init_242 rfl ?_
  refine zw_bipush C (9 : Int32) dX9_init_243 (by decide) ?_
  refine zw_newa C (atype := .int) (ty := .int) (t0 := 2) (N' := 9) (a0 := (9, .inl (fun _ => 0))) rfl (x_tb (i := 163) (by decide +kernel) rfl) rfl (fun ad rq hc => zw_E0i (kk := 12) hc (by decide +kernel) (by decide +kernel) (by decide)) (fun _ => rfl) (by decide) (by decide) (Nat.le_of_ble_eq_true rfl) (by simp [zw_b] <;> omega) (by simp [zw_b] <;> omega) ⟨Nat.le_of_ble_eq_true rfl, Nat.le_of_ble_eq_true rfl⟩ dX9_init_245 ?_
  refine zw_putR C (ci := 9) (f := 45) tyX9 (by decide +kernel) (by decide) rfl x_in9 tyX9_ok nmX9 (by decide) (by decide) rfl rfl (x_tb (i := 1253) (by decide +kernel) rfl) rfl rfl (tyX9_ok 45 (by decide)) (fun _ => rfl) (fun _ => rfl) (by omega) (by omega) dX9_init_247 ?_
  refine zw_aload C 0 dX9_init_250 rfl ?_
  refine zw_sipush C (400 : Int32) dX9_init_251 (by decide) ?_
  refine zw_newa C (atype := .int) (ty := .int) (t0 := 2) (N' := 400) (a0 := (400, .inl (fun _ => 0))) rfl (x_tb (i := 163) (by decide +kernel) rfl) rfl (fun ad rq hc => zw_E0i (kk := 12) hc (by decide +kernel) (by decide +kernel) (by decide)) (fun _ => rfl) (by decide) (by decide) (Nat.le_of_ble_eq_true rfl) (by simp [zw_b] <;> omega) (by simp [zw_b] <;> omega) ⟨Nat.le_of_ble_eq_true rfl, Nat.le_of_ble_eq_true rfl⟩ dX9_init_254 ?_
  refine zw_putR C (ci := 9) (f := 46) tyX9 (by decide +kernel) (by decide) rfl x_in9 tyX9_ok nmX9 (by decide) (by decide) rfl rfl (x_tb (i := 1254) (by decide +kernel) rfl) rfl rfl (tyX9_ok 46 (by decide)) (fun _ => rfl) (fun _ => rfl) (by omega) (by omega) dX9_init_256 ?_
  exact kx
set_option maxHeartbeats 4000000 in
set_option maxRecDepth 100000 in
theorem zt_M5 {p : Program} {e : Env} {s : State} {m : MethodId} {args : Array Value} {below : List Frame} {meth : Method} {c : Code} {Q : State → Prop} {ad0 : Nat → Nat} (C : zw_C p s m args meth c cX9_init 1 yX9_init.cls D iC b0 Z) (kx : zw_W p l e rm_zM s m args below meth c Q D iC TM b0 1 ad0 1 323 [(0, .inl (some 0))] [] 39 zr_M5 zs_M 38 12348) : zw_W p l e rm_zM s m args below meth c Q D iC TM b0 1 ad0 1 259 [(0, .inl (some 0))] [] 31 zr_M4 zs_M 30 9200 := by
  refine zw_aload C 0 dX9_init_259 rfl ?_
  refine zw_bipush C (60 : Int32) dX9_init_260 (by decide) ?_
  refine zw_newa C (atype := .int) (ty := .int) (t0 := 2) (N' := 60) (a0 := (60, .inl (fun _ => 0))) rfl (x_tb (i := 163) (by decide +kernel) rfl) rfl (fun ad rq hc => zw_E0i (kk := 12) hc (by decide +kernel) (by decide +kernel) (by decide)) (fun _ => rfl) (by decide) (by decide) (Nat.le_of_ble_eq_true rfl) (by simp [zw_b] <;> omega) (by simp [zw_b] <;> omega) ⟨Nat.le_of_ble_eq_true rfl, Nat.le_of_ble_eq_true rfl⟩ dX9_init_262 ?_
  refine zw_putR C (ci := 9) (f := 48) tyX9 (by decide +kernel) (by decide) rfl x_in9 tyX9_ok nmX9 (by decide) (by decide) rfl rfl (x_tb (i := 1256) (by decide +kernel) rfl) rfl rfl (tyX9_ok 48 (by decide)) (fun _ => rfl) (fun _ => rfl) (by omega) (by omega) dX9_init_264 ?_
  refine zw_aload C 0 dX9_init_267 rfl ?_
  refine zw_bipush C (60 : Int32) dX9_init_268 (by decide) ?_
  refine zw_newa C (atype := .int) (ty := .int) (t0 := 2) (N' := 60) (a0 := (60, .inl (fun _ => 0))) rfl (x_tb (i := 163) (by decide +kernel) rfl) rfl (fun ad rq hc => zw_E0i (kk := 12) hc (by decide +kernel) (by decide +kernel) (by decide)) (fun _ => rfl) (by decide) (by decide) (Nat.le_of_ble_eq_true rfl) (by simp [zw_b] <;> omega) (by simp [zw_b] <;> omega) ⟨Nat.le_of_ble_eq_true rfl, Nat.le_of_ble_eq_true rfl⟩ dX9_init_270 ?_
  refine zw_putR C (ci := 9) (f := 49) tyX9 (by decide +kernel) (by decide) rfl x_in9 tyX9_ok nmX9 (by decide) (by decide) rfl rfl (x_tb (i := 1257) (by decide +kernel) rfl) rfl rfl (tyX9_ok 49 (by decide)) (fun _ => rfl) (fun _ => rfl) (by omega) (by omega) dX9_init_272 ?_
  refine zw_aload C 0 dX9_init_275 rfl ?_
  refine zw_iconst C (4 : Int32) dX9_init_276 (by decide) ?_
  refine zw_newa C (atype := .int) (ty := .int) (t0 := 2) (N' := 4) (a0 := (4, .inl (fun _ => 0))) rfl (x_tb (i := 163) (by decide +kernel) rfl) rfl (fun ad rq hc => zw_E0i (kk := 12) hc (by decide +kernel) (by decide +kernel) (by decide)) (fun _ => rfl) (by decide) (by decide) (Nat.le_of_ble_eq_true rfl) (by simp [zw_b] <;> omega) (by simp [zw_b] <;> omega) ⟨Nat.le_of_ble_eq_true rfl, Nat.le_of_ble_eq_true rfl⟩ dX9_init_277 ?_
  refine zw_putR C (ci := 9) (f := 53) tyX9 (by decide +kernel) (by decide) rfl x_in9 tyX9_ok nmX9 (by decide) (by decide) rfl rfl (x_tb (i := 1261) (by decide +kernel) rfl) rfl rfl (tyX9_ok 53 (by decide)) (fun _ => rfl) (fun _ => rfl) (by omega) (by omega) dX9_init_279 ?_
  refine zw_aload C 0 dX9_init_282 rfl ?_
  refine zw_sipush C (3000 : Int32) dX9_init_283 (by decide) ?_
  refine zw_newa C (atype := .int) (ty := .int) (t0 := 2) (N' := 3000) (a0 := (3000, .inl (fun _ => 0))) rfl (x_tb (i := 163) (by decide +kernel) rfl) rfl (fun ad rq hc => zw_E0i (kk := 12) hc (by decide +kernel) (by decide +kernel) (by decide)) (fun _ => rfl) (by decide) (by decide) (Nat.le_of_ble_eq_true rfl) (by simp [zw_b] <;> omega) (by simp [zw_b] <;> omega) ⟨Nat.le_of_ble_eq_true rfl, Nat.le_of_ble_eq_true rfl⟩ dX9_init_286 ?_
  refine zw_putR C (ci := 9) (f := 55) tyX9 (by decide +kernel) (by decide) rfl x_in9 tyX9_ok nmX9 (by decide) (by decide) rfl rfl (x_tb (i := 1263) (by decide +kernel) rfl) rfl rfl (tyX9_ok 55 (by decide)) (fun _ => rfl) (fun _ => rfl) (by omega) (by omega) dX9_init_288 ?_
  refine zw_aload C 0 dX9_init_291 rfl ?_
  refine zw_bipush C (6 : Int32) dX9_init_292 (by decide) ?_
  refine zw_newa C (atype := .int) (ty := .int) (t0 := 2) (N' := 6) (a0 := (6, .inl (fun _ => 0))) rfl (x_tb (i := 163) (by decide +kernel) rfl) rfl (fun ad rq hc => zw_E0i (kk := 12) hc (by decide +kernel) (by decide +kernel) (by decide)) (fun _ => rfl) (by decide) (by decide) (Nat.le_of_ble_eq_true rfl) (by simp [zw_b] <;> omega) (by simp [zw_b] <;> omega) ⟨Nat.le_of_ble_eq_true rfl, Nat.le_of_ble_eq_true rfl⟩ dX9_init_294 ?_
  refine zw_putR C (ci := 9) (f := 58) tyX9 (by decide +kernel) (by decide) rfl x_in9 tyX9_ok nmX9 (by decide) (by decide) rfl rfl (x_tb (i := 1266) (by decide +kernel) rfl) rfl rfl (tyX9_ok 58 (by decide)) (fun _ => rfl) (fun _ => rfl) (by omega) (by omega) dX9_init_296 ?_
  refine zw_aload C 0 dX9_init_299 rfl ?_
  refine zw_bipush C (6 : Int32) dX9_init_300 (by decide) ?_
  refine zw_newa C (atype := .int) (ty := .int) (t0 := 2) (N' := 6) (a0 := (6, .inl (fun _ => 0))) rfl (x_tb (i := 163) (by decide +kernel) rfl) rfl (fun ad rq hc => zw_E0i (kk := 12) hc (by decide +kernel) (by decide +kernel) (by decide)) (fun _ => rfl) (by decide) (by decide) (Nat.le_of_ble_eq_true rfl) (by simp [zw_b] <;> omega) (by simp [zw_b] <;> omega) ⟨Nat.le_of_ble_eq_true rfl, Nat.le_of_ble_eq_true rfl⟩ dX9_init_302 ?_
  refine zw_putR C (ci := 9) (f := 59) tyX9 (by decide +kernel) (by decide) rfl x_in9 tyX9_ok nmX9 (by decide) (by decide) rfl rfl (x_tb (i := 1267) (by decide +kernel) rfl) rfl rfl (tyX9_ok 59 (by decide)) (fun _ => rfl) (fun _ => rfl) (by omega) (by omega) dX9_init_304 ?_
  refine zw_aload C 0 dX9_init_307 rfl ?_
  refine zw_bipush C (6 : Int32) dX9_init_308 (by decide) ?_
  refine zw_newa C (atype := .int) (ty := .int) (t0 := 2) (N' := 6) (a0 := (6, .inl (fun _ => 0))) rfl (x_tb (i := 163) (by decide +kernel) rfl) rfl (fun ad rq hc => zw_E0i (kk := 12) hc (by decide +kernel) (by decide +kernel) (by decide)) (fun _ => rfl) (by decide) (by decide) (Nat.le_of_ble_eq_true rfl) (by simp [zw_b] <;> omega) (by simp [zw_b] <;> omega) ⟨Nat.le_of_ble_eq_true rfl, Nat.le_of_ble_eq_true rfl⟩ dX9_init_310 ?_
  refine zw_putR C (ci := 9) (f := 60) tyX9 (by decide +kernel) (by decide) rfl x_in9 tyX9_ok nmX9 (by decide) (by decide) rfl rfl (x_tb (i := 1268) (by decide +kernel) rfl) rfl rfl (tyX9_ok 60 (by decide)) (fun _ => rfl) (fun _ => rfl) (by omega) (by omega) dX9_init_312 ?_
  refine zw_aload C 0 dX9_init_315 rfl ?_
  refine zw_bipush C (6 : Int32) dX9_init_316 (by decide) ?_
  refine zw_newa C (atype := .int) (ty := .int) (t0 := 2) (N' := 6) (a0 := (6, .inl (fun _ => 0))) rfl (x_tb (i := 163) (by decide +kernel) rfl) rfl (fun ad rq hc => zw_E0i (kk := 12) hc (by decide +kernel) (by decide +kernel) (by decide)) (fun _ => rfl) (by decide) (by decide) (Nat.le_of_ble_eq_true rfl) (by simp [zw_b] <;> omega) (by simp [zw_b] <;> omega) ⟨Nat.le_of_ble_eq_true rfl, Nat.le_of_ble_eq_true rfl⟩ dX9_init_318 ?_
  refine zw_putR C (ci := 9) (f := 62) tyX9 (by decide +kernel) (by decide) rfl x_in9 tyX9_ok nmX9 (by decide) (by decide) rfl rfl (x_tb (i := 1270) (by decide +kernel) rfl) rfl rfl (tyX9_ok 62 (by decide)) (fun _ => rfl) (fun _ => rfl) (by omega) (by omega) dX9_init_320 ?_
  exact kx
set_option maxHeartbeats 4000000 in
set_option maxRecDepth 100000 in
theorem zt_M6 {p : Program} {e : Env} {s : State} {m : MethodId} {args : Array Value} {below : List Frame} {meth : Method} {c : Code} {Q : State → Prop} {ad0 : Nat → Nat} (C : zw_C p s m args meth c cX9_init 1 yX9_init.cls D iC b0 Z) (kx : zw_W p l e rm_zM s m args below meth c Q D iC TM b0 1 ad0 1 372 [(0, .inl (some 0))] [] 45 zr_M zs_M 44 12961) : zw_W p l e rm_zM s m args below meth c Q D iC TM b0 1 ad0 1 323 [(0, .inl (some 0))] [] 39 zr_M5 zs_M 38 12348 := by
  refine zw_aload C 0 dX9_init_323 rfl ?_
  refine zw_bipush C (6 : Int32) dX9_init_324 (by decide) ?_
  refine zw_newa C (atype := .int) (ty := .int) (t0 := 2) (N' := 6) (a0 := (6, .inl (fun _ => 0))) rfl (x_tb (i := 163) (by decide +kernel) rfl) rfl (fun ad rq hc => zw_E0i (kk := 12) hc (by decide +kernel) (by decide +kernel) (by decide)) (fun _ => rfl) (by decide) (by decide) (Nat.le_of_ble_eq_true rfl) (by simp [zw_b] <;> omega) (by simp [zw_b] <;> omega) ⟨Nat.le_of_ble_eq_true rfl, Nat.le_of_ble_eq_true rfl⟩ dX9_init_326 ?_
  refine zw_putR C (ci := 9) (f := 64) tyX9 (by decide +kernel) (by decide) rfl x_in9 tyX9_ok nmX9 (by decide) (by decide) rfl rfl (x_tb (i := 1272) (by decide +kernel) rfl) rfl rfl (tyX9_ok 64 (by decide)) (fun _ => rfl) (fun _ => rfl) (by omega) (by omega) dX9_init_328 ?_
  refine zw_aload C 0 dX9_init_331 rfl ?_
  refine zw_sipush C (384 : Int32) dX9_init_332 (by decide) ?_
  refine zw_newa C (atype := .int) (ty := .int) (t0 := 2) (N' := 384) (a0 := (384, .inl (fun _ => 0))) rfl (x_tb (i := 163) (by decide +kernel) rfl) rfl (fun ad rq hc => zw_E0i (kk := 12) hc (by decide +kernel) (by decide +kernel) (by decide)) (fun _ => rfl) (by decide) (by decide) (Nat.le_of_ble_eq_true rfl) (by simp [zw_b] <;> omega) (by simp [zw_b] <;> omega) ⟨Nat.le_of_ble_eq_true rfl, Nat.le_of_ble_eq_true rfl⟩ dX9_init_335 ?_
  refine zw_putR C (ci := 9) (f := 67) tyX9 (by decide +kernel) (by decide) rfl x_in9 tyX9_ok nmX9 (by decide) (by decide) rfl rfl (x_tb (i := 1275) (by decide +kernel) rfl) rfl rfl (tyX9_ok 67 (by decide)) (fun _ => rfl) (fun _ => rfl) (by omega) (by omega) dX9_init_337 ?_
  refine zw_aload C 0 dX9_init_340 rfl ?_
  refine zw_bipush C (20 : Int32) dX9_init_341 (by decide) ?_
  refine zw_newa C (atype := .int) (ty := .int) (t0 := 2) (N' := 20) (a0 := (20, .inl (fun _ => 0))) rfl (x_tb (i := 163) (by decide +kernel) rfl) rfl (fun ad rq hc => zw_E0i (kk := 12) hc (by decide +kernel) (by decide +kernel) (by decide)) (fun _ => rfl) (by decide) (by decide) (Nat.le_of_ble_eq_true rfl) (by simp [zw_b] <;> omega) (by simp [zw_b] <;> omega) ⟨Nat.le_of_ble_eq_true rfl, Nat.le_of_ble_eq_true rfl⟩ dX9_init_343 ?_
  refine zw_putR C (ci := 9) (f := 69) tyX9 (by decide +kernel) (by decide) rfl x_in9 tyX9_ok nmX9 (by decide) (by decide) rfl rfl (x_tb (i := 1277) (by decide +kernel) rfl) rfl rfl (tyX9_ok 69 (by decide)) (fun _ => rfl) (fun _ => rfl) (by omega) (by omega) dX9_init_345 ?_
  refine zw_aload C 0 dX9_init_348 rfl ?_
  refine zw_bipush C (20 : Int32) dX9_init_349 (by decide) ?_
  refine zw_newa C (atype := .int) (ty := .int) (t0 := 2) (N' := 20) (a0 := (20, .inl (fun _ => 0))) rfl (x_tb (i := 163) (by decide +kernel) rfl) rfl (fun ad rq hc => zw_E0i (kk := 12) hc (by decide +kernel) (by decide +kernel) (by decide)) (fun _ => rfl) (by decide) (by decide) (Nat.le_of_ble_eq_true rfl) (by simp [zw_b] <;> omega) (by simp [zw_b] <;> omega) ⟨Nat.le_of_ble_eq_true rfl, Nat.le_of_ble_eq_true rfl⟩ dX9_init_351 ?_
  refine zw_putR C (ci := 9) (f := 70) tyX9 (by decide +kernel) (by decide) rfl x_in9 tyX9_ok nmX9 (by decide) (by decide) rfl rfl (x_tb (i := 1278) (by decide +kernel) rfl) rfl rfl (tyX9_ok 70 (by decide)) (fun _ => rfl) (fun _ => rfl) (by omega) (by omega) dX9_init_353 ?_
  refine zw_aload C 0 dX9_init_356 rfl ?_
  refine zw_iconst C (3 : Int32) dX9_init_357 (by decide) ?_
  refine zw_newa C (atype := .boolean) (ty := .boolean) (t0 := 4) (N' := 3) (a0 := (3, .inl (fun _ => 0))) rfl (x_tb (i := 1428) (by decide +kernel) rfl) rfl (fun ad rq hc => zw_E0i (kk := 14) hc (by decide +kernel) (by decide +kernel) (by decide)) (fun _ => rfl) (by decide) (by decide) (Nat.le_of_ble_eq_true rfl) (by simp [zw_b] <;> omega) (by simp [zw_b] <;> omega) ⟨Nat.le_of_ble_eq_true rfl, Nat.le_of_ble_eq_true rfl⟩ dX9_init_358 ?_
  refine zw_putR C (ci := 9) (f := 71) tyX9 (by decide +kernel) (by decide) rfl x_in9 tyX9_ok nmX9 (by decide) (by decide) rfl rfl (x_tb (i := 1279) (by decide +kernel) rfl) rfl rfl (tyX9_ok 71 (by decide)) (fun _ => rfl) (fun _ => rfl) (by omega) (by omega) dX9_init_360 ?_
  refine zw_aload C 0 dX9_init_363 rfl ?_
  refine zw_sipush C (180 : Int32) dX9_init_364 (by decide) ?_
  refine zw_newa C (atype := .int) (ty := .int) (t0 := 2) (N' := 180) (a0 := (180, .inl (fun _ => 0))) rfl (x_tb (i := 163) (by decide +kernel) rfl) rfl (fun ad rq hc => zw_E0i (kk := 12) hc (by decide +kernel) (by decide +kernel) (by decide)) (fun _ => rfl) (by decide) (by decide) (Nat.le_of_ble_eq_true rfl) (by simp [zw_b] <;> omega) (by simp [zw_b] <;> omega) ⟨Nat.le_of_ble_eq_true rfl, Nat.le_of_ble_eq_true rfl⟩ dX9_init_367 ?_
  refine zw_putR C (ci := 9) (f := 72) tyX9 (by decide +kernel) (by decide) rfl x_in9 tyX9_ok nmX9 (by decide) (by decide) rfl rfl (x_tb (i := 1280) (by decide +kernel) rfl) rfl rfl (tyX9_ok 72 (by decide)) (fun _ => rfl) (fun _ => rfl) (by omega) (by omega) dX9_init_369 ?_
  exact kx
end ZI2
