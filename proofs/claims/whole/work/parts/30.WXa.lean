section WW
variable {p : Program} {l : Launch} {e : Env} {s : State} {m : MethodId} {args : Array Value} {below : List Frame} {meth : Method} {c : Code} {G : x_G}
abbrev rm_X8_at : Room := { frames := 0, cells := 0, slots := 0, locals := 0 }
set_option maxHeartbeats 4000000 in
set_option maxRecDepth 100000 in
theorem c_X8_at (hG : x_OK TX G) {r0 : Nat} {x1 : Int32} {σ τ : x_Hp} {r : Int32} (hk_r0 : x_kd TX r0 = 12) (h : F_X8_at r0 x1 σ = some (r, τ)) : x_M l TX G yX8_at cX8_at 2 (some .int) rm_X8_at [.ref (x_ad G r0), .int x1] σ (some (.int r)) τ := by
  refine x_M.of hG (lv := [(0, .ref (x_ad G r0)), (1, .int x1)]) (by decide) (Nat.le_of_ble_eq_true rfl) rfl (fun p e s m below meth c C => ?_)
  rw [F_X8_at] at h
  refine x_aload_n C 0 dX8_at_0 rfl rfl ?_
  refine x_ifnull C dX8_at_1 ?_
  refine x_iload_n C 1 dX8_at_4 rfl rfl ?_
  refine x_if_lt C 20 dX8_at_5 rfl (fun hc => ?_) (fun hc => ?_)
  · replace h := x_itp hc h
    refine x_iconst C (0 : Int32) dX8_at_20 (by decide) ?_
    obtain ⟨rfl, rfl⟩ := x_ret h
    exact x_iret C dX8_at_21
  · replace h := x_itn hc h
    refine x_iload_n C 1 dX8_at_8 rfl rfl ?_
    refine x_aload_n C 0 dX8_at_9 rfl rfl ?_
    refine x_alen C (Int32.ofNat (x_ln TX r0)) hk_r0 (by decide) rfl dX8_at_10 ?_
    refine x_icmp_ge C 20 dX8_at_11 rfl (fun hc => ?_) (fun hc => ?_)
    · replace h := x_itp hc h
      refine x_iconst C (0 : Int32) dX8_at_20 (by decide) ?_
      obtain ⟨rfl, rfl⟩ := x_ret h
      exact x_iret C dX8_at_21
    · replace h := x_itn hc h
      refine x_aload_n C 0 dX8_at_14 rfl rfl ?_
      refine x_iload_n C 1 dX8_at_15 rfl rfl ?_
      obtain ⟨hi1, h⟩ := x_gd_some h
      refine x_iald C hk_r0 hi1 dX8_at_16 ?_
      refine x_goto C 21 dX8_at_17 rfl ?_
      obtain ⟨rfl, rfl⟩ := x_ret h
      exact x_iret C dX8_at_21
abbrev rm_X0_giveTo : Room := { frames := 1, cells := 0, slots := 0, locals := 21 }
set_option maxHeartbeats 4000000 in
set_option maxRecDepth 100000 in
theorem c_X0_giveTo (hG : x_OK TX G) {o : Nat} {r1 : Nat} {x2 : Int32} {σ τ : x_Hp} (hk_o : x_kd TX o = 0) (hk_r1 : x_kd TX r1 = 5) (h : F_X0_giveTo o r1 x2 σ = some ((), τ)) : x_M l TX G yX0_giveTo cX0_giveTo 3 none rm_X0_giveTo [.ref (x_ad G o), .ref (x_ad G r1), .int x2] σ none τ := by
  refine x_M.of hG (lv := [(0, .ref (x_ad G o)), (1, .ref (x_ad G r1)), (2, .int x2)]) (by decide) (Nat.le_of_ble_eq_true rfl) rfl (fun p e s m below meth c C => ?_)
  rw [F_X0_giveTo] at h
  refine x_aload_n C 1 dX0_giveTo_0 rfl rfl ?_
  refine x_iload_n C 2 dX0_giveTo_1 rfl rfl ?_
  refine x_putI C (k := 9) tyX5 hk_r1 (by decide) rfl x_in5 tyX5_ok nmX5 (by decide) (by decide) rfl rfl wd_331 rfl (tyX5_ok 9 (by decide)) rfl rfl dX0_giveTo_2 (x_gen h fun σ1 h => ?_)
  refine x_aload_n C 1 dX0_giveTo_5 rfl rfl ?_
  refine x_iconst C (0 : Int32) dX0_giveTo_6 (by decide) ?_
  refine x_putI C (k := 4) tyX5 hk_r1 (by decide) rfl x_in5 tyX5_ok nmX5 (by decide) (by decide) rfl rfl wd_318 rfl (tyX5_ok 4 (by decide)) rfl rfl dX0_giveTo_7 (x_gen h fun σ2 h => ?_)
  refine x_aload_n C 1 dX0_giveTo_10 rfl rfl ?_
  refine x_aload_n C 0 dX0_giveTo_11 rfl rfl ?_
  refine x_getR C (k := 0) hk_o (by decide) rfl x_in0 (by decide) (by decide) rfl rfl wd_294 dX0_giveTo_12 ?_
  refine x_getR C (k := 9) (t_TX_0_0 hk_o) (by decide) rfl x_in6 (by decide) (by decide) rfl rfl wd_191 dX0_giveTo_15 ?_
  refine x_iload_n C 2 dX0_giveTo_18 rfl rfl ?_
  obtain ⟨v3, σ3, hc3, h⟩ := x_b_some h
  refine x_callSN C (n := 2) (c_X8_at hG (t_TX_6_9 (t_TX_0_0 hk_o)) hc3) nw_540 wd_541 wd_102 wd_542 (by decide +kernel) rfl ⟨Nat.le_of_ble_eq_true rfl, Nat.le_of_ble_eq_true rfl⟩ ⟨rfl, rfl⟩ rfl (Nat.le_of_ble_eq_true rfl) dX0_giveTo_19 ?_
  refine x_putI C (k := 5) tyX5 hk_r1 (by decide) rfl x_in5 tyX5_ok nmX5 (by decide) (by decide) rfl rfl wd_321 rfl (tyX5_ok 5 (by decide)) rfl rfl dX0_giveTo_22 (x_gen h fun σ4 h => ?_)
  refine x_aload_n C 1 dX0_giveTo_25 rfl rfl ?_
  refine x_aload_n C 0 dX0_giveTo_26 rfl rfl ?_
  refine x_getR C (k := 0) hk_o (by decide) rfl x_in0 (by decide) (by decide) rfl rfl wd_294 dX0_giveTo_27 ?_
  refine x_getR C (k := 10) (t_TX_0_0 hk_o) (by decide) rfl x_in6 (by decide) (by decide) rfl rfl wd_194 dX0_giveTo_30 ?_
  refine x_iload_n C 2 dX0_giveTo_33 rfl rfl ?_
  obtain ⟨v5, σ5, hc5, h⟩ := x_b_some h
  refine x_callSN C (n := 2) (c_X8_at hG (t_TX_6_10 (t_TX_0_0 hk_o)) hc5) nw_540 wd_541 wd_102 wd_542 (by decide +kernel) rfl ⟨Nat.le_of_ble_eq_true rfl, Nat.le_of_ble_eq_true rfl⟩ ⟨rfl, rfl⟩ rfl (Nat.le_of_ble_eq_true rfl) dX0_giveTo_34 ?_
  refine x_putI C (k := 6) tyX5 hk_r1 (by decide) rfl x_in5 tyX5_ok nmX5 (by decide) (by decide) rfl rfl wd_324 rfl (tyX5_ok 6 (by decide)) rfl rfl dX0_giveTo_37 (x_gen h fun σ6 h => ?_)
  refine x_aload_n C 1 dX0_giveTo_40 rfl rfl ?_
  refine x_aload_n C 0 dX0_giveTo_41 rfl rfl ?_
  refine x_getR C (k := 0) hk_o (by decide) rfl x_in0 (by decide) (by decide) rfl rfl wd_294 dX0_giveTo_42 ?_
  refine x_getR C (k := 11) (t_TX_0_0 hk_o) (by decide) rfl x_in6 (by decide) (by decide) rfl rfl wd_196 dX0_giveTo_45 ?_
  refine x_iload_n C 2 dX0_giveTo_48 rfl rfl ?_
  obtain ⟨v7, σ7, hc7, h⟩ := x_b_some h
  refine x_callSN C (n := 2) (c_X8_at hG (t_TX_6_11 (t_TX_0_0 hk_o)) hc7) nw_540 wd_541 wd_102 wd_542 (by decide +kernel) rfl ⟨Nat.le_of_ble_eq_true rfl, Nat.le_of_ble_eq_true rfl⟩ ⟨rfl, rfl⟩ rfl (Nat.le_of_ble_eq_true rfl) dX0_giveTo_49 ?_
  refine x_putI C (k := 7) tyX5 hk_r1 (by decide) rfl x_in5 tyX5_ok nmX5 (by decide) (by decide) rfl rfl wd_326 rfl (tyX5_ok 7 (by decide)) rfl rfl dX0_giveTo_52 (x_gen h fun σ8 h => ?_)
  refine x_iload_n C 2 dX0_giveTo_55 rfl rfl ?_
  refine x_if_lt C 71 dX0_giveTo_56 rfl (fun hc => ?_) (fun hc => ?_)
  · replace h := x_itp hc h
    obtain ⟨-, rfl⟩ := x_ret h
    exact x_vret C dX0_giveTo_71
  · replace h := x_itn hc h
    refine x_aload_n C 1 dX0_giveTo_59 rfl rfl ?_
    refine x_dup C dX0_giveTo_60 rfl ?_
    refine x_getI C (k := 19) hk_r1 (by decide) rfl x_in5 (by decide) (by decide) rfl rfl wd_361 dX0_giveTo_61 ?_
    refine x_iconst C (1 : Int32) dX0_giveTo_64 (by decide) ?_
    refine x_iload_n C 2 dX0_giveTo_65 rfl rfl ?_
    refine x_ishl C dX0_giveTo_66 ?_
    refine x_ior C dX0_giveTo_67 ?_
    refine x_putI C (k := 19) tyX5 hk_r1 (by decide) rfl x_in5 tyX5_ok nmX5 (by decide) (by decide) rfl rfl wd_361 rfl (tyX5_ok 19 (by decide)) rfl rfl dX0_giveTo_68 (x_gen h fun σ9 h => ?_)
    obtain ⟨-, rfl⟩ := x_ret h
    exact x_vret C dX0_giveTo_71
abbrev rm_X0_begin : Room := { frames := 2, cells := 0, slots := 0, locals := 43 }
set_option maxHeartbeats 4000000 in
set_option maxRecDepth 100000 in
theorem w_X0_begin_149 {τ : x_Hp} (C : x_C p s m args meth c cX0_begin 3 none yX0_begin.cls TX G) (s0 : Int32) (s1 : Nat) (s2 : Nat) (σ : x_Hp) (hk_s1 : x_kd TX s1 = 5) (hk_s2 : x_kd TX s2 = 0) (h : F_X0_begin_149 s0 s1 s2 σ = some ((), τ)) : x_W p l e rm_X0_begin s m args below meth c (MQ below (x_Q TX G none τ) args s 0 0 (x_A TX G)) TX G 3 149 [] [.int s0, .ref (x_ad G s1), .ref (x_ad G s2)] σ := by
  have hG : x_OK TX G := C.2.2.2.2.2.2.2.2.1
  rw [F_X0_begin_149] at h
  obtain ⟨v18, σ18, hc18, h⟩ := x_b_some h
  refine x_callV C (n := 2) (c_X0_giveTo hG hk_s2 hk_s1 hc18) hk_s2 (by decide) rfl wd_536 wd_538 wd_0 wd_106 wd_539 (by decide +kernel) rfl ⟨Nat.le_of_ble_eq_true rfl, Nat.le_of_ble_eq_true rfl⟩ ⟨rfl, rfl⟩ rfl (Nat.le_of_ble_eq_true rfl) dX0_begin_149 ?_
  obtain ⟨-, rfl⟩ := x_ret h
  exact x_vret C dX0_begin_152
set_option maxHeartbeats 4000000 in
set_option maxRecDepth 100000 in
theorem w_X0_begin_109 {τ : x_Hp} (C : x_C p s m args meth c cX0_begin 3 none yX0_begin.cls TX G) : ∀ (n : Nat) (o : Nat) (r1 : Nat) (x2 : Int32) (σ : x_Hp) (hk_o : x_kd TX o = 0) (hk_r1 : x_kd TX r1 = 5) (h : F_X0_begin_109 n o r1 x2 σ = some ((), τ)), x_W p l e rm_X0_begin s m args below meth c (MQ below (x_Q TX G none τ) args s 0 0 (x_A TX G)) TX G 3 109 [(0, .ref (x_ad G o)), (1, .ref (x_ad G r1)), (2, .int x2)] [] σ := by
  intro n
  induction n with
  | zero => intro o r1 x2 σ _ _ h; cases h
  | succ n ih =>
    intro o r1 x2 σ hk_o hk_r1 h
    have hG : x_OK TX G := C.2.2.2.2.2.2.2.2.1
    rw [F_X0_begin_109] at h
    refine x_iload_n C 2 dX0_begin_109 rfl rfl ?_
    refine x_aload_n C 1 dX0_begin_110 rfl rfl ?_
    refine x_getR C (k := 20) hk_r1 (by decide) rfl x_in5 (by decide) (by decide) rfl rfl wd_365 dX0_begin_111 ?_
    refine x_alen C (Int32.ofNat (x_ln TX (x_rf TX r1 20))) (t_TX_5_20 hk_r1) (by decide) rfl dX0_begin_114 ?_
    refine x_icmp_ge C 131 dX0_begin_115 rfl (fun hc => ?_) (fun hc => ?_)
    · replace h := x_itp hc h
      refine x_aload_n C 0 dX0_begin_131 rfl rfl ?_
      refine x_aload_n C 1 dX0_begin_132 rfl rfl ?_
      refine x_aload_n C 0 dX0_begin_133 rfl rfl ?_
      refine x_getR C (k := 0) hk_o (by decide) rfl x_in0 (by decide) (by decide) rfl rfl wd_294 dX0_begin_134 ?_
      refine x_getI C (k := 7) (t_TX_0_0 hk_o) (by decide) rfl x_in6 (by decide) (by decide) rfl rfl wd_185 dX0_begin_137 ?_
      refine x_if_le C 147 dX0_begin_140 rfl (fun hc => ?_) (fun hc => ?_)
      · replace h := x_itp hc h
        refine x_bipush C (-2 : Int32) dX0_begin_147 (by decide) ?_
        exact x_sub [] rfl (w_X0_begin_149 C (-2 : Int32) r1 o σ hk_r1 hk_o h)
      · replace h := x_itn hc h
        refine x_iconst C (0 : Int32) dX0_begin_143 (by decide) ?_
        refine x_goto C 149 dX0_begin_144 rfl ?_
        exact x_sub [] rfl (w_X0_begin_149 C (0 : Int32) r1 o σ hk_r1 hk_o h)
    · replace h := x_itn hc h
      refine x_aload_n C 1 dX0_begin_118 rfl rfl ?_
      refine x_getR C (k := 20) hk_r1 (by decide) rfl x_in5 (by decide) (by decide) rfl rfl wd_365 dX0_begin_119 ?_
      refine x_iload_n C 2 dX0_begin_122 rfl rfl ?_
      refine x_iconst C (0 : Int32) dX0_begin_123 (by decide) ?_
      obtain ⟨hi16, h⟩ := x_gd_some h
      refine x_iast C (t_TX_5_20 hk_r1) hi16 dX0_begin_124 (x_gen h fun σ17 h => ?_)
      refine x_iinc C 2 (x2 + (1 : Int32)) [(2, .int (x2 + (1 : Int32))), (0, .ref (x_ad G o)), (1, .ref (x_ad G r1))] dX0_begin_125 rfl rfl (by decide) rfl ?_
      refine x_goto C 109 dX0_begin_128 rfl ?_
      exact x_sub [1, 2, 0] rfl (ih o r1 (x2 + (1 : Int32)) σ17 hk_o hk_r1 h)
set_option maxHeartbeats 4000000 in
set_option maxRecDepth 100000 in
theorem c_X0_begin (hG : x_OK TX G) {o : Nat} {r1 : Nat} {σ τ : x_Hp} (hk_o : x_kd TX o = 0) (hk_r1 : x_kd TX r1 = 5) (h : F_X0_begin o r1 σ = some ((), τ)) : x_M l TX G yX0_begin cX0_begin 3 none rm_X0_begin [.ref (x_ad G o), .ref (x_ad G r1)] σ none τ := by
  refine x_M.of hG (lv := [(0, .ref (x_ad G o)), (1, .ref (x_ad G r1))]) (by decide) (Nat.le_of_ble_eq_true rfl) rfl (fun p e s m below meth c C => ?_)
  rw [F_X0_begin] at h
  refine x_aload_n C 1 dX0_begin_0 rfl rfl ?_
  refine x_aload_n C 0 dX0_begin_1 rfl rfl ?_
  refine x_getR C (k := 0) hk_o (by decide) rfl x_in0 (by decide) (by decide) rfl rfl wd_294 dX0_begin_2 ?_
  refine x_getI C (k := 0) (t_TX_0_0 hk_o) (by decide) rfl x_in6 (by decide) (by decide) rfl rfl wd_164 dX0_begin_5 ?_
  refine x_putI C (k := 0) tyX5 hk_r1 (by decide) rfl x_in5 tyX5_ok nmX5 (by decide) (by decide) rfl rfl wd_306 rfl (tyX5_ok 0 (by decide)) rfl rfl dX0_begin_8 (x_gen h fun σ1 h => ?_)
  refine x_aload_n C 1 dX0_begin_11 rfl rfl ?_
  refine x_aload_n C 0 dX0_begin_12 rfl rfl ?_
  refine x_getR C (k := 0) hk_o (by decide) rfl x_in0 (by decide) (by decide) rfl rfl wd_294 dX0_begin_13 ?_
  refine x_getI C (k := 1) (t_TX_0_0 hk_o) (by decide) rfl x_in6 (by decide) (by decide) rfl rfl wd_166 dX0_begin_16 ?_
  refine x_putI C (k := 1) tyX5 hk_r1 (by decide) rfl x_in5 tyX5_ok nmX5 (by decide) (by decide) rfl rfl wd_309 rfl (tyX5_ok 1 (by decide)) rfl rfl dX0_begin_19 (x_gen h fun σ2 h => ?_)
  refine x_aload_n C 1 dX0_begin_22 rfl rfl ?_
  refine x_aload_n C 0 dX0_begin_23 rfl rfl ?_
  refine x_getR C (k := 0) hk_o (by decide) rfl x_in0 (by decide) (by decide) rfl rfl wd_294 dX0_begin_24 ?_
  refine x_getI C (k := 2) (t_TX_0_0 hk_o) (by decide) rfl x_in6 (by decide) (by decide) rfl rfl wd_168 dX0_begin_27 ?_
  refine x_putI C (k := 2) tyX5 hk_r1 (by decide) rfl x_in5 tyX5_ok nmX5 (by decide) (by decide) rfl rfl wd_312 rfl (tyX5_ok 2 (by decide)) rfl rfl dX0_begin_30 (x_gen h fun σ3 h => ?_)
  refine x_aload_n C 1 dX0_begin_33 rfl rfl ?_
  refine x_aload_n C 0 dX0_begin_34 rfl rfl ?_
  refine x_getR C (k := 0) hk_o (by decide) rfl x_in0 (by decide) (by decide) rfl rfl wd_294 dX0_begin_35 ?_
  refine x_getI C (k := 3) (t_TX_0_0 hk_o) (by decide) rfl x_in6 (by decide) (by decide) rfl rfl wd_170 dX0_begin_38 ?_
  refine x_putI C (k := 3) tyX5 hk_r1 (by decide) rfl x_in5 tyX5_ok nmX5 (by decide) (by decide) rfl rfl wd_315 rfl (tyX5_ok 3 (by decide)) rfl rfl dX0_begin_41 (x_gen h fun σ4 h => ?_)
  refine x_aload_n C 1 dX0_begin_44 rfl rfl ?_
  refine x_aload_n C 0 dX0_begin_45 rfl rfl ?_
  refine x_getR C (k := 0) hk_o (by decide) rfl x_in0 (by decide) (by decide) rfl rfl wd_294 dX0_begin_46 ?_
  refine x_getI C (k := 6) (t_TX_0_0 hk_o) (by decide) rfl x_in6 (by decide) (by decide) rfl rfl wd_181 dX0_begin_49 ?_
  refine x_putI C (k := 16) tyX5 hk_r1 (by decide) rfl x_in5 tyX5_ok nmX5 (by decide) (by decide) rfl rfl wd_351 rfl (tyX5_ok 16 (by decide)) rfl rfl dX0_begin_52 (x_gen h fun σ5 h => ?_)
  refine x_aload_n C 1 dX0_begin_55 rfl rfl ?_
  refine x_iconst C (0 : Int32) dX0_begin_56 (by decide) ?_
  refine x_putI C (k := 8) tyX5 hk_r1 (by decide) rfl x_in5 tyX5_ok nmX5 (by decide) (by decide) rfl rfl wd_327 rfl (tyX5_ok 8 (by decide)) rfl rfl dX0_begin_57 (x_gen h fun σ6 h => ?_)
  refine x_aload_n C 1 dX0_begin_60 rfl rfl ?_
  refine x_bipush C (-2 : Int32) dX0_begin_61 (by decide) ?_
  refine x_putI C (k := 10) tyX5 hk_r1 (by decide) rfl x_in5 tyX5_ok nmX5 (by decide) (by decide) rfl rfl wd_334 rfl (tyX5_ok 10 (by decide)) rfl rfl dX0_begin_63 (x_gen h fun σ7 h => ?_)
  refine x_aload_n C 1 dX0_begin_66 rfl rfl ?_
  refine x_bipush C (-2 : Int32) dX0_begin_67 (by decide) ?_
  refine x_putI C (k := 11) tyX5 hk_r1 (by decide) rfl x_in5 tyX5_ok nmX5 (by decide) (by decide) rfl rfl wd_337 rfl (tyX5_ok 11 (by decide)) rfl rfl dX0_begin_69 (x_gen h fun σ8 h => ?_)
  refine x_aload_n C 1 dX0_begin_72 rfl rfl ?_
  refine x_iconst C (0 : Int32) dX0_begin_73 (by decide) ?_
  refine x_putI C (k := 12) tyX5 hk_r1 (by decide) rfl x_in5 tyX5_ok nmX5 (by decide) (by decide) rfl rfl wd_339 rfl (tyX5_ok 12 (by decide)) rfl rfl dX0_begin_74 (x_gen h fun σ9 h => ?_)
  refine x_aload_n C 1 dX0_begin_77 rfl rfl ?_
  refine x_iconst C (0 : Int32) dX0_begin_78 (by decide) ?_
  refine x_putI C (k := 13) tyX5 hk_r1 (by decide) rfl x_in5 tyX5_ok nmX5 (by decide) (by decide) rfl rfl wd_342 rfl (tyX5_ok 13 (by decide)) rfl rfl dX0_begin_79 (x_gen h fun σ10 h => ?_)
  refine x_aload_n C 1 dX0_begin_82 rfl rfl ?_
  refine x_iconst C (0 : Int32) dX0_begin_83 (by decide) ?_
  refine x_putI C (k := 14) tyX5 hk_r1 (by decide) rfl x_in5 tyX5_ok nmX5 (by decide) (by decide) rfl rfl wd_345 rfl (tyX5_ok 14 (by decide)) rfl rfl dX0_begin_84 (x_gen h fun σ11 h => ?_)
  refine x_aload_n C 1 dX0_begin_87 rfl rfl ?_
  refine x_iconst C (0 : Int32) dX0_begin_88 (by decide) ?_
  refine x_putI C (k := 15) tyX5 hk_r1 (by decide) rfl x_in5 tyX5_ok nmX5 (by decide) (by decide) rfl rfl wd_348 rfl (tyX5_ok 15 (by decide)) rfl rfl dX0_begin_89 (x_gen h fun σ12 h => ?_)
  refine x_aload_n C 1 dX0_begin_92 rfl rfl ?_
  refine x_iconst C (0 : Int32) dX0_begin_93 (by decide) ?_
  refine x_putI C (k := 17) tyX5 hk_r1 (by decide) rfl x_in5 tyX5_ok nmX5 (by decide) (by decide) rfl rfl wd_354 rfl (tyX5_ok 17 (by decide)) rfl rfl dX0_begin_94 (x_gen h fun σ13 h => ?_)
  refine x_aload_n C 1 dX0_begin_97 rfl rfl ?_
  refine x_iconst C (0 : Int32) dX0_begin_98 (by decide) ?_
  refine x_putI C (k := 18) tyX5 hk_r1 (by decide) rfl x_in5 tyX5_ok nmX5 (by decide) (by decide) rfl rfl wd_358 rfl (tyX5_ok 18 (by decide)) rfl rfl dX0_begin_99 (x_gen h fun σ14 h => ?_)
  refine x_aload_n C 1 dX0_begin_102 rfl rfl ?_
  refine x_iconst C (0 : Int32) dX0_begin_103 (by decide) ?_
  refine x_putI C (k := 19) tyX5 hk_r1 (by decide) rfl x_in5 tyX5_ok nmX5 (by decide) (by decide) rfl rfl wd_361 rfl (tyX5_ok 19 (by decide)) rfl rfl dX0_begin_104 (x_gen h fun σ15 h => ?_)
  refine x_iconst C (0 : Int32) dX0_begin_107 (by decide) ?_
  refine x_istore_n C [(2, .int (0 : Int32)), (0, .ref (x_ad G o)), (1, .ref (x_ad G r1))] dX0_begin_108 rfl (by decide) rfl ?_
  exact x_sub [1, 2, 0] rfl (w_X0_begin_109 C x_fuel o r1 (0 : Int32) σ15 hk_o hk_r1 h)
abbrev rm_X1_join : Room := { frames := 0, cells := 0, slots := 0, locals := 0 }
set_option maxHeartbeats 4000000 in
set_option maxRecDepth 100000 in
theorem w_X1_join_44 {r : Int32} {τ : x_Hp} (C : x_C p s m args meth c cX1_join 4 (some .int) yX1_join.cls TX G) (o : Nat) (x2 : Int32) (x3 : Int32) (σ : x_Hp) (hk_o : x_kd TX o = 1) (h : F_X1_join_44 o x2 x3 σ = some (r, τ)) : x_W p l e rm_X1_join s m args below meth c (MQ below (x_Q TX G (some (.int r)) τ) args s 0 0 (x_A TX G)) TX G 4 44 [(0, .ref (x_ad G o)), (2, .int x2), (3, .int x3)] [] σ := by
  have hG : x_OK TX G := C.2.2.2.2.2.2.2.2.1
  rw [F_X1_join_44] at h
  refine x_iload_n C 2 dX1_join_44 rfl rfl ?_
  refine x_if_ne C 55 dX1_join_45 rfl (fun hc => ?_) (fun hc => ?_)
  · replace h := x_itn hc h
    refine x_iload_n C 1 dX1_join_55 rfl rfl ?_
    refine x_iload_n C 2 dX1_join_56 rfl rfl ?_
    obtain ⟨hg, h⟩ := x_gd_some h
    refine x_idiv C dX1_join_57 (x_ne0 hg) ?_
    obtain ⟨rfl, rfl⟩ := x_ret h
    exact x_iret C dX1_join_58
  · replace h := x_itp hc h
    refine x_aload_n C 0 dX1_join_48 rfl rfl ?_
    refine x_iconst C (1 : Int32) dX1_join_49 (by decide) ?_
    refine x_putI C (k := 7) tyX1 hk_o (by decide) rfl x_in1 tyX1_ok nmX1 (by decide) (by decide) rfl rfl wd_144 rfl (tyX1_ok 7 (by decide)) rfl rfl dX1_join_50 (x_gen h fun σ1 h => ?_)
    refine x_iconst C (0 : Int32) dX1_join_53 (by decide) ?_
    obtain ⟨rfl, rfl⟩ := x_ret h
    exact x_iret C dX1_join_54
set_option maxHeartbeats 4000000 in
set_option maxRecDepth 100000 in
theorem c_X1_join (hG : x_OK TX G) {o : Nat} {x1 : Int32} {x2 : Int32} {x3 : Int32} {σ τ : x_Hp} {r : Int32} (hk_o : x_kd TX o = 1) (h : F_X1_join o x1 x2 x3 σ = some (r, τ)) : x_M l TX G yX1_join cX1_join 4 (some .int) rm_X1_join [.ref (x_ad G o), .int x1, .int x2, .int x3] σ (some (.int r)) τ := by
  refine x_M.of hG (lv := [(0, .ref (x_ad G o)), (1, .int x1), (2, .int x2), (3, .int x3)]) (by decide) (Nat.le_of_ble_eq_true rfl) rfl (fun p e s m below meth c C => ?_)
  rw [F_X1_join] at h
  refine x_iload_n C 1 dX1_join_0 rfl rfl ?_
  by_cases hw0 : x1 = (42 : Int32)
  · replace h := x_itp hw0 h
    refine x_ts_at C (42 : Int32) (39) 40 dX1_join_1 hw0 (by decide +kernel) (by decide +kernel) (by decide +kernel) rfl ?_
    refine x_iload_n C 2 dX1_join_40 rfl rfl ?_
    refine x_iload_n C 3 dX1_join_41 rfl rfl ?_
    refine x_imul C dX1_join_42 ?_
    obtain ⟨rfl, rfl⟩ := x_ret h
    exact x_iret C dX1_join_43
  replace h := x_itn hw0 h
  by_cases hw1 : x1 = (43 : Int32)
  · replace h := x_itp hw1 h
    refine x_ts_at C (43 : Int32) (31) 32 dX1_join_1 hw1 (by decide +kernel) (by decide +kernel) (by decide +kernel) rfl ?_
    refine x_iload_n C 2 dX1_join_32 rfl rfl ?_
    refine x_iload_n C 3 dX1_join_33 rfl rfl ?_
    refine x_iadd C dX1_join_34 ?_
    obtain ⟨rfl, rfl⟩ := x_ret h
    exact x_iret C dX1_join_35
  replace h := x_itn hw1 h
  by_cases hw2 : x1 = (44 : Int32)
  · replace h := x_itp hw2 h
    refine x_ts_at C (44 : Int32) (43) 44 dX1_join_1 hw2 (by decide +kernel) (by decide +kernel) (by decide +kernel) rfl ?_
    exact x_sub [0, 2, 3] rfl (w_X1_join_44 C o x2 x3 σ hk_o h)
  replace h := x_itn hw2 h
  by_cases hw3 : x1 = (45 : Int32)
  · replace h := x_itp hw3 h
    refine x_ts_at C (45 : Int32) (35) 36 dX1_join_1 hw3 (by decide +kernel) (by decide +kernel) (by decide +kernel) rfl ?_
    refine x_iload_n C 2 dX1_join_36 rfl rfl ?_
    refine x_iload_n C 3 dX1_join_37 rfl rfl ?_
    refine x_isub C dX1_join_38 ?_
    obtain ⟨rfl, rfl⟩ := x_ret h
    exact x_iret C dX1_join_39
  replace h := x_itn hw3 h
  refine x_ts_out C 44 dX1_join_1 (by have q0 := x_tne (k := 42) (by decide +kernel) hw0; have q1 := x_tne (k := 43) (by decide +kernel) hw1; have q2 := x_tne (k := 44) (by decide +kernel) hw2; have q3 := x_tne (k := 45) (by decide +kernel) hw3; omega) rfl ?_
  exact x_sub [0, 2, 3] rfl (w_X1_join_44 C o x2 x3 σ hk_o h)
abbrev rm_X5_look : Room := { frames := 0, cells := 0, slots := 0, locals := 0 }
set_option maxHeartbeats 4000000 in
set_option maxRecDepth 100000 in
theorem c_X5_look (hG : x_OK TX G) {o : Nat} {x1 : Int32} {σ τ : x_Hp} {r : Int32} (hk_o : x_kd TX o = 5) (h : F_X5_look o x1 σ = some (r, τ)) : x_M l TX G yX5_look cX5_look 2 (some .int) rm_X5_look [.ref (x_ad G o), .int x1] σ (some (.int r)) τ := by
  refine x_M.of hG (lv := [(0, .ref (x_ad G o)), (1, .int x1)]) (by decide) (Nat.le_of_ble_eq_true rfl) rfl (fun p e s m below meth c C => ?_)
  rw [F_X5_look] at h
  refine x_iload_n C 1 dX5_look_0 rfl rfl ?_
  by_cases hw0 : x1 = (0 : Int32)
  · replace h := x_itp hw0 h
    refine x_ts_at C (0 : Int32) (47) 48 dX5_look_1 hw0 (by decide +kernel) (by decide +kernel) (by decide +kernel) rfl ?_
    refine x_aload_n C 0 dX5_look_48 rfl rfl ?_
    refine x_getI C (k := 0) hk_o (by decide) rfl x_in5 (by decide) (by decide) rfl rfl wd_305 dX5_look_49 ?_
    obtain ⟨rfl, rfl⟩ := x_ret h
    exact x_iret C dX5_look_52
  replace h := x_itn hw0 h
  by_cases hw1 : x1 = (1 : Int32)
  · replace h := x_itp hw1 h
    refine x_ts_at C (1 : Int32) (52) 53 dX5_look_1 hw1 (by decide +kernel) (by decide +kernel) (by decide +kernel) rfl ?_
    refine x_aload_n C 0 dX5_look_53 rfl rfl ?_
    refine x_getI C (k := 1) hk_o (by decide) rfl x_in5 (by decide) (by decide) rfl rfl wd_308 dX5_look_54 ?_
    obtain ⟨rfl, rfl⟩ := x_ret h
    exact x_iret C dX5_look_57
  replace h := x_itn hw1 h
  by_cases hw2 : x1 = (2 : Int32)
  · replace h := x_itp hw2 h
    refine x_ts_at C (2 : Int32) (57) 58 dX5_look_1 hw2 (by decide +kernel) (by decide +kernel) (by decide +kernel) rfl ?_
    refine x_aload_n C 0 dX5_look_58 rfl rfl ?_
    refine x_getI C (k := 2) hk_o (by decide) rfl x_in5 (by decide) (by decide) rfl rfl wd_311 dX5_look_59 ?_
    obtain ⟨rfl, rfl⟩ := x_ret h
    exact x_iret C dX5_look_62
  replace h := x_itn hw2 h
  by_cases hw3 : x1 = (3 : Int32)
  · replace h := x_itp hw3 h
    refine x_ts_at C (3 : Int32) (62) 63 dX5_look_1 hw3 (by decide +kernel) (by decide +kernel) (by decide +kernel) rfl ?_
    refine x_aload_n C 0 dX5_look_63 rfl rfl ?_
    refine x_getI C (k := 3) hk_o (by decide) rfl x_in5 (by decide) (by decide) rfl rfl wd_314 dX5_look_64 ?_
    obtain ⟨rfl, rfl⟩ := x_ret h
    exact x_iret C dX5_look_67
  replace h := x_itn hw3 h
  by_cases hw4 : x1 = (4 : Int32)
  · replace h := x_itp hw4 h
    refine x_ts_at C (4 : Int32) (67) 68 dX5_look_1 hw4 (by decide +kernel) (by decide +kernel) (by decide +kernel) rfl ?_
    refine x_aload_n C 0 dX5_look_68 rfl rfl ?_
    refine x_getI C (k := 4) hk_o (by decide) rfl x_in5 (by decide) (by decide) rfl rfl wd_317 dX5_look_69 ?_
    obtain ⟨rfl, rfl⟩ := x_ret h
    exact x_iret C dX5_look_72
  replace h := x_itn hw4 h
  by_cases hw5 : x1 = (5 : Int32)
  · replace h := x_itp hw5 h
    refine x_ts_at C (5 : Int32) (72) 73 dX5_look_1 hw5 (by decide +kernel) (by decide +kernel) (by decide +kernel) rfl ?_
    refine x_aload_n C 0 dX5_look_73 rfl rfl ?_
    refine x_getI C (k := 5) hk_o (by decide) rfl x_in5 (by decide) (by decide) rfl rfl wd_320 dX5_look_74 ?_
    obtain ⟨rfl, rfl⟩ := x_ret h
    exact x_iret C dX5_look_77
  replace h := x_itn hw5 h
  by_cases hw6 : x1 = (6 : Int32)
  · replace h := x_itp hw6 h
    refine x_ts_at C (6 : Int32) (77) 78 dX5_look_1 hw6 (by decide +kernel) (by decide +kernel) (by decide +kernel) rfl ?_
    refine x_aload_n C 0 dX5_look_78 rfl rfl ?_
    refine x_getI C (k := 6) hk_o (by decide) rfl x_in5 (by decide) (by decide) rfl rfl wd_323 dX5_look_79 ?_
    obtain ⟨rfl, rfl⟩ := x_ret h
    exact x_iret C dX5_look_82
  replace h := x_itn hw6 h
  by_cases hw7 : x1 = (7 : Int32)
  · replace h := x_itp hw7 h
    refine x_ts_at C (7 : Int32) (82) 83 dX5_look_1 hw7 (by decide +kernel) (by decide +kernel) (by decide +kernel) rfl ?_
    refine x_aload_n C 0 dX5_look_83 rfl rfl ?_
    refine x_getI C (k := 7) hk_o (by decide) rfl x_in5 (by decide) (by decide) rfl rfl wd_325 dX5_look_84 ?_
    obtain ⟨rfl, rfl⟩ := x_ret h
    exact x_iret C dX5_look_87
  replace h := x_itn hw7 h
  refine x_ts_out C 88 dX5_look_1 (by have q0 := x_tne (k := 0) (by decide +kernel) hw0; have q1 := x_tne (k := 1) (by decide +kernel) hw1; have q2 := x_tne (k := 2) (by decide +kernel) hw2; have q3 := x_tne (k := 3) (by decide +kernel) hw3; have q4 := x_tne (k := 4) (by decide +kernel) hw4; have q5 := x_tne (k := 5) (by decide +kernel) hw5; have q6 := x_tne (k := 6) (by decide +kernel) hw6; have q7 := x_tne (k := 7) (by decide +kernel) hw7; omega) rfl ?_
  refine x_aload_n C 0 dX5_look_88 rfl rfl ?_
  refine x_getI C (k := 8) hk_o (by decide) rfl x_in5 (by decide) (by decide) rfl rfl wd_328 dX5_look_89 ?_
  obtain ⟨rfl, rfl⟩ := x_ret h
  exact x_iret C dX5_look_92
abbrev rm_X8_put : Room := { frames := 0, cells := 0, slots := 0, locals := 0 }
set_option maxHeartbeats 4000000 in
set_option maxRecDepth 100000 in
theorem c_X8_put (hG : x_OK TX G) {r0 : Nat} {x1 : Int32} {x2 : Int32} {σ τ : x_Hp} (hk_r0 : x_kd TX r0 = 12) (h : F_X8_put r0 x1 x2 σ = some ((), τ)) : x_M l TX G yX8_put cX8_put 3 none rm_X8_put [.ref (x_ad G r0), .int x1, .int x2] σ none τ := by
  refine x_M.of hG (lv := [(0, .ref (x_ad G r0)), (1, .int x1), (2, .int x2)]) (by decide) (Nat.le_of_ble_eq_true rfl) rfl (fun p e s m below meth c C => ?_)
  rw [F_X8_put] at h
  refine x_aload_n C 0 dX8_put_0 rfl rfl ?_
  refine x_ifnull C dX8_put_1 ?_
  refine x_iload_n C 1 dX8_put_4 rfl rfl ?_
  refine x_if_lt C 18 dX8_put_5 rfl (fun hc => ?_) (fun hc => ?_)
  · replace h := x_itp hc h
    obtain ⟨-, rfl⟩ := x_ret h
    exact x_vret C dX8_put_18
  · replace h := x_itn hc h
    refine x_iload_n C 1 dX8_put_8 rfl rfl ?_
    refine x_aload_n C 0 dX8_put_9 rfl rfl ?_
    refine x_alen C (Int32.ofNat (x_ln TX r0)) hk_r0 (by decide) rfl dX8_put_10 ?_
    refine x_icmp_ge C 18 dX8_put_11 rfl (fun hc => ?_) (fun hc => ?_)
    · replace h := x_itp hc h
      obtain ⟨-, rfl⟩ := x_ret h
      exact x_vret C dX8_put_18
    · replace h := x_itn hc h
      refine x_aload_n C 0 dX8_put_14 rfl rfl ?_
      refine x_iload_n C 1 dX8_put_15 rfl rfl ?_
      refine x_iload_n C 2 dX8_put_16 rfl rfl ?_
      obtain ⟨hi1, h⟩ := x_gd_some h
      refine x_iast C hk_r0 hi1 dX8_put_17 (x_gen h fun σ2 h => ?_)
      obtain ⟨-, rfl⟩ := x_ret h
      exact x_vret C dX8_put_18
abbrev rm_X1_value : Room := { frames := 1, cells := 0, slots := 0, locals := 23 }
set_option maxHeartbeats 4000000 in
set_option maxRecDepth 100000 in
theorem w_X1_value_150 {r : Int32} {τ : x_Hp} (C : x_C p s m args meth c cX1_value 7 (some .int) yX1_value.cls TX G) (o : Nat) (σ : x_Hp) (hk_o : x_kd TX o = 1) (h : F_X1_value_150 o σ = some (r, τ)) : x_W p l e rm_X1_value s m args below meth c (MQ below (x_Q TX G (some (.int r)) τ) args s 0 0 (x_A TX G)) TX G 7 150 [(0, .ref (x_ad G o))] [] σ := by
  have hG : x_OK TX G := C.2.2.2.2.2.2.2.2.1
  rw [F_X1_value_150] at h
  refine x_aload_n C 0 dX1_value_150 rfl rfl ?_
  refine x_getR C (k := 6) hk_o (by decide) rfl x_in1 (by decide) (by decide) rfl rfl wd_143 dX1_value_151 ?_
  refine x_iconst C (0 : Int32) dX1_value_154 (by decide) ?_
  obtain ⟨v9, σ9, hc9, h⟩ := x_b_some h
  refine x_callSN C (n := 2) (c_X8_at hG (t_TX_1_6 hk_o) hc9) nw_796 wd_541 wd_102 wd_542 (by decide +kernel) rfl ⟨Nat.le_of_ble_eq_true rfl, Nat.le_of_ble_eq_true rfl⟩ ⟨rfl, rfl⟩ rfl (Nat.le_of_ble_eq_true rfl) dX1_value_155 ?_
  obtain ⟨rfl, rfl⟩ := x_ret h
  exact x_iret C dX1_value_158
set_option maxHeartbeats 4000000 in
set_option maxRecDepth 100000 in
theorem w_X1_value_144 {r : Int32} {τ : x_Hp} (C : x_C p s m args meth c cX1_value 7 (some .int) yX1_value.cls TX G) {k24 : Nat → Nat → Int32 → Int32 → Int32 → x_Hp → Option (Int32 × x_Hp)} (hk24 : ∀ (o : Nat) (r2 : Nat) (x3 : Int32) (x4 : Int32) (x5 : Int32) (σ : x_Hp) (hk_o : x_kd TX o = 1) (hk_r2 : x_kd TX r2 = 5) (h : k24 o r2 x3 x4 x5 σ = some (r, τ)), x_W p l e rm_X1_value s m args below meth c (MQ below (x_Q TX G (some (.int r)) τ) args s 0 0 (x_A TX G)) TX G 7 24 [(0, .ref (x_ad G o)), (2, .ref (x_ad G r2)), (3, .int x3), (4, .int x4), (5, .int x5)] [] σ) (o : Nat) (r2 : Nat) (x3 : Int32) (x4 : Int32) (x5 : Int32) (σ : x_Hp) (hk_o : x_kd TX o = 1) (hk_r2 : x_kd TX r2 = 5) (h : F_X1_value_144 k24 o r2 x3 x4 x5 σ = some (r, τ)) : x_W p l e rm_X1_value s m args below meth c (MQ below (x_Q TX G (some (.int r)) τ) args s 0 0 (x_A TX G)) TX G 7 144 [(0, .ref (x_ad G o)), (2, .ref (x_ad G r2)), (3, .int x3), (4, .int x4), (5, .int x5)] [] σ := by
  have hG : x_OK TX G := C.2.2.2.2.2.2.2.2.1
  rw [F_X1_value_144] at h
  refine x_iinc C 4 (x5 + (1 : Int32)) [(5, .int (x5 + (1 : Int32))), (0, .ref (x_ad G o)), (2, .ref (x_ad G r2)), (3, .int x3), (4, .int x4)] dX1_value_144 rfl rfl (by decide) rfl ?_
  refine x_goto C 24 dX1_value_147 rfl ?_
  exact x_sub [1, 2, 3, 4, 0] rfl (hk24 o r2 x3 x4 (x5 + (1 : Int32)) σ hk_o hk_r2 h)
set_option maxHeartbeats 4000000 in
set_option maxRecDepth 100000 in
theorem w_X1_value_91 {r : Int32} {τ : x_Hp} (C : x_C p s m args meth c cX1_value 7 (some .int) yX1_value.cls TX G) {k24 : Nat → Nat → Int32 → Int32 → Int32 → x_Hp → Option (Int32 × x_Hp)} (hk24 : ∀ (o : Nat) (r2 : Nat) (x3 : Int32) (x4 : Int32) (x5 : Int32) (σ : x_Hp) (hk_o : x_kd TX o = 1) (hk_r2 : x_kd TX r2 = 5) (h : k24 o r2 x3 x4 x5 σ = some (r, τ)), x_W p l e rm_X1_value s m args below meth c (MQ below (x_Q TX G (some (.int r)) τ) args s 0 0 (x_A TX G)) TX G 7 24 [(0, .ref (x_ad G o)), (2, .ref (x_ad G r2)), (3, .int x3), (4, .int x4), (5, .int x5)] [] σ) (o : Nat) (r2 : Nat) (x3 : Int32) (x4 : Int32) (x5 : Int32) (s0 : Int32) (s1 : Int32) (s2 : Nat) (σ : x_Hp) (hk_o : x_kd TX o = 1) (hk_r2 : x_kd TX r2 = 5) (hk_s2 : x_kd TX s2 = 12) (h : F_X1_value_91 k24 o r2 x3 x4 x5 s0 s1 s2 σ = some (r, τ)) : x_W p l e rm_X1_value s m args below meth c (MQ below (x_Q TX G (some (.int r)) τ) args s 0 0 (x_A TX G)) TX G 7 91 [(0, .ref (x_ad G o)), (2, .ref (x_ad G r2)), (3, .int x3), (4, .int x4), (5, .int x5)] [.int s0, .int s1, .ref (x_ad G s2)] σ := by
  have hG : x_OK TX G := C.2.2.2.2.2.2.2.2.1
  rw [F_X1_value_91] at h
  obtain ⟨v10, σ10, hc10, h⟩ := x_b_some h
  refine x_callSN C (n := 3) (c_X8_put hG hk_s2 hc10) nw_521 wd_522 wd_102 wd_523 (by decide +kernel) rfl ⟨Nat.le_of_ble_eq_true rfl, Nat.le_of_ble_eq_true rfl⟩ ⟨rfl, rfl⟩ rfl (Nat.le_of_ble_eq_true rfl) dX1_value_91 ?_
  refine x_iinc C 3 (x4 + (1 : Int32)) [(4, .int (x4 + (1 : Int32))), (0, .ref (x_ad G o)), (2, .ref (x_ad G r2)), (3, .int x3), (5, .int x5)] dX1_value_94 rfl rfl (by decide) rfl ?_
  refine x_goto C 144 dX1_value_97 rfl ?_
  exact x_sub [1, 2, 3, 0, 4] rfl (w_X1_value_144 C hk24 o r2 x3 (x4 + (1 : Int32)) x5 σ10 hk_o hk_r2 h)
set_option maxHeartbeats 4000000 in
set_option maxRecDepth 100000 in
theorem w_X1_value_24 {r : Int32} {τ : x_Hp} (C : x_C p s m args meth c cX1_value 7 (some .int) yX1_value.cls TX G) : ∀ (n : Nat) (o : Nat) (r2 : Nat) (x3 : Int32) (x4 : Int32) (x5 : Int32) (σ : x_Hp) (hk_o : x_kd TX o = 1) (hk_r2 : x_kd TX r2 = 5) (h : F_X1_value_24 n o r2 x3 x4 x5 σ = some (r, τ)), x_W p l e rm_X1_value s m args below meth c (MQ below (x_Q TX G (some (.int r)) τ) args s 0 0 (x_A TX G)) TX G 7 24 [(0, .ref (x_ad G o)), (2, .ref (x_ad G r2)), (3, .int x3), (4, .int x4), (5, .int x5)] [] σ := by
  intro n
  induction n with
  | zero => intro o r2 x3 x4 x5 σ _ _ h; cases h
  | succ n ih =>
    intro o r2 x3 x4 x5 σ hk_o hk_r2 h
    have hG : x_OK TX G := C.2.2.2.2.2.2.2.2.1
    rw [F_X1_value_24] at h
    refine x_iload C 4 dX1_value_24 rfl ?_
    refine x_if_lt C 150 dX1_value_26 rfl (fun hc => ?_) (fun hc => ?_)
    · replace h := x_itp hc h
      exact x_sub [0] rfl (w_X1_value_150 C o σ hk_o h)
    · replace h := x_itn hc h
      refine x_iload C 4 dX1_value_29 rfl ?_
      refine x_iload_n C 2 dX1_value_31 rfl rfl ?_
      refine x_icmp_ge C 150 dX1_value_32 rfl (fun hc => ?_) (fun hc => ?_)
      · replace h := x_itp hc h
        exact x_sub [0] rfl (w_X1_value_150 C o σ hk_o h)
      · replace h := x_itn hc h
        refine x_iload C 4 dX1_value_35 rfl ?_
        refine x_aload_n C 0 dX1_value_37 rfl rfl ?_
        refine x_getR C (k := 0) hk_o (by decide) rfl x_in1 (by decide) (by decide) rfl rfl wd_137 dX1_value_38 ?_
        refine x_alen C (Int32.ofNat (x_ln TX (x_rf TX o 0))) (t_TX_1_0 hk_o) (by decide) rfl dX1_value_41 ?_
        refine x_icmp_ge C 150 dX1_value_42 rfl (fun hc => ?_) (fun hc => ?_)
        · replace h := x_itp hc h
          exact x_sub [0] rfl (w_X1_value_150 C o σ hk_o h)
        · replace h := x_itn hc h
          refine x_aload_n C 0 dX1_value_45 rfl rfl ?_
          refine x_getR C (k := 0) hk_o (by decide) rfl x_in1 (by decide) (by decide) rfl rfl wd_137 dX1_value_46 ?_
          refine x_iload C 4 dX1_value_49 rfl ?_
          obtain ⟨hi3, h⟩ := x_gd_some h
          refine x_iald C (t_TX_1_0 hk_o) hi3 dX1_value_51 ?_
          refine x_istore C [(6, .int (σ.1 (x_rf TX o 0) (x_ix x5))), (0, .ref (x_ad G o)), (2, .ref (x_ad G r2)), (3, .int x3), (4, .int x4), (5, .int x5)] dX1_value_52 (by decide) rfl ?_
          refine x_iload C 0 dX1_value_54 rfl ?_
          refine x_sipush C (20000 : Int32) dX1_value_56 (by decide) ?_
          refine x_icmp_ge C 100 dX1_value_59 rfl (fun hc => ?_) (fun hc => ?_)
          · replace h := x_itp hc h
            refine x_iinc C 4 (x4 + (-1 : Int32)) [(4, .int (x4 + (-1 : Int32))), (6, .int (σ.1 (x_rf TX o 0) (x_ix x5))), (0, .ref (x_ad G o)), (2, .ref (x_ad G r2)), (3, .int x3), (5, .int x5)] dX1_value_100 rfl rfl (by decide) rfl ?_
            refine x_aload_n C 2 dX1_value_103 rfl rfl ?_
            refine x_getR C (k := 6) hk_o (by decide) rfl x_in1 (by decide) (by decide) rfl rfl wd_143 dX1_value_104 ?_
            refine x_iload C 0 dX1_value_107 rfl ?_
            refine x_iconst C (1 : Int32) dX1_value_109 (by decide) ?_
            refine x_isub C dX1_value_110 ?_
            refine x_aload_n C 2 dX1_value_111 rfl rfl ?_
            refine x_iload C 1 dX1_value_112 rfl ?_
            refine x_sipush C (20000 : Int32) dX1_value_114 (by decide) ?_
            refine x_isub C dX1_value_117 ?_
            refine x_aload_n C 2 dX1_value_118 rfl rfl ?_
            refine x_getR C (k := 6) hk_o (by decide) rfl x_in1 (by decide) (by decide) rfl rfl wd_143 dX1_value_119 ?_
            refine x_iload C 0 dX1_value_122 rfl ?_
            refine x_iconst C (1 : Int32) dX1_value_124 (by decide) ?_
            refine x_isub C dX1_value_125 ?_
            obtain ⟨v4, σ4, hc4, h⟩ := x_b_some h
            refine x_callSN C (n := 2) (c_X8_at hG (t_TX_1_6 hk_o) hc4) nw_796 wd_541 wd_102 wd_542 (by decide +kernel) rfl ⟨Nat.le_of_ble_eq_true rfl, Nat.le_of_ble_eq_true rfl⟩ ⟨rfl, rfl⟩ rfl (Nat.le_of_ble_eq_true rfl) dX1_value_126 ?_
            refine x_aload_n C 2 dX1_value_129 rfl rfl ?_
            refine x_getR C (k := 6) hk_o (by decide) rfl x_in1 (by decide) (by decide) rfl rfl wd_143 dX1_value_130 ?_
            refine x_iload C 0 dX1_value_133 rfl ?_
            obtain ⟨v5, σ5, hc5, h⟩ := x_b_some h
            refine x_callSN C (n := 2) (c_X8_at hG (t_TX_1_6 hk_o) hc5) nw_796 wd_541 wd_102 wd_542 (by decide +kernel) rfl ⟨Nat.le_of_ble_eq_true rfl, Nat.le_of_ble_eq_true rfl⟩ ⟨rfl, rfl⟩ rfl (Nat.le_of_ble_eq_true rfl) dX1_value_135 ?_
            obtain ⟨v6, σ6, hc6, h⟩ := x_b_some h
            refine x_callV C (n := 3) (c_X1_join hG hk_o hc6) hk_o (by decide) rfl wd_860 wd_862 wd_29 wd_104 wd_863 (by decide +kernel) rfl ⟨Nat.le_of_ble_eq_true rfl, Nat.le_of_ble_eq_true rfl⟩ ⟨rfl, rfl⟩ rfl (Nat.le_of_ble_eq_true rfl) dX1_value_138 ?_
            obtain ⟨v7, σ7, hc7, h⟩ := x_b_some h
            refine x_callSN C (n := 3) (c_X8_put hG (t_TX_1_6 hk_o) hc7) nw_521 wd_522 wd_102 wd_523 (by decide +kernel) rfl ⟨Nat.le_of_ble_eq_true rfl, Nat.le_of_ble_eq_true rfl⟩ ⟨rfl, rfl⟩ rfl (Nat.le_of_ble_eq_true rfl) dX1_value_141 ?_
            exact x_sub [2, 3, 4, 0, 5] rfl (w_X1_value_144 C ih o r2 x3 (x4 + (-1 : Int32)) x5 σ7 hk_o hk_r2 h)
          · replace h := x_itn hc h
            refine x_aload_n C 1 dX1_value_62 rfl rfl ?_
            refine x_getR C (k := 6) hk_o (by decide) rfl x_in1 (by decide) (by decide) rfl rfl wd_143 dX1_value_63 ?_
            refine x_iload C 4 dX1_value_66 rfl ?_
            refine x_iload C 0 dX1_value_68 rfl ?_
            refine x_sipush C (10000 : Int32) dX1_value_70 (by decide) ?_
            refine x_icmp_ge C 81 dX1_value_73 rfl (fun hc => ?_) (fun hc => ?_)
            · replace h := x_itp hc h
              refine x_aload_n C 2 dX1_value_81 rfl rfl ?_
              refine x_iload C 0 dX1_value_82 rfl ?_
              refine x_sipush C (10000 : Int32) dX1_value_84 (by decide) ?_
              refine x_isub C dX1_value_87 ?_
              obtain ⟨v8, σ8, hc8, h⟩ := x_b_some h
              refine x_callV C (n := 1) (c_X5_look hG hk_r2 hc8) hk_r2 (by decide) rfl wd_856 wd_857 wd_858 wd_107 wd_859 (by decide +kernel) rfl ⟨Nat.le_of_ble_eq_true rfl, Nat.le_of_ble_eq_true rfl⟩ ⟨rfl, rfl⟩ rfl (Nat.le_of_ble_eq_true rfl) dX1_value_88 ?_
              exact x_sub [1, 2, 3, 4, 5] rfl (w_X1_value_91 C ih o r2 x3 x4 x5 v8 x4 (x_rf TX o 6) σ8 hk_o hk_r2 (t_TX_1_6 hk_o) h)
            · replace h := x_itn hc h
              refine x_iload C 0 dX1_value_76 rfl ?_
              refine x_goto C 91 dX1_value_78 rfl ?_
              exact x_sub [1, 2, 3, 4, 5] rfl (w_X1_value_91 C ih o r2 x3 x4 x5 (σ.1 (x_rf TX o 0) (x_ix x5)) x4 (x_rf TX o 6) σ hk_o hk_r2 (t_TX_1_6 hk_o) h)
set_option maxHeartbeats 4000000 in
set_option maxRecDepth 100000 in
theorem c_X1_value (hG : x_OK TX G) {o : Nat} {x1 : Int32} {r2 : Nat} {σ τ : x_Hp} {r : Int32} (hk_o : x_kd TX o = 1) (hk_r2 : x_kd TX r2 = 5) (h : F_X1_value o x1 r2 σ = some (r, τ)) : x_M l TX G yX1_value cX1_value 7 (some .int) rm_X1_value [.ref (x_ad G o), .int x1, .ref (x_ad G r2)] σ (some (.int r)) τ := by
  refine x_M.of hG (lv := [(0, .ref (x_ad G o)), (1, .int x1), (2, .ref (x_ad G r2))]) (by decide) (Nat.le_of_ble_eq_true rfl) rfl (fun p e s m below meth c C => ?_)
  rw [F_X1_value] at h
  refine x_aload_n C 0 dX1_value_0 rfl rfl ?_
  refine x_getR C (k := 2) hk_o (by decide) rfl x_in1 (by decide) (by decide) rfl rfl wd_139 dX1_value_1 ?_
  refine x_iload_n C 1 dX1_value_4 rfl rfl ?_
  refine x_iconst C (1 : Int32) dX1_value_5 (by decide) ?_
  refine x_iadd C dX1_value_6 ?_
  obtain ⟨v1, σ1, hc1, h⟩ := x_b_some h
  refine x_callSN C (n := 2) (c_X8_at hG (t_TX_1_2 hk_o) hc1) nw_796 wd_541 wd_102 wd_542 (by decide +kernel) rfl ⟨Nat.le_of_ble_eq_true rfl, Nat.le_of_ble_eq_true rfl⟩ ⟨rfl, rfl⟩ rfl (Nat.le_of_ble_eq_true rfl) dX1_value_7 ?_
  refine x_istore_n C [(3, .int v1), (0, .ref (x_ad G o)), (1, .int x1), (2, .ref (x_ad G r2))] dX1_value_10 rfl (by decide) rfl ?_
  refine x_iconst C (0 : Int32) dX1_value_11 (by decide) ?_
  refine x_istore C [(4, .int (0 : Int32)), (3, .int v1), (0, .ref (x_ad G o)), (1, .int x1), (2, .ref (x_ad G r2))] dX1_value_12 (by decide) rfl ?_
  refine x_aload_n C 2 dX1_value_14 rfl rfl ?_
  refine x_getR C (k := 2) hk_o (by decide) rfl x_in1 (by decide) (by decide) rfl rfl wd_139 dX1_value_15 ?_
  refine x_iload_n C 3 dX1_value_18 rfl rfl ?_
  obtain ⟨v2, σ2, hc2, h⟩ := x_b_some h
  refine x_callSN C (n := 2) (c_X8_at hG (t_TX_1_2 hk_o) hc2) nw_796 wd_541 wd_102 wd_542 (by decide +kernel) rfl ⟨Nat.le_of_ble_eq_true rfl, Nat.le_of_ble_eq_true rfl⟩ ⟨rfl, rfl⟩ rfl (Nat.le_of_ble_eq_true rfl) dX1_value_19 ?_
  refine x_istore C [(5, .int v2), (4, .int (0 : Int32)), (3, .int v1), (0, .ref (x_ad G o)), (1, .int x1), (2, .ref (x_ad G r2))] dX1_value_22 (by decide) rfl ?_
  exact x_sub [3, 5, 2, 1, 0] rfl (w_X1_value_24 C x_fuel o r2 v1 (0 : Int32) v2 σ2 hk_o hk_r2 h)
abbrev rm_X8_within : Room := { frames := 1, cells := 0, slots := 0, locals := 14 }
set_option maxHeartbeats 4000000 in
set_option maxRecDepth 100000 in
theorem c_X8_within (hG : x_OK TX G) {x0 : Int32} {x1 : Int32} {x2 : Int32} {σ τ : x_Hp} {r : Int32} (h : F_X8_within x0 x1 x2 σ = some (r, τ)) : x_M l TX G yX8_within cX8_within 3 (some .int) rm_X8_within [.int x0, .int x1, .int x2] σ (some (.int r)) τ := by
  refine x_M.of hG (lv := [(0, .int x0), (1, .int x1), (2, .int x2)]) (by decide) (Nat.le_of_ble_eq_true rfl) rfl (fun p e s m below meth c C => ?_)
  rw [F_X8_within] at h
  refine x_iload_n C 1 dX8_within_0 rfl rfl ?_
  refine x_iload_n C 2 dX8_within_1 rfl rfl ?_
  refine x_iload_n C 0 dX8_within_2 rfl rfl ?_
  refine x_min C wd_871 wd_872 wd_116 wd_873 ⟨Nat.le_of_ble_eq_true rfl, Nat.le_of_ble_eq_true rfl⟩ dX8_within_3 ?_
  refine x_max C wd_874 wd_875 wd_116 wd_876 ⟨Nat.le_of_ble_eq_true rfl, Nat.le_of_ble_eq_true rfl⟩ dX8_within_6 ?_
  obtain ⟨rfl, rfl⟩ := x_ret h
  exact x_iret C dX8_within_9
abbrev rm_X1_tells : Room := { frames := 2, cells := 0, slots := 0, locals := 49 }
set_option maxHeartbeats 4000000 in
set_option maxRecDepth 100000 in
theorem w_X1_tells_148 {r : Int32} {τ : x_Hp} (C : x_C p s m args meth c cX1_tells 9 (some .int) yX1_tells.cls TX G) (x1 : Int32) (s0 : Int32) (σ : x_Hp) (h : F_X1_tells_148 x1 s0 σ = some (r, τ)) : x_W p l e rm_X1_tells s m args below meth c (MQ below (x_Q TX G (some (.int r)) τ) args s 0 0 (x_A TX G)) TX G 9 148 [(1, .int x1)] [.int s0] σ := by
  have hG : x_OK TX G := C.2.2.2.2.2.2.2.2.1
  rw [F_X1_tells_148] at h
  refine x_sat_LEAST_TOLD C 0 rfl dX1_tells_148 dX1_tells_151 dX1_tells_152 ⟨Nat.le_of_ble_eq_true rfl, Nat.le_of_ble_eq_true rfl⟩ (Nat.le_of_ble_eq_true rfl) ?_
  refine x_sat_MOST_TOLD_BY C 0 rfl dX1_tells_155 dX1_tells_158 dX1_tells_159 ⟨Nat.le_of_ble_eq_true rfl, Nat.le_of_ble_eq_true rfl⟩ (Nat.le_of_ble_eq_true rfl) ?_
  obtain ⟨v8, σ8, hc8, h⟩ := x_b_some h
  refine x_callSN C (n := 3) (c_X8_within hG hc8) nw_868 wd_869 wd_102 wd_870 (by decide +kernel) rfl ⟨Nat.le_of_ble_eq_true rfl, Nat.le_of_ble_eq_true rfl⟩ ⟨rfl, rfl⟩ rfl (Nat.le_of_ble_eq_true rfl) dX1_tells_162 ?_
  obtain ⟨rfl, rfl⟩ := x_ret h
  exact x_iret C dX1_tells_165
set_option maxHeartbeats 4000000 in
set_option maxRecDepth 100000 in
theorem w_X1_tells_135 {r : Int32} {τ : x_Hp} (C : x_C p s m args meth c cX1_tells 9 (some .int) yX1_tells.cls TX G) (o : Nat) (x1 : Int32) (x5 : Int32) (σ : x_Hp) (hk_o : x_kd TX o = 1) (h : F_X1_tells_135 o x1 x5 σ = some (r, τ)) : x_W p l e rm_X1_tells s m args below meth c (MQ below (x_Q TX G (some (.int r)) τ) args s 0 0 (x_A TX G)) TX G 9 135 [(0, .ref (x_ad G o)), (1, .int x1), (5, .int x5)] [] σ := by
  have hG : x_OK TX G := C.2.2.2.2.2.2.2.2.1
  rw [F_X1_tells_135] at h
  refine x_aload_n C 0 dX1_tells_135 rfl rfl ?_
  refine x_getI C (k := 7) hk_o (by decide) rfl x_in1 (by decide) (by decide) rfl rfl wd_144 dX1_tells_136 ?_
  refine x_if_eq C 146 dX1_tells_139 rfl (fun hc => ?_) (fun hc => ?_)
  · replace h := x_itp hc h
    refine x_iload C 2 dX1_tells_146 rfl ?_
    exact x_sub [1] rfl (w_X1_tells_148 C x1 x5 σ h)
  · replace h := x_itn hc h
    refine x_iconst C (0 : Int32) dX1_tells_142 (by decide) ?_
    refine x_goto C 148 dX1_tells_143 rfl ?_
    exact x_sub [1] rfl (w_X1_tells_148 C x1 (0 : Int32) σ h)
set_option maxHeartbeats 4000000 in
set_option maxRecDepth 100000 in
theorem w_X1_tells_114 {r : Int32} {τ : x_Hp} (C : x_C p s m args meth c cX1_tells 9 (some .int) yX1_tells.cls TX G) (o : Nat) (x1 : Int32) (r2 : Nat) (x4 : Int32) (x5 : Int32) (x6 : Int32) (σ : x_Hp) (hk_o : x_kd TX o = 1) (hk_r2 : x_kd TX r2 = 5) (h : F_X1_tells_114 o x1 r2 x4 x5 x6 σ = some (r, τ)) : x_W p l e rm_X1_tells s m args below meth c (MQ below (x_Q TX G (some (.int r)) τ) args s 0 0 (x_A TX G)) TX G 9 114 [(0, .ref (x_ad G o)), (1, .int x1), (2, .ref (x_ad G r2)), (4, .int x4), (5, .int x5), (6, .int x6)] [] σ := by
  have hG : x_OK TX G := C.2.2.2.2.2.2.2.2.1
  rw [F_X1_tells_114] at h
  refine x_iload C 5 dX1_tells_114 rfl ?_
  refine x_if_ne C 135 dX1_tells_116 rfl (fun hc => ?_) (fun hc => ?_)
  · replace h := x_itn hc h
    exact x_sub [0, 1, 4] rfl (w_X1_tells_135 C o x1 x5 σ hk_o h)
  · replace h := x_itp hc h
    refine x_aload_n C 0 dX1_tells_119 rfl rfl ?_
    refine x_getI C (k := 7) hk_o (by decide) rfl x_in1 (by decide) (by decide) rfl rfl wd_144 dX1_tells_120 ?_
    refine x_if_ne C 135 dX1_tells_123 rfl (fun hc => ?_) (fun hc => ?_)
    · replace h := x_itn hc h
      exact x_sub [0, 1, 4] rfl (w_X1_tells_135 C o x1 x5 σ hk_o h)
    · replace h := x_itp hc h
      refine x_aload_n C 0 dX1_tells_126 rfl rfl ?_
      refine x_iload C 3 dX1_tells_127 rfl ?_
      refine x_aload_n C 2 dX1_tells_129 rfl rfl ?_
      obtain ⟨v6, σ6, hc6, h⟩ := x_b_some h
      refine x_callV C (n := 2) (c_X1_value hG hk_o hk_r2 hc6) hk_o (by decide) rfl wd_852 wd_854 wd_28 wd_104 wd_855 (by decide +kernel) rfl ⟨Nat.le_of_ble_eq_true rfl, Nat.le_of_ble_eq_true rfl⟩ ⟨rfl, rfl⟩ rfl (Nat.le_of_ble_eq_true rfl) dX1_tells_130 ?_
      refine x_istore C [(5, .int v6), (0, .ref (x_ad G o)), (1, .int x1), (2, .ref (x_ad G r2)), (4, .int x4), (6, .int x6)] dX1_tells_133 (by decide) rfl ?_
      exact x_sub [1, 2, 0] rfl (w_X1_tells_135 C o x1 v6 σ6 hk_o h)
set_option maxHeartbeats 4000000 in
set_option maxRecDepth 100000 in
theorem w_X1_tells_108 {r : Int32} {τ : x_Hp} (C : x_C p s m args meth c cX1_tells 9 (some .int) yX1_tells.cls TX G) {k34 : Nat → Int32 → Nat → Int32 → Int32 → Int32 → Int32 → x_Hp → Option (Int32 × x_Hp)} (hk34 : ∀ (o : Nat) (x1 : Int32) (r2 : Nat) (x3 : Int32) (x4 : Int32) (x5 : Int32) (x6 : Int32) (σ : x_Hp) (hk_o : x_kd TX o = 1) (hk_r2 : x_kd TX r2 = 5) (h : k34 o x1 r2 x3 x4 x5 x6 σ = some (r, τ)), x_W p l e rm_X1_tells s m args below meth c (MQ below (x_Q TX G (some (.int r)) τ) args s 0 0 (x_A TX G)) TX G 9 34 [(0, .ref (x_ad G o)), (1, .int x1), (2, .ref (x_ad G r2)), (3, .int x3), (4, .int x4), (5, .int x5), (6, .int x6)] [] σ) (o : Nat) (x1 : Int32) (r2 : Nat) (x3 : Int32) (x4 : Int32) (x5 : Int32) (x6 : Int32) (σ : x_Hp) (hk_o : x_kd TX o = 1) (hk_r2 : x_kd TX r2 = 5) (h : F_X1_tells_108 k34 o x1 r2 x3 x4 x5 x6 σ = some (r, τ)) : x_W p l e rm_X1_tells s m args below meth c (MQ below (x_Q TX G (some (.int r)) τ) args s 0 0 (x_A TX G)) TX G 9 108 [(0, .ref (x_ad G o)), (1, .int x1), (2, .ref (x_ad G r2)), (3, .int x3), (4, .int x4), (5, .int x5), (6, .int x6)] [] σ := by
  have hG : x_OK TX G := C.2.2.2.2.2.2.2.2.1
  rw [F_X1_tells_108] at h
  refine x_iinc C 3 (x3 + (3 : Int32)) [(3, .int (x3 + (3 : Int32))), (0, .ref (x_ad G o)), (1, .int x1), (2, .ref (x_ad G r2)), (4, .int x4), (5, .int x5), (6, .int x6)] dX1_tells_108 rfl rfl (by decide) rfl ?_
  refine x_goto C 34 dX1_tells_111 rfl ?_
  exact x_sub [1, 2, 3, 0, 4, 5, 6] rfl (hk34 o x1 r2 (x3 + (3 : Int32)) x4 x5 x6 σ hk_o hk_r2 h)
set_option maxHeartbeats 4000000 in
set_option maxRecDepth 100000 in
theorem w_X1_tells_79 {r : Int32} {τ : x_Hp} (C : x_C p s m args meth c cX1_tells 9 (some .int) yX1_tells.cls TX G) {k34 : Nat → Int32 → Nat → Int32 → Int32 → Int32 → Int32 → x_Hp → Option (Int32 × x_Hp)} (hk34 : ∀ (o : Nat) (x1 : Int32) (r2 : Nat) (x3 : Int32) (x4 : Int32) (x5 : Int32) (x6 : Int32) (σ : x_Hp) (hk_o : x_kd TX o = 1) (hk_r2 : x_kd TX r2 = 5) (h : k34 o x1 r2 x3 x4 x5 x6 σ = some (r, τ)), x_W p l e rm_X1_tells s m args below meth c (MQ below (x_Q TX G (some (.int r)) τ) args s 0 0 (x_A TX G)) TX G 9 34 [(0, .ref (x_ad G o)), (1, .int x1), (2, .ref (x_ad G r2)), (3, .int x3), (4, .int x4), (5, .int x5), (6, .int x6)] [] σ) (o : Nat) (x1 : Int32) (r2 : Nat) (x3 : Int32) (x4 : Int32) (x5 : Int32) (x6 : Int32) (x7 : Int32) (s0 : Int32) (σ : x_Hp) (hk_o : x_kd TX o = 1) (hk_r2 : x_kd TX r2 = 5) (h : F_X1_tells_79 k34 o x1 r2 x3 x4 x5 x6 x7 s0 σ = some (r, τ)) : x_W p l e rm_X1_tells s m args below meth c (MQ below (x_Q TX G (some (.int r)) τ) args s 0 0 (x_A TX G)) TX G 9 79 [(0, .ref (x_ad G o)), (1, .int x1), (2, .ref (x_ad G r2)), (3, .int x3), (4, .int x4), (5, .int x5), (6, .int x6), (7, .int x7)] [.int s0] σ := by
  have hG : x_OK TX G := C.2.2.2.2.2.2.2.2.1
  rw [F_X1_tells_79] at h
  refine x_istore C [(8, .int s0), (0, .ref (x_ad G o)), (1, .int x1), (2, .ref (x_ad G r2)), (3, .int x3), (4, .int x4), (5, .int x5), (6, .int x6), (7, .int x7)] dX1_tells_79 (by decide) rfl ?_
  refine x_aload_n C 1 dX1_tells_81 rfl rfl ?_
  refine x_getI C (k := 7) hk_o (by decide) rfl x_in1 (by decide) (by decide) rfl rfl wd_144 dX1_tells_82 ?_
  refine x_if_ne C 108 dX1_tells_85 rfl (fun hc => ?_) (fun hc => ?_)
  · replace h := x_itn hc h
    exact x_sub [1, 2, 3, 4, 5, 6, 7] rfl (w_X1_tells_108 C hk34 o x1 r2 x3 x4 x5 x6 σ hk_o hk_r2 h)
  · replace h := x_itp hc h
    refine x_iload C 8 dX1_tells_88 rfl ?_
    refine x_iload C 0 dX1_tells_90 rfl ?_
    refine x_icmp_ge C 108 dX1_tells_92 rfl (fun hc => ?_) (fun hc => ?_)
    · replace h := x_itp hc h
      exact x_sub [1, 2, 3, 4, 5, 6, 7] rfl (w_X1_tells_108 C hk34 o x1 r2 x3 x4 x5 x6 σ hk_o hk_r2 h)
    · replace h := x_itn hc h
      refine x_aload_n C 1 dX1_tells_95 rfl rfl ?_
      refine x_iload_n C 4 dX1_tells_96 rfl rfl ?_
      refine x_iconst C (2 : Int32) dX1_tells_97 (by decide) ?_
      refine x_iadd C dX1_tells_98 ?_
      refine x_aload_n C 3 dX1_tells_99 rfl rfl ?_
      obtain ⟨v7, σ7, hc7, h⟩ := x_b_some h
      refine x_callV C (n := 2) (c_X1_value hG hk_o hk_r2 hc7) hk_o (by decide) rfl wd_852 wd_854 wd_28 wd_104 wd_855 (by decide +kernel) rfl ⟨Nat.le_of_ble_eq_true rfl, Nat.le_of_ble_eq_true rfl⟩ ⟨rfl, rfl⟩ rfl (Nat.le_of_ble_eq_true rfl) dX1_tells_100 ?_
      refine x_istore C [(5, .int v7), (8, .int s0), (0, .ref (x_ad G o)), (1, .int x1), (2, .ref (x_ad G r2)), (3, .int x3), (4, .int x4), (6, .int x6), (7, .int x7)] dX1_tells_103 (by decide) rfl ?_
      refine x_iconst C (1 : Int32) dX1_tells_105 (by decide) ?_
      refine x_istore C [(6, .int (1 : Int32)), (5, .int v7), (8, .int s0), (0, .ref (x_ad G o)), (1, .int x1), (2, .ref (x_ad G r2)), (3, .int x3), (4, .int x4), (7, .int x7)] dX1_tells_106 (by decide) rfl ?_
      exact x_sub [3, 4, 5, 6, 7, 1, 0] rfl (w_X1_tells_108 C hk34 o x1 r2 x3 x4 v7 (1 : Int32) σ7 hk_o hk_r2 h)
set_option maxHeartbeats 4000000 in
set_option maxRecDepth 100000 in
theorem w_X1_tells_34 {r : Int32} {τ : x_Hp} (C : x_C p s m args meth c cX1_tells 9 (some .int) yX1_tells.cls TX G) : ∀ (n : Nat) (o : Nat) (x1 : Int32) (r2 : Nat) (x3 : Int32) (x4 : Int32) (x5 : Int32) (x6 : Int32) (σ : x_Hp) (hk_o : x_kd TX o = 1) (hk_r2 : x_kd TX r2 = 5) (h : F_X1_tells_34 n o x1 r2 x3 x4 x5 x6 σ = some (r, τ)), x_W p l e rm_X1_tells s m args below meth c (MQ below (x_Q TX G (some (.int r)) τ) args s 0 0 (x_A TX G)) TX G 9 34 [(0, .ref (x_ad G o)), (1, .int x1), (2, .ref (x_ad G r2)), (3, .int x3), (4, .int x4), (5, .int x5), (6, .int x6)] [] σ := by
  intro n
  induction n with
  | zero => intro o x1 r2 x3 x4 x5 x6 σ _ _ h; cases h
  | succ n ih =>
    intro o x1 r2 x3 x4 x5 x6 σ hk_o hk_r2 h
    have hG : x_OK TX G := C.2.2.2.2.2.2.2.2.1
    rw [F_X1_tells_34] at h
    refine x_iload_n C 3 dX1_tells_34 rfl rfl ?_
    refine x_iload C 4 dX1_tells_35 rfl ?_
    refine x_icmp_ge C 114 dX1_tells_37 rfl (fun hc => ?_) (fun hc => ?_)
    · replace h := x_itp hc h
      exact x_sub [0, 1, 2, 4, 5, 6] rfl (w_X1_tells_114 C o x1 r2 x4 x5 x6 σ hk_o hk_r2 h)
    · replace h := x_itn hc h
      refine x_iload C 6 dX1_tells_40 rfl ?_
      refine x_if_ne C 114 dX1_tells_42 rfl (fun hc => ?_) (fun hc => ?_)
      · replace h := x_itn hc h
        exact x_sub [0, 1, 2, 4, 5, 6] rfl (w_X1_tells_114 C o x1 r2 x4 x5 x6 σ hk_o hk_r2 h)
      · replace h := x_itp hc h
        refine x_aload_n C 0 dX1_tells_45 rfl rfl ?_
        refine x_getI C (k := 7) hk_o (by decide) rfl x_in1 (by decide) (by decide) rfl rfl wd_144 dX1_tells_46 ?_
        refine x_if_ne C 114 dX1_tells_49 rfl (fun hc => ?_) (fun hc => ?_)
        · replace h := x_itn hc h
          exact x_sub [0, 1, 2, 4, 5, 6] rfl (w_X1_tells_114 C o x1 r2 x4 x5 x6 σ hk_o hk_r2 h)
        · replace h := x_itp hc h
          refine x_aload_n C 0 dX1_tells_52 rfl rfl ?_
          refine x_iload_n C 3 dX1_tells_53 rfl rfl ?_
          refine x_aload_n C 2 dX1_tells_54 rfl rfl ?_
          obtain ⟨v4, σ4, hc4, h⟩ := x_b_some h
          refine x_callV C (n := 2) (c_X1_value hG hk_o hk_r2 hc4) hk_o (by decide) rfl wd_852 wd_854 wd_28 wd_104 wd_855 (by decide +kernel) rfl ⟨Nat.le_of_ble_eq_true rfl, Nat.le_of_ble_eq_true rfl⟩ ⟨rfl, rfl⟩ rfl (Nat.le_of_ble_eq_true rfl) dX1_tells_55 ?_
          refine x_istore C [(7, .int v4), (0, .ref (x_ad G o)), (1, .int x1), (2, .ref (x_ad G r2)), (3, .int x3), (4, .int x4), (5, .int x5), (6, .int x6)] dX1_tells_58 (by decide) rfl ?_
          refine x_aload_n C 1 dX1_tells_60 rfl rfl ?_
          refine x_getI C (k := 7) hk_o (by decide) rfl x_in1 (by decide) (by decide) rfl rfl wd_144 dX1_tells_61 ?_
          refine x_if_eq C 71 dX1_tells_64 rfl (fun hc => ?_) (fun hc => ?_)
          · replace h := x_itp hc h
            refine x_aload_n C 1 dX1_tells_71 rfl rfl ?_
            refine x_iload_n C 4 dX1_tells_72 rfl rfl ?_
            refine x_iconst C (1 : Int32) dX1_tells_73 (by decide) ?_
            refine x_iadd C dX1_tells_74 ?_
            refine x_aload_n C 3 dX1_tells_75 rfl rfl ?_
            obtain ⟨v5, σ5, hc5, h⟩ := x_b_some h
            refine x_callV C (n := 2) (c_X1_value hG hk_o hk_r2 hc5) hk_o (by decide) rfl wd_852 wd_854 wd_28 wd_104 wd_855 (by decide +kernel) rfl ⟨Nat.le_of_ble_eq_true rfl, Nat.le_of_ble_eq_true rfl⟩ ⟨rfl, rfl⟩ rfl (Nat.le_of_ble_eq_true rfl) dX1_tells_76 ?_
            exact x_sub [1, 2, 3, 4, 5, 6, 7, 0] rfl (w_X1_tells_79 C ih o x1 r2 x3 x4 x5 x6 v4 v5 σ5 hk_o hk_r2 h)
          · replace h := x_itn hc h
            refine x_iconst C (0 : Int32) dX1_tells_67 (by decide) ?_
            refine x_goto C 79 dX1_tells_68 rfl ?_
            exact x_sub [1, 2, 3, 4, 5, 6, 7, 0] rfl (w_X1_tells_79 C ih o x1 r2 x3 x4 x5 x6 v4 (0 : Int32) σ4 hk_o hk_r2 h)
set_option maxHeartbeats 4000000 in
set_option maxRecDepth 100000 in
theorem c_X1_tells (hG : x_OK TX G) {o : Nat} {x1 : Int32} {r2 : Nat} {σ τ : x_Hp} {r : Int32} (hk_o : x_kd TX o = 1) (hk_r2 : x_kd TX r2 = 5) (h : F_X1_tells o x1 r2 σ = some (r, τ)) : x_M l TX G yX1_tells cX1_tells 9 (some .int) rm_X1_tells [.ref (x_ad G o), .int x1, .ref (x_ad G r2)] σ (some (.int r)) τ := by
  refine x_M.of hG (lv := [(0, .ref (x_ad G o)), (1, .int x1), (2, .ref (x_ad G r2))]) (by decide) (Nat.le_of_ble_eq_true rfl) rfl (fun p e s m below meth c C => ?_)
  rw [F_X1_tells] at h
  refine x_aload_n C 0 dX1_tells_0 rfl rfl ?_
  refine x_iconst C (0 : Int32) dX1_tells_1 (by decide) ?_
  refine x_putI C (k := 7) tyX1 hk_o (by decide) rfl x_in1 tyX1_ok nmX1 (by decide) (by decide) rfl rfl wd_144 rfl (tyX1_ok 7 (by decide)) rfl rfl dX1_tells_2 (x_gen h fun σ1 h => ?_)
  refine x_aload_n C 0 dX1_tells_5 rfl rfl ?_
  refine x_getR C (k := 4) hk_o (by decide) rfl x_in1 (by decide) (by decide) rfl rfl wd_141 dX1_tells_6 ?_
  refine x_iload_n C 1 dX1_tells_9 rfl rfl ?_
  obtain ⟨v2, σ2, hc2, h⟩ := x_b_some h
  refine x_callSN C (n := 2) (c_X8_at hG (t_TX_1_4 hk_o) hc2) nw_796 wd_541 wd_102 wd_542 (by decide +kernel) rfl ⟨Nat.le_of_ble_eq_true rfl, Nat.le_of_ble_eq_true rfl⟩ ⟨rfl, rfl⟩ rfl (Nat.le_of_ble_eq_true rfl) dX1_tells_10 ?_
  refine x_istore_n C [(3, .int v2), (0, .ref (x_ad G o)), (1, .int x1), (2, .ref (x_ad G r2))] dX1_tells_13 rfl (by decide) rfl ?_
  refine x_iload_n C 0 dX1_tells_14 rfl rfl ?_
  refine x_iconst C (3 : Int32) dX1_tells_15 (by decide) ?_
  refine x_aload_n C 1 dX1_tells_16 rfl rfl ?_
  refine x_getR C (k := 5) hk_o (by decide) rfl x_in1 (by decide) (by decide) rfl rfl wd_142 dX1_tells_17 ?_
  refine x_iload_n C 2 dX1_tells_20 rfl rfl ?_
  obtain ⟨v3, σ3, hc3, h⟩ := x_b_some h
  refine x_callSN C (n := 2) (c_X8_at hG (t_TX_1_5 hk_o) hc3) nw_796 wd_541 wd_102 wd_542 (by decide +kernel) rfl ⟨Nat.le_of_ble_eq_true rfl, Nat.le_of_ble_eq_true rfl⟩ ⟨rfl, rfl⟩ rfl (Nat.le_of_ble_eq_true rfl) dX1_tells_21 ?_
  refine x_imul C dX1_tells_24 ?_
  refine x_iadd C dX1_tells_25 ?_
  refine x_istore C [(4, .int (v2 + ((3 : Int32) * v3))), (3, .int v2), (0, .ref (x_ad G o)), (1, .int x1), (2, .ref (x_ad G r2))] dX1_tells_26 (by decide) rfl ?_
  refine x_iconst C (0 : Int32) dX1_tells_28 (by decide) ?_
  refine x_istore C [(5, .int (0 : Int32)), (4, .int (v2 + ((3 : Int32) * v3))), (3, .int v2), (0, .ref (x_ad G o)), (1, .int x1), (2, .ref (x_ad G r2))] dX1_tells_29 (by decide) rfl ?_
  refine x_iconst C (0 : Int32) dX1_tells_31 (by decide) ?_
  refine x_istore C [(6, .int (0 : Int32)), (5, .int (0 : Int32)), (4, .int (v2 + ((3 : Int32) * v3))), (3, .int v2), (0, .ref (x_ad G o)), (1, .int x1), (2, .ref (x_ad G r2))] dX1_tells_32 (by decide) rfl ?_
  exact x_sub [4, 5, 6, 3, 2, 1, 0] rfl (w_X1_tells_34 C x_fuel o x1 r2 v2 (v2 + ((3 : Int32) * v3)) (0 : Int32) (0 : Int32) σ3 hk_o hk_r2 h)
abbrev rm_X5_tallyMore : Room := { frames := 0, cells := 0, slots := 0, locals := 0 }
set_option maxHeartbeats 4000000 in
set_option maxRecDepth 100000 in
theorem c_X5_tallyMore (hG : x_OK TX G) {o : Nat} {x1 : Int32} {x2 : Int32} {σ τ : x_Hp} (hk_o : x_kd TX o = 5) (h : F_X5_tallyMore o x1 x2 σ = some ((), τ)) : x_M l TX G yX5_tallyMore cX5_tallyMore 4 none rm_X5_tallyMore [.ref (x_ad G o), .int x1, .int x2] σ none τ := by
  refine x_M.of hG (lv := [(0, .ref (x_ad G o)), (1, .int x1), (2, .int x2)]) (by decide) (Nat.le_of_ble_eq_true rfl) rfl (fun p e s m below meth c C => ?_)
  rw [F_X5_tallyMore] at h
  refine x_aload_n C 0 dX5_tallyMore_0 rfl rfl ?_
  refine x_getI C (k := 9) hk_o (by decide) rfl x_in5 (by decide) (by decide) rfl rfl wd_330 dX5_tallyMore_1 ?_
  refine x_bipush C (7 : Int32) dX5_tallyMore_4 (by decide) ?_
  refine x_imul C dX5_tallyMore_6 ?_
  refine x_iload_n C 1 dX5_tallyMore_7 rfl rfl ?_
  refine x_iadd C dX5_tallyMore_8 ?_
  refine x_istore_n C [(3, .int (((σ.1 o 9) * (7 : Int32)) + x1)), (0, .ref (x_ad G o)), (1, .int x1), (2, .int x2)] dX5_tallyMore_9 rfl (by decide) rfl ?_
  refine x_iload_n C 0 dX5_tallyMore_10 rfl rfl ?_
  refine x_if_lt C 33 dX5_tallyMore_11 rfl (fun hc => ?_) (fun hc => ?_)
  · replace h := x_itp hc h
    obtain ⟨-, rfl⟩ := x_ret h
    exact x_vret C dX5_tallyMore_33
  · replace h := x_itn hc h
    refine x_iload_n C 0 dX5_tallyMore_14 rfl rfl ?_
    refine x_aload_n C 1 dX5_tallyMore_15 rfl rfl ?_
    refine x_getR C (k := 20) hk_o (by decide) rfl x_in5 (by decide) (by decide) rfl rfl wd_364 dX5_tallyMore_16 ?_
    refine x_alen C (Int32.ofNat (x_ln TX (x_rf TX o 20))) (t_TX_5_20 hk_o) (by decide) rfl dX5_tallyMore_19 ?_
    refine x_icmp_ge C 33 dX5_tallyMore_20 rfl (fun hc => ?_) (fun hc => ?_)
    · replace h := x_itp hc h
      obtain ⟨-, rfl⟩ := x_ret h
      exact x_vret C dX5_tallyMore_33
    · replace h := x_itn hc h
      refine x_aload_n C 1 dX5_tallyMore_23 rfl rfl ?_
      refine x_getR C (k := 20) hk_o (by decide) rfl x_in5 (by decide) (by decide) rfl rfl wd_364 dX5_tallyMore_24 ?_
      refine x_iload_n C 0 dX5_tallyMore_27 rfl rfl ?_
      refine x_dup2 C dX5_tallyMore_28 rfl rfl ?_
      obtain ⟨hi1, h⟩ := x_gd_some h
      refine x_iald C (t_TX_5_20 hk_o) hi1 dX5_tallyMore_29 ?_
      refine x_iload_n C 3 dX5_tallyMore_30 rfl rfl ?_
      refine x_iadd C dX5_tallyMore_31 ?_
      obtain ⟨hi2, h⟩ := x_gd_some h
      refine x_iast C (t_TX_5_20 hk_o) hi2 dX5_tallyMore_32 (x_gen h fun σ3 h => ?_)
      obtain ⟨-, rfl⟩ := x_ret h
      exact x_vret C dX5_tallyMore_33
abbrev rm_X0_stepAsleep : Room := { frames := 3, cells := 0, slots := 0, locals := 77 }
set_option maxHeartbeats 4000000 in
set_option maxRecDepth 100000 in
theorem c_X0_stepAsleep (hG : x_OK TX G) {o : Nat} {r1 : Nat} {σ τ : x_Hp} (hk_o : x_kd TX o = 0) (hk_r1 : x_kd TX r1 = 5) (h : F_X0_stepAsleep o r1 σ = some ((), τ)) : x_M l TX G yX0_stepAsleep cX0_stepAsleep 2 none rm_X0_stepAsleep [.ref (x_ad G o), .ref (x_ad G r1)] σ none τ := by
  refine x_M.of hG (lv := [(0, .ref (x_ad G o)), (1, .ref (x_ad G r1))]) (by decide) (Nat.le_of_ble_eq_true rfl) rfl (fun p e s m below meth c C => ?_)
  rw [F_X0_stepAsleep] at h
  refine x_aload_n C 1 dX0_stepAsleep_0 rfl rfl ?_
  refine x_aload_n C 1 dX0_stepAsleep_1 rfl rfl ?_
  refine x_getI C (k := 0) hk_r1 (by decide) rfl x_in5 (by decide) (by decide) rfl rfl wd_306 dX0_stepAsleep_2 ?_
  refine x_aload_n C 0 dX0_stepAsleep_5 rfl rfl ?_
  refine x_getR C (k := 0) hk_o (by decide) rfl x_in0 (by decide) (by decide) rfl rfl wd_294 dX0_stepAsleep_6 ?_
  refine x_getR C (k := 14) (t_TX_0_0 hk_o) (by decide) rfl x_in6 (by decide) (by decide) rfl rfl wd_202 dX0_stepAsleep_9 ?_
  refine x_iconst C (0 : Int32) dX0_stepAsleep_12 (by decide) ?_
  refine x_aload_n C 1 dX0_stepAsleep_13 rfl rfl ?_
  obtain ⟨v1, σ1, hc1, h⟩ := x_b_some h
  refine x_callV C (n := 2) (c_X1_tells hG (t_TX_6_14 (t_TX_0_0 hk_o)) hk_r1 hc1) (t_TX_6_14 (t_TX_0_0 hk_o)) (by decide) rfl wd_903 wd_849 wd_850 wd_104 wd_851 (by decide +kernel) rfl ⟨Nat.le_of_ble_eq_true rfl, Nat.le_of_ble_eq_true rfl⟩ ⟨rfl, rfl⟩ rfl (Nat.le_of_ble_eq_true rfl) dX0_stepAsleep_14 ?_
  refine x_iadd C dX0_stepAsleep_17 ?_
  refine x_iconst C (0 : Int32) dX0_stepAsleep_18 (by decide) ?_
  refine x_bipush C (99 : Int32) dX0_stepAsleep_19 (by decide) ?_
  obtain ⟨v2, σ2, hc2, h⟩ := x_b_some h
  refine x_callSN C (n := 3) (c_X8_within hG hc2) nw_904 wd_869 wd_102 wd_870 (by decide +kernel) rfl ⟨Nat.le_of_ble_eq_true rfl, Nat.le_of_ble_eq_true rfl⟩ ⟨rfl, rfl⟩ rfl (Nat.le_of_ble_eq_true rfl) dX0_stepAsleep_21 ?_
  refine x_putI C (k := 0) tyX5 hk_r1 (by decide) rfl x_in5 tyX5_ok nmX5 (by decide) (by decide) rfl rfl wd_306 rfl (tyX5_ok 0 (by decide)) rfl rfl dX0_stepAsleep_24 (x_gen h fun σ3 h => ?_)
  refine x_aload_n C 1 dX0_stepAsleep_27 rfl rfl ?_
  refine x_iconst C (3 : Int32) dX0_stepAsleep_28 (by decide) ?_
  refine x_iconst C (1 : Int32) dX0_stepAsleep_29 (by decide) ?_
  obtain ⟨v4, σ4, hc4, h⟩ := x_b_some h
  refine x_callV C (n := 2) (c_X5_tallyMore hG hk_r1 hc4) hk_r1 (by decide) rfl wd_905 wd_906 wd_907 wd_107 wd_908 (by decide +kernel) rfl ⟨Nat.le_of_ble_eq_true rfl, Nat.le_of_ble_eq_true rfl⟩ ⟨rfl, rfl⟩ rfl (Nat.le_of_ble_eq_true rfl) dX0_stepAsleep_30 ?_
  refine x_aload_n C 1 dX0_stepAsleep_33 rfl rfl ?_
  refine x_iconst C (0 : Int32) dX0_stepAsleep_34 (by decide) ?_
  refine x_putI C (k := 12) tyX5 hk_r1 (by decide) rfl x_in5 tyX5_ok nmX5 (by decide) (by decide) rfl rfl wd_339 rfl (tyX5_ok 12 (by decide)) rfl rfl dX0_stepAsleep_35 (x_gen h fun σ5 h => ?_)
  refine x_aload_n C 1 dX0_stepAsleep_38 rfl rfl ?_
  refine x_dup C dX0_stepAsleep_39 rfl ?_
  refine x_getI C (k := 13) hk_r1 (by decide) rfl x_in5 (by decide) (by decide) rfl rfl wd_342 dX0_stepAsleep_40 ?_
  refine x_iconst C (1 : Int32) dX0_stepAsleep_43 (by decide) ?_
  refine x_isub C dX0_stepAsleep_44 ?_
  refine x_putI C (k := 13) tyX5 hk_r1 (by decide) rfl x_in5 tyX5_ok nmX5 (by decide) (by decide) rfl rfl wd_342 rfl (tyX5_ok 13 (by decide)) rfl rfl dX0_stepAsleep_45 (x_gen h fun σ6 h => ?_)
  refine x_aload_n C 1 dX0_stepAsleep_48 rfl rfl ?_
  refine x_getI C (k := 13) hk_r1 (by decide) rfl x_in5 (by decide) (by decide) rfl rfl wd_342 dX0_stepAsleep_49 ?_
  refine x_if_ne C 65 dX0_stepAsleep_52 rfl (fun hc => ?_) (fun hc => ?_)
  · replace h := x_itn hc h
    obtain ⟨-, rfl⟩ := x_ret h
    exact x_vret C dX0_stepAsleep_65
  · replace h := x_itp hc h
    refine x_aload_n C 1 dX0_stepAsleep_55 rfl rfl ?_
    refine x_iconst C (0 : Int32) dX0_stepAsleep_56 (by decide) ?_
    refine x_putI C (k := 1) tyX5 hk_r1 (by decide) rfl x_in5 tyX5_ok nmX5 (by decide) (by decide) rfl rfl wd_309 rfl (tyX5_ok 1 (by decide)) rfl rfl dX0_stepAsleep_57 (x_gen h fun σ7 h => ?_)
    refine x_aload_n C 1 dX0_stepAsleep_60 rfl rfl ?_
    refine x_iconst C (0 : Int32) dX0_stepAsleep_61 (by decide) ?_
    refine x_putI C (k := 4) tyX5 hk_r1 (by decide) rfl x_in5 tyX5_ok nmX5 (by decide) (by decide) rfl rfl wd_318 rfl (tyX5_ok 4 (by decide)) rfl rfl dX0_stepAsleep_62 (x_gen h fun σ8 h => ?_)
    obtain ⟨-, rfl⟩ := x_ret h
    exact x_vret C dX0_stepAsleep_65
abbrev rm_X0_fallAsleep : Room := { frames := 0, cells := 0, slots := 0, locals := 0 }
set_option maxHeartbeats 4000000 in
set_option maxRecDepth 100000 in
theorem c_X0_fallAsleep (hG : x_OK TX G) {o : Nat} {r1 : Nat} {σ τ : x_Hp} (hk_o : x_kd TX o = 0) (hk_r1 : x_kd TX r1 = 5) (h : F_X0_fallAsleep o r1 σ = some ((), τ)) : x_M l TX G yX0_fallAsleep cX0_fallAsleep 2 none rm_X0_fallAsleep [.ref (x_ad G o), .ref (x_ad G r1)] σ none τ := by
  refine x_M.of hG (lv := [(0, .ref (x_ad G o)), (1, .ref (x_ad G r1))]) (by decide) (Nat.le_of_ble_eq_true rfl) rfl (fun p e s m below meth c C => ?_)
  rw [F_X0_fallAsleep] at h
  refine x_aload_n C 1 dX0_fallAsleep_0 rfl rfl ?_
  refine x_bipush C (60 : Int32) dX0_fallAsleep_1 (by decide) ?_
  refine x_putI C (k := 13) tyX5 hk_r1 (by decide) rfl x_in5 tyX5_ok nmX5 (by decide) (by decide) rfl rfl wd_342 rfl (tyX5_ok 13 (by decide)) rfl rfl dX0_fallAsleep_3 (x_gen h fun σ1 h => ?_)
  refine x_aload_n C 1 dX0_fallAsleep_6 rfl rfl ?_
  refine x_dup C dX0_fallAsleep_7 rfl ?_
  refine x_getI C (k := 17) hk_r1 (by decide) rfl x_in5 (by decide) (by decide) rfl rfl wd_354 dX0_fallAsleep_8 ?_
  refine x_iconst C (1 : Int32) dX0_fallAsleep_11 (by decide) ?_
  refine x_iadd C dX0_fallAsleep_12 ?_
  refine x_putI C (k := 17) tyX5 hk_r1 (by decide) rfl x_in5 tyX5_ok nmX5 (by decide) (by decide) rfl rfl wd_354 rfl (tyX5_ok 17 (by decide)) rfl rfl dX0_fallAsleep_13 (x_gen h fun σ2 h => ?_)
  obtain ⟨-, rfl⟩ := x_ret h
  exact x_vret C dX0_fallAsleep_16
abbrev rm_X0_lot : Room := { frames := 0, cells := 0, slots := 0, locals := 0 }
set_option maxHeartbeats 4000000 in
set_option maxRecDepth 100000 in
theorem c_X0_lot (hG : x_OK TX G) {x0 : Int32} {x1 : Int32} {x2 : Int32} {σ τ : x_Hp} {r : Int32} (h : F_X0_lot x0 x1 x2 σ = some (r, τ)) : x_M l TX G yX0_lot cX0_lot 4 (some .int) rm_X0_lot [.int x0, .int x1, .int x2] σ (some (.int r)) τ := by
  refine x_M.of hG (lv := [(0, .int x0), (1, .int x1), (2, .int x2)]) (by decide) (Nat.le_of_ble_eq_true rfl) rfl (fun p e s m below meth c C => ?_)
  rw [F_X0_lot] at h
  refine x_iload_n C 1 dX0_lot_0 rfl rfl ?_
  refine x_bipush C (37 : Int32) dX0_lot_1 (by decide) ?_
  refine x_ixor C dX0_lot_3 ?_
  refine x_ldc C wd_916 dX0_lot_4 ?_
  refine x_imul C dX0_lot_6 ?_
  refine x_sipush C (12345 : Int32) dX0_lot_7 (by decide) ?_
  refine x_iadd C dX0_lot_10 ?_
  refine x_istore_n C [(3, .int (((x1 ^^^ (37 : Int32)) * (1103515245 : Int32)) + (12345 : Int32))), (0, .int x0), (1, .int x1), (2, .int x2)] dX0_lot_11 rfl (by decide) rfl ?_
  refine x_iload_n C 0 dX0_lot_12 rfl rfl ?_
  refine x_iload_n C 0 dX0_lot_13 rfl rfl ?_
  refine x_bipush C (15 : Int32) dX0_lot_14 (by decide) ?_
  refine x_iushr C dX0_lot_16 ?_
  refine x_ixor C dX0_lot_17 ?_
  refine x_istore_n C [(3, .int ((((x1 ^^^ (37 : Int32)) * (1103515245 : Int32)) + (12345 : Int32)) ^^^ (((((x1 ^^^ (37 : Int32)) * (1103515245 : Int32)) + (12345 : Int32)).toUInt32 >>> ((15 : Int32).toUInt32 &&& Int32.toUInt32 31)).toInt32))), (0, .int x0), (1, .int x1), (2, .int x2)] dX0_lot_18 rfl (by decide) rfl ?_
  refine x_iload_n C 0 dX0_lot_19 rfl rfl ?_
  refine x_iload_n C 3 dX0_lot_20 rfl rfl ?_
  refine x_ixor C dX0_lot_21 ?_
  refine x_ldc C wd_916 dX0_lot_22 ?_
  refine x_imul C dX0_lot_24 ?_
  refine x_sipush C (12345 : Int32) dX0_lot_25 (by decide) ?_
  refine x_iadd C dX0_lot_28 ?_
  refine x_istore_n C [(3, .int (((((((x1 ^^^ (37 : Int32)) * (1103515245 : Int32)) + (12345 : Int32)) ^^^ (((((x1 ^^^ (37 : Int32)) * (1103515245 : Int32)) + (12345 : Int32)).toUInt32 >>> ((15 : Int32).toUInt32 &&& Int32.toUInt32 31)).toInt32)) ^^^ x2) * (1103515245 : Int32)) + (12345 : Int32))), (0, .int x0), (1, .int x1), (2, .int x2)] dX0_lot_29 rfl (by decide) rfl ?_
  refine x_iload_n C 0 dX0_lot_30 rfl rfl ?_
  refine x_iload_n C 0 dX0_lot_31 rfl rfl ?_
  refine x_bipush C (15 : Int32) dX0_lot_32 (by decide) ?_
  refine x_iushr C dX0_lot_34 ?_
  refine x_ixor C dX0_lot_35 ?_
  refine x_istore_n C [(3, .int ((((((((x1 ^^^ (37 : Int32)) * (1103515245 : Int32)) + (12345 : Int32)) ^^^ (((((x1 ^^^ (37 : Int32)) * (1103515245 : Int32)) + (12345 : Int32)).toUInt32 >>> ((15 : Int32).toUInt32 &&& Int32.toUInt32 31)).toInt32)) ^^^ x2) * (1103515245 : Int32)) + (12345 : Int32)) ^^^ (((((((((x1 ^^^ (37 : Int32)) * (1103515245 : Int32)) + (12345 : Int32)) ^^^ (((((x1 ^^^ (37 : Int32)) * (1103515245 : Int32)) + (12345 : Int32)).toUInt32 >>> ((15 : Int32).toUInt32 &&& Int32.toUInt32 31)).toInt32)) ^^^ x2) * (1103515245 : Int32)) + (12345 : Int32)).toUInt32 >>> ((15 : Int32).toUInt32 &&& Int32.toUInt32 31)).toInt32))), (0, .int x0), (1, .int x1), (2, .int x2)] dX0_lot_36 rfl (by decide) rfl ?_
  refine x_iload_n C 1 dX0_lot_37 rfl rfl ?_
  refine x_if_ne C 45 dX0_lot_38 rfl (fun hc => ?_) (fun hc => ?_)
  · replace h := x_itn hc h
    refine x_iload_n C 0 dX0_lot_45 rfl rfl ?_
    refine x_iconst C (1 : Int32) dX0_lot_46 (by decide) ?_
    refine x_iushr C dX0_lot_47 ?_
    refine x_iload_n C 1 dX0_lot_48 rfl rfl ?_
    obtain ⟨hg, h⟩ := x_gd_some h
    refine x_irem C dX0_lot_49 (x_ne0 hg) ?_
    obtain ⟨rfl, rfl⟩ := x_ret h
    exact x_iret C dX0_lot_50
  · replace h := x_itp hc h
    refine x_iconst C (0 : Int32) dX0_lot_41 (by decide) ?_
    refine x_goto C 50 dX0_lot_42 rfl ?_
    obtain ⟨rfl, rfl⟩ := x_ret h
    exact x_iret C dX0_lot_50
abbrev rm_X0_spit : Room := { frames := 1, cells := 0, slots := 0, locals := 23 }
set_option maxHeartbeats 4000000 in
set_option maxRecDepth 100000 in
theorem c_X0_spit (hG : x_OK TX G) {o : Nat} {r1 : Nat} {σ τ : x_Hp} (hk_o : x_kd TX o = 0) (hk_r1 : x_kd TX r1 = 5) (h : F_X0_spit o r1 σ = some ((), τ)) : x_M l TX G yX0_spit cX0_spit 2 none rm_X0_spit [.ref (x_ad G o), .ref (x_ad G r1)] σ none τ := by
  refine x_M.of hG (lv := [(0, .ref (x_ad G o)), (1, .ref (x_ad G r1))]) (by decide) (Nat.le_of_ble_eq_true rfl) rfl (fun p e s m below meth c C => ?_)
  rw [F_X0_spit] at h
  refine x_aload_n C 1 dX0_spit_0 rfl rfl ?_
  refine x_iconst C (0 : Int32) dX0_spit_1 (by decide) ?_
  refine x_putI C (k := 3) tyX5 hk_r1 (by decide) rfl x_in5 tyX5_ok nmX5 (by decide) (by decide) rfl rfl wd_315 rfl (tyX5_ok 3 (by decide)) rfl rfl dX0_spit_2 (x_gen h fun σ1 h => ?_)
  refine x_aload_n C 1 dX0_spit_5 rfl rfl ?_
  refine x_bipush C (6 : Int32) dX0_spit_6 (by decide) ?_
  refine x_iconst C (1 : Int32) dX0_spit_8 (by decide) ?_
  obtain ⟨v2, σ2, hc2, h⟩ := x_b_some h
  refine x_callV C (n := 2) (c_X5_tallyMore hG hk_r1 hc2) hk_r1 (by decide) rfl wd_905 wd_906 wd_907 wd_107 wd_908 (by decide +kernel) rfl ⟨Nat.le_of_ble_eq_true rfl, Nat.le_of_ble_eq_true rfl⟩ ⟨rfl, rfl⟩ rfl (Nat.le_of_ble_eq_true rfl) dX0_spit_9 ?_
  refine x_aload_n C 1 dX0_spit_12 rfl rfl ?_
  refine x_getI C (k := 14) hk_r1 (by decide) rfl x_in5 (by decide) (by decide) rfl rfl wd_345 dX0_spit_13 ?_
  refine x_if_ne C 38 dX0_spit_16 rfl (fun hc => ?_) (fun hc => ?_)
  · replace h := x_itn hc h
    obtain ⟨-, rfl⟩ := x_ret h
    exact x_vret C dX0_spit_38
  · replace h := x_itp hc h
    refine x_aload_n C 1 dX0_spit_19 rfl rfl ?_
    refine x_iconst C (4 : Int32) dX0_spit_20 (by decide) ?_
    refine x_aload_n C 0 dX0_spit_21 rfl rfl ?_
    refine x_getR C (k := 0) hk_o (by decide) rfl x_in0 (by decide) (by decide) rfl rfl wd_294 dX0_spit_22 ?_
    refine x_getR C (k := 12) (t_TX_0_0 hk_o) (by decide) rfl x_in6 (by decide) (by decide) rfl rfl wd_198 dX0_spit_25 ?_
    refine x_aload_n C 1 dX0_spit_28 rfl rfl ?_
    refine x_getI C (k := 9) hk_r1 (by decide) rfl x_in5 (by decide) (by decide) rfl rfl wd_331 dX0_spit_29 ?_
    obtain ⟨v3, σ3, hc3, h⟩ := x_b_some h
    refine x_callSN C (n := 2) (c_X8_at hG (t_TX_6_12 (t_TX_0_0 hk_o)) hc3) nw_540 wd_541 wd_102 wd_542 (by decide +kernel) rfl ⟨Nat.le_of_ble_eq_true rfl, Nat.le_of_ble_eq_true rfl⟩ ⟨rfl, rfl⟩ rfl (Nat.le_of_ble_eq_true rfl) dX0_spit_32 ?_
    obtain ⟨v4, σ4, hc4, h⟩ := x_b_some h
    refine x_callV C (n := 2) (c_X5_tallyMore hG hk_r1 hc4) hk_r1 (by decide) rfl wd_905 wd_906 wd_907 wd_107 wd_908 (by decide +kernel) rfl ⟨Nat.le_of_ble_eq_true rfl, Nat.le_of_ble_eq_true rfl⟩ ⟨rfl, rfl⟩ rfl (Nat.le_of_ble_eq_true rfl) dX0_spit_35 ?_
    obtain ⟨-, rfl⟩ := x_ret h
    exact x_vret C dX0_spit_38
abbrev rm_X0_stepAwake : Room := { frames := 3, cells := 0, slots := 0, locals := 77 }
set_option maxHeartbeats 4000000 in
set_option maxRecDepth 100000 in
theorem w_X0_stepAwake_217 {τ : x_Hp} (C : x_C p s m args meth c cX0_stepAwake 6 none yX0_stepAwake.cls TX G) (o : Nat) (r1 : Nat) (σ : x_Hp) (hk_o : x_kd TX o = 0) (hk_r1 : x_kd TX r1 = 5) (h : F_X0_stepAwake_217 o r1 σ = some ((), τ)) : x_W p l e rm_X0_stepAwake s m args below meth c (MQ below (x_Q TX G none τ) args s 0 0 (x_A TX G)) TX G 6 217 [(0, .ref (x_ad G o)), (1, .ref (x_ad G r1))] [] σ := by
  have hG : x_OK TX G := C.2.2.2.2.2.2.2.2.1
  rw [F_X0_stepAwake_217] at h
  refine x_aload_n C 0 dX0_stepAwake_217 rfl rfl ?_
  refine x_getR C (k := 0) hk_o (by decide) rfl x_in0 (by decide) (by decide) rfl rfl wd_294 dX0_stepAwake_218 ?_
  refine x_getR C (k := 14) (t_TX_0_0 hk_o) (by decide) rfl x_in6 (by decide) (by decide) rfl rfl wd_202 dX0_stepAwake_221 ?_
  refine x_iconst C (5 : Int32) dX0_stepAwake_224 (by decide) ?_
  refine x_aload_n C 1 dX0_stepAwake_225 rfl rfl ?_
  obtain ⟨v22, σ22, hc22, h⟩ := x_b_some h
  refine x_callV C (n := 2) (c_X1_tells hG (t_TX_6_14 (t_TX_0_0 hk_o)) hk_r1 hc22) (t_TX_6_14 (t_TX_0_0 hk_o)) (by decide) rfl wd_903 wd_849 wd_850 wd_104 wd_851 (by decide +kernel) rfl ⟨Nat.le_of_ble_eq_true rfl, Nat.le_of_ble_eq_true rfl⟩ ⟨rfl, rfl⟩ rfl (Nat.le_of_ble_eq_true rfl) dX0_stepAwake_226 ?_
  refine x_if_le C 237 dX0_stepAwake_229 rfl (fun hc => ?_) (fun hc => ?_)
  · replace h := x_itp hc h
    obtain ⟨-, rfl⟩ := x_ret h
    exact x_vret C dX0_stepAwake_237
  · replace h := x_itn hc h
    refine x_aload_n C 0 dX0_stepAwake_232 rfl rfl ?_
    refine x_aload_n C 1 dX0_stepAwake_233 rfl rfl ?_
    obtain ⟨v23, σ23, hc23, h⟩ := x_b_some h
    refine x_callV C (n := 1) (c_X0_fallAsleep hG hk_o hk_r1 hc23) hk_o (by decide) rfl wd_921 wd_922 wd_923 wd_106 wd_924 (by decide +kernel) rfl ⟨Nat.le_of_ble_eq_true rfl, Nat.le_of_ble_eq_true rfl⟩ ⟨rfl, rfl⟩ rfl (Nat.le_of_ble_eq_true rfl) dX0_stepAwake_234 ?_
    obtain ⟨-, rfl⟩ := x_ret h
    exact x_vret C dX0_stepAwake_237
set_option maxHeartbeats 4000000 in
set_option maxRecDepth 100000 in
theorem w_X0_stepAwake_183 {τ : x_Hp} (C : x_C p s m args meth c cX0_stepAwake 6 none yX0_stepAwake.cls TX G) (o : Nat) (r1 : Nat) (σ : x_Hp) (hk_o : x_kd TX o = 0) (hk_r1 : x_kd TX r1 = 5) (h : F_X0_stepAwake_183 o r1 σ = some ((), τ)) : x_W p l e rm_X0_stepAwake s m args below meth c (MQ below (x_Q TX G none τ) args s 0 0 (x_A TX G)) TX G 6 183 [(0, .ref (x_ad G o)), (1, .ref (x_ad G r1))] [] σ := by
  have hG : x_OK TX G := C.2.2.2.2.2.2.2.2.1
  rw [F_X0_stepAwake_183] at h
  refine x_bipush C (100 : Int32) dX0_stepAwake_183 (by decide) ?_
  refine x_aload_n C 1 dX0_stepAwake_185 rfl rfl ?_
  refine x_getI C (k := 16) hk_r1 (by decide) rfl x_in5 (by decide) (by decide) rfl rfl wd_351 dX0_stepAwake_186 ?_
  refine x_aload_n C 1 dX0_stepAwake_189 rfl rfl ?_
  refine x_getI C (k := 15) hk_r1 (by decide) rfl x_in5 (by decide) (by decide) rfl rfl wd_348 dX0_stepAwake_190 ?_
  obtain ⟨v19, σ19, hc19, h⟩ := x_b_some h
  refine x_callS C (n := 3) (c_X0_lot hG hc19) wd_913 wd_914 wd_106 wd_915 (by decide +kernel) rfl ⟨Nat.le_of_ble_eq_true rfl, Nat.le_of_ble_eq_true rfl⟩ ⟨rfl, rfl⟩ rfl (Nat.le_of_ble_eq_true rfl) dX0_stepAwake_193 ?_
  refine x_aload_n C 0 dX0_stepAwake_196 rfl rfl ?_
  refine x_getR C (k := 0) hk_o (by decide) rfl x_in0 (by decide) (by decide) rfl rfl wd_294 dX0_stepAwake_197 ?_
  refine x_getR C (k := 14) (t_TX_0_0 hk_o) (by decide) rfl x_in6 (by decide) (by decide) rfl rfl wd_202 dX0_stepAwake_200 ?_
  refine x_bipush C (6 : Int32) dX0_stepAwake_203 (by decide) ?_
  refine x_aload_n C 1 dX0_stepAwake_205 rfl rfl ?_
  obtain ⟨v20, σ20, hc20, h⟩ := x_b_some h
  refine x_callV C (n := 2) (c_X1_tells hG (t_TX_6_14 (t_TX_0_0 hk_o)) hk_r1 hc20) (t_TX_6_14 (t_TX_0_0 hk_o)) (by decide) rfl wd_903 wd_849 wd_850 wd_104 wd_851 (by decide +kernel) rfl ⟨Nat.le_of_ble_eq_true rfl, Nat.le_of_ble_eq_true rfl⟩ ⟨rfl, rfl⟩ rfl (Nat.le_of_ble_eq_true rfl) dX0_stepAwake_206 ?_
  refine x_icmp_ge C 217 dX0_stepAwake_209 rfl (fun hc => ?_) (fun hc => ?_)
  · replace h := x_itp hc h
    exact x_sub [0, 1] rfl (w_X0_stepAwake_217 C o r1 σ20 hk_o hk_r1 h)
  · replace h := x_itn hc h
    refine x_aload_n C 0 dX0_stepAwake_212 rfl rfl ?_
    refine x_aload_n C 1 dX0_stepAwake_213 rfl rfl ?_
    obtain ⟨v21, σ21, hc21, h⟩ := x_b_some h
    refine x_callV C (n := 1) (c_X0_spit hG hk_o hk_r1 hc21) hk_o (by decide) rfl wd_917 wd_919 wd_32 wd_106 wd_920 (by decide +kernel) rfl ⟨Nat.le_of_ble_eq_true rfl, Nat.le_of_ble_eq_true rfl⟩ ⟨rfl, rfl⟩ rfl (Nat.le_of_ble_eq_true rfl) dX0_stepAwake_214 ?_
    exact x_sub [0, 1] rfl (w_X0_stepAwake_217 C o r1 σ21 hk_o hk_r1 h)
set_option maxHeartbeats 4000000 in
set_option maxRecDepth 100000 in
theorem c_X0_stepAwake (hG : x_OK TX G) {o : Nat} {r1 : Nat} {σ τ : x_Hp} (hk_o : x_kd TX o = 0) (hk_r1 : x_kd TX r1 = 5) (h : F_X0_stepAwake o r1 σ = some ((), τ)) : x_M l TX G yX0_stepAwake cX0_stepAwake 6 none rm_X0_stepAwake [.ref (x_ad G o), .ref (x_ad G r1)] σ none τ := by
  refine x_M.of hG (lv := [(0, .ref (x_ad G o)), (1, .ref (x_ad G r1))]) (by decide) (Nat.le_of_ble_eq_true rfl) rfl (fun p e s m below meth c C => ?_)
  rw [F_X0_stepAwake] at h
  refine x_aload_n C 0 dX0_stepAwake_0 rfl rfl ?_
  refine x_getR C (k := 0) hk_o (by decide) rfl x_in0 (by decide) (by decide) rfl rfl wd_294 dX0_stepAwake_1 ?_
  refine x_getR C (k := 14) (t_TX_0_0 hk_o) (by decide) rfl x_in6 (by decide) (by decide) rfl rfl wd_202 dX0_stepAwake_4 ?_
  refine x_iconst C (0 : Int32) dX0_stepAwake_7 (by decide) ?_
  refine x_aload_n C 1 dX0_stepAwake_8 rfl rfl ?_
  obtain ⟨v1, σ1, hc1, h⟩ := x_b_some h
  refine x_callV C (n := 2) (c_X1_tells hG (t_TX_6_14 (t_TX_0_0 hk_o)) hk_r1 hc1) (t_TX_6_14 (t_TX_0_0 hk_o)) (by decide) rfl wd_903 wd_849 wd_850 wd_104 wd_851 (by decide +kernel) rfl ⟨Nat.le_of_ble_eq_true rfl, Nat.le_of_ble_eq_true rfl⟩ ⟨rfl, rfl⟩ rfl (Nat.le_of_ble_eq_true rfl) dX0_stepAwake_9 ?_
  refine x_istore_n C [(2, .int v1), (0, .ref (x_ad G o)), (1, .ref (x_ad G r1))] dX0_stepAwake_12 rfl (by decide) rfl ?_
  refine x_aload_n C 1 dX0_stepAwake_13 rfl rfl ?_
  refine x_getR C (k := 0) hk_o (by decide) rfl x_in0 (by decide) (by decide) rfl rfl wd_294 dX0_stepAwake_14 ?_
  refine x_getR C (k := 14) (t_TX_0_0 hk_o) (by decide) rfl x_in6 (by decide) (by decide) rfl rfl wd_202 dX0_stepAwake_17 ?_
  refine x_iconst C (1 : Int32) dX0_stepAwake_20 (by decide) ?_
  refine x_aload_n C 2 dX0_stepAwake_21 rfl rfl ?_
  obtain ⟨v2, σ2, hc2, h⟩ := x_b_some h
  refine x_callV C (n := 2) (c_X1_tells hG (t_TX_6_14 (t_TX_0_0 hk_o)) hk_r1 hc2) (t_TX_6_14 (t_TX_0_0 hk_o)) (by decide) rfl wd_903 wd_849 wd_850 wd_104 wd_851 (by decide +kernel) rfl ⟨Nat.le_of_ble_eq_true rfl, Nat.le_of_ble_eq_true rfl⟩ ⟨rfl, rfl⟩ rfl (Nat.le_of_ble_eq_true rfl) dX0_stepAwake_22 ?_
  refine x_istore_n C [(3, .int v2), (2, .int v1), (0, .ref (x_ad G o)), (1, .ref (x_ad G r1))] dX0_stepAwake_25 rfl (by decide) rfl ?_
  refine x_aload_n C 2 dX0_stepAwake_26 rfl rfl ?_
  refine x_getR C (k := 0) hk_o (by decide) rfl x_in0 (by decide) (by decide) rfl rfl wd_294 dX0_stepAwake_27 ?_
  refine x_getR C (k := 14) (t_TX_0_0 hk_o) (by decide) rfl x_in6 (by decide) (by decide) rfl rfl wd_202 dX0_stepAwake_30 ?_
  refine x_iconst C (2 : Int32) dX0_stepAwake_33 (by decide) ?_
  refine x_aload_n C 3 dX0_stepAwake_34 rfl rfl ?_
  obtain ⟨v3, σ3, hc3, h⟩ := x_b_some h
  refine x_callV C (n := 2) (c_X1_tells hG (t_TX_6_14 (t_TX_0_0 hk_o)) hk_r1 hc3) (t_TX_6_14 (t_TX_0_0 hk_o)) (by decide) rfl wd_903 wd_849 wd_850 wd_104 wd_851 (by decide +kernel) rfl ⟨Nat.le_of_ble_eq_true rfl, Nat.le_of_ble_eq_true rfl⟩ ⟨rfl, rfl⟩ rfl (Nat.le_of_ble_eq_true rfl) dX0_stepAwake_35 ?_
  refine x_istore C [(4, .int v3), (3, .int v2), (2, .int v1), (0, .ref (x_ad G o)), (1, .ref (x_ad G r1))] dX0_stepAwake_38 (by decide) rfl ?_
  refine x_aload_n C 3 dX0_stepAwake_40 rfl rfl ?_
  refine x_getR C (k := 0) hk_o (by decide) rfl x_in0 (by decide) (by decide) rfl rfl wd_294 dX0_stepAwake_41 ?_
  refine x_getR C (k := 14) (t_TX_0_0 hk_o) (by decide) rfl x_in6 (by decide) (by decide) rfl rfl wd_202 dX0_stepAwake_44 ?_
  refine x_iconst C (3 : Int32) dX0_stepAwake_47 (by decide) ?_
  refine x_aload_n C 4 dX0_stepAwake_48 rfl rfl ?_
  obtain ⟨v4, σ4, hc4, h⟩ := x_b_some h
  refine x_callV C (n := 2) (c_X1_tells hG (t_TX_6_14 (t_TX_0_0 hk_o)) hk_r1 hc4) (t_TX_6_14 (t_TX_0_0 hk_o)) (by decide) rfl wd_903 wd_849 wd_850 wd_104 wd_851 (by decide +kernel) rfl ⟨Nat.le_of_ble_eq_true rfl, Nat.le_of_ble_eq_true rfl⟩ ⟨rfl, rfl⟩ rfl (Nat.le_of_ble_eq_true rfl) dX0_stepAwake_49 ?_
  refine x_istore C [(5, .int v4), (4, .int v3), (3, .int v2), (2, .int v1), (0, .ref (x_ad G o)), (1, .ref (x_ad G r1))] dX0_stepAwake_52 (by decide) rfl ?_
  refine x_aload_n C 5 dX0_stepAwake_54 rfl rfl ?_
  refine x_aload_n C 5 dX0_stepAwake_55 rfl rfl ?_
  refine x_getI C (k := 0) hk_r1 (by decide) rfl x_in5 (by decide) (by decide) rfl rfl wd_306 dX0_stepAwake_56 ?_
  refine x_iload_n C 3 dX0_stepAwake_59 rfl rfl ?_
  refine x_iadd C dX0_stepAwake_60 ?_
  refine x_iconst C (0 : Int32) dX0_stepAwake_61 (by decide) ?_
  refine x_bipush C (99 : Int32) dX0_stepAwake_62 (by decide) ?_
  obtain ⟨v5, σ5, hc5, h⟩ := x_b_some h
  refine x_callSN C (n := 3) (c_X8_within hG hc5) nw_904 wd_869 wd_102 wd_870 (by decide +kernel) rfl ⟨Nat.le_of_ble_eq_true rfl, Nat.le_of_ble_eq_true rfl⟩ ⟨rfl, rfl⟩ rfl (Nat.le_of_ble_eq_true rfl) dX0_stepAwake_64 ?_
  refine x_putI C (k := 0) tyX5 hk_r1 (by decide) rfl x_in5 tyX5_ok nmX5 (by decide) (by decide) rfl rfl wd_306 rfl (tyX5_ok 0 (by decide)) rfl rfl dX0_stepAwake_67 (x_gen h fun σ6 h => ?_)
  refine x_aload_n C 5 dX0_stepAwake_70 rfl rfl ?_
  refine x_aload_n C 5 dX0_stepAwake_71 rfl rfl ?_
  refine x_getI C (k := 1) hk_r1 (by decide) rfl x_in5 (by decide) (by decide) rfl rfl wd_309 dX0_stepAwake_72 ?_
  refine x_iload_n C 2 dX0_stepAwake_75 rfl rfl ?_
  refine x_iadd C dX0_stepAwake_76 ?_
  refine x_iconst C (0 : Int32) dX0_stepAwake_77 (by decide) ?_
  refine x_bipush C (99 : Int32) dX0_stepAwake_78 (by decide) ?_
  obtain ⟨v7, σ7, hc7, h⟩ := x_b_some h
  refine x_callSN C (n := 3) (c_X8_within hG hc7) nw_904 wd_869 wd_102 wd_870 (by decide +kernel) rfl ⟨Nat.le_of_ble_eq_true rfl, Nat.le_of_ble_eq_true rfl⟩ ⟨rfl, rfl⟩ rfl (Nat.le_of_ble_eq_true rfl) dX0_stepAwake_80 ?_
  refine x_putI C (k := 1) tyX5 hk_r1 (by decide) rfl x_in5 tyX5_ok nmX5 (by decide) (by decide) rfl rfl wd_309 rfl (tyX5_ok 1 (by decide)) rfl rfl dX0_stepAwake_83 (x_gen h fun σ8 h => ?_)
  refine x_aload_n C 5 dX0_stepAwake_86 rfl rfl ?_
  refine x_aload_n C 5 dX0_stepAwake_87 rfl rfl ?_
  refine x_getI C (k := 2) hk_r1 (by decide) rfl x_in5 (by decide) (by decide) rfl rfl wd_312 dX0_stepAwake_88 ?_
  refine x_iload C 1 dX0_stepAwake_91 rfl ?_
  refine x_iadd C dX0_stepAwake_93 ?_
  refine x_iconst C (0 : Int32) dX0_stepAwake_94 (by decide) ?_
  refine x_bipush C (99 : Int32) dX0_stepAwake_95 (by decide) ?_
  obtain ⟨v9, σ9, hc9, h⟩ := x_b_some h
  refine x_callSN C (n := 3) (c_X8_within hG hc9) nw_904 wd_869 wd_102 wd_870 (by decide +kernel) rfl ⟨Nat.le_of_ble_eq_true rfl, Nat.le_of_ble_eq_true rfl⟩ ⟨rfl, rfl⟩ rfl (Nat.le_of_ble_eq_true rfl) dX0_stepAwake_97 ?_
  refine x_putI C (k := 2) tyX5 hk_r1 (by decide) rfl x_in5 tyX5_ok nmX5 (by decide) (by decide) rfl rfl wd_312 rfl (tyX5_ok 2 (by decide)) rfl rfl dX0_stepAwake_100 (x_gen h fun σ10 h => ?_)
  refine x_aload_n C 5 dX0_stepAwake_103 rfl rfl ?_
  refine x_aload_n C 5 dX0_stepAwake_104 rfl rfl ?_
  refine x_getI C (k := 3) hk_r1 (by decide) rfl x_in5 (by decide) (by decide) rfl rfl wd_315 dX0_stepAwake_105 ?_
  refine x_iload C 0 dX0_stepAwake_108 rfl ?_
  refine x_iadd C dX0_stepAwake_110 ?_
  refine x_iconst C (0 : Int32) dX0_stepAwake_111 (by decide) ?_
  refine x_bipush C (99 : Int32) dX0_stepAwake_112 (by decide) ?_
  obtain ⟨v11, σ11, hc11, h⟩ := x_b_some h
  refine x_callSN C (n := 3) (c_X8_within hG hc11) nw_904 wd_869 wd_102 wd_870 (by decide +kernel) rfl ⟨Nat.le_of_ble_eq_true rfl, Nat.le_of_ble_eq_true rfl⟩ ⟨rfl, rfl⟩ rfl (Nat.le_of_ble_eq_true rfl) dX0_stepAwake_114 ?_
  refine x_putI C (k := 3) tyX5 hk_r1 (by decide) rfl x_in5 tyX5_ok nmX5 (by decide) (by decide) rfl rfl wd_315 rfl (tyX5_ok 3 (by decide)) rfl rfl dX0_stepAwake_117 (x_gen h fun σ12 h => ?_)
  refine x_aload_n C 5 dX0_stepAwake_120 rfl rfl ?_
  refine x_dup C dX0_stepAwake_121 rfl ?_
  refine x_getI C (k := 4) hk_r1 (by decide) rfl x_in5 (by decide) (by decide) rfl rfl wd_318 dX0_stepAwake_122 ?_
  refine x_iconst C (1 : Int32) dX0_stepAwake_125 (by decide) ?_
  refine x_iadd C dX0_stepAwake_126 ?_
  refine x_putI C (k := 4) tyX5 hk_r1 (by decide) rfl x_in5 tyX5_ok nmX5 (by decide) (by decide) rfl rfl wd_318 rfl (tyX5_ok 4 (by decide)) rfl rfl dX0_stepAwake_127 (x_gen h fun σ13 h => ?_)
  refine x_aload_n C 5 dX0_stepAwake_130 rfl rfl ?_
  refine x_aload_n C 4 dX0_stepAwake_131 rfl rfl ?_
  refine x_getR C (k := 0) hk_o (by decide) rfl x_in0 (by decide) (by decide) rfl rfl wd_294 dX0_stepAwake_132 ?_
  refine x_getR C (k := 14) (t_TX_0_0 hk_o) (by decide) rfl x_in6 (by decide) (by decide) rfl rfl wd_202 dX0_stepAwake_135 ?_
  refine x_iconst C (4 : Int32) dX0_stepAwake_138 (by decide) ?_
  refine x_aload_n C 5 dX0_stepAwake_139 rfl rfl ?_
  obtain ⟨v14, σ14, hc14, h⟩ := x_b_some h
  refine x_callV C (n := 2) (c_X1_tells hG (t_TX_6_14 (t_TX_0_0 hk_o)) hk_r1 hc14) (t_TX_6_14 (t_TX_0_0 hk_o)) (by decide) rfl wd_903 wd_849 wd_850 wd_104 wd_851 (by decide +kernel) rfl ⟨Nat.le_of_ble_eq_true rfl, Nat.le_of_ble_eq_true rfl⟩ ⟨rfl, rfl⟩ rfl (Nat.le_of_ble_eq_true rfl) dX0_stepAwake_140 ?_
  refine x_putI C (k := 12) tyX5 hk_r1 (by decide) rfl x_in5 tyX5_ok nmX5 (by decide) (by decide) rfl rfl wd_339 rfl (tyX5_ok 12 (by decide)) rfl rfl dX0_stepAwake_143 (x_gen h fun σ15 h => ?_)
  refine x_aload_n C 5 dX0_stepAwake_146 rfl rfl ?_
  refine x_iconst C (0 : Int32) dX0_stepAwake_147 (by decide) ?_
  refine x_iconst C (1 : Int32) dX0_stepAwake_148 (by decide) ?_
  obtain ⟨v16, σ16, hc16, h⟩ := x_b_some h
  refine x_callV C (n := 2) (c_X5_tallyMore hG hk_r1 hc16) hk_r1 (by decide) rfl wd_905 wd_906 wd_907 wd_107 wd_908 (by decide +kernel) rfl ⟨Nat.le_of_ble_eq_true rfl, Nat.le_of_ble_eq_true rfl⟩ ⟨rfl, rfl⟩ rfl (Nat.le_of_ble_eq_true rfl) dX0_stepAwake_149 ?_
  refine x_aload_n C 5 dX0_stepAwake_152 rfl rfl ?_
  refine x_iconst C (1 : Int32) dX0_stepAwake_153 (by decide) ?_
  refine x_aload_n C 5 dX0_stepAwake_154 rfl rfl ?_
  refine x_getI C (k := 12) hk_r1 (by decide) rfl x_in5 (by decide) (by decide) rfl rfl wd_339 dX0_stepAwake_155 ?_
  obtain ⟨v17, σ17, hc17, h⟩ := x_b_some h
  refine x_callV C (n := 2) (c_X5_tallyMore hG hk_r1 hc17) hk_r1 (by decide) rfl wd_905 wd_906 wd_907 wd_107 wd_908 (by decide +kernel) rfl ⟨Nat.le_of_ble_eq_true rfl, Nat.le_of_ble_eq_true rfl⟩ ⟨rfl, rfl⟩ rfl (Nat.le_of_ble_eq_true rfl) dX0_stepAwake_158 ?_
  refine x_aload_n C 5 dX0_stepAwake_161 rfl rfl ?_
  refine x_getI C (k := 12) hk_r1 (by decide) rfl x_in5 (by decide) (by decide) rfl rfl wd_339 dX0_stepAwake_162 ?_
  refine x_if_ne C 183 dX0_stepAwake_165 rfl (fun hc => ?_) (fun hc => ?_)
  · replace h := x_itn hc h
    exact x_sub [4, 5] rfl (w_X0_stepAwake_183 C o r1 σ17 hk_o hk_r1 h)
  · replace h := x_itp hc h
    refine x_aload_n C 5 dX0_stepAwake_168 rfl rfl ?_
    refine x_getI C (k := 2) hk_r1 (by decide) rfl x_in5 (by decide) (by decide) rfl rfl wd_312 dX0_stepAwake_169 ?_
    refine x_bipush C (50 : Int32) dX0_stepAwake_172 (by decide) ?_
    refine x_icmp_lt C 183 dX0_stepAwake_174 rfl (fun hc => ?_) (fun hc => ?_)
    · replace h := x_itp hc h
      exact x_sub [4, 5] rfl (w_X0_stepAwake_183 C o r1 σ17 hk_o hk_r1 h)
    · replace h := x_itn hc h
      refine x_aload_n C 5 dX0_stepAwake_177 rfl rfl ?_
      refine x_iconst C (2 : Int32) dX0_stepAwake_178 (by decide) ?_
      refine x_iconst C (1 : Int32) dX0_stepAwake_179 (by decide) ?_
      obtain ⟨v18, σ18, hc18, h⟩ := x_b_some h
      refine x_callV C (n := 2) (c_X5_tallyMore hG hk_r1 hc18) hk_r1 (by decide) rfl wd_905 wd_906 wd_907 wd_107 wd_908 (by decide +kernel) rfl ⟨Nat.le_of_ble_eq_true rfl, Nat.le_of_ble_eq_true rfl⟩ ⟨rfl, rfl⟩ rfl (Nat.le_of_ble_eq_true rfl) dX0_stepAwake_180 ?_
      exact x_sub [4, 5] rfl (w_X0_stepAwake_183 C o r1 σ18 hk_o hk_r1 h)
abbrev rm_X0_step : Room := { frames := 4, cells := 0, slots := 0, locals := 102 }
set_option maxHeartbeats 4000000 in
set_option maxRecDepth 100000 in
theorem w_X0_step_30 {τ : x_Hp} (C : x_C p s m args meth c cX0_step 2 none yX0_step.cls TX G) (r1 : Nat) (σ : x_Hp) (hk_r1 : x_kd TX r1 = 5) (h : F_X0_step_30 r1 σ = some ((), τ)) : x_W p l e rm_X0_step s m args below meth c (MQ below (x_Q TX G none τ) args s 0 0 (x_A TX G)) TX G 2 30 [(1, .ref (x_ad G r1))] [] σ := by
  have hG : x_OK TX G := C.2.2.2.2.2.2.2.2.1
  rw [F_X0_step_30] at h
  refine x_aload_n C 0 dX0_step_30 rfl rfl ?_
  refine x_dup C dX0_step_31 rfl ?_
  refine x_getI C (k := 15) hk_r1 (by decide) rfl x_in5 (by decide) (by decide) rfl rfl wd_348 dX0_step_32 ?_
  refine x_iconst C (1 : Int32) dX0_step_35 (by decide) ?_
  refine x_iadd C dX0_step_36 ?_
  refine x_putI C (k := 15) tyX5 hk_r1 (by decide) rfl x_in5 tyX5_ok nmX5 (by decide) (by decide) rfl rfl wd_348 rfl (tyX5_ok 15 (by decide)) rfl rfl dX0_step_37 (x_gen h fun σ3 h => ?_)
  obtain ⟨-, rfl⟩ := x_ret h
  exact x_vret C dX0_step_40
set_option maxHeartbeats 4000000 in
set_option maxRecDepth 100000 in
theorem c_X0_step (hG : x_OK TX G) {o : Nat} {r1 : Nat} {σ τ : x_Hp} (hk_o : x_kd TX o = 0) (hk_r1 : x_kd TX r1 = 5) (h : F_X0_step o r1 σ = some ((), τ)) : x_M l TX G yX0_step cX0_step 2 none rm_X0_step [.ref (x_ad G o), .ref (x_ad G r1)] σ none τ := by
  refine x_M.of hG (lv := [(0, .ref (x_ad G o)), (1, .ref (x_ad G r1))]) (by decide) (Nat.le_of_ble_eq_true rfl) rfl (fun p e s m below meth c C => ?_)
  rw [F_X0_step] at h
  refine x_aload_n C 0 dX0_step_0 rfl rfl ?_
  refine x_getR C (k := 0) hk_o (by decide) rfl x_in0 (by decide) (by decide) rfl rfl wd_294 dX0_step_1 ?_
  refine x_getI C (k := 7) (t_TX_0_0 hk_o) (by decide) rfl x_in6 (by decide) (by decide) rfl rfl wd_185 dX0_step_4 ?_
  refine x_if_le C 30 dX0_step_7 rfl (fun hc => ?_) (fun hc => ?_)
  · replace h := x_itp hc h
    exact x_sub [1] rfl (w_X0_step_30 C r1 σ hk_r1 h)
  · replace h := x_itn hc h
    refine x_aload_n C 1 dX0_step_10 rfl rfl ?_
    refine x_getI C (k := 13) hk_r1 (by decide) rfl x_in5 (by decide) (by decide) rfl rfl wd_342 dX0_step_11 ?_
    refine x_if_le C 25 dX0_step_14 rfl (fun hc => ?_) (fun hc => ?_)
    · replace h := x_itp hc h
      refine x_aload_n C 0 dX0_step_25 rfl rfl ?_
      refine x_aload_n C 1 dX0_step_26 rfl rfl ?_
      obtain ⟨v1, σ1, hc1, h⟩ := x_b_some h
      refine x_callV C (n := 1) (c_X0_stepAwake hG hk_o hk_r1 hc1) hk_o (by decide) rfl wd_909 wd_911 wd_31 wd_106 wd_912 (by decide +kernel) rfl ⟨Nat.le_of_ble_eq_true rfl, Nat.le_of_ble_eq_true rfl⟩ ⟨rfl, rfl⟩ rfl (Nat.le_of_ble_eq_true rfl) dX0_step_27 ?_
      exact x_sub [1] rfl (w_X0_step_30 C r1 σ1 hk_r1 h)
    · replace h := x_itn hc h
      refine x_aload_n C 0 dX0_step_17 rfl rfl ?_
      refine x_aload_n C 1 dX0_step_18 rfl rfl ?_
      obtain ⟨v2, σ2, hc2, h⟩ := x_b_some h
      refine x_callV C (n := 1) (c_X0_stepAsleep hG hk_o hk_r1 hc2) hk_o (by decide) rfl wd_899 wd_901 wd_30 wd_106 wd_902 (by decide +kernel) rfl ⟨Nat.le_of_ble_eq_true rfl, Nat.le_of_ble_eq_true rfl⟩ ⟨rfl, rfl⟩ rfl (Nat.le_of_ble_eq_true rfl) dX0_step_19 ?_
      refine x_goto C 30 dX0_step_22 rfl ?_
      exact x_sub [1] rfl (w_X0_step_30 C r1 σ2 hk_r1 h)
abbrev rm_X0_giveOver : Room := { frames := 2, cells := 0, slots := 0, locals := 43 }
set_option maxHeartbeats 4000000 in
set_option maxRecDepth 100000 in
theorem w_X0_giveOver_37 {τ : x_Hp} (C : x_C p s m args meth c cX0_giveOver 3 none yX0_giveOver.cls TX G) (o : Nat) (r1 : Nat) (x2 : Int32) (σ : x_Hp) (hk_o : x_kd TX o = 0) (hk_r1 : x_kd TX r1 = 5) (h : F_X0_giveOver_37 o r1 x2 σ = some ((), τ)) : x_W p l e rm_X0_giveOver s m args below meth c (MQ below (x_Q TX G none τ) args s 0 0 (x_A TX G)) TX G 3 37 [(0, .ref (x_ad G o)), (1, .ref (x_ad G r1)), (2, .int x2)] [] σ := by
  have hG : x_OK TX G := C.2.2.2.2.2.2.2.2.1
  rw [F_X0_giveOver_37] at h
  refine x_aload_n C 1 dX0_giveOver_37 rfl rfl ?_
  refine x_aload_n C 1 dX0_giveOver_38 rfl rfl ?_
  refine x_getI C (k := 10) hk_r1 (by decide) rfl x_in5 (by decide) (by decide) rfl rfl wd_334 dX0_giveOver_39 ?_
  refine x_putI C (k := 11) tyX5 hk_r1 (by decide) rfl x_in5 tyX5_ok nmX5 (by decide) (by decide) rfl rfl wd_337 rfl (tyX5_ok 11 (by decide)) rfl rfl dX0_giveOver_42 (x_gen h fun σ2 h => ?_)
  refine x_aload_n C 1 dX0_giveOver_45 rfl rfl ?_
  refine x_aload_n C 1 dX0_giveOver_46 rfl rfl ?_
  refine x_getI C (k := 9) hk_r1 (by decide) rfl x_in5 (by decide) (by decide) rfl rfl wd_331 dX0_giveOver_47 ?_
  refine x_putI C (k := 10) tyX5 hk_r1 (by decide) rfl x_in5 tyX5_ok nmX5 (by decide) (by decide) rfl rfl wd_334 rfl (tyX5_ok 10 (by decide)) rfl rfl dX0_giveOver_50 (x_gen h fun σ3 h => ?_)
  refine x_aload_n C 1 dX0_giveOver_53 rfl rfl ?_
  refine x_dup C dX0_giveOver_54 rfl ?_
  refine x_getI C (k := 18) hk_r1 (by decide) rfl x_in5 (by decide) (by decide) rfl rfl wd_358 dX0_giveOver_55 ?_
  refine x_iconst C (1 : Int32) dX0_giveOver_58 (by decide) ?_
  refine x_iadd C dX0_giveOver_59 ?_
  refine x_putI C (k := 18) tyX5 hk_r1 (by decide) rfl x_in5 tyX5_ok nmX5 (by decide) (by decide) rfl rfl wd_358 rfl (tyX5_ok 18 (by decide)) rfl rfl dX0_giveOver_60 (x_gen h fun σ4 h => ?_)
  refine x_aload_n C 0 dX0_giveOver_63 rfl rfl ?_
  refine x_aload_n C 1 dX0_giveOver_64 rfl rfl ?_
  refine x_iload_n C 2 dX0_giveOver_65 rfl rfl ?_
  obtain ⟨v5, σ5, hc5, h⟩ := x_b_some h
  refine x_callV C (n := 2) (c_X0_giveTo hG hk_o hk_r1 hc5) hk_o (by decide) rfl wd_536 wd_538 wd_0 wd_106 wd_539 (by decide +kernel) rfl ⟨Nat.le_of_ble_eq_true rfl, Nat.le_of_ble_eq_true rfl⟩ ⟨rfl, rfl⟩ rfl (Nat.le_of_ble_eq_true rfl) dX0_giveOver_66 ?_
  obtain ⟨-, rfl⟩ := x_ret h
  exact x_vret C dX0_giveOver_69
set_option maxHeartbeats 4000000 in
set_option maxRecDepth 100000 in
theorem c_X0_giveOver (hG : x_OK TX G) {o : Nat} {r1 : Nat} {x2 : Int32} {σ τ : x_Hp} (hk_o : x_kd TX o = 0) (hk_r1 : x_kd TX r1 = 5) (h : F_X0_giveOver o r1 x2 σ = some ((), τ)) : x_M l TX G yX0_giveOver cX0_giveOver 3 none rm_X0_giveOver [.ref (x_ad G o), .ref (x_ad G r1), .int x2] σ none τ := by
  refine x_M.of hG (lv := [(0, .ref (x_ad G o)), (1, .ref (x_ad G r1)), (2, .int x2)]) (by decide) (Nat.le_of_ble_eq_true rfl) rfl (fun p e s m below meth c C => ?_)
  rw [F_X0_giveOver] at h
  refine x_iload_n C 2 dX0_giveOver_0 rfl rfl ?_
  refine x_aload_n C 1 dX0_giveOver_1 rfl rfl ?_
  refine x_getI C (k := 10) hk_r1 (by decide) rfl x_in5 (by decide) (by decide) rfl rfl wd_334 dX0_giveOver_2 ?_
  refine x_icmp_eq C 37 dX0_giveOver_5 rfl (fun hc => ?_) (fun hc => ?_)
  · replace h := x_itp hc h
    exact x_sub [0, 1, 2] rfl (w_X0_giveOver_37 C o r1 x2 σ hk_o hk_r1 h)
  · replace h := x_itn hc h
    refine x_iload_n C 2 dX0_giveOver_8 rfl rfl ?_
    refine x_aload_n C 1 dX0_giveOver_9 rfl rfl ?_
    refine x_getI C (k := 11) hk_r1 (by decide) rfl x_in5 (by decide) (by decide) rfl rfl wd_337 dX0_giveOver_10 ?_
    refine x_icmp_eq C 37 dX0_giveOver_13 rfl (fun hc => ?_) (fun hc => ?_)
    · replace h := x_itp hc h
      exact x_sub [0, 1, 2] rfl (w_X0_giveOver_37 C o r1 x2 σ hk_o hk_r1 h)
    · replace h := x_itn hc h
      refine x_aload_n C 1 dX0_giveOver_16 rfl rfl ?_
      refine x_bipush C (99 : Int32) dX0_giveOver_17 (by decide) ?_
      refine x_aload_n C 1 dX0_giveOver_19 rfl rfl ?_
      refine x_getI C (k := 2) hk_r1 (by decide) rfl x_in5 (by decide) (by decide) rfl rfl wd_312 dX0_giveOver_20 ?_
      refine x_aload_n C 0 dX0_giveOver_23 rfl rfl ?_
      refine x_getR C (k := 0) hk_o (by decide) rfl x_in0 (by decide) (by decide) rfl rfl wd_294 dX0_giveOver_24 ?_
      refine x_getI C (k := 4) (t_TX_0_0 hk_o) (by decide) rfl x_in6 (by decide) (by decide) rfl rfl wd_173 dX0_giveOver_27 ?_
      refine x_iadd C dX0_giveOver_30 ?_
      refine x_min C wd_933 wd_872 wd_116 wd_873 ⟨Nat.le_of_ble_eq_true rfl, Nat.le_of_ble_eq_true rfl⟩ dX0_giveOver_31 ?_
      refine x_putI C (k := 2) tyX5 hk_r1 (by decide) rfl x_in5 tyX5_ok nmX5 (by decide) (by decide) rfl rfl wd_312 rfl (tyX5_ok 2 (by decide)) rfl rfl dX0_giveOver_34 (x_gen h fun σ1 h => ?_)
      exact x_sub [0, 1, 2] rfl (w_X0_giveOver_37 C o r1 x2 σ1 hk_o hk_r1 h)
abbrev rm_X0_feedNow : Room := { frames := 1, cells := 0, slots := 0, locals := 14 }
set_option maxHeartbeats 4000000 in
set_option maxRecDepth 100000 in
theorem c_X0_feedNow (hG : x_OK TX G) {o : Nat} {r1 : Nat} {σ τ : x_Hp} (hk_o : x_kd TX o = 0) (hk_r1 : x_kd TX r1 = 5) (h : F_X0_feedNow o r1 σ = some ((), τ)) : x_M l TX G yX0_feedNow cX0_feedNow 2 none rm_X0_feedNow [.ref (x_ad G o), .ref (x_ad G r1)] σ none τ := by
  refine x_M.of hG (lv := [(0, .ref (x_ad G o)), (1, .ref (x_ad G r1))]) (by decide) (Nat.le_of_ble_eq_true rfl) rfl (fun p e s m below meth c C => ?_)
  rw [F_X0_feedNow] at h
  refine x_aload_n C 1 dX0_feedNow_0 rfl rfl ?_
  refine x_iconst C (0 : Int32) dX0_feedNow_1 (by decide) ?_
  refine x_putI C (k := 0) tyX5 hk_r1 (by decide) rfl x_in5 tyX5_ok nmX5 (by decide) (by decide) rfl rfl wd_306 rfl (tyX5_ok 0 (by decide)) rfl rfl dX0_feedNow_2 (x_gen h fun σ1 h => ?_)
  refine x_aload_n C 1 dX0_feedNow_5 rfl rfl ?_
  refine x_bipush C (99 : Int32) dX0_feedNow_6 (by decide) ?_
  refine x_aload_n C 1 dX0_feedNow_8 rfl rfl ?_
  refine x_getI C (k := 3) hk_r1 (by decide) rfl x_in5 (by decide) (by decide) rfl rfl wd_315 dX0_feedNow_9 ?_
  refine x_aload_n C 0 dX0_feedNow_12 rfl rfl ?_
  refine x_getR C (k := 0) hk_o (by decide) rfl x_in0 (by decide) (by decide) rfl rfl wd_294 dX0_feedNow_13 ?_
  refine x_getI C (k := 5) (t_TX_0_0 hk_o) (by decide) rfl x_in6 (by decide) (by decide) rfl rfl wd_177 dX0_feedNow_16 ?_
  refine x_iadd C dX0_feedNow_19 ?_
  refine x_min C wd_933 wd_872 wd_116 wd_873 ⟨Nat.le_of_ble_eq_true rfl, Nat.le_of_ble_eq_true rfl⟩ dX0_feedNow_20 ?_
  refine x_putI C (k := 3) tyX5 hk_r1 (by decide) rfl x_in5 tyX5_ok nmX5 (by decide) (by decide) rfl rfl wd_315 rfl (tyX5_ok 3 (by decide)) rfl rfl dX0_feedNow_23 (x_gen h fun σ2 h => ?_)
  obtain ⟨-, rfl⟩ := x_ret h
  exact x_vret C dX0_feedNow_26
abbrev rm_X0_goOn : Room := { frames := 5, cells := 0, slots := 0, locals := 123 }
set_option maxHeartbeats 4000000 in
set_option maxRecDepth 100000 in
theorem w_X0_goOn_2 {τ : x_Hp} (C : x_C p s m args meth c cX0_goOn 4 none yX0_goOn.cls TX G) : ∀ (n : Nat) (o : Nat) (r1 : Nat) (x2 : Int32) (x3 : Int32) (σ : x_Hp) (hk_o : x_kd TX o = 0) (hk_r1 : x_kd TX r1 = 5) (h : F_X0_goOn_2 n o r1 x2 x3 σ = some ((), τ)), x_W p l e rm_X0_goOn s m args below meth c (MQ below (x_Q TX G none τ) args s 0 0 (x_A TX G)) TX G 4 2 [(0, .ref (x_ad G o)), (1, .ref (x_ad G r1)), (2, .int x2), (3, .int x3)] [] σ := by
  intro n
  induction n with
  | zero => intro o r1 x2 x3 σ _ _ h; cases h
  | succ n ih =>
    intro o r1 x2 x3 σ hk_o hk_r1 h
    have hG : x_OK TX G := C.2.2.2.2.2.2.2.2.1
    rw [F_X0_goOn_2] at h
    refine x_iload_n C 3 dX0_goOn_2 rfl rfl ?_
    refine x_iload_n C 2 dX0_goOn_3 rfl rfl ?_
    refine x_icmp_ge C 18 dX0_goOn_4 rfl (fun hc => ?_) (fun hc => ?_)
    · replace h := x_itp hc h
      obtain ⟨-, rfl⟩ := x_ret h
      exact x_vret C dX0_goOn_18
    · replace h := x_itn hc h
      refine x_aload_n C 0 dX0_goOn_7 rfl rfl ?_
      refine x_aload_n C 1 dX0_goOn_8 rfl rfl ?_
      obtain ⟨v1, σ1, hc1, h⟩ := x_b_some h
      refine x_callV C (n := 1) (c_X0_step hG hk_o hk_r1 hc1) hk_o (by decide) rfl wd_895 wd_896 wd_897 wd_106 wd_898 (by decide +kernel) rfl ⟨Nat.le_of_ble_eq_true rfl, Nat.le_of_ble_eq_true rfl⟩ ⟨rfl, rfl⟩ rfl (Nat.le_of_ble_eq_true rfl) dX0_goOn_9 ?_
      refine x_iinc C 3 (x3 + (1 : Int32)) [(3, .int (x3 + (1 : Int32))), (0, .ref (x_ad G o)), (1, .ref (x_ad G r1)), (2, .int x2)] dX0_goOn_12 rfl rfl (by decide) rfl ?_
      refine x_goto C 2 dX0_goOn_15 rfl ?_
      exact x_sub [1, 2, 3, 0] rfl (ih o r1 x2 (x3 + (1 : Int32)) σ1 hk_o hk_r1 h)
set_option maxHeartbeats 4000000 in
set_option maxRecDepth 100000 in
theorem c_X0_goOn (hG : x_OK TX G) {o : Nat} {r1 : Nat} {x2 : Int32} {σ τ : x_Hp} (hk_o : x_kd TX o = 0) (hk_r1 : x_kd TX r1 = 5) (h : F_X0_goOn o r1 x2 σ = some ((), τ)) : x_M l TX G yX0_goOn cX0_goOn 4 none rm_X0_goOn [.ref (x_ad G o), .ref (x_ad G r1), .int x2] σ none τ := by
  refine x_M.of hG (lv := [(0, .ref (x_ad G o)), (1, .ref (x_ad G r1)), (2, .int x2)]) (by decide) (Nat.le_of_ble_eq_true rfl) rfl (fun p e s m below meth c C => ?_)
  rw [F_X0_goOn] at h
  refine x_iconst C (0 : Int32) dX0_goOn_0 (by decide) ?_
  refine x_istore_n C [(3, .int (0 : Int32)), (0, .ref (x_ad G o)), (1, .ref (x_ad G r1)), (2, .int x2)] dX0_goOn_1 rfl (by decide) rfl ?_
  exact x_sub [1, 2, 3, 0] rfl (w_X0_goOn_2 C x_fuel o r1 x2 (0 : Int32) σ hk_o hk_r1 h)
abbrev rm_X5_tallied : Room := { frames := 1, cells := 0, slots := 0, locals := 21 }
set_option maxHeartbeats 4000000 in
set_option maxRecDepth 100000 in
theorem c_X5_tallied (hG : x_OK TX G) {o : Nat} {x1 : Int32} {x2 : Int32} {σ τ : x_Hp} {r : Int32} (hk_o : x_kd TX o = 5) (h : F_X5_tallied o x1 x2 σ = some (r, τ)) : x_M l TX G yX5_tallied cX5_tallied 3 (some .int) rm_X5_tallied [.ref (x_ad G o), .int x1, .int x2] σ (some (.int r)) τ := by
  refine x_M.of hG (lv := [(0, .ref (x_ad G o)), (1, .int x1), (2, .int x2)]) (by decide) (Nat.le_of_ble_eq_true rfl) rfl (fun p e s m below meth c C => ?_)
  rw [F_X5_tallied] at h
  refine x_aload_n C 0 dX5_tallied_0 rfl rfl ?_
  refine x_getR C (k := 20) hk_o (by decide) rfl x_in5 (by decide) (by decide) rfl rfl wd_364 dX5_tallied_1 ?_
  refine x_iload_n C 1 dX5_tallied_4 rfl rfl ?_
  refine x_bipush C (7 : Int32) dX5_tallied_5 (by decide) ?_
  refine x_imul C dX5_tallied_7 ?_
  refine x_iload_n C 2 dX5_tallied_8 rfl rfl ?_
  refine x_iadd C dX5_tallied_9 ?_
  obtain ⟨v1, σ1, hc1, h⟩ := x_b_some h
  refine x_callSN C (n := 2) (c_X8_at hG (t_TX_5_20 hk_o) hc1) nw_843 wd_541 wd_102 wd_542 (by decide +kernel) rfl ⟨Nat.le_of_ble_eq_true rfl, Nat.le_of_ble_eq_true rfl⟩ ⟨rfl, rfl⟩ rfl (Nat.le_of_ble_eq_true rfl) dX5_tallied_10 ?_
  obtain ⟨rfl, rfl⟩ := x_ret h
  exact x_iret C dX5_tallied_13
abbrev rm_X5_allTallied : Room := { frames := 2, cells := 0, slots := 0, locals := 43 }
set_option maxHeartbeats 4000000 in
set_option maxRecDepth 100000 in
theorem w_X5_allTallied_4 {r : Int32} {τ : x_Hp} (C : x_C p s m args meth c cX5_allTallied 4 (some .int) yX5_allTallied.cls TX G) : ∀ (n : Nat) (o : Nat) (x1 : Int32) (x2 : Int32) (x3 : Int32) (σ : x_Hp) (hk_o : x_kd TX o = 5) (h : F_X5_allTallied_4 n o x1 x2 x3 σ = some (r, τ)), x_W p l e rm_X5_allTallied s m args below meth c (MQ below (x_Q TX G (some (.int r)) τ) args s 0 0 (x_A TX G)) TX G 4 4 [(0, .ref (x_ad G o)), (1, .int x1), (2, .int x2), (3, .int x3)] [] σ := by
  intro n
  induction n with
  | zero => intro o x1 x2 x3 σ _ h; cases h
  | succ n ih =>
    intro o x1 x2 x3 σ hk_o h
    have hG : x_OK TX G := C.2.2.2.2.2.2.2.2.1
    rw [F_X5_allTallied_4] at h
    refine x_iload_n C 3 dX5_allTallied_4 rfl rfl ?_
    refine x_bipush C (6 : Int32) dX5_allTallied_5 (by decide) ?_
    refine x_icmp_ge C 25 dX5_allTallied_7 rfl (fun hc => ?_) (fun hc => ?_)
    · replace h := x_itp hc h
      refine x_iload_n C 2 dX5_allTallied_25 rfl rfl ?_
      obtain ⟨rfl, rfl⟩ := x_ret h
      exact x_iret C dX5_allTallied_26
    · replace h := x_itn hc h
      refine x_iload_n C 2 dX5_allTallied_10 rfl rfl ?_
      refine x_aload_n C 0 dX5_allTallied_11 rfl rfl ?_
      refine x_iload_n C 3 dX5_allTallied_12 rfl rfl ?_
      refine x_iload_n C 1 dX5_allTallied_13 rfl rfl ?_
      obtain ⟨v1, σ1, hc1, h⟩ := x_b_some h
      refine x_callV C (n := 2) (c_X5_tallied hG hk_o hc1) hk_o (by decide) rfl wd_980 wd_840 wd_841 wd_107 wd_842 (by decide +kernel) rfl ⟨Nat.le_of_ble_eq_true rfl, Nat.le_of_ble_eq_true rfl⟩ ⟨rfl, rfl⟩ rfl (Nat.le_of_ble_eq_true rfl) dX5_allTallied_14 ?_
      refine x_iadd C dX5_allTallied_17 ?_
      refine x_istore_n C [(2, .int (x2 + v1)), (0, .ref (x_ad G o)), (1, .int x1), (3, .int x3)] dX5_allTallied_18 rfl (by decide) rfl ?_
      refine x_iinc C 3 (x3 + (1 : Int32)) [(3, .int (x3 + (1 : Int32))), (2, .int (x2 + v1)), (0, .ref (x_ad G o)), (1, .int x1)] dX5_allTallied_19 rfl rfl (by decide) rfl ?_
      refine x_goto C 4 dX5_allTallied_22 rfl ?_
      exact x_sub [2, 3, 1, 0] rfl (ih o x1 (x2 + v1) (x3 + (1 : Int32)) σ1 hk_o h)
set_option maxHeartbeats 4000000 in
set_option maxRecDepth 100000 in
theorem c_X5_allTallied (hG : x_OK TX G) {o : Nat} {x1 : Int32} {σ τ : x_Hp} {r : Int32} (hk_o : x_kd TX o = 5) (h : F_X5_allTallied o x1 σ = some (r, τ)) : x_M l TX G yX5_allTallied cX5_allTallied 4 (some .int) rm_X5_allTallied [.ref (x_ad G o), .int x1] σ (some (.int r)) τ := by
  refine x_M.of hG (lv := [(0, .ref (x_ad G o)), (1, .int x1)]) (by decide) (Nat.le_of_ble_eq_true rfl) rfl (fun p e s m below meth c C => ?_)
  rw [F_X5_allTallied] at h
  refine x_iconst C (0 : Int32) dX5_allTallied_0 (by decide) ?_
  refine x_istore_n C [(2, .int (0 : Int32)), (0, .ref (x_ad G o)), (1, .int x1)] dX5_allTallied_1 rfl (by decide) rfl ?_
  refine x_iconst C (0 : Int32) dX5_allTallied_2 (by decide) ?_
  refine x_istore_n C [(3, .int (0 : Int32)), (2, .int (0 : Int32)), (0, .ref (x_ad G o)), (1, .int x1)] dX5_allTallied_3 rfl (by decide) rfl ?_
  exact x_sub [2, 3, 1, 0] rfl (w_X5_allTallied_4 C x_fuel o x1 (0 : Int32) (0 : Int32) σ hk_o h)
abbrev rm_X0_cried : Room := { frames := 5, cells := 0, slots := 0, locals := 123 }
set_option maxHeartbeats 4000000 in
set_option maxRecDepth 100000 in
theorem w_X0_cried_9 {r : Int32} {τ : x_Hp} (C : x_C p s m args meth c cX0_cried 5 (some .int) yX0_cried.cls TX G) : ∀ (n : Nat) (o : Nat) (r1 : Nat) (x2 : Int32) (x3 : Int32) (x4 : Int32) (σ : x_Hp) (hk_o : x_kd TX o = 0) (hk_r1 : x_kd TX r1 = 5) (h : F_X0_cried_9 n o r1 x2 x3 x4 σ = some (r, τ)), x_W p l e rm_X0_cried s m args below meth c (MQ below (x_Q TX G (some (.int r)) τ) args s 0 0 (x_A TX G)) TX G 5 9 [(0, .ref (x_ad G o)), (1, .ref (x_ad G r1)), (2, .int x2), (3, .int x3), (4, .int x4)] [] σ := by
  intro n
  induction n with
  | zero => intro o r1 x2 x3 x4 σ _ _ h; cases h
  | succ n ih =>
    intro o r1 x2 x3 x4 σ hk_o hk_r1 h
    have hG : x_OK TX G := C.2.2.2.2.2.2.2.2.1
    rw [F_X0_cried_9] at h
    refine x_iload C 4 dX0_cried_9 rfl ?_
    refine x_iload_n C 2 dX0_cried_11 rfl rfl ?_
    refine x_icmp_ge C 26 dX0_cried_12 rfl (fun hc => ?_) (fun hc => ?_)
    · replace h := x_itp hc h
      refine x_aload_n C 1 dX0_cried_26 rfl rfl ?_
      refine x_iconst C (1 : Int32) dX0_cried_27 (by decide) ?_
      obtain ⟨v2, σ2, hc2, h⟩ := x_b_some h
      refine x_callV C (n := 1) (c_X5_allTallied hG hk_r1 hc2) hk_r1 (by decide) rfl wd_976 wd_977 wd_978 wd_107 wd_979 (by decide +kernel) rfl ⟨Nat.le_of_ble_eq_true rfl, Nat.le_of_ble_eq_true rfl⟩ ⟨rfl, rfl⟩ rfl (Nat.le_of_ble_eq_true rfl) dX0_cried_28 ?_
      refine x_iload_n C 3 dX0_cried_31 rfl rfl ?_
      refine x_isub C dX0_cried_32 ?_
      obtain ⟨rfl, rfl⟩ := x_ret h
      exact x_iret C dX0_cried_33
    · replace h := x_itn hc h
      refine x_aload_n C 0 dX0_cried_15 rfl rfl ?_
      refine x_aload_n C 1 dX0_cried_16 rfl rfl ?_
      obtain ⟨v3, σ3, hc3, h⟩ := x_b_some h
      refine x_callV C (n := 1) (c_X0_step hG hk_o hk_r1 hc3) hk_o (by decide) rfl wd_895 wd_896 wd_897 wd_106 wd_898 (by decide +kernel) rfl ⟨Nat.le_of_ble_eq_true rfl, Nat.le_of_ble_eq_true rfl⟩ ⟨rfl, rfl⟩ rfl (Nat.le_of_ble_eq_true rfl) dX0_cried_17 ?_
      refine x_iinc C 4 (x4 + (1 : Int32)) [(4, .int (x4 + (1 : Int32))), (0, .ref (x_ad G o)), (1, .ref (x_ad G r1)), (2, .int x2), (3, .int x3)] dX0_cried_20 rfl rfl (by decide) rfl ?_
      refine x_goto C 9 dX0_cried_23 rfl ?_
      exact x_sub [1, 2, 3, 4, 0] rfl (ih o r1 x2 x3 (x4 + (1 : Int32)) σ3 hk_o hk_r1 h)
set_option maxHeartbeats 4000000 in
set_option maxRecDepth 100000 in
theorem c_X0_cried (hG : x_OK TX G) {o : Nat} {r1 : Nat} {x2 : Int32} {σ τ : x_Hp} {r : Int32} (hk_o : x_kd TX o = 0) (hk_r1 : x_kd TX r1 = 5) (h : F_X0_cried o r1 x2 σ = some (r, τ)) : x_M l TX G yX0_cried cX0_cried 5 (some .int) rm_X0_cried [.ref (x_ad G o), .ref (x_ad G r1), .int x2] σ (some (.int r)) τ := by
  refine x_M.of hG (lv := [(0, .ref (x_ad G o)), (1, .ref (x_ad G r1)), (2, .int x2)]) (by decide) (Nat.le_of_ble_eq_true rfl) rfl (fun p e s m below meth c C => ?_)
  rw [F_X0_cried] at h
  refine x_aload_n C 1 dX0_cried_0 rfl rfl ?_
  refine x_iconst C (1 : Int32) dX0_cried_1 (by decide) ?_
  obtain ⟨v1, σ1, hc1, h⟩ := x_b_some h
  refine x_callV C (n := 1) (c_X5_allTallied hG hk_r1 hc1) hk_r1 (by decide) rfl wd_976 wd_977 wd_978 wd_107 wd_979 (by decide +kernel) rfl ⟨Nat.le_of_ble_eq_true rfl, Nat.le_of_ble_eq_true rfl⟩ ⟨rfl, rfl⟩ rfl (Nat.le_of_ble_eq_true rfl) dX0_cried_2 ?_
  refine x_istore_n C [(3, .int v1), (0, .ref (x_ad G o)), (1, .ref (x_ad G r1)), (2, .int x2)] dX0_cried_5 rfl (by decide) rfl ?_
  refine x_iconst C (0 : Int32) dX0_cried_6 (by decide) ?_
  refine x_istore C [(4, .int (0 : Int32)), (3, .int v1), (0, .ref (x_ad G o)), (1, .ref (x_ad G r1)), (2, .int x2)] dX0_cried_7 (by decide) rfl ?_
  exact x_sub [2, 3, 4, 1, 0] rfl (w_X0_cried_9 C x_fuel o r1 x2 v1 (0 : Int32) σ1 hk_o hk_r1 h)
abbrev rm_X0_keep : Room := { frames := 5, cells := 0, slots := 0, locals := 123 }
set_option maxHeartbeats 4000000 in
set_option maxRecDepth 100000 in
theorem w_X0_keep_51 {τ : x_Hp} (C : x_C p s m args meth c cX0_keep 6 none yX0_keep.cls TX G) {k20 : Nat → Nat → Int32 → Int32 → Int32 → x_Hp → Option (Unit × x_Hp)} (hk20 : ∀ (o : Nat) (r1 : Nat) (x3 : Int32) (x4 : Int32) (x5 : Int32) (σ : x_Hp) (hk_o : x_kd TX o = 0) (hk_r1 : x_kd TX r1 = 5) (h : k20 o r1 x3 x4 x5 σ = some ((), τ)), x_W p l e rm_X0_keep s m args below meth c (MQ below (x_Q TX G none τ) args s 0 0 (x_A TX G)) TX G 6 20 [(0, .ref (x_ad G o)), (1, .ref (x_ad G r1)), (3, .int x3), (4, .int x4), (5, .int x5)] [] σ) (o : Nat) (r1 : Nat) (x3 : Int32) (x4 : Int32) (x5 : Int32) (σ : x_Hp) (hk_o : x_kd TX o = 0) (hk_r1 : x_kd TX r1 = 5) (h : F_X0_keep_51 k20 o r1 x3 x4 x5 σ = some ((), τ)) : x_W p l e rm_X0_keep s m args below meth c (MQ below (x_Q TX G none τ) args s 0 0 (x_A TX G)) TX G 6 51 [(0, .ref (x_ad G o)), (1, .ref (x_ad G r1)), (3, .int x3), (4, .int x4), (5, .int x5)] [] σ := by
  have hG : x_OK TX G := C.2.2.2.2.2.2.2.2.1
  rw [F_X0_keep_51] at h
  refine x_aload_n C 0 dX0_keep_51 rfl rfl ?_
  refine x_aload_n C 1 dX0_keep_52 rfl rfl ?_
  obtain ⟨v2, σ2, hc2, h⟩ := x_b_some h
  refine x_callV C (n := 1) (c_X0_step hG hk_o hk_r1 hc2) hk_o (by decide) rfl wd_895 wd_896 wd_897 wd_106 wd_898 (by decide +kernel) rfl ⟨Nat.le_of_ble_eq_true rfl, Nat.le_of_ble_eq_true rfl⟩ ⟨rfl, rfl⟩ rfl (Nat.le_of_ble_eq_true rfl) dX0_keep_53 ?_
  refine x_iinc C 4 (x5 + (1 : Int32)) [(5, .int (x5 + (1 : Int32))), (0, .ref (x_ad G o)), (1, .ref (x_ad G r1)), (3, .int x3), (4, .int x4)] dX0_keep_56 rfl rfl (by decide) rfl ?_
  refine x_goto C 20 dX0_keep_59 rfl ?_
  exact x_sub [1, 2, 3, 4, 0] rfl (hk20 o r1 x3 x4 (x5 + (1 : Int32)) σ2 hk_o hk_r1 h)
set_option maxHeartbeats 4000000 in
set_option maxRecDepth 100000 in
theorem w_X0_keep_41 {τ : x_Hp} (C : x_C p s m args meth c cX0_keep 6 none yX0_keep.cls TX G) {k20 : Nat → Nat → Int32 → Int32 → Int32 → x_Hp → Option (Unit × x_Hp)} (hk20 : ∀ (o : Nat) (r1 : Nat) (x3 : Int32) (x4 : Int32) (x5 : Int32) (σ : x_Hp) (hk_o : x_kd TX o = 0) (hk_r1 : x_kd TX r1 = 5) (h : k20 o r1 x3 x4 x5 σ = some ((), τ)), x_W p l e rm_X0_keep s m args below meth c (MQ below (x_Q TX G none τ) args s 0 0 (x_A TX G)) TX G 6 20 [(0, .ref (x_ad G o)), (1, .ref (x_ad G r1)), (3, .int x3), (4, .int x4), (5, .int x5)] [] σ) (o : Nat) (r1 : Nat) (x3 : Int32) (x4 : Int32) (x5 : Int32) (σ : x_Hp) (hk_o : x_kd TX o = 0) (hk_r1 : x_kd TX r1 = 5) (h : F_X0_keep_41 k20 o r1 x3 x4 x5 σ = some ((), τ)) : x_W p l e rm_X0_keep s m args below meth c (MQ below (x_Q TX G none τ) args s 0 0 (x_A TX G)) TX G 6 41 [(0, .ref (x_ad G o)), (1, .ref (x_ad G r1)), (3, .int x3), (4, .int x4), (5, .int x5)] [] σ := by
  have hG : x_OK TX G := C.2.2.2.2.2.2.2.2.1
  rw [F_X0_keep_41] at h
  refine x_aload_n C 1 dX0_keep_41 rfl rfl ?_
  refine x_getI C (k := 13) hk_r1 (by decide) rfl x_in5 (by decide) (by decide) rfl rfl wd_342 dX0_keep_42 ?_
  refine x_if_ne C 51 dX0_keep_45 rfl (fun hc => ?_) (fun hc => ?_)
  · replace h := x_itn hc h
    exact x_sub [0, 1, 2, 3, 4] rfl (w_X0_keep_51 C hk20 o r1 x3 x4 x5 σ hk_o hk_r1 h)
  · replace h := x_itp hc h
    refine x_iinc C 3 (x4 + (-1 : Int32)) [(4, .int (x4 + (-1 : Int32))), (0, .ref (x_ad G o)), (1, .ref (x_ad G r1)), (3, .int x3), (5, .int x5)] dX0_keep_48 rfl rfl (by decide) rfl ?_
    exact x_sub [1, 2, 3, 0, 4] rfl (w_X0_keep_51 C hk20 o r1 x3 (x4 + (-1 : Int32)) x5 σ hk_o hk_r1 h)
set_option maxHeartbeats 4000000 in
set_option maxRecDepth 100000 in
theorem w_X0_keep_20 {τ : x_Hp} (C : x_C p s m args meth c cX0_keep 6 none yX0_keep.cls TX G) : ∀ (n : Nat) (o : Nat) (r1 : Nat) (x3 : Int32) (x4 : Int32) (x5 : Int32) (σ : x_Hp) (hk_o : x_kd TX o = 0) (hk_r1 : x_kd TX r1 = 5) (h : F_X0_keep_20 n o r1 x3 x4 x5 σ = some ((), τ)), x_W p l e rm_X0_keep s m args below meth c (MQ below (x_Q TX G none τ) args s 0 0 (x_A TX G)) TX G 6 20 [(0, .ref (x_ad G o)), (1, .ref (x_ad G r1)), (3, .int x3), (4, .int x4), (5, .int x5)] [] σ := by
  intro n
  induction n with
  | zero => intro o r1 x3 x4 x5 σ _ _ h; cases h
  | succ n ih =>
    intro o r1 x3 x4 x5 σ hk_o hk_r1 h
    have hG : x_OK TX G := C.2.2.2.2.2.2.2.2.1
    rw [F_X0_keep_20] at h
    refine x_iload C 4 dX0_keep_20 rfl ?_
    refine x_iload_n C 2 dX0_keep_22 rfl rfl ?_
    refine x_bipush C (61 : Int32) dX0_keep_23 (by decide) ?_
    refine x_imul C dX0_keep_25 ?_
    refine x_icmp_ge C 62 dX0_keep_26 rfl (fun hc => ?_) (fun hc => ?_)
    · replace h := x_itp hc h
      obtain ⟨-, rfl⟩ := x_ret h
      exact x_vret C dX0_keep_62
    · replace h := x_itn hc h
      refine x_iload C 3 dX0_keep_29 rfl ?_
      refine x_if_gt C 41 dX0_keep_31 rfl (fun hc => ?_) (fun hc => ?_)
      · replace h := x_itp hc h
        exact x_sub [0, 1, 2, 3, 4] rfl (w_X0_keep_41 C ih o r1 x3 x4 x5 σ hk_o hk_r1 h)
      · replace h := x_itn hc h
        refine x_aload_n C 1 dX0_keep_34 rfl rfl ?_
        refine x_getI C (k := 13) hk_r1 (by decide) rfl x_in5 (by decide) (by decide) rfl rfl wd_342 dX0_keep_35 ?_
        refine x_if_le C 62 dX0_keep_38 rfl (fun hc => ?_) (fun hc => ?_)
        · replace h := x_itp hc h
          obtain ⟨-, rfl⟩ := x_ret h
          exact x_vret C dX0_keep_62
        · replace h := x_itn hc h
          exact x_sub [0, 1, 2, 3, 4] rfl (w_X0_keep_41 C ih o r1 x3 x4 x5 σ hk_o hk_r1 h)
set_option maxHeartbeats 4000000 in
set_option maxRecDepth 100000 in
theorem w_X0_keep_14 {τ : x_Hp} (C : x_C p s m args meth c cX0_keep 6 none yX0_keep.cls TX G) (o : Nat) (r1 : Nat) (x3 : Int32) (σ : x_Hp) (hk_o : x_kd TX o = 0) (hk_r1 : x_kd TX r1 = 5) (h : F_X0_keep_14 o r1 x3 σ = some ((), τ)) : x_W p l e rm_X0_keep s m args below meth c (MQ below (x_Q TX G none τ) args s 0 0 (x_A TX G)) TX G 6 14 [(0, .ref (x_ad G o)), (1, .ref (x_ad G r1)), (3, .int x3)] [] σ := by
  have hG : x_OK TX G := C.2.2.2.2.2.2.2.2.1
  rw [F_X0_keep_14] at h
  refine x_iload_n C 2 dX0_keep_14 rfl rfl ?_
  refine x_istore C [(4, .int x3), (0, .ref (x_ad G o)), (1, .ref (x_ad G r1)), (3, .int x3)] dX0_keep_15 (by decide) rfl ?_
  refine x_iconst C (0 : Int32) dX0_keep_17 (by decide) ?_
  refine x_istore C [(5, .int (0 : Int32)), (4, .int x3), (0, .ref (x_ad G o)), (1, .ref (x_ad G r1)), (3, .int x3)] dX0_keep_18 (by decide) rfl ?_
  exact x_sub [2, 3, 4, 1, 0] rfl (w_X0_keep_20 C x_fuel o r1 x3 x3 (0 : Int32) σ hk_o hk_r1 h)
set_option maxHeartbeats 4000000 in
set_option maxRecDepth 100000 in
theorem c_X0_keep (hG : x_OK TX G) {o : Nat} {r1 : Nat} {x2 : Int32} {x3 : Int32} {σ τ : x_Hp} (hk_o : x_kd TX o = 0) (hk_r1 : x_kd TX r1 = 5) (h : F_X0_keep o r1 x2 x3 σ = some ((), τ)) : x_M l TX G yX0_keep cX0_keep 6 none rm_X0_keep [.ref (x_ad G o), .ref (x_ad G r1), .int x2, .int x3] σ none τ := by
  refine x_M.of hG (lv := [(0, .ref (x_ad G o)), (1, .ref (x_ad G r1)), (2, .int x2), (3, .int x3)]) (by decide) (Nat.le_of_ble_eq_true rfl) rfl (fun p e s m below meth c C => ?_)
  rw [F_X0_keep] at h
  refine x_aload_n C 1 dX0_keep_0 rfl rfl ?_
  refine x_getI C (k := 9) hk_r1 (by decide) rfl x_in5 (by decide) (by decide) rfl rfl wd_331 dX0_keep_1 ?_
  refine x_iload_n C 2 dX0_keep_4 rfl rfl ?_
  refine x_icmp_eq C 14 dX0_keep_5 rfl (fun hc => ?_) (fun hc => ?_)
  · replace h := x_itp hc h
    exact x_sub [0, 1, 3] rfl (w_X0_keep_14 C o r1 x3 σ hk_o hk_r1 h)
  · replace h := x_itn hc h
    refine x_aload_n C 0 dX0_keep_8 rfl rfl ?_
    refine x_aload_n C 1 dX0_keep_9 rfl rfl ?_
    refine x_iload_n C 2 dX0_keep_10 rfl rfl ?_
    obtain ⟨v1, σ1, hc1, h⟩ := x_b_some h
    refine x_callV C (n := 2) (c_X0_giveOver hG hk_o hk_r1 hc1) hk_o (by decide) rfl wd_1021 wd_930 wd_931 wd_106 wd_932 (by decide +kernel) rfl ⟨Nat.le_of_ble_eq_true rfl, Nat.le_of_ble_eq_true rfl⟩ ⟨rfl, rfl⟩ rfl (Nat.le_of_ble_eq_true rfl) dX0_keep_11 ?_
    exact x_sub [0, 1, 3] rfl (w_X0_keep_14 C o r1 x3 σ1 hk_o hk_r1 h)
abbrev rm_X0_behind : Room := { frames := 0, cells := 0, slots := 0, locals := 0 }
set_option maxHeartbeats 4000000 in
set_option maxRecDepth 100000 in
theorem c_X0_behind (hG : x_OK TX G) {o : Nat} {x1 : Int32} {σ τ : x_Hp} {r : Int32} (hk_o : x_kd TX o = 0) (h : F_X0_behind o x1 σ = some (r, τ)) : x_M l TX G yX0_behind cX0_behind 2 (some .int) rm_X0_behind [.ref (x_ad G o), .int x1] σ (some (.int r)) τ := by
  refine x_M.of hG (lv := [(0, .ref (x_ad G o)), (1, .int x1)]) (by decide) (Nat.le_of_ble_eq_true rfl) rfl (fun p e s m below meth c C => ?_)
  rw [F_X0_behind] at h
  refine x_iload_n C 1 dX0_behind_0 rfl rfl ?_
  refine x_iconst C (1 : Int32) dX0_behind_1 (by decide) ?_
  refine x_iadd C dX0_behind_2 ?_
  refine x_aload_n C 0 dX0_behind_3 rfl rfl ?_
  refine x_getR C (k := 0) hk_o (by decide) rfl x_in0 (by decide) (by decide) rfl rfl wd_294 dX0_behind_4 ?_
  refine x_getI C (k := 7) (t_TX_0_0 hk_o) (by decide) rfl x_in6 (by decide) (by decide) rfl rfl wd_185 dX0_behind_7 ?_
  refine x_icmp_ge C 19 dX0_behind_10 rfl (fun hc => ?_) (fun hc => ?_)
  · replace h := x_itp hc h
    refine x_iconst C (0 : Int32) dX0_behind_19 (by decide) ?_
    obtain ⟨rfl, rfl⟩ := x_ret h
    exact x_iret C dX0_behind_20
  · replace h := x_itn hc h
    refine x_iload_n C 1 dX0_behind_13 rfl rfl ?_
    refine x_iconst C (1 : Int32) dX0_behind_14 (by decide) ?_
    refine x_iadd C dX0_behind_15 ?_
    refine x_goto C 20 dX0_behind_16 rfl ?_
    obtain ⟨rfl, rfl⟩ := x_ret h
    exact x_iret C dX0_behind_20
abbrev rm_X0_fewest : Room := { frames := 2, cells := 0, slots := 0, locals := 43 }
set_option maxHeartbeats 4000000 in
set_option maxRecDepth 100000 in
theorem w_X0_fewest_51 {r : Int32} {τ : x_Hp} (C : x_C p s m args meth c cX0_fewest 4 (some .int) yX0_fewest.cls TX G) {k7 : Nat → Nat → Int32 → Int32 → x_Hp → Option (Int32 × x_Hp)} (hk7 : ∀ (o : Nat) (r1 : Nat) (x2 : Int32) (x3 : Int32) (σ : x_Hp) (hk_o : x_kd TX o = 0) (hk_r1 : x_kd TX r1 = 5) (h : k7 o r1 x2 x3 σ = some (r, τ)), x_W p l e rm_X0_fewest s m args below meth c (MQ below (x_Q TX G (some (.int r)) τ) args s 0 0 (x_A TX G)) TX G 4 7 [(0, .ref (x_ad G o)), (1, .ref (x_ad G r1)), (2, .int x2), (3, .int x3)] [] σ) (o : Nat) (r1 : Nat) (x2 : Int32) (x3 : Int32) (σ : x_Hp) (hk_o : x_kd TX o = 0) (hk_r1 : x_kd TX r1 = 5) (h : F_X0_fewest_51 k7 o r1 x2 x3 σ = some (r, τ)) : x_W p l e rm_X0_fewest s m args below meth c (MQ below (x_Q TX G (some (.int r)) τ) args s 0 0 (x_A TX G)) TX G 4 51 [(0, .ref (x_ad G o)), (1, .ref (x_ad G r1)), (2, .int x2), (3, .int x3)] [] σ := by
  have hG : x_OK TX G := C.2.2.2.2.2.2.2.2.1
  rw [F_X0_fewest_51] at h
  refine x_iinc C 3 (x3 + (1 : Int32)) [(3, .int (x3 + (1 : Int32))), (0, .ref (x_ad G o)), (1, .ref (x_ad G r1)), (2, .int x2)] dX0_fewest_51 rfl rfl (by decide) rfl ?_
  refine x_goto C 7 dX0_fewest_54 rfl ?_
  exact x_sub [1, 2, 3, 0] rfl (hk7 o r1 x2 (x3 + (1 : Int32)) σ hk_o hk_r1 h)
set_option maxHeartbeats 4000000 in
set_option maxRecDepth 100000 in
theorem w_X0_fewest_49 {r : Int32} {τ : x_Hp} (C : x_C p s m args meth c cX0_fewest 4 (some .int) yX0_fewest.cls TX G) {k7 : Nat → Nat → Int32 → Int32 → x_Hp → Option (Int32 × x_Hp)} (hk7 : ∀ (o : Nat) (r1 : Nat) (x2 : Int32) (x3 : Int32) (σ : x_Hp) (hk_o : x_kd TX o = 0) (hk_r1 : x_kd TX r1 = 5) (h : k7 o r1 x2 x3 σ = some (r, τ)), x_W p l e rm_X0_fewest s m args below meth c (MQ below (x_Q TX G (some (.int r)) τ) args s 0 0 (x_A TX G)) TX G 4 7 [(0, .ref (x_ad G o)), (1, .ref (x_ad G r1)), (2, .int x2), (3, .int x3)] [] σ) (o : Nat) (r1 : Nat) (x3 : Int32) (σ : x_Hp) (hk_o : x_kd TX o = 0) (hk_r1 : x_kd TX r1 = 5) (h : F_X0_fewest_49 k7 o r1 x3 σ = some (r, τ)) : x_W p l e rm_X0_fewest s m args below meth c (MQ below (x_Q TX G (some (.int r)) τ) args s 0 0 (x_A TX G)) TX G 4 49 [(0, .ref (x_ad G o)), (1, .ref (x_ad G r1)), (3, .int x3)] [] σ := by
  have hG : x_OK TX G := C.2.2.2.2.2.2.2.2.1
  rw [F_X0_fewest_49] at h
  refine x_iload_n C 2 dX0_fewest_49 rfl rfl ?_
  refine x_istore_n C [(2, .int x3), (0, .ref (x_ad G o)), (1, .ref (x_ad G r1)), (3, .int x3)] dX0_fewest_50 rfl (by decide) rfl ?_
  exact x_sub [1, 2, 0, 3] rfl (w_X0_fewest_51 C hk7 o r1 x3 x3 σ hk_o hk_r1 h)
set_option maxHeartbeats 4000000 in
set_option maxRecDepth 100000 in
theorem w_X0_fewest_7 {r : Int32} {τ : x_Hp} (C : x_C p s m args meth c cX0_fewest 4 (some .int) yX0_fewest.cls TX G) : ∀ (n : Nat) (o : Nat) (r1 : Nat) (x2 : Int32) (x3 : Int32) (σ : x_Hp) (hk_o : x_kd TX o = 0) (hk_r1 : x_kd TX r1 = 5) (h : F_X0_fewest_7 n o r1 x2 x3 σ = some (r, τ)), x_W p l e rm_X0_fewest s m args below meth c (MQ below (x_Q TX G (some (.int r)) τ) args s 0 0 (x_A TX G)) TX G 4 7 [(0, .ref (x_ad G o)), (1, .ref (x_ad G r1)), (2, .int x2), (3, .int x3)] [] σ := by
  intro n
  induction n with
  | zero => intro o r1 x2 x3 σ _ _ h; cases h
  | succ n ih =>
    intro o r1 x2 x3 σ hk_o hk_r1 h
    have hG : x_OK TX G := C.2.2.2.2.2.2.2.2.1
    rw [F_X0_fewest_7] at h
    refine x_iload_n C 3 dX0_fewest_7 rfl rfl ?_
    refine x_aload_n C 0 dX0_fewest_8 rfl rfl ?_
    refine x_getR C (k := 0) hk_o (by decide) rfl x_in0 (by decide) (by decide) rfl rfl wd_294 dX0_fewest_9 ?_
    refine x_getI C (k := 7) (t_TX_0_0 hk_o) (by decide) rfl x_in6 (by decide) (by decide) rfl rfl wd_185 dX0_fewest_12 ?_
    refine x_icmp_ge C 57 dX0_fewest_15 rfl (fun hc => ?_) (fun hc => ?_)
    · replace h := x_itp hc h
      refine x_iload_n C 2 dX0_fewest_57 rfl rfl ?_
      obtain ⟨rfl, rfl⟩ := x_ret h
      exact x_iret C dX0_fewest_58
    · replace h := x_itn hc h
      refine x_iload_n C 3 dX0_fewest_18 rfl rfl ?_
      refine x_aload_n C 1 dX0_fewest_19 rfl rfl ?_
      refine x_getI C (k := 9) hk_r1 (by decide) rfl x_in5 (by decide) (by decide) rfl rfl wd_331 dX0_fewest_20 ?_
      refine x_icmp_eq C 51 dX0_fewest_23 rfl (fun hc => ?_) (fun hc => ?_)
      · replace h := x_itp hc h
        exact x_sub [0, 1, 2, 3] rfl (w_X0_fewest_51 C ih o r1 x2 x3 σ hk_o hk_r1 h)
      · replace h := x_itn hc h
        refine x_iload_n C 2 dX0_fewest_26 rfl rfl ?_
        refine x_aload_n C 1 dX0_fewest_27 rfl rfl ?_
        refine x_getI C (k := 9) hk_r1 (by decide) rfl x_in5 (by decide) (by decide) rfl rfl wd_331 dX0_fewest_28 ?_
        refine x_icmp_eq C 49 dX0_fewest_31 rfl (fun hc => ?_) (fun hc => ?_)
        · replace h := x_itp hc h
          exact x_sub [0, 1, 3] rfl (w_X0_fewest_49 C ih o r1 x3 σ hk_o hk_r1 h)
        · replace h := x_itn hc h
          refine x_aload_n C 1 dX0_fewest_34 rfl rfl ?_
          refine x_iload_n C 3 dX0_fewest_35 rfl rfl ?_
          refine x_iconst C (0 : Int32) dX0_fewest_36 (by decide) ?_
          obtain ⟨v1, σ1, hc1, h⟩ := x_b_some h
          refine x_callV C (n := 2) (c_X5_tallied hG hk_r1 hc1) hk_r1 (by decide) rfl wd_1092 wd_840 wd_841 wd_107 wd_842 (by decide +kernel) rfl ⟨Nat.le_of_ble_eq_true rfl, Nat.le_of_ble_eq_true rfl⟩ ⟨rfl, rfl⟩ rfl (Nat.le_of_ble_eq_true rfl) dX0_fewest_37 ?_
          refine x_aload_n C 1 dX0_fewest_40 rfl rfl ?_
          refine x_iload_n C 2 dX0_fewest_41 rfl rfl ?_
          refine x_iconst C (0 : Int32) dX0_fewest_42 (by decide) ?_
          obtain ⟨v2, σ2, hc2, h⟩ := x_b_some h
          refine x_callV C (n := 2) (c_X5_tallied hG hk_r1 hc2) hk_r1 (by decide) rfl wd_1092 wd_840 wd_841 wd_107 wd_842 (by decide +kernel) rfl ⟨Nat.le_of_ble_eq_true rfl, Nat.le_of_ble_eq_true rfl⟩ ⟨rfl, rfl⟩ rfl (Nat.le_of_ble_eq_true rfl) dX0_fewest_43 ?_
          refine x_icmp_ge C 51 dX0_fewest_46 rfl (fun hc => ?_) (fun hc => ?_)
          · replace h := x_itp hc h
            exact x_sub [0, 1, 2, 3] rfl (w_X0_fewest_51 C ih o r1 x2 x3 σ2 hk_o hk_r1 h)
          · replace h := x_itn hc h
            exact x_sub [0, 1, 3] rfl (w_X0_fewest_49 C ih o r1 x3 σ2 hk_o hk_r1 h)
set_option maxHeartbeats 4000000 in
set_option maxRecDepth 100000 in
theorem c_X0_fewest (hG : x_OK TX G) {o : Nat} {r1 : Nat} {σ τ : x_Hp} {r : Int32} (hk_o : x_kd TX o = 0) (hk_r1 : x_kd TX r1 = 5) (h : F_X0_fewest o r1 σ = some (r, τ)) : x_M l TX G yX0_fewest cX0_fewest 4 (some .int) rm_X0_fewest [.ref (x_ad G o), .ref (x_ad G r1)] σ (some (.int r)) τ := by
  refine x_M.of hG (lv := [(0, .ref (x_ad G o)), (1, .ref (x_ad G r1))]) (by decide) (Nat.le_of_ble_eq_true rfl) rfl (fun p e s m below meth c C => ?_)
  rw [F_X0_fewest] at h
  refine x_aload_n C 1 dX0_fewest_0 rfl rfl ?_
  refine x_getI C (k := 9) hk_r1 (by decide) rfl x_in5 (by decide) (by decide) rfl rfl wd_331 dX0_fewest_1 ?_
  refine x_istore_n C [(2, .int (σ.1 r1 9)), (0, .ref (x_ad G o)), (1, .ref (x_ad G r1))] dX0_fewest_4 rfl (by decide) rfl ?_
  refine x_iconst C (0 : Int32) dX0_fewest_5 (by decide) ?_
  refine x_istore_n C [(3, .int (0 : Int32)), (2, .int (σ.1 r1 9)), (0, .ref (x_ad G o)), (1, .ref (x_ad G r1))] dX0_fewest_6 rfl (by decide) rfl ?_
  exact x_sub [2, 3, 1, 0] rfl (w_X0_fewest_7 C x_fuel o r1 (σ.1 r1 9) (0 : Int32) σ hk_o hk_r1 h)
abbrev rm_X0_goByRule : Room := { frames := 5, cells := 0, slots := 0, locals := 123 }
set_option maxHeartbeats 4000000 in
set_option maxRecDepth 100000 in
theorem w_X0_goByRule_97 {τ : x_Hp} (C : x_C p s m args meth c cX0_goByRule 7 none yX0_goByRule.cls TX G) {k3 : Nat → Nat → Int32 → Int32 → Int32 → Int32 → x_Hp → Option (Unit × x_Hp)} (hk3 : ∀ (o : Nat) (r1 : Nat) (x2 : Int32) (x3 : Int32) (x4 : Int32) (x5 : Int32) (σ : x_Hp) (hk_o : x_kd TX o = 0) (hk_r1 : x_kd TX r1 = 5) (h : k3 o r1 x2 x3 x4 x5 σ = some ((), τ)), x_W p l e rm_X0_goByRule s m args below meth c (MQ below (x_Q TX G none τ) args s 0 0 (x_A TX G)) TX G 7 3 [(0, .ref (x_ad G o)), (1, .ref (x_ad G r1)), (2, .int x2), (3, .int x3), (4, .int x4), (5, .int x5)] [] σ) (o : Nat) (r1 : Nat) (x2 : Int32) (x3 : Int32) (x4 : Int32) (x5 : Int32) (σ : x_Hp) (hk_o : x_kd TX o = 0) (hk_r1 : x_kd TX r1 = 5) (h : F_X0_goByRule_97 k3 o r1 x2 x3 x4 x5 σ = some ((), τ)) : x_W p l e rm_X0_goByRule s m args below meth c (MQ below (x_Q TX G none τ) args s 0 0 (x_A TX G)) TX G 7 97 [(0, .ref (x_ad G o)), (1, .ref (x_ad G r1)), (2, .int x2), (3, .int x3), (4, .int x4), (5, .int x5)] [] σ := by
  have hG : x_OK TX G := C.2.2.2.2.2.2.2.2.1
  rw [F_X0_goByRule_97] at h
  refine x_aload_n C 0 dX0_goByRule_97 rfl rfl ?_
  refine x_aload_n C 1 dX0_goByRule_98 rfl rfl ?_
  obtain ⟨v1, σ1, hc1, h⟩ := x_b_some h
  refine x_callV C (n := 1) (c_X0_step hG hk_o hk_r1 hc1) hk_o (by decide) rfl wd_895 wd_896 wd_897 wd_106 wd_898 (by decide +kernel) rfl ⟨Nat.le_of_ble_eq_true rfl, Nat.le_of_ble_eq_true rfl⟩ ⟨rfl, rfl⟩ rfl (Nat.le_of_ble_eq_true rfl) dX0_goByRule_99 ?_
  refine x_iinc C 5 (x5 + (1 : Int32)) [(5, .int (x5 + (1 : Int32))), (0, .ref (x_ad G o)), (1, .ref (x_ad G r1)), (2, .int x2), (3, .int x3), (4, .int x4)] dX0_goByRule_102 rfl rfl (by decide) rfl ?_
  refine x_goto C 3 dX0_goByRule_105 rfl ?_
  exact x_sub [1, 2, 3, 4, 5, 0] rfl (hk3 o r1 x2 x3 x4 (x5 + (1 : Int32)) σ1 hk_o hk_r1 h)
set_option maxHeartbeats 4000000 in
set_option maxRecDepth 100000 in
theorem w_X0_goByRule_81 {τ : x_Hp} (C : x_C p s m args meth c cX0_goByRule 7 none yX0_goByRule.cls TX G) {k3 : Nat → Nat → Int32 → Int32 → Int32 → Int32 → x_Hp → Option (Unit × x_Hp)} (hk3 : ∀ (o : Nat) (r1 : Nat) (x2 : Int32) (x3 : Int32) (x4 : Int32) (x5 : Int32) (σ : x_Hp) (hk_o : x_kd TX o = 0) (hk_r1 : x_kd TX r1 = 5) (h : k3 o r1 x2 x3 x4 x5 σ = some ((), τ)), x_W p l e rm_X0_goByRule s m args below meth c (MQ below (x_Q TX G none τ) args s 0 0 (x_A TX G)) TX G 7 3 [(0, .ref (x_ad G o)), (1, .ref (x_ad G r1)), (2, .int x2), (3, .int x3), (4, .int x4), (5, .int x5)] [] σ) (o : Nat) (r1 : Nat) (x2 : Int32) (x3 : Int32) (x4 : Int32) (x5 : Int32) (x6 : Int32) (σ : x_Hp) (hk_o : x_kd TX o = 0) (hk_r1 : x_kd TX r1 = 5) (h : F_X0_goByRule_81 k3 o r1 x2 x3 x4 x5 x6 σ = some ((), τ)) : x_W p l e rm_X0_goByRule s m args below meth c (MQ below (x_Q TX G none τ) args s 0 0 (x_A TX G)) TX G 7 81 [(0, .ref (x_ad G o)), (1, .ref (x_ad G r1)), (2, .int x2), (3, .int x3), (4, .int x4), (5, .int x5), (6, .int x6)] [] σ := by
  have hG : x_OK TX G := C.2.2.2.2.2.2.2.2.1
  rw [F_X0_goByRule_81] at h
  refine x_iload C 6 dX0_goByRule_81 rfl ?_
  refine x_aload_n C 1 dX0_goByRule_83 rfl rfl ?_
  refine x_getI C (k := 9) hk_r1 (by decide) rfl x_in5 (by decide) (by decide) rfl rfl wd_331 dX0_goByRule_84 ?_
  refine x_icmp_eq C 97 dX0_goByRule_87 rfl (fun hc => ?_) (fun hc => ?_)
  · replace h := x_itp hc h
    exact x_sub [0, 1, 2, 3, 4, 5] rfl (w_X0_goByRule_97 C hk3 o r1 x2 x3 x4 x5 σ hk_o hk_r1 h)
  · replace h := x_itn hc h
    refine x_aload_n C 0 dX0_goByRule_90 rfl rfl ?_
    refine x_aload_n C 1 dX0_goByRule_91 rfl rfl ?_
    refine x_iload C 6 dX0_goByRule_92 rfl ?_
    obtain ⟨v4, σ4, hc4, h⟩ := x_b_some h
    refine x_callV C (n := 2) (c_X0_giveOver hG hk_o hk_r1 hc4) hk_o (by decide) rfl wd_1021 wd_930 wd_931 wd_106 wd_932 (by decide +kernel) rfl ⟨Nat.le_of_ble_eq_true rfl, Nat.le_of_ble_eq_true rfl⟩ ⟨rfl, rfl⟩ rfl (Nat.le_of_ble_eq_true rfl) dX0_goByRule_94 ?_
    exact x_sub [0, 1, 2, 3, 4, 5] rfl (w_X0_goByRule_97 C hk3 o r1 x2 x3 x4 x5 σ4 hk_o hk_r1 h)
set_option maxHeartbeats 4000000 in
set_option maxRecDepth 100000 in
theorem w_X0_goByRule_61 {τ : x_Hp} (C : x_C p s m args meth c cX0_goByRule 7 none yX0_goByRule.cls TX G) {k3 : Nat → Nat → Int32 → Int32 → Int32 → Int32 → x_Hp → Option (Unit × x_Hp)} (hk3 : ∀ (o : Nat) (r1 : Nat) (x2 : Int32) (x3 : Int32) (x4 : Int32) (x5 : Int32) (σ : x_Hp) (hk_o : x_kd TX o = 0) (hk_r1 : x_kd TX r1 = 5) (h : k3 o r1 x2 x3 x4 x5 σ = some ((), τ)), x_W p l e rm_X0_goByRule s m args below meth c (MQ below (x_Q TX G none τ) args s 0 0 (x_A TX G)) TX G 7 3 [(0, .ref (x_ad G o)), (1, .ref (x_ad G r1)), (2, .int x2), (3, .int x3), (4, .int x4), (5, .int x5)] [] σ) (o : Nat) (r1 : Nat) (x2 : Int32) (x3 : Int32) (x4 : Int32) (x5 : Int32) (x6 : Int32) (σ : x_Hp) (hk_o : x_kd TX o = 0) (hk_r1 : x_kd TX r1 = 5) (h : F_X0_goByRule_61 k3 o r1 x2 x3 x4 x5 x6 σ = some ((), τ)) : x_W p l e rm_X0_goByRule s m args below meth c (MQ below (x_Q TX G none τ) args s 0 0 (x_A TX G)) TX G 7 61 [(0, .ref (x_ad G o)), (1, .ref (x_ad G r1)), (2, .int x2), (3, .int x3), (4, .int x4), (5, .int x5), (6, .int x6)] [] σ := by
  have hG : x_OK TX G := C.2.2.2.2.2.2.2.2.1
  rw [F_X0_goByRule_61] at h
  refine x_iload_n C 2 dX0_goByRule_61 rfl rfl ?_
  refine x_iconst C (2 : Int32) dX0_goByRule_62 (by decide) ?_
  refine x_icmp_ne C 81 dX0_goByRule_63 rfl (fun hc => ?_) (fun hc => ?_)
  · replace h := x_itn hc h
    exact x_sub [0, 1, 2, 3, 4, 5, 6] rfl (w_X0_goByRule_81 C hk3 o r1 x2 x3 x4 x5 x6 σ hk_o hk_r1 h)
  · replace h := x_itp hc h
    refine x_aload_n C 1 dX0_goByRule_66 rfl rfl ?_
    refine x_getI C (k := 4) hk_r1 (by decide) rfl x_in5 (by decide) (by decide) rfl rfl wd_318 dX0_goByRule_67 ?_
    refine x_iload_n C 3 dX0_goByRule_70 rfl rfl ?_
    refine x_icmp_lt C 81 dX0_goByRule_71 rfl (fun hc => ?_) (fun hc => ?_)
    · replace h := x_itp hc h
      exact x_sub [0, 1, 2, 3, 4, 5, 6] rfl (w_X0_goByRule_81 C hk3 o r1 x2 x3 x4 x5 x6 σ hk_o hk_r1 h)
    · replace h := x_itn hc h
      refine x_aload_n C 0 dX0_goByRule_74 rfl rfl ?_
      refine x_aload_n C 1 dX0_goByRule_75 rfl rfl ?_
      obtain ⟨v3, σ3, hc3, h⟩ := x_b_some h
      refine x_callV C (n := 1) (c_X0_fewest hG hk_o hk_r1 hc3) hk_o (by decide) rfl wd_1088 wd_1090 wd_42 wd_106 wd_1091 (by decide +kernel) rfl ⟨Nat.le_of_ble_eq_true rfl, Nat.le_of_ble_eq_true rfl⟩ ⟨rfl, rfl⟩ rfl (Nat.le_of_ble_eq_true rfl) dX0_goByRule_76 ?_
      refine x_istore C [(6, .int v3), (0, .ref (x_ad G o)), (1, .ref (x_ad G r1)), (2, .int x2), (3, .int x3), (4, .int x4), (5, .int x5)] dX0_goByRule_79 (by decide) rfl ?_
      exact x_sub [1, 2, 3, 4, 5, 6, 0] rfl (w_X0_goByRule_81 C hk3 o r1 x2 x3 x4 x5 v3 σ3 hk_o hk_r1 h)
set_option maxHeartbeats 4000000 in
set_option maxRecDepth 100000 in
theorem w_X0_goByRule_48 {τ : x_Hp} (C : x_C p s m args meth c cX0_goByRule 7 none yX0_goByRule.cls TX G) {k3 : Nat → Nat → Int32 → Int32 → Int32 → Int32 → x_Hp → Option (Unit × x_Hp)} (hk3 : ∀ (o : Nat) (r1 : Nat) (x2 : Int32) (x3 : Int32) (x4 : Int32) (x5 : Int32) (σ : x_Hp) (hk_o : x_kd TX o = 0) (hk_r1 : x_kd TX r1 = 5) (h : k3 o r1 x2 x3 x4 x5 σ = some ((), τ)), x_W p l e rm_X0_goByRule s m args below meth c (MQ below (x_Q TX G none τ) args s 0 0 (x_A TX G)) TX G 7 3 [(0, .ref (x_ad G o)), (1, .ref (x_ad G r1)), (2, .int x2), (3, .int x3), (4, .int x4), (5, .int x5)] [] σ) (o : Nat) (r1 : Nat) (x2 : Int32) (x3 : Int32) (x4 : Int32) (x5 : Int32) (σ : x_Hp) (hk_o : x_kd TX o = 0) (hk_r1 : x_kd TX r1 = 5) (h : F_X0_goByRule_48 k3 o r1 x2 x3 x4 x5 σ = some ((), τ)) : x_W p l e rm_X0_goByRule s m args below meth c (MQ below (x_Q TX G none τ) args s 0 0 (x_A TX G)) TX G 7 48 [(0, .ref (x_ad G o)), (1, .ref (x_ad G r1)), (2, .int x2), (3, .int x3), (4, .int x4), (5, .int x5)] [] σ := by
  have hG : x_OK TX G := C.2.2.2.2.2.2.2.2.1
  rw [F_X0_goByRule_48] at h
  refine x_aload_n C 0 dX0_goByRule_48 rfl rfl ?_
  refine x_aload_n C 1 dX0_goByRule_49 rfl rfl ?_
  refine x_getI C (k := 9) hk_r1 (by decide) rfl x_in5 (by decide) (by decide) rfl rfl wd_331 dX0_goByRule_50 ?_
  obtain ⟨v2, σ2, hc2, h⟩ := x_b_some h
  refine x_callV C (n := 1) (c_X0_behind hG hk_o hc2) hk_o (by decide) rfl wd_1084 wd_1085 wd_1086 wd_106 wd_1087 (by decide +kernel) rfl ⟨Nat.le_of_ble_eq_true rfl, Nat.le_of_ble_eq_true rfl⟩ ⟨rfl, rfl⟩ rfl (Nat.le_of_ble_eq_true rfl) dX0_goByRule_53 ?_
  refine x_istore C [(6, .int v2), (0, .ref (x_ad G o)), (1, .ref (x_ad G r1)), (2, .int x2), (3, .int x3), (4, .int x4), (5, .int x5)] dX0_goByRule_56 (by decide) rfl ?_
  refine x_goto C 81 dX0_goByRule_58 rfl ?_
  exact x_sub [1, 2, 3, 4, 5, 6, 0] rfl (w_X0_goByRule_81 C hk3 o r1 x2 x3 x4 x5 v2 σ2 hk_o hk_r1 h)
set_option maxHeartbeats 4000000 in
set_option maxRecDepth 100000 in
theorem w_X0_goByRule_35 {τ : x_Hp} (C : x_C p s m args meth c cX0_goByRule 7 none yX0_goByRule.cls TX G) {k3 : Nat → Nat → Int32 → Int32 → Int32 → Int32 → x_Hp → Option (Unit × x_Hp)} (hk3 : ∀ (o : Nat) (r1 : Nat) (x2 : Int32) (x3 : Int32) (x4 : Int32) (x5 : Int32) (σ : x_Hp) (hk_o : x_kd TX o = 0) (hk_r1 : x_kd TX r1 = 5) (h : k3 o r1 x2 x3 x4 x5 σ = some ((), τ)), x_W p l e rm_X0_goByRule s m args below meth c (MQ below (x_Q TX G none τ) args s 0 0 (x_A TX G)) TX G 7 3 [(0, .ref (x_ad G o)), (1, .ref (x_ad G r1)), (2, .int x2), (3, .int x3), (4, .int x4), (5, .int x5)] [] σ) (o : Nat) (r1 : Nat) (x2 : Int32) (x3 : Int32) (x4 : Int32) (x5 : Int32) (x6 : Int32) (σ : x_Hp) (hk_o : x_kd TX o = 0) (hk_r1 : x_kd TX r1 = 5) (h : F_X0_goByRule_35 k3 o r1 x2 x3 x4 x5 x6 σ = some ((), τ)) : x_W p l e rm_X0_goByRule s m args below meth c (MQ below (x_Q TX G none τ) args s 0 0 (x_A TX G)) TX G 7 35 [(0, .ref (x_ad G o)), (1, .ref (x_ad G r1)), (2, .int x2), (3, .int x3), (4, .int x4), (5, .int x5), (6, .int x6)] [] σ := by
  have hG : x_OK TX G := C.2.2.2.2.2.2.2.2.1
  rw [F_X0_goByRule_35] at h
  refine x_iload_n C 2 dX0_goByRule_35 rfl rfl ?_
  refine x_iconst C (1 : Int32) dX0_goByRule_36 (by decide) ?_
  refine x_icmp_ne C 61 dX0_goByRule_37 rfl (fun hc => ?_) (fun hc => ?_)
  · replace h := x_itn hc h
    exact x_sub [0, 1, 2, 3, 4, 5, 6] rfl (w_X0_goByRule_61 C hk3 o r1 x2 x3 x4 x5 x6 σ hk_o hk_r1 h)
  · replace h := x_itp hc h
    refine x_aload_n C 1 dX0_goByRule_40 rfl rfl ?_
    refine x_getI C (k := 12) hk_r1 (by decide) rfl x_in5 (by decide) (by decide) rfl rfl wd_339 dX0_goByRule_41 ?_
    refine x_iload_n C 3 dX0_goByRule_44 rfl rfl ?_
    refine x_icmp_lt C 61 dX0_goByRule_45 rfl (fun hc => ?_) (fun hc => ?_)
    · replace h := x_itp hc h
      exact x_sub [0, 1, 2, 3, 4, 5, 6] rfl (w_X0_goByRule_61 C hk3 o r1 x2 x3 x4 x5 x6 σ hk_o hk_r1 h)
    · replace h := x_itn hc h
      exact x_sub [0, 1, 2, 3, 4, 5] rfl (w_X0_goByRule_48 C hk3 o r1 x2 x3 x4 x5 σ hk_o hk_r1 h)
set_option maxHeartbeats 4000000 in
set_option maxRecDepth 100000 in
theorem w_X0_goByRule_3 {τ : x_Hp} (C : x_C p s m args meth c cX0_goByRule 7 none yX0_goByRule.cls TX G) : ∀ (n : Nat) (o : Nat) (r1 : Nat) (x2 : Int32) (x3 : Int32) (x4 : Int32) (x5 : Int32) (σ : x_Hp) (hk_o : x_kd TX o = 0) (hk_r1 : x_kd TX r1 = 5) (h : F_X0_goByRule_3 n o r1 x2 x3 x4 x5 σ = some ((), τ)), x_W p l e rm_X0_goByRule s m args below meth c (MQ below (x_Q TX G none τ) args s 0 0 (x_A TX G)) TX G 7 3 [(0, .ref (x_ad G o)), (1, .ref (x_ad G r1)), (2, .int x2), (3, .int x3), (4, .int x4), (5, .int x5)] [] σ := by
  intro n
  induction n with
  | zero => intro o r1 x2 x3 x4 x5 σ _ _ h; cases h
  | succ n ih =>
    intro o r1 x2 x3 x4 x5 σ hk_o hk_r1 h
    have hG : x_OK TX G := C.2.2.2.2.2.2.2.2.1
    rw [F_X0_goByRule_3] at h
    refine x_iload C 5 dX0_goByRule_3 rfl ?_
    refine x_iload C 4 dX0_goByRule_5 rfl ?_
    refine x_icmp_ge C 108 dX0_goByRule_7 rfl (fun hc => ?_) (fun hc => ?_)
    · replace h := x_itp hc h
      obtain ⟨-, rfl⟩ := x_ret h
      exact x_vret C dX0_goByRule_108
    · replace h := x_itn hc h
      refine x_aload_n C 1 dX0_goByRule_10 rfl rfl ?_
      refine x_getI C (k := 13) hk_r1 (by decide) rfl x_in5 (by decide) (by decide) rfl rfl wd_342 dX0_goByRule_11 ?_
      refine x_if_ne C 97 dX0_goByRule_14 rfl (fun hc => ?_) (fun hc => ?_)
      · replace h := x_itn hc h
        exact x_sub [0, 1, 2, 3, 4, 5] rfl (w_X0_goByRule_97 C ih o r1 x2 x3 x4 x5 σ hk_o hk_r1 h)
      · replace h := x_itp hc h
        refine x_aload_n C 1 dX0_goByRule_17 rfl rfl ?_
        refine x_getI C (k := 9) hk_r1 (by decide) rfl x_in5 (by decide) (by decide) rfl rfl wd_331 dX0_goByRule_18 ?_
        refine x_istore C [(6, .int (σ.1 r1 9)), (0, .ref (x_ad G o)), (1, .ref (x_ad G r1)), (2, .int x2), (3, .int x3), (4, .int x4), (5, .int x5)] dX0_goByRule_21 (by decide) rfl ?_
        refine x_iload_n C 3 dX0_goByRule_23 rfl rfl ?_
        refine x_if_ne C 35 dX0_goByRule_24 rfl (fun hc => ?_) (fun hc => ?_)
        · replace h := x_itn hc h
          exact x_sub [1, 2, 3, 4, 5, 6, 0] rfl (w_X0_goByRule_35 C ih o r1 x2 x3 x4 x5 (σ.1 r1 9) σ hk_o hk_r1 h)
        · replace h := x_itp hc h
          refine x_aload_n C 2 dX0_goByRule_27 rfl rfl ?_
          refine x_getI C (k := 4) hk_r1 (by decide) rfl x_in5 (by decide) (by decide) rfl rfl wd_318 dX0_goByRule_28 ?_
          refine x_iload_n C 4 dX0_goByRule_31 rfl rfl ?_
          refine x_icmp_ge C 48 dX0_goByRule_32 rfl (fun hc => ?_) (fun hc => ?_)
          · replace h := x_itp hc h
            exact x_sub [1, 2, 3, 4, 5, 6] rfl (w_X0_goByRule_48 C ih o r1 x2 x3 x4 x5 σ hk_o hk_r1 h)
          · replace h := x_itn hc h
            exact x_sub [1, 2, 3, 4, 5, 6, 0] rfl (w_X0_goByRule_35 C ih o r1 x2 x3 x4 x5 (σ.1 r1 9) σ hk_o hk_r1 h)
set_option maxHeartbeats 4000000 in
set_option maxRecDepth 100000 in
theorem c_X0_goByRule (hG : x_OK TX G) {o : Nat} {r1 : Nat} {x2 : Int32} {x3 : Int32} {x4 : Int32} {σ τ : x_Hp} (hk_o : x_kd TX o = 0) (hk_r1 : x_kd TX r1 = 5) (h : F_X0_goByRule o r1 x2 x3 x4 σ = some ((), τ)) : x_M l TX G yX0_goByRule cX0_goByRule 7 none rm_X0_goByRule [.ref (x_ad G o), .ref (x_ad G r1), .int x2, .int x3, .int x4] σ none τ := by
  refine x_M.of hG (lv := [(0, .ref (x_ad G o)), (1, .ref (x_ad G r1)), (2, .int x2), (3, .int x3), (4, .int x4)]) (by decide) (Nat.le_of_ble_eq_true rfl) rfl (fun p e s m below meth c C => ?_)
  rw [F_X0_goByRule] at h
  refine x_iconst C (0 : Int32) dX0_goByRule_0 (by decide) ?_
  refine x_istore C [(5, .int (0 : Int32)), (0, .ref (x_ad G o)), (1, .ref (x_ad G r1)), (2, .int x2), (3, .int x3), (4, .int x4)] dX0_goByRule_1 (by decide) rfl ?_
  exact x_sub [1, 2, 3, 4, 5, 0] rfl (w_X0_goByRule_3 C x_fuel o r1 x2 x3 x4 (0 : Int32) σ hk_o hk_r1 h)
abbrev rm_X1_addStep : Room := { frames := 1, cells := 0, slots := 0, locals := 22 }
set_option maxHeartbeats 4000000 in
set_option maxRecDepth 100000 in
theorem c_X1_addStep (hG : x_OK TX G) {o : Nat} {x1 : Int32} {σ τ : x_Hp} (hk_o : x_kd TX o = 1) (h : F_X1_addStep o x1 σ = some ((), τ)) : x_M l TX G yX1_addStep cX1_addStep 2 none rm_X1_addStep [.ref (x_ad G o), .int x1] σ none τ := by
  refine x_M.of hG (lv := [(0, .ref (x_ad G o)), (1, .int x1)]) (by decide) (Nat.le_of_ble_eq_true rfl) rfl (fun p e s m below meth c C => ?_)
  rw [F_X1_addStep] at h
  refine x_aload_n C 0 dX1_addStep_0 rfl rfl ?_
  refine x_getR C (k := 0) hk_o (by decide) rfl x_in1 (by decide) (by decide) rfl rfl wd_137 dX1_addStep_1 ?_
  refine x_aload_n C 0 dX1_addStep_4 rfl rfl ?_
  refine x_getI C (k := 1) hk_o (by decide) rfl x_in1 (by decide) (by decide) rfl rfl wd_138 dX1_addStep_5 ?_
  refine x_iload_n C 1 dX1_addStep_8 rfl rfl ?_
  obtain ⟨v1, σ1, hc1, h⟩ := x_b_some h
  refine x_callSN C (n := 3) (c_X8_put hG (t_TX_1_0 hk_o) hc1) nw_521 wd_522 wd_102 wd_523 (by decide +kernel) rfl ⟨Nat.le_of_ble_eq_true rfl, Nat.le_of_ble_eq_true rfl⟩ ⟨rfl, rfl⟩ rfl (Nat.le_of_ble_eq_true rfl) dX1_addStep_9 ?_
  refine x_aload_n C 0 dX1_addStep_12 rfl rfl ?_
  refine x_dup C dX1_addStep_13 rfl ?_
  refine x_getI C (k := 1) hk_o (by decide) rfl x_in1 (by decide) (by decide) rfl rfl wd_138 dX1_addStep_14 ?_
  refine x_iconst C (1 : Int32) dX1_addStep_17 (by decide) ?_
  refine x_iadd C dX1_addStep_18 ?_
  refine x_putI C (k := 1) tyX1 hk_o (by decide) rfl x_in1 tyX1_ok nmX1 (by decide) (by decide) rfl rfl wd_138 rfl (tyX1_ok 1 (by decide)) rfl rfl dX1_addStep_19 (x_gen h fun σ2 h => ?_)
  obtain ⟨-, rfl⟩ := x_ret h
  exact x_vret C dX1_addStep_22
abbrev rm_X1_beginLaw : Room := { frames := 1, cells := 0, slots := 0, locals := 22 }
set_option maxHeartbeats 4000000 in
set_option maxRecDepth 100000 in
theorem c_X1_beginLaw (hG : x_OK TX G) {o : Nat} {x1 : Int32} {σ τ : x_Hp} (hk_o : x_kd TX o = 1) (h : F_X1_beginLaw o x1 σ = some ((), τ)) : x_M l TX G yX1_beginLaw cX1_beginLaw 2 none rm_X1_beginLaw [.ref (x_ad G o), .int x1] σ none τ := by
  refine x_M.of hG (lv := [(0, .ref (x_ad G o)), (1, .int x1)]) (by decide) (Nat.le_of_ble_eq_true rfl) rfl (fun p e s m below meth c C => ?_)
  rw [F_X1_beginLaw] at h
  refine x_aload_n C 0 dX1_beginLaw_0 rfl rfl ?_
  refine x_getR C (k := 4) hk_o (by decide) rfl x_in1 (by decide) (by decide) rfl rfl wd_141 dX1_beginLaw_1 ?_
  refine x_iload_n C 1 dX1_beginLaw_4 rfl rfl ?_
  refine x_aload_n C 0 dX1_beginLaw_5 rfl rfl ?_
  refine x_getI C (k := 3) hk_o (by decide) rfl x_in1 (by decide) (by decide) rfl rfl wd_140 dX1_beginLaw_6 ?_
  obtain ⟨v1, σ1, hc1, h⟩ := x_b_some h
  refine x_callSN C (n := 3) (c_X8_put hG (t_TX_1_4 hk_o) hc1) nw_521 wd_522 wd_102 wd_523 (by decide +kernel) rfl ⟨Nat.le_of_ble_eq_true rfl, Nat.le_of_ble_eq_true rfl⟩ ⟨rfl, rfl⟩ rfl (Nat.le_of_ble_eq_true rfl) dX1_beginLaw_9 ?_
  refine x_aload_n C 0 dX1_beginLaw_12 rfl rfl ?_
  refine x_getR C (k := 5) hk_o (by decide) rfl x_in1 (by decide) (by decide) rfl rfl wd_142 dX1_beginLaw_13 ?_
  refine x_iload_n C 1 dX1_beginLaw_16 rfl rfl ?_
  refine x_iconst C (0 : Int32) dX1_beginLaw_17 (by decide) ?_
  obtain ⟨v2, σ2, hc2, h⟩ := x_b_some h
  refine x_callSN C (n := 3) (c_X8_put hG (t_TX_1_5 hk_o) hc2) nw_521 wd_522 wd_102 wd_523 (by decide +kernel) rfl ⟨Nat.le_of_ble_eq_true rfl, Nat.le_of_ble_eq_true rfl⟩ ⟨rfl, rfl⟩ rfl (Nat.le_of_ble_eq_true rfl) dX1_beginLaw_18 ?_
  obtain ⟨-, rfl⟩ := x_ret h
  exact x_vret C dX1_beginLaw_21
abbrev rm_X1_endPiece : Room := { frames := 1, cells := 0, slots := 0, locals := 22 }
set_option maxHeartbeats 4000000 in
set_option maxRecDepth 100000 in
theorem c_X1_endPiece (hG : x_OK TX G) {o : Nat} {σ τ : x_Hp} (hk_o : x_kd TX o = 1) (h : F_X1_endPiece o σ = some ((), τ)) : x_M l TX G yX1_endPiece cX1_endPiece 1 none rm_X1_endPiece [.ref (x_ad G o)] σ none τ := by
  refine x_M.of hG (lv := [(0, .ref (x_ad G o))]) (by decide) (Nat.le_of_ble_eq_true rfl) rfl (fun p e s m below meth c C => ?_)
  rw [F_X1_endPiece] at h
  refine x_aload_n C 0 dX1_endPiece_0 rfl rfl ?_
  refine x_dup C dX1_endPiece_1 rfl ?_
  refine x_getI C (k := 3) hk_o (by decide) rfl x_in1 (by decide) (by decide) rfl rfl wd_140 dX1_endPiece_2 ?_
  refine x_iconst C (1 : Int32) dX1_endPiece_5 (by decide) ?_
  refine x_iadd C dX1_endPiece_6 ?_
  refine x_putI C (k := 3) tyX1 hk_o (by decide) rfl x_in1 tyX1_ok nmX1 (by decide) (by decide) rfl rfl wd_140 rfl (tyX1_ok 3 (by decide)) rfl rfl dX1_endPiece_7 (x_gen h fun σ1 h => ?_)
  refine x_aload_n C 0 dX1_endPiece_10 rfl rfl ?_
  refine x_getR C (k := 2) hk_o (by decide) rfl x_in1 (by decide) (by decide) rfl rfl wd_139 dX1_endPiece_11 ?_
  refine x_aload_n C 0 dX1_endPiece_14 rfl rfl ?_
  refine x_getI C (k := 3) hk_o (by decide) rfl x_in1 (by decide) (by decide) rfl rfl wd_140 dX1_endPiece_15 ?_
  refine x_aload_n C 0 dX1_endPiece_18 rfl rfl ?_
  refine x_getI C (k := 1) hk_o (by decide) rfl x_in1 (by decide) (by decide) rfl rfl wd_138 dX1_endPiece_19 ?_
  obtain ⟨v2, σ2, hc2, h⟩ := x_b_some h
  refine x_callSN C (n := 3) (c_X8_put hG (t_TX_1_2 hk_o) hc2) nw_521 wd_522 wd_102 wd_523 (by decide +kernel) rfl ⟨Nat.le_of_ble_eq_true rfl, Nat.le_of_ble_eq_true rfl⟩ ⟨rfl, rfl⟩ rfl (Nat.le_of_ble_eq_true rfl) dX1_endPiece_22 ?_
  obtain ⟨-, rfl⟩ := x_ret h
  exact x_vret C dX1_endPiece_25
abbrev rm_X1_begin : Room := { frames := 2, cells := 0, slots := 0, locals := 43 }
set_option maxHeartbeats 4000000 in
set_option maxRecDepth 100000 in
theorem w_X1_begin_38 {τ : x_Hp} (C : x_C p s m args meth c cX1_begin 2 none yX1_begin.cls TX G) {k12 : Nat → Int32 → x_Hp → Option (Unit × x_Hp)} (hk12 : ∀ (o : Nat) (x1 : Int32) (σ : x_Hp) (hk_o : x_kd TX o = 1) (h : k12 o x1 σ = some ((), τ)), x_W p l e rm_X1_begin s m args below meth c (MQ below (x_Q TX G none τ) args s 0 0 (x_A TX G)) TX G 2 12 [(0, .ref (x_ad G o)), (1, .int x1)] [] σ) (o : Nat) (x1 : Int32) (s0 : Int32) (s1 : Nat) (σ : x_Hp) (hk_o : x_kd TX o = 1) (hk_s1 : x_kd TX s1 = 1) (h : F_X1_begin_38 k12 o x1 s0 s1 σ = some ((), τ)) : x_W p l e rm_X1_begin s m args below meth c (MQ below (x_Q TX G none τ) args s 0 0 (x_A TX G)) TX G 2 38 [(0, .ref (x_ad G o)), (1, .int x1)] [.int s0, .ref (x_ad G s1)] σ := by
  have hG : x_OK TX G := C.2.2.2.2.2.2.2.2.1
  rw [F_X1_begin_38] at h
  obtain ⟨v4, σ4, hc4, h⟩ := x_b_some h
  refine x_callV C (n := 1) (c_X1_addStep hG hk_s1 hc4) hk_s1 (by decide) rfl wd_524 wd_525 wd_526 wd_104 wd_527 (by decide +kernel) rfl ⟨Nat.le_of_ble_eq_true rfl, Nat.le_of_ble_eq_true rfl⟩ ⟨rfl, rfl⟩ rfl (Nat.le_of_ble_eq_true rfl) dX1_begin_38 ?_
  refine x_aload_n C 0 dX1_begin_41 rfl rfl ?_
  obtain ⟨v5, σ5, hc5, h⟩ := x_b_some h
  refine x_callV C (n := 0) (c_X1_endPiece hG hk_o hc5) hk_o (by decide) rfl wd_528 wd_529 wd_530 wd_104 wd_531 (by decide +kernel) rfl ⟨Nat.le_of_ble_eq_true rfl, Nat.le_of_ble_eq_true rfl⟩ ⟨rfl, rfl⟩ rfl (Nat.le_of_ble_eq_true rfl) dX1_begin_42 ?_
  refine x_iinc C 1 (x1 + (1 : Int32)) [(1, .int (x1 + (1 : Int32))), (0, .ref (x_ad G o))] dX1_begin_45 rfl rfl (by decide) rfl ?_
  refine x_goto C 12 dX1_begin_48 rfl ?_
  exact x_sub [1, 0] rfl (hk12 o (x1 + (1 : Int32)) σ5 hk_o h)
set_option maxHeartbeats 4000000 in
set_option maxRecDepth 100000 in
theorem w_X1_begin_33 {τ : x_Hp} (C : x_C p s m args meth c cX1_begin 2 none yX1_begin.cls TX G) {k12 : Nat → Int32 → x_Hp → Option (Unit × x_Hp)} (hk12 : ∀ (o : Nat) (x1 : Int32) (σ : x_Hp) (hk_o : x_kd TX o = 1) (h : k12 o x1 σ = some ((), τ)), x_W p l e rm_X1_begin s m args below meth c (MQ below (x_Q TX G none τ) args s 0 0 (x_A TX G)) TX G 2 12 [(0, .ref (x_ad G o)), (1, .int x1)] [] σ) (o : Nat) (x1 : Int32) (s0 : Nat) (σ : x_Hp) (hk_o : x_kd TX o = 1) (hk_s0 : x_kd TX s0 = 1) (h : F_X1_begin_33 k12 o x1 s0 σ = some ((), τ)) : x_W p l e rm_X1_begin s m args below meth c (MQ below (x_Q TX G none τ) args s 0 0 (x_A TX G)) TX G 2 33 [(0, .ref (x_ad G o)), (1, .int x1)] [.ref (x_ad G s0)] σ := by
  have hG : x_OK TX G := C.2.2.2.2.2.2.2.2.1
  rw [F_X1_begin_33] at h
  refine x_iconst C (1 : Int32) dX1_begin_33 (by decide) ?_
  refine x_goto C 38 dX1_begin_34 rfl ?_
  exact x_sub [0, 1] rfl (w_X1_begin_38 C hk12 o x1 (1 : Int32) s0 σ hk_o hk_s0 h)
set_option maxHeartbeats 4000000 in
set_option maxRecDepth 100000 in
theorem w_X1_begin_12 {τ : x_Hp} (C : x_C p s m args meth c cX1_begin 2 none yX1_begin.cls TX G) : ∀ (n : Nat) (o : Nat) (x1 : Int32) (σ : x_Hp) (hk_o : x_kd TX o = 1) (h : F_X1_begin_12 n o x1 σ = some ((), τ)), x_W p l e rm_X1_begin s m args below meth c (MQ below (x_Q TX G none τ) args s 0 0 (x_A TX G)) TX G 2 12 [(0, .ref (x_ad G o)), (1, .int x1)] [] σ := by
  intro n
  induction n with
  | zero => intro o x1 σ _ h; cases h
  | succ n ih =>
    intro o x1 σ hk_o h
    have hG : x_OK TX G := C.2.2.2.2.2.2.2.2.1
    rw [F_X1_begin_12] at h
    refine x_iload_n C 1 dX1_begin_12 rfl rfl ?_
    refine x_bipush C (7 : Int32) dX1_begin_13 (by decide) ?_
    refine x_icmp_ge C 51 dX1_begin_15 rfl (fun hc => ?_) (fun hc => ?_)
    · replace h := x_itp hc h
      obtain ⟨-, rfl⟩ := x_ret h
      exact x_vret C dX1_begin_51
    · replace h := x_itn hc h
      refine x_aload_n C 0 dX1_begin_18 rfl rfl ?_
      refine x_iload_n C 1 dX1_begin_19 rfl rfl ?_
      obtain ⟨v3, σ3, hc3, h⟩ := x_b_some h
      refine x_callV C (n := 1) (c_X1_beginLaw hG hk_o hc3) hk_o (by decide) rfl wd_517 wd_518 wd_519 wd_104 wd_520 (by decide +kernel) rfl ⟨Nat.le_of_ble_eq_true rfl, Nat.le_of_ble_eq_true rfl⟩ ⟨rfl, rfl⟩ rfl (Nat.le_of_ble_eq_true rfl) dX1_begin_20 ?_
      refine x_aload_n C 0 dX1_begin_23 rfl rfl ?_
      refine x_iload_n C 1 dX1_begin_24 rfl rfl ?_
      refine x_if_eq C 33 dX1_begin_25 rfl (fun hc => ?_) (fun hc => ?_)
      · replace h := x_itp hc h
        exact x_sub [0, 1] rfl (w_X1_begin_33 C ih o x1 o σ3 hk_o hk_o h)
      · replace h := x_itn hc h
        refine x_iload_n C 1 dX1_begin_28 rfl rfl ?_
        refine x_iconst C (1 : Int32) dX1_begin_29 (by decide) ?_
        refine x_icmp_ne C 37 dX1_begin_30 rfl (fun hc => ?_) (fun hc => ?_)
        · replace h := x_itn hc h
          refine x_iconst C (0 : Int32) dX1_begin_37 (by decide) ?_
          exact x_sub [0, 1] rfl (w_X1_begin_38 C ih o x1 (0 : Int32) o σ3 hk_o hk_o h)
        · replace h := x_itp hc h
          exact x_sub [0, 1] rfl (w_X1_begin_33 C ih o x1 o σ3 hk_o hk_o h)
set_option maxHeartbeats 4000000 in
set_option maxRecDepth 100000 in
theorem c_X1_begin (hG : x_OK TX G) {o : Nat} {σ τ : x_Hp} (hk_o : x_kd TX o = 1) (h : F_X1_begin o σ = some ((), τ)) : x_M l TX G yX1_begin cX1_begin 2 none rm_X1_begin [.ref (x_ad G o)] σ none τ := by
  refine x_M.of hG (lv := [(0, .ref (x_ad G o))]) (by decide) (Nat.le_of_ble_eq_true rfl) rfl (fun p e s m below meth c C => ?_)
  rw [F_X1_begin] at h
  refine x_aload_n C 0 dX1_begin_0 rfl rfl ?_
  refine x_iconst C (0 : Int32) dX1_begin_1 (by decide) ?_
  refine x_putI C (k := 1) tyX1 hk_o (by decide) rfl x_in1 tyX1_ok nmX1 (by decide) (by decide) rfl rfl wd_138 rfl (tyX1_ok 1 (by decide)) rfl rfl dX1_begin_2 (x_gen h fun σ1 h => ?_)
  refine x_aload_n C 0 dX1_begin_5 rfl rfl ?_
  refine x_iconst C (0 : Int32) dX1_begin_6 (by decide) ?_
  refine x_putI C (k := 3) tyX1 hk_o (by decide) rfl x_in1 tyX1_ok nmX1 (by decide) (by decide) rfl rfl wd_140 rfl (tyX1_ok 3 (by decide)) rfl rfl dX1_begin_7 (x_gen h fun σ2 h => ?_)
  refine x_iconst C (0 : Int32) dX1_begin_10 (by decide) ?_
  refine x_istore_n C [(1, .int (0 : Int32)), (0, .ref (x_ad G o))] dX1_begin_11 rfl (by decide) rfl ?_
  exact x_sub [1, 0] rfl (w_X1_begin_12 C x_fuel o (0 : Int32) σ2 hk_o h)
abbrev rm_X1_addIf : Room := { frames := 1, cells := 0, slots := 0, locals := 22 }
set_option maxHeartbeats 4000000 in
set_option maxRecDepth 100000 in
theorem c_X1_addIf (hG : x_OK TX G) {o : Nat} {x1 : Int32} {σ τ : x_Hp} (hk_o : x_kd TX o = 1) (h : F_X1_addIf o x1 σ = some ((), τ)) : x_M l TX G yX1_addIf cX1_addIf 2 none rm_X1_addIf [.ref (x_ad G o), .int x1] σ none τ := by
  refine x_M.of hG (lv := [(0, .ref (x_ad G o)), (1, .int x1)]) (by decide) (Nat.le_of_ble_eq_true rfl) rfl (fun p e s m below meth c C => ?_)
  rw [F_X1_addIf] at h
  refine x_aload_n C 0 dX1_addIf_0 rfl rfl ?_
  refine x_getR C (k := 5) hk_o (by decide) rfl x_in1 (by decide) (by decide) rfl rfl wd_142 dX1_addIf_1 ?_
  refine x_iload_n C 1 dX1_addIf_4 rfl rfl ?_
  refine x_aload_n C 0 dX1_addIf_5 rfl rfl ?_
  refine x_getR C (k := 5) hk_o (by decide) rfl x_in1 (by decide) (by decide) rfl rfl wd_142 dX1_addIf_6 ?_
  refine x_iload_n C 1 dX1_addIf_9 rfl rfl ?_
  obtain ⟨v1, σ1, hc1, h⟩ := x_b_some h
  refine x_callSN C (n := 2) (c_X8_at hG (t_TX_1_5 hk_o) hc1) nw_796 wd_541 wd_102 wd_542 (by decide +kernel) rfl ⟨Nat.le_of_ble_eq_true rfl, Nat.le_of_ble_eq_true rfl⟩ ⟨rfl, rfl⟩ rfl (Nat.le_of_ble_eq_true rfl) dX1_addIf_10 ?_
  refine x_iconst C (1 : Int32) dX1_addIf_13 (by decide) ?_
  refine x_iadd C dX1_addIf_14 ?_
  obtain ⟨v2, σ2, hc2, h⟩ := x_b_some h
  refine x_callSN C (n := 3) (c_X8_put hG (t_TX_1_5 hk_o) hc2) nw_521 wd_522 wd_102 wd_523 (by decide +kernel) rfl ⟨Nat.le_of_ble_eq_true rfl, Nat.le_of_ble_eq_true rfl⟩ ⟨rfl, rfl⟩ rfl (Nat.le_of_ble_eq_true rfl) dX1_addIf_15 ?_
  obtain ⟨-, rfl⟩ := x_ret h
  exact x_vret C dX1_addIf_18
abbrev rm_X8_copy : Room := { frames := 0, cells := 0, slots := 0, locals := 0 }
set_option maxHeartbeats 4000000 in
set_option maxRecDepth 100000 in
theorem w_X8_copy_11 {τ : x_Hp} (C : x_C p s m args meth c cX8_copy 3 none yX8_copy.cls TX G) : ∀ (n : Nat) (r0 : Nat) (r1 : Nat) (x2 : Int32) (σ : x_Hp) (hk_r0 : x_kd TX r0 = 12) (hk_r1 : x_kd TX r1 = 12) (h : F_X8_copy_11 n r0 r1 x2 σ = some ((), τ)), x_W p l e rm_X8_copy s m args below meth c (MQ below (x_Q TX G none τ) args s 0 0 (x_A TX G)) TX G 3 11 [(0, .ref (x_ad G r0)), (1, .ref (x_ad G r1)), (2, .int x2)] [] σ := by
  intro n
  induction n with
  | zero => intro r0 r1 x2 σ _ _ h; cases h
  | succ n ih =>
    intro r0 r1 x2 σ hk_r0 hk_r1 h
    have hG : x_OK TX G := C.2.2.2.2.2.2.2.2.1
    rw [F_X8_copy_11] at h
    refine x_iload_n C 2 dX8_copy_11 rfl rfl ?_
    refine x_aload_n C 0 dX8_copy_12 rfl rfl ?_
    refine x_alen C (Int32.ofNat (x_ln TX r0)) hk_r0 (by decide) rfl dX8_copy_13 ?_
    refine x_icmp_ge C 35 dX8_copy_14 rfl (fun hc => ?_) (fun hc => ?_)
    · replace h := x_itp hc h
      obtain ⟨-, rfl⟩ := x_ret h
      exact x_vret C dX8_copy_35
    · replace h := x_itn hc h
      refine x_iload_n C 2 dX8_copy_17 rfl rfl ?_
      refine x_aload_n C 1 dX8_copy_18 rfl rfl ?_
      refine x_alen C (Int32.ofNat (x_ln TX r1)) hk_r1 (by decide) rfl dX8_copy_19 ?_
      refine x_icmp_ge C 35 dX8_copy_20 rfl (fun hc => ?_) (fun hc => ?_)
      · replace h := x_itp hc h
        obtain ⟨-, rfl⟩ := x_ret h
        exact x_vret C dX8_copy_35
      · replace h := x_itn hc h
        refine x_aload_n C 1 dX8_copy_23 rfl rfl ?_
        refine x_iload_n C 2 dX8_copy_24 rfl rfl ?_
        refine x_aload_n C 0 dX8_copy_25 rfl rfl ?_
        refine x_iload_n C 2 dX8_copy_26 rfl rfl ?_
        obtain ⟨hi1, h⟩ := x_gd_some h
        refine x_iald C hk_r0 hi1 dX8_copy_27 ?_
        obtain ⟨hi2, h⟩ := x_gd_some h
        refine x_iast C hk_r1 hi2 dX8_copy_28 (x_gen h fun σ3 h => ?_)
        refine x_iinc C 2 (x2 + (1 : Int32)) [(2, .int (x2 + (1 : Int32))), (0, .ref (x_ad G r0)), (1, .ref (x_ad G r1))] dX8_copy_29 rfl rfl (by decide) rfl ?_
        refine x_goto C 11 dX8_copy_32 rfl ?_
        exact x_sub [1, 2, 0] rfl (ih r0 r1 (x2 + (1 : Int32)) σ3 hk_r0 hk_r1 h)
set_option maxHeartbeats 4000000 in
set_option maxRecDepth 100000 in
theorem c_X8_copy (hG : x_OK TX G) {r0 : Nat} {r1 : Nat} {σ τ : x_Hp} (hk_r0 : x_kd TX r0 = 12) (hk_r1 : x_kd TX r1 = 12) (h : F_X8_copy r0 r1 σ = some ((), τ)) : x_M l TX G yX8_copy cX8_copy 3 none rm_X8_copy [.ref (x_ad G r0), .ref (x_ad G r1)] σ none τ := by
  refine x_M.of hG (lv := [(0, .ref (x_ad G r0)), (1, .ref (x_ad G r1))]) (by decide) (Nat.le_of_ble_eq_true rfl) rfl (fun p e s m below meth c C => ?_)
  rw [F_X8_copy] at h
  refine x_aload_n C 0 dX8_copy_0 rfl rfl ?_
  refine x_ifnull C dX8_copy_1 ?_
  refine x_aload_n C 1 dX8_copy_4 rfl rfl ?_
  refine x_ifnonnull C 9 dX8_copy_5 rfl ?_
  refine x_iconst C (0 : Int32) dX8_copy_9 (by decide) ?_
  refine x_istore_n C [(2, .int (0 : Int32)), (0, .ref (x_ad G r0)), (1, .ref (x_ad G r1))] dX8_copy_10 rfl (by decide) rfl ?_
  exact x_sub [1, 2, 0] rfl (w_X8_copy_11 C x_fuel r0 r1 (0 : Int32) σ hk_r0 hk_r1 h)
abbrev rm_X1_takeFrom : Room := { frames := 1, cells := 0, slots := 0, locals := 22 }
set_option maxHeartbeats 4000000 in
set_option maxRecDepth 100000 in
theorem c_X1_takeFrom (hG : x_OK TX G) {o : Nat} {r1 : Nat} {σ τ : x_Hp} (hk_o : x_kd TX o = 1) (hk_r1 : x_kd TX r1 = 1) (h : F_X1_takeFrom o r1 σ = some ((), τ)) : x_M l TX G yX1_takeFrom cX1_takeFrom 2 none rm_X1_takeFrom [.ref (x_ad G o), .ref (x_ad G r1)] σ none τ := by
  refine x_M.of hG (lv := [(0, .ref (x_ad G o)), (1, .ref (x_ad G r1))]) (by decide) (Nat.le_of_ble_eq_true rfl) rfl (fun p e s m below meth c C => ?_)
  rw [F_X1_takeFrom] at h
  refine x_aload_n C 1 dX1_takeFrom_0 rfl rfl ?_
  refine x_getR C (k := 0) hk_r1 (by decide) rfl x_in1 (by decide) (by decide) rfl rfl wd_137 dX1_takeFrom_1 ?_
  refine x_aload_n C 0 dX1_takeFrom_4 rfl rfl ?_
  refine x_getR C (k := 0) hk_o (by decide) rfl x_in1 (by decide) (by decide) rfl rfl wd_137 dX1_takeFrom_5 ?_
  obtain ⟨v1, σ1, hc1, h⟩ := x_b_some h
  refine x_callSN C (n := 2) (c_X8_copy hG (t_TX_1_0 hk_r1) (t_TX_1_0 hk_o) hc1) nw_812 wd_806 wd_102 wd_807 (by decide +kernel) rfl ⟨Nat.le_of_ble_eq_true rfl, Nat.le_of_ble_eq_true rfl⟩ ⟨rfl, rfl⟩ rfl (Nat.le_of_ble_eq_true rfl) dX1_takeFrom_8 ?_
  refine x_aload_n C 0 dX1_takeFrom_11 rfl rfl ?_
  refine x_aload_n C 1 dX1_takeFrom_12 rfl rfl ?_
  refine x_getI C (k := 1) hk_r1 (by decide) rfl x_in1 (by decide) (by decide) rfl rfl wd_138 dX1_takeFrom_13 ?_
  refine x_putI C (k := 1) tyX1 hk_o (by decide) rfl x_in1 tyX1_ok nmX1 (by decide) (by decide) rfl rfl wd_138 rfl (tyX1_ok 1 (by decide)) rfl rfl dX1_takeFrom_16 (x_gen h fun σ2 h => ?_)
  refine x_aload_n C 1 dX1_takeFrom_19 rfl rfl ?_
  refine x_getR C (k := 2) hk_r1 (by decide) rfl x_in1 (by decide) (by decide) rfl rfl wd_139 dX1_takeFrom_20 ?_
  refine x_aload_n C 0 dX1_takeFrom_23 rfl rfl ?_
  refine x_getR C (k := 2) hk_o (by decide) rfl x_in1 (by decide) (by decide) rfl rfl wd_139 dX1_takeFrom_24 ?_
  obtain ⟨v3, σ3, hc3, h⟩ := x_b_some h
  refine x_callSN C (n := 2) (c_X8_copy hG (t_TX_1_2 hk_r1) (t_TX_1_2 hk_o) hc3) nw_812 wd_806 wd_102 wd_807 (by decide +kernel) rfl ⟨Nat.le_of_ble_eq_true rfl, Nat.le_of_ble_eq_true rfl⟩ ⟨rfl, rfl⟩ rfl (Nat.le_of_ble_eq_true rfl) dX1_takeFrom_27 ?_
  refine x_aload_n C 0 dX1_takeFrom_30 rfl rfl ?_
  refine x_aload_n C 1 dX1_takeFrom_31 rfl rfl ?_
  refine x_getI C (k := 3) hk_r1 (by decide) rfl x_in1 (by decide) (by decide) rfl rfl wd_140 dX1_takeFrom_32 ?_
  refine x_putI C (k := 3) tyX1 hk_o (by decide) rfl x_in1 tyX1_ok nmX1 (by decide) (by decide) rfl rfl wd_140 rfl (tyX1_ok 3 (by decide)) rfl rfl dX1_takeFrom_35 (x_gen h fun σ4 h => ?_)
  refine x_aload_n C 1 dX1_takeFrom_38 rfl rfl ?_
  refine x_getR C (k := 4) hk_r1 (by decide) rfl x_in1 (by decide) (by decide) rfl rfl wd_141 dX1_takeFrom_39 ?_
  refine x_aload_n C 0 dX1_takeFrom_42 rfl rfl ?_
  refine x_getR C (k := 4) hk_o (by decide) rfl x_in1 (by decide) (by decide) rfl rfl wd_141 dX1_takeFrom_43 ?_
  obtain ⟨v5, σ5, hc5, h⟩ := x_b_some h
  refine x_callSN C (n := 2) (c_X8_copy hG (t_TX_1_4 hk_r1) (t_TX_1_4 hk_o) hc5) nw_812 wd_806 wd_102 wd_807 (by decide +kernel) rfl ⟨Nat.le_of_ble_eq_true rfl, Nat.le_of_ble_eq_true rfl⟩ ⟨rfl, rfl⟩ rfl (Nat.le_of_ble_eq_true rfl) dX1_takeFrom_46 ?_
  refine x_aload_n C 1 dX1_takeFrom_49 rfl rfl ?_
  refine x_getR C (k := 5) hk_r1 (by decide) rfl x_in1 (by decide) (by decide) rfl rfl wd_142 dX1_takeFrom_50 ?_
  refine x_aload_n C 0 dX1_takeFrom_53 rfl rfl ?_
  refine x_getR C (k := 5) hk_o (by decide) rfl x_in1 (by decide) (by decide) rfl rfl wd_142 dX1_takeFrom_54 ?_
  obtain ⟨v6, σ6, hc6, h⟩ := x_b_some h
  refine x_callSN C (n := 2) (c_X8_copy hG (t_TX_1_5 hk_r1) (t_TX_1_5 hk_o) hc6) nw_812 wd_806 wd_102 wd_807 (by decide +kernel) rfl ⟨Nat.le_of_ble_eq_true rfl, Nat.le_of_ble_eq_true rfl⟩ ⟨rfl, rfl⟩ rfl (Nat.le_of_ble_eq_true rfl) dX1_takeFrom_57 ?_
  obtain ⟨-, rfl⟩ := x_ret h
  exact x_vret C dX1_takeFrom_60
abbrev rm_X2_begin : Room := { frames := 0, cells := 0, slots := 0, locals := 0 }
set_option maxHeartbeats 4000000 in
set_option maxRecDepth 100000 in
theorem c_X2_begin (hG : x_OK TX G) {o : Nat} {σ τ : x_Hp} (hk_o : x_kd TX o = 2) (h : F_X2_begin o σ = some ((), τ)) : x_M l TX G yX2_begin cX2_begin 1 none rm_X2_begin [.ref (x_ad G o)] σ none τ := by
  refine x_M.of hG (lv := [(0, .ref (x_ad G o))]) (by decide) (Nat.le_of_ble_eq_true rfl) rfl (fun p e s m below meth c C => ?_)
  rw [F_X2_begin] at h
  refine x_aload_n C 0 dX2_begin_0 rfl rfl ?_
  refine x_iconst C (0 : Int32) dX2_begin_1 (by decide) ?_
  refine x_putI C (k := 2) tyX2 hk_o (by decide) rfl x_in2 tyX2_ok nmX2 (by decide) (by decide) rfl rfl wd_452 rfl (tyX2_ok 2 (by decide)) rfl rfl dX2_begin_2 (x_gen h fun σ1 h => ?_)
  refine x_aload_n C 0 dX2_begin_5 rfl rfl ?_
  refine x_iconst C (0 : Int32) dX2_begin_6 (by decide) ?_
  refine x_putI C (k := 0) tyX2 hk_o (by decide) rfl x_in2 tyX2_ok nmX2 (by decide) (by decide) rfl rfl wd_447 rfl (tyX2_ok 0 (by decide)) rfl rfl dX2_begin_7 (x_gen h fun σ2 h => ?_)
  refine x_aload_n C 0 dX2_begin_10 rfl rfl ?_
  refine x_iconst C (0 : Int32) dX2_begin_11 (by decide) ?_
  refine x_putI C (k := 1) tyX2 hk_o (by decide) rfl x_in2 tyX2_ok nmX2 (by decide) (by decide) rfl rfl wd_449 rfl (tyX2_ok 1 (by decide)) rfl rfl dX2_begin_12 (x_gen h fun σ3 h => ?_)
  obtain ⟨-, rfl⟩ := x_ret h
  exact x_vret C dX2_begin_15
abbrev rm_X2_offer : Room := { frames := 0, cells := 0, slots := 0, locals := 0 }
set_option maxHeartbeats 4000000 in
set_option maxRecDepth 100000 in
theorem w_X2_offer_15 {τ : x_Hp} (C : x_C p s m args meth c cX2_offer 3 none yX2_offer.cls TX G) (o : Nat) (x1 : Int32) (x2 : Int32) (σ : x_Hp) (hk_o : x_kd TX o = 2) (h : F_X2_offer_15 o x1 x2 σ = some ((), τ)) : x_W p l e rm_X2_offer s m args below meth c (MQ below (x_Q TX G none τ) args s 0 0 (x_A TX G)) TX G 3 15 [(0, .ref (x_ad G o)), (1, .int x1), (2, .int x2)] [] σ := by
  have hG : x_OK TX G := C.2.2.2.2.2.2.2.2.1
  rw [F_X2_offer_15] at h
  refine x_aload_n C 0 dX2_offer_15 rfl rfl ?_
  refine x_iconst C (1 : Int32) dX2_offer_16 (by decide) ?_
  refine x_putI C (k := 2) tyX2 hk_o (by decide) rfl x_in2 tyX2_ok nmX2 (by decide) (by decide) rfl rfl wd_452 rfl (tyX2_ok 2 (by decide)) rfl rfl dX2_offer_17 (x_gen h fun σ1 h => ?_)
  refine x_aload_n C 0 dX2_offer_20 rfl rfl ?_
  refine x_iload_n C 1 dX2_offer_21 rfl rfl ?_
  refine x_putI C (k := 0) tyX2 hk_o (by decide) rfl x_in2 tyX2_ok nmX2 (by decide) (by decide) rfl rfl wd_447 rfl (tyX2_ok 0 (by decide)) rfl rfl dX2_offer_22 (x_gen h fun σ2 h => ?_)
  refine x_aload_n C 0 dX2_offer_25 rfl rfl ?_
  refine x_iload_n C 2 dX2_offer_26 rfl rfl ?_
  refine x_putI C (k := 1) tyX2 hk_o (by decide) rfl x_in2 tyX2_ok nmX2 (by decide) (by decide) rfl rfl wd_449 rfl (tyX2_ok 1 (by decide)) rfl rfl dX2_offer_27 (x_gen h fun σ3 h => ?_)
  obtain ⟨-, rfl⟩ := x_ret h
  exact x_vret C dX2_offer_30
set_option maxHeartbeats 4000000 in
set_option maxRecDepth 100000 in
theorem c_X2_offer (hG : x_OK TX G) {o : Nat} {x1 : Int32} {x2 : Int32} {σ τ : x_Hp} (hk_o : x_kd TX o = 2) (h : F_X2_offer o x1 x2 σ = some ((), τ)) : x_M l TX G yX2_offer cX2_offer 3 none rm_X2_offer [.ref (x_ad G o), .int x1, .int x2] σ none τ := by
  refine x_M.of hG (lv := [(0, .ref (x_ad G o)), (1, .int x1), (2, .int x2)]) (by decide) (Nat.le_of_ble_eq_true rfl) rfl (fun p e s m below meth c C => ?_)
  rw [F_X2_offer] at h
  refine x_aload_n C 0 dX2_offer_0 rfl rfl ?_
  refine x_getI C (k := 2) hk_o (by decide) rfl x_in2 (by decide) (by decide) rfl rfl wd_452 dX2_offer_1 ?_
  refine x_if_eq C 15 dX2_offer_4 rfl (fun hc => ?_) (fun hc => ?_)
  · replace h := x_itp hc h
    exact x_sub [0, 1, 2] rfl (w_X2_offer_15 C o x1 x2 σ hk_o h)
  · replace h := x_itn hc h
    refine x_iload_n C 2 dX2_offer_7 rfl rfl ?_
    refine x_aload_n C 0 dX2_offer_8 rfl rfl ?_
    refine x_getI C (k := 1) hk_o (by decide) rfl x_in2 (by decide) (by decide) rfl rfl wd_449 dX2_offer_9 ?_
    refine x_icmp_ge C 30 dX2_offer_12 rfl (fun hc => ?_) (fun hc => ?_)
    · replace h := x_itp hc h
      obtain ⟨-, rfl⟩ := x_ret h
      exact x_vret C dX2_offer_30
    · replace h := x_itn hc h
      exact x_sub [0, 1, 2] rfl (w_X2_offer_15 C o x1 x2 σ hk_o h)
abbrev rm_X2_pick : Room := { frames := 0, cells := 0, slots := 0, locals := 0 }
set_option maxHeartbeats 4000000 in
set_option maxRecDepth 100000 in
theorem c_X2_pick (hG : x_OK TX G) {o : Nat} {x1 : Int32} {σ τ : x_Hp} {r : Int32} (hk_o : x_kd TX o = 2) (h : F_X2_pick o x1 σ = some (r, τ)) : x_M l TX G yX2_pick cX2_pick 2 (some .int) rm_X2_pick [.ref (x_ad G o), .int x1] σ (some (.int r)) τ := by
  refine x_M.of hG (lv := [(0, .ref (x_ad G o)), (1, .int x1)]) (by decide) (Nat.le_of_ble_eq_true rfl) rfl (fun p e s m below meth c C => ?_)
  rw [F_X2_pick] at h
  refine x_iload_n C 1 dX2_pick_0 rfl rfl ?_
  refine x_if_ne C 11 dX2_pick_1 rfl (fun hc => ?_) (fun hc => ?_)
  · replace h := x_itn hc h
    refine x_aload_n C 0 dX2_pick_11 rfl rfl ?_
    refine x_getI C (k := 1) hk_o (by decide) rfl x_in2 (by decide) (by decide) rfl rfl wd_449 dX2_pick_12 ?_
    obtain ⟨rfl, rfl⟩ := x_ret h
    exact x_iret C dX2_pick_15
  · replace h := x_itp hc h
    refine x_aload_n C 0 dX2_pick_4 rfl rfl ?_
    refine x_getI C (k := 0) hk_o (by decide) rfl x_in2 (by decide) (by decide) rfl rfl wd_447 dX2_pick_5 ?_
    refine x_goto C 15 dX2_pick_8 rfl ?_
    obtain ⟨rfl, rfl⟩ := x_ret h
    exact x_iret C dX2_pick_15
abbrev rm_X3_row : Room := { frames := 0, cells := 0, slots := 0, locals := 0 }
set_option maxHeartbeats 4000000 in
set_option maxRecDepth 100000 in
theorem c_X3_row (hG : x_OK TX G) {x1 : Int32} {σ τ : x_Hp} {r : Nat} (h : F_X3_row x1 σ = some (r, τ)) : x_M l TX G yX3_row cX3_row 3 (some (.object "BabyRound$State")) rm_X3_row [.ref (x_ad G 143), .int x1] σ (some (.ref (x_ad G r))) τ := by
  refine x_M.of hG (lv := [(0, .ref (x_ad G 143)), (1, .int x1)]) (by decide) (Nat.le_of_ble_eq_true rfl) rfl (fun p e s m below meth c C => ?_)
  rw [F_X3_row] at h
  refine x_iload_n C 1 dX3_row_0 rfl rfl ?_
  refine x_if_lt C 22 dX3_row_1 rfl (fun hc => ?_) (fun hc => ?_)
  · replace h := x_itp hc h
    refine x_anull C dX3_row_22 ?_
    refine x_astoreN_n C [(2, .null), (0, .ref (x_ad G 143)), (1, .int x1)] dX3_row_23 rfl (by decide) rfl ?_
    refine x_aloadN_n C 0 dX3_row_24 rfl rfl ?_
    refine x_ifnonnullN C dX3_row_25 ?_
    refine x_aload_n C 1 dX3_row_28 rfl rfl ?_
    refine x_getRq C (k := 3) kX_143 (by decide) rfl x_in3 (by decide) (by decide) rfl rfl wd_464 rfX_143_3 dX3_row_29 ?_
    refine x_goto C 36 dX3_row_32 rfl ?_
    obtain ⟨rfl, rfl⟩ := x_ret h
    exact x_aret C dX3_row_36
  · replace h := x_itn hc h
    refine x_iload_n C 1 dX3_row_4 rfl rfl ?_
    refine x_aload_n C 0 dX3_row_5 rfl rfl ?_
    refine x_getRq C (k := 1) kX_143 (by decide) rfl x_in3 (by decide) (by decide) rfl rfl wd_462 rfX_143_1 dX3_row_6 ?_
    refine x_alen C (7 : Int32) kX_144 (by decide) (by rw [lnX_144]; rfl) dX3_row_9 ?_
    refine x_icmp_ge C 22 dX3_row_10 rfl (fun hc => ?_) (fun hc => ?_)
    · replace h := x_itp hc h
      refine x_anull C dX3_row_22 ?_
      refine x_astoreN_n C [(2, .null), (0, .ref (x_ad G 143)), (1, .int x1)] dX3_row_23 rfl (by decide) rfl ?_
      refine x_aloadN_n C 0 dX3_row_24 rfl rfl ?_
      refine x_ifnonnullN C dX3_row_25 ?_
      refine x_aload_n C 1 dX3_row_28 rfl rfl ?_
      refine x_getRq C (k := 3) kX_143 (by decide) rfl x_in3 (by decide) (by decide) rfl rfl wd_464 rfX_143_3 dX3_row_29 ?_
      refine x_goto C 36 dX3_row_32 rfl ?_
      obtain ⟨rfl, rfl⟩ := x_ret h
      exact x_aret C dX3_row_36
    · replace h := x_itn hc h
      refine x_aload_n C 0 dX3_row_13 rfl rfl ?_
      refine x_getRq C (k := 1) kX_143 (by decide) rfl x_in3 (by decide) (by decide) rfl rfl wd_462 rfX_143_1 dX3_row_14 ?_
      refine x_iload_n C 1 dX3_row_17 rfl rfl ?_
      obtain ⟨hi1, h⟩ := x_gd_some h
      refine x_aldq C kX_144 (x_inl lnX_144 hi1) dX3_row_18 ?_
      refine x_goto C 23 dX3_row_19 rfl ?_
      refine x_astore_n C [(2, .ref (x_ad G (x_rf TX 144 (x_ix x1)))), (0, .ref (x_ad G 143)), (1, .int x1)] dX3_row_23 rfl (by decide) rfl ?_
      refine x_aload_n C 0 dX3_row_24 rfl rfl ?_
      refine x_ifnonnull C 35 dX3_row_25 rfl ?_
      refine x_aload_n C 0 dX3_row_35 rfl rfl ?_
      obtain ⟨rfl, rfl⟩ := x_ret h
      exact x_aret C dX3_row_36
abbrev rm_X5_takeFrom : Room := { frames := 1, cells := 0, slots := 0, locals := 22 }
set_option maxHeartbeats 4000000 in
set_option maxRecDepth 100000 in
theorem c_X5_takeFrom (hG : x_OK TX G) {o : Nat} {r1 : Nat} {σ τ : x_Hp} (hk_o : x_kd TX o = 5) (hk_r1 : x_kd TX r1 = 5) (h : F_X5_takeFrom o r1 σ = some ((), τ)) : x_M l TX G yX5_takeFrom cX5_takeFrom 2 none rm_X5_takeFrom [.ref (x_ad G o), .ref (x_ad G r1)] σ none τ := by
  refine x_M.of hG (lv := [(0, .ref (x_ad G o)), (1, .ref (x_ad G r1))]) (by decide) (Nat.le_of_ble_eq_true rfl) rfl (fun p e s m below meth c C => ?_)
  rw [F_X5_takeFrom] at h
  refine x_aload_n C 1 dX5_takeFrom_0 rfl rfl ?_
  refine x_ifnonnull C 5 dX5_takeFrom_1 rfl ?_
  refine x_aload_n C 0 dX5_takeFrom_5 rfl rfl ?_
  refine x_aload_n C 1 dX5_takeFrom_6 rfl rfl ?_
  refine x_getI C (k := 0) hk_r1 (by decide) rfl x_in5 (by decide) (by decide) rfl rfl wd_305 dX5_takeFrom_7 ?_
  refine x_putI C (k := 0) tyX5 hk_o (by decide) rfl x_in5 tyX5_ok nmX5 (by decide) (by decide) rfl rfl wd_305 rfl (tyX5_ok 0 (by decide)) rfl rfl dX5_takeFrom_10 (x_gen h fun σ1 h => ?_)
  refine x_aload_n C 0 dX5_takeFrom_13 rfl rfl ?_
  refine x_aload_n C 1 dX5_takeFrom_14 rfl rfl ?_
  refine x_getI C (k := 1) hk_r1 (by decide) rfl x_in5 (by decide) (by decide) rfl rfl wd_308 dX5_takeFrom_15 ?_
  refine x_putI C (k := 1) tyX5 hk_o (by decide) rfl x_in5 tyX5_ok nmX5 (by decide) (by decide) rfl rfl wd_308 rfl (tyX5_ok 1 (by decide)) rfl rfl dX5_takeFrom_18 (x_gen h fun σ2 h => ?_)
  refine x_aload_n C 0 dX5_takeFrom_21 rfl rfl ?_
  refine x_aload_n C 1 dX5_takeFrom_22 rfl rfl ?_
  refine x_getI C (k := 2) hk_r1 (by decide) rfl x_in5 (by decide) (by decide) rfl rfl wd_311 dX5_takeFrom_23 ?_
  refine x_putI C (k := 2) tyX5 hk_o (by decide) rfl x_in5 tyX5_ok nmX5 (by decide) (by decide) rfl rfl wd_311 rfl (tyX5_ok 2 (by decide)) rfl rfl dX5_takeFrom_26 (x_gen h fun σ3 h => ?_)
  refine x_aload_n C 0 dX5_takeFrom_29 rfl rfl ?_
  refine x_aload_n C 1 dX5_takeFrom_30 rfl rfl ?_
  refine x_getI C (k := 3) hk_r1 (by decide) rfl x_in5 (by decide) (by decide) rfl rfl wd_314 dX5_takeFrom_31 ?_
  refine x_putI C (k := 3) tyX5 hk_o (by decide) rfl x_in5 tyX5_ok nmX5 (by decide) (by decide) rfl rfl wd_314 rfl (tyX5_ok 3 (by decide)) rfl rfl dX5_takeFrom_34 (x_gen h fun σ4 h => ?_)
  refine x_aload_n C 0 dX5_takeFrom_37 rfl rfl ?_
  refine x_aload_n C 1 dX5_takeFrom_38 rfl rfl ?_
  refine x_getI C (k := 4) hk_r1 (by decide) rfl x_in5 (by decide) (by decide) rfl rfl wd_317 dX5_takeFrom_39 ?_
  refine x_putI C (k := 4) tyX5 hk_o (by decide) rfl x_in5 tyX5_ok nmX5 (by decide) (by decide) rfl rfl wd_317 rfl (tyX5_ok 4 (by decide)) rfl rfl dX5_takeFrom_42 (x_gen h fun σ5 h => ?_)
  refine x_aload_n C 0 dX5_takeFrom_45 rfl rfl ?_
  refine x_aload_n C 1 dX5_takeFrom_46 rfl rfl ?_
  refine x_getI C (k := 5) hk_r1 (by decide) rfl x_in5 (by decide) (by decide) rfl rfl wd_320 dX5_takeFrom_47 ?_
  refine x_putI C (k := 5) tyX5 hk_o (by decide) rfl x_in5 tyX5_ok nmX5 (by decide) (by decide) rfl rfl wd_320 rfl (tyX5_ok 5 (by decide)) rfl rfl dX5_takeFrom_50 (x_gen h fun σ6 h => ?_)
  refine x_aload_n C 0 dX5_takeFrom_53 rfl rfl ?_
  refine x_aload_n C 1 dX5_takeFrom_54 rfl rfl ?_
  refine x_getI C (k := 6) hk_r1 (by decide) rfl x_in5 (by decide) (by decide) rfl rfl wd_323 dX5_takeFrom_55 ?_
  refine x_putI C (k := 6) tyX5 hk_o (by decide) rfl x_in5 tyX5_ok nmX5 (by decide) (by decide) rfl rfl wd_323 rfl (tyX5_ok 6 (by decide)) rfl rfl dX5_takeFrom_58 (x_gen h fun σ7 h => ?_)
  refine x_aload_n C 0 dX5_takeFrom_61 rfl rfl ?_
  refine x_aload_n C 1 dX5_takeFrom_62 rfl rfl ?_
  refine x_getI C (k := 7) hk_r1 (by decide) rfl x_in5 (by decide) (by decide) rfl rfl wd_325 dX5_takeFrom_63 ?_
  refine x_putI C (k := 7) tyX5 hk_o (by decide) rfl x_in5 tyX5_ok nmX5 (by decide) (by decide) rfl rfl wd_325 rfl (tyX5_ok 7 (by decide)) rfl rfl dX5_takeFrom_66 (x_gen h fun σ8 h => ?_)
  refine x_aload_n C 0 dX5_takeFrom_69 rfl rfl ?_
  refine x_aload_n C 1 dX5_takeFrom_70 rfl rfl ?_
  refine x_getI C (k := 8) hk_r1 (by decide) rfl x_in5 (by decide) (by decide) rfl rfl wd_328 dX5_takeFrom_71 ?_
  refine x_putI C (k := 8) tyX5 hk_o (by decide) rfl x_in5 tyX5_ok nmX5 (by decide) (by decide) rfl rfl wd_328 rfl (tyX5_ok 8 (by decide)) rfl rfl dX5_takeFrom_74 (x_gen h fun σ9 h => ?_)
  refine x_aload_n C 0 dX5_takeFrom_77 rfl rfl ?_
  refine x_aload_n C 1 dX5_takeFrom_78 rfl rfl ?_
  refine x_getI C (k := 9) hk_r1 (by decide) rfl x_in5 (by decide) (by decide) rfl rfl wd_330 dX5_takeFrom_79 ?_
  refine x_putI C (k := 9) tyX5 hk_o (by decide) rfl x_in5 tyX5_ok nmX5 (by decide) (by decide) rfl rfl wd_330 rfl (tyX5_ok 9 (by decide)) rfl rfl dX5_takeFrom_82 (x_gen h fun σ10 h => ?_)
  refine x_aload_n C 0 dX5_takeFrom_85 rfl rfl ?_
  refine x_aload_n C 1 dX5_takeFrom_86 rfl rfl ?_
  refine x_getI C (k := 10) hk_r1 (by decide) rfl x_in5 (by decide) (by decide) rfl rfl wd_333 dX5_takeFrom_87 ?_
  refine x_putI C (k := 10) tyX5 hk_o (by decide) rfl x_in5 tyX5_ok nmX5 (by decide) (by decide) rfl rfl wd_333 rfl (tyX5_ok 10 (by decide)) rfl rfl dX5_takeFrom_90 (x_gen h fun σ11 h => ?_)
  refine x_aload_n C 0 dX5_takeFrom_93 rfl rfl ?_
  refine x_aload_n C 1 dX5_takeFrom_94 rfl rfl ?_
  refine x_getI C (k := 11) hk_r1 (by decide) rfl x_in5 (by decide) (by decide) rfl rfl wd_336 dX5_takeFrom_95 ?_
  refine x_putI C (k := 11) tyX5 hk_o (by decide) rfl x_in5 tyX5_ok nmX5 (by decide) (by decide) rfl rfl wd_336 rfl (tyX5_ok 11 (by decide)) rfl rfl dX5_takeFrom_98 (x_gen h fun σ12 h => ?_)
  refine x_aload_n C 0 dX5_takeFrom_101 rfl rfl ?_
  refine x_aload_n C 1 dX5_takeFrom_102 rfl rfl ?_
  refine x_getI C (k := 12) hk_r1 (by decide) rfl x_in5 (by decide) (by decide) rfl rfl wd_340 dX5_takeFrom_103 ?_
  refine x_putI C (k := 12) tyX5 hk_o (by decide) rfl x_in5 tyX5_ok nmX5 (by decide) (by decide) rfl rfl wd_340 rfl (tyX5_ok 12 (by decide)) rfl rfl dX5_takeFrom_106 (x_gen h fun σ13 h => ?_)
  refine x_aload_n C 0 dX5_takeFrom_109 rfl rfl ?_
  refine x_aload_n C 1 dX5_takeFrom_110 rfl rfl ?_
  refine x_getI C (k := 13) hk_r1 (by decide) rfl x_in5 (by decide) (by decide) rfl rfl wd_343 dX5_takeFrom_111 ?_
  refine x_putI C (k := 13) tyX5 hk_o (by decide) rfl x_in5 tyX5_ok nmX5 (by decide) (by decide) rfl rfl wd_343 rfl (tyX5_ok 13 (by decide)) rfl rfl dX5_takeFrom_114 (x_gen h fun σ14 h => ?_)
  refine x_aload_n C 0 dX5_takeFrom_117 rfl rfl ?_
  refine x_aload_n C 1 dX5_takeFrom_118 rfl rfl ?_
  refine x_getI C (k := 14) hk_r1 (by decide) rfl x_in5 (by decide) (by decide) rfl rfl wd_346 dX5_takeFrom_119 ?_
  refine x_putI C (k := 14) tyX5 hk_o (by decide) rfl x_in5 tyX5_ok nmX5 (by decide) (by decide) rfl rfl wd_346 rfl (tyX5_ok 14 (by decide)) rfl rfl dX5_takeFrom_122 (x_gen h fun σ15 h => ?_)
  refine x_aload_n C 0 dX5_takeFrom_125 rfl rfl ?_
  refine x_aload_n C 1 dX5_takeFrom_126 rfl rfl ?_
  refine x_getI C (k := 15) hk_r1 (by decide) rfl x_in5 (by decide) (by decide) rfl rfl wd_349 dX5_takeFrom_127 ?_
  refine x_putI C (k := 15) tyX5 hk_o (by decide) rfl x_in5 tyX5_ok nmX5 (by decide) (by decide) rfl rfl wd_349 rfl (tyX5_ok 15 (by decide)) rfl rfl dX5_takeFrom_130 (x_gen h fun σ16 h => ?_)
  refine x_aload_n C 0 dX5_takeFrom_133 rfl rfl ?_
  refine x_aload_n C 1 dX5_takeFrom_134 rfl rfl ?_
  refine x_getI C (k := 16) hk_r1 (by decide) rfl x_in5 (by decide) (by decide) rfl rfl wd_352 dX5_takeFrom_135 ?_
  refine x_putI C (k := 16) tyX5 hk_o (by decide) rfl x_in5 tyX5_ok nmX5 (by decide) (by decide) rfl rfl wd_352 rfl (tyX5_ok 16 (by decide)) rfl rfl dX5_takeFrom_138 (x_gen h fun σ17 h => ?_)
  refine x_aload_n C 0 dX5_takeFrom_141 rfl rfl ?_
  refine x_aload_n C 1 dX5_takeFrom_142 rfl rfl ?_
  refine x_getI C (k := 17) hk_r1 (by decide) rfl x_in5 (by decide) (by decide) rfl rfl wd_355 dX5_takeFrom_143 ?_
  refine x_putI C (k := 17) tyX5 hk_o (by decide) rfl x_in5 tyX5_ok nmX5 (by decide) (by decide) rfl rfl wd_355 rfl (tyX5_ok 17 (by decide)) rfl rfl dX5_takeFrom_146 (x_gen h fun σ18 h => ?_)
  refine x_aload_n C 0 dX5_takeFrom_149 rfl rfl ?_
  refine x_aload_n C 1 dX5_takeFrom_150 rfl rfl ?_
  refine x_getI C (k := 18) hk_r1 (by decide) rfl x_in5 (by decide) (by decide) rfl rfl wd_359 dX5_takeFrom_151 ?_
  refine x_putI C (k := 18) tyX5 hk_o (by decide) rfl x_in5 tyX5_ok nmX5 (by decide) (by decide) rfl rfl wd_359 rfl (tyX5_ok 18 (by decide)) rfl rfl dX5_takeFrom_154 (x_gen h fun σ19 h => ?_)
  refine x_aload_n C 0 dX5_takeFrom_157 rfl rfl ?_
  refine x_aload_n C 1 dX5_takeFrom_158 rfl rfl ?_
  refine x_getI C (k := 19) hk_r1 (by decide) rfl x_in5 (by decide) (by decide) rfl rfl wd_362 dX5_takeFrom_159 ?_
  refine x_putI C (k := 19) tyX5 hk_o (by decide) rfl x_in5 tyX5_ok nmX5 (by decide) (by decide) rfl rfl wd_362 rfl (tyX5_ok 19 (by decide)) rfl rfl dX5_takeFrom_162 (x_gen h fun σ20 h => ?_)
  refine x_aload_n C 1 dX5_takeFrom_165 rfl rfl ?_
  refine x_getR C (k := 20) hk_r1 (by decide) rfl x_in5 (by decide) (by decide) rfl rfl wd_364 dX5_takeFrom_166 ?_
  refine x_aload_n C 0 dX5_takeFrom_169 rfl rfl ?_
  refine x_getR C (k := 20) hk_o (by decide) rfl x_in5 (by decide) (by decide) rfl rfl wd_364 dX5_takeFrom_170 ?_
  obtain ⟨v21, σ21, hc21, h⟩ := x_b_some h
  refine x_callSN C (n := 2) (c_X8_copy hG (t_TX_5_20 hk_r1) (t_TX_5_20 hk_o) hc21) nw_889 wd_806 wd_102 wd_807 (by decide +kernel) rfl ⟨Nat.le_of_ble_eq_true rfl, Nat.le_of_ble_eq_true rfl⟩ ⟨rfl, rfl⟩ rfl (Nat.le_of_ble_eq_true rfl) dX5_takeFrom_173 ?_
  obtain ⟨-, rfl⟩ := x_ret h
  exact x_vret C dX5_takeFrom_176
abbrev rm_X3_begin : Room := { frames := 2, cells := 0, slots := 0, locals := 43 }
set_option maxHeartbeats 4000000 in
set_option maxRecDepth 100000 in
theorem w_X3_begin_21 {τ : x_Hp} (C : x_C p s m args meth c cX3_begin 3 none yX3_begin.cls TX G) : ∀ (n : Nat) (x2 : Int32) (σ : x_Hp) (h : F_X3_begin_21 n x2 σ = some ((), τ)), x_W p l e rm_X3_begin s m args below meth c (MQ below (x_Q TX G none τ) args s 0 0 (x_A TX G)) TX G 3 21 [(0, .ref (x_ad G 143)), (2, .int x2)] [] σ := by
  intro n
  induction n with
  | zero => intro x2 σ  h; cases h
  | succ n ih =>
    intro x2 σ  h
    have hG : x_OK TX G := C.2.2.2.2.2.2.2.2.1
    rw [F_X3_begin_21] at h
    refine x_iload_n C 1 dX3_begin_21 rfl rfl ?_
    refine x_bipush C (6 : Int32) dX3_begin_22 (by decide) ?_
    refine x_icmp_ge C 51 dX3_begin_24 rfl (fun hc => ?_) (fun hc => ?_)
    · replace h := x_itp hc h
      refine x_aload_n C 0 dX3_begin_51 rfl rfl ?_
      refine x_getRq C (k := 7) kX_143 (by decide) rfl x_in3 (by decide) (by decide) rfl rfl wd_470 rfX_143_7 dX3_begin_52 ?_
      obtain ⟨v4, σ4, hc4, h⟩ := x_b_some h
      refine x_callV C (n := 0) (c_X2_begin hG kX_151 hc4) kX_151 (by decide) rfl wd_1015 wd_986 wd_987 wd_110 wd_988 (by decide +kernel) rfl ⟨Nat.le_of_ble_eq_true rfl, Nat.le_of_ble_eq_true rfl⟩ ⟨rfl, rfl⟩ rfl (Nat.le_of_ble_eq_true rfl) dX3_begin_55 ?_
      refine x_aload_n C 0 dX3_begin_58 rfl rfl ?_
      refine x_getRq C (k := 8) kX_143 (by decide) rfl x_in3 (by decide) (by decide) rfl rfl wd_472 rfX_143_8 dX3_begin_59 ?_
      obtain ⟨v5, σ5, hc5, h⟩ := x_b_some h
      refine x_callV C (n := 0) (c_X2_begin hG kX_152 hc5) kX_152 (by decide) rfl wd_1015 wd_986 wd_987 wd_110 wd_988 (by decide +kernel) rfl ⟨Nat.le_of_ble_eq_true rfl, Nat.le_of_ble_eq_true rfl⟩ ⟨rfl, rfl⟩ rfl (Nat.le_of_ble_eq_true rfl) dX3_begin_62 ?_
      refine x_aload_n C 0 dX3_begin_65 rfl rfl ?_
      refine x_iconst C (0 : Int32) dX3_begin_66 (by decide) ?_
      refine x_putI C (k := 9) tyX3 kX_143 (by decide) rfl x_in3 tyX3_ok nmX3 (by decide) (by decide) rfl rfl wd_474 rfl (tyX3_ok 9 (by decide)) rfl rfl dX3_begin_67 (x_gen h fun σ6 h => ?_)
      obtain ⟨-, rfl⟩ := x_ret h
      exact x_vret C dX3_begin_70
    · replace h := x_itn hc h
      refine x_aload_n C 0 dX3_begin_27 rfl rfl ?_
      refine x_getRq C (k := 4) kX_143 (by decide) rfl x_in3 (by decide) (by decide) rfl rfl wd_465 rfX_143_4 dX3_begin_28 ?_
      refine x_iload_n C 1 dX3_begin_31 rfl rfl ?_
      refine x_iload_n C 1 dX3_begin_32 rfl rfl ?_
      obtain ⟨v7, σ7, hc7, h⟩ := x_b_some h
      refine x_callSN C (n := 3) (c_X8_put hG kX_148 hc7) nw_1014 wd_522 wd_102 wd_523 (by decide +kernel) rfl ⟨Nat.le_of_ble_eq_true rfl, Nat.le_of_ble_eq_true rfl⟩ ⟨rfl, rfl⟩ rfl (Nat.le_of_ble_eq_true rfl) dX3_begin_33 ?_
      refine x_aload_n C 0 dX3_begin_36 rfl rfl ?_
      refine x_getRq C (k := 6) kX_143 (by decide) rfl x_in3 (by decide) (by decide) rfl rfl wd_468 rfX_143_6 dX3_begin_37 ?_
      refine x_iload_n C 1 dX3_begin_40 rfl rfl ?_
      refine x_iconst C (0 : Int32) dX3_begin_41 (by decide) ?_
      obtain ⟨v8, σ8, hc8, h⟩ := x_b_some h
      refine x_callSN C (n := 3) (c_X8_put hG kX_150 hc8) nw_1014 wd_522 wd_102 wd_523 (by decide +kernel) rfl ⟨Nat.le_of_ble_eq_true rfl, Nat.le_of_ble_eq_true rfl⟩ ⟨rfl, rfl⟩ rfl (Nat.le_of_ble_eq_true rfl) dX3_begin_42 ?_
      refine x_iinc C 1 (x2 + (1 : Int32)) [(2, .int (x2 + (1 : Int32))), (0, .ref (x_ad G 143))] dX3_begin_45 rfl rfl (by decide) rfl ?_
      refine x_goto C 21 dX3_begin_48 rfl ?_
      exact x_sub [1, 0] rfl (ih (x2 + (1 : Int32)) σ8 h)
set_option maxHeartbeats 4000000 in
set_option maxRecDepth 100000 in
theorem c_X3_begin (hG : x_OK TX G) {r1 : Nat} {σ τ : x_Hp} (hk_r1 : x_kd TX r1 = 5) (h : F_X3_begin r1 σ = some ((), τ)) : x_M l TX G yX3_begin cX3_begin 3 none rm_X3_begin [.ref (x_ad G 143), .ref (x_ad G r1)] σ none τ := by
  refine x_M.of hG (lv := [(0, .ref (x_ad G 143)), (1, .ref (x_ad G r1))]) (by decide) (Nat.le_of_ble_eq_true rfl) rfl (fun p e s m below meth c C => ?_)
  rw [F_X3_begin] at h
  refine x_aload_n C 0 dX3_begin_0 rfl rfl ?_
  refine x_iconst C (0 : Int32) dX3_begin_1 (by decide) ?_
  obtain ⟨v1, σ1, hc1, h⟩ := x_b_some h
  refine x_callV C (n := 1) (c_X3_row hG hc1) kX_143 (by decide) rfl wd_1009 wd_1011 wd_35 wd_109 wd_1012 (by decide +kernel) rfl ⟨Nat.le_of_ble_eq_true rfl, Nat.le_of_ble_eq_true rfl⟩ ⟨rfl, rfl⟩ rfl (Nat.le_of_ble_eq_true rfl) dX3_begin_2 ?_
  refine x_aload_n C 1 dX3_begin_5 rfl rfl ?_
  obtain ⟨v2, σ2, hc2, h⟩ := x_b_some h
  refine x_callV C (n := 1) (c_X5_takeFrom hG (kd_X3_row hc1) hk_r1 hc2) (kd_X3_row hc1) (by decide) rfl wd_1013 wd_886 wd_887 wd_107 wd_888 (by decide +kernel) rfl ⟨Nat.le_of_ble_eq_true rfl, Nat.le_of_ble_eq_true rfl⟩ ⟨rfl, rfl⟩ rfl (Nat.le_of_ble_eq_true rfl) dX3_begin_6 ?_
  refine x_aload_n C 0 dX3_begin_9 rfl rfl ?_
  refine x_getRq C (k := 2) kX_143 (by decide) rfl x_in3 (by decide) (by decide) rfl rfl wd_463 rfX_143_2 dX3_begin_10 ?_
  refine x_iconst C (0 : Int32) dX3_begin_13 (by decide) ?_
  refine x_bipush C (-2 : Int32) dX3_begin_14 (by decide) ?_
  obtain ⟨v3, σ3, hc3, h⟩ := x_b_some h
  refine x_callSN C (n := 3) (c_X8_put hG kX_145 hc3) nw_1014 wd_522 wd_102 wd_523 (by decide +kernel) rfl ⟨Nat.le_of_ble_eq_true rfl, Nat.le_of_ble_eq_true rfl⟩ ⟨rfl, rfl⟩ rfl (Nat.le_of_ble_eq_true rfl) dX3_begin_16 ?_
  refine x_iconst C (0 : Int32) dX3_begin_19 (by decide) ?_
  refine x_istore_n C [(2, .int (0 : Int32)), (0, .ref (x_ad G 143)), (1, .ref (x_ad G r1))] dX3_begin_20 rfl (by decide) rfl ?_
  exact x_sub [1, 0] rfl (w_X3_begin_21 C x_fuel (0 : Int32) σ3 h)
abbrev rm_X3_change : Room := { frames := 1, cells := 0, slots := 0, locals := 22 }
set_option maxHeartbeats 4000000 in
set_option maxRecDepth 100000 in
theorem c_X3_change (hG : x_OK TX G) {x1 : Int32} {x2 : Int32} {σ τ : x_Hp} (h : F_X3_change x1 x2 σ = some ((), τ)) : x_M l TX G yX3_change cX3_change 4 none rm_X3_change [.ref (x_ad G 143), .int x1, .int x2] σ none τ := by
  refine x_M.of hG (lv := [(0, .ref (x_ad G 143)), (1, .int x1), (2, .int x2)]) (by decide) (Nat.le_of_ble_eq_true rfl) rfl (fun p e s m below meth c C => ?_)
  rw [F_X3_change] at h
  refine x_aload_n C 0 dX3_change_0 rfl rfl ?_
  refine x_getRq C (k := 4) kX_143 (by decide) rfl x_in3 (by decide) (by decide) rfl rfl wd_465 rfX_143_4 dX3_change_1 ?_
  refine x_iload_n C 1 dX3_change_4 rfl rfl ?_
  obtain ⟨v1, σ1, hc1, h⟩ := x_b_some h
  refine x_callSN C (n := 2) (c_X8_at hG kX_148 hc1) nw_1016 wd_541 wd_102 wd_542 (by decide +kernel) rfl ⟨Nat.le_of_ble_eq_true rfl, Nat.le_of_ble_eq_true rfl⟩ ⟨rfl, rfl⟩ rfl (Nat.le_of_ble_eq_true rfl) dX3_change_5 ?_
  refine x_istore_n C [(3, .int v1), (0, .ref (x_ad G 143)), (1, .int x1), (2, .int x2)] dX3_change_8 rfl (by decide) rfl ?_
  refine x_aload_n C 1 dX3_change_9 rfl rfl ?_
  refine x_getRq C (k := 4) kX_143 (by decide) rfl x_in3 (by decide) (by decide) rfl rfl wd_465 rfX_143_4 dX3_change_10 ?_
  refine x_iload_n C 2 dX3_change_13 rfl rfl ?_
  refine x_aload_n C 1 dX3_change_14 rfl rfl ?_
  refine x_getRq C (k := 4) kX_143 (by decide) rfl x_in3 (by decide) (by decide) rfl rfl wd_465 rfX_143_4 dX3_change_15 ?_
  refine x_iload_n C 3 dX3_change_18 rfl rfl ?_
  obtain ⟨v2, σ2, hc2, h⟩ := x_b_some h
  refine x_callSN C (n := 2) (c_X8_at hG kX_148 hc2) nw_1016 wd_541 wd_102 wd_542 (by decide +kernel) rfl ⟨Nat.le_of_ble_eq_true rfl, Nat.le_of_ble_eq_true rfl⟩ ⟨rfl, rfl⟩ rfl (Nat.le_of_ble_eq_true rfl) dX3_change_19 ?_
  obtain ⟨v3, σ3, hc3, h⟩ := x_b_some h
  refine x_callSN C (n := 3) (c_X8_put hG kX_148 hc3) nw_1014 wd_522 wd_102 wd_523 (by decide +kernel) rfl ⟨Nat.le_of_ble_eq_true rfl, Nat.le_of_ble_eq_true rfl⟩ ⟨rfl, rfl⟩ rfl (Nat.le_of_ble_eq_true rfl) dX3_change_22 ?_
  refine x_aload_n C 1 dX3_change_25 rfl rfl ?_
  refine x_getRq C (k := 4) kX_143 (by decide) rfl x_in3 (by decide) (by decide) rfl rfl wd_465 rfX_143_4 dX3_change_26 ?_
  refine x_iload_n C 3 dX3_change_29 rfl rfl ?_
  refine x_iload_n C 0 dX3_change_30 rfl rfl ?_
  obtain ⟨v4, σ4, hc4, h⟩ := x_b_some h
  refine x_callSN C (n := 3) (c_X8_put hG kX_148 hc4) nw_1014 wd_522 wd_102 wd_523 (by decide +kernel) rfl ⟨Nat.le_of_ble_eq_true rfl, Nat.le_of_ble_eq_true rfl⟩ ⟨rfl, rfl⟩ rfl (Nat.le_of_ble_eq_true rfl) dX3_change_31 ?_
  obtain ⟨-, rfl⟩ := x_ret h
  exact x_vret C dX3_change_34
abbrev rm_X3_follow : Room := { frames := 2, cells := 0, slots := 0, locals := 45 }
set_option maxHeartbeats 4000000 in
set_option maxRecDepth 100000 in
theorem w_X3_follow_102 {r : Int32} {τ : x_Hp} (C : x_C p s m args meth c cX3_follow 6 (some .int) yX3_follow.cls TX G) : ∀ (n : Nat) (x2 : Int32) (x4 : Int32) (x5 : Int32) (σ : x_Hp) (h : F_X3_follow_102 n x2 x4 x5 σ = some (r, τ)), x_W p l e rm_X3_follow s m args below meth c (MQ below (x_Q TX G (some (.int r)) τ) args s 0 0 (x_A TX G)) TX G 6 102 [(0, .ref (x_ad G 143)), (2, .int x2), (4, .int x4), (5, .int x5)] [] σ := by
  intro n
  induction n with
  | zero => intro x2 x4 x5 σ  h; cases h
  | succ n ih =>
    intro x2 x4 x5 σ  h
    have hG : x_OK TX G := C.2.2.2.2.2.2.2.2.1
    rw [F_X3_follow_102] at h
    refine x_iload C 2 dX3_follow_102 rfl ?_
    refine x_iload C 3 dX3_follow_104 rfl ?_
    refine x_icmp_ge C 126 dX3_follow_106 rfl (fun hc => ?_) (fun hc => ?_)
    · replace h := x_itp hc h
      refine x_iload_n C 1 dX3_follow_126 rfl rfl ?_
      obtain ⟨rfl, rfl⟩ := x_ret h
      exact x_iret C dX3_follow_127
    · replace h := x_itn hc h
      refine x_aload_n C 0 dX3_follow_109 rfl rfl ?_
      refine x_iload C 2 dX3_follow_110 rfl ?_
      refine x_iload C 3 dX3_follow_112 rfl ?_
      obtain ⟨v6, σ6, hc6, h⟩ := x_b_some h
      refine x_callV C (n := 2) (c_X3_change hG hc6) kX_143 (by decide) rfl wd_1039 wd_1041 wd_39 wd_109 wd_1042 (by decide +kernel) rfl ⟨Nat.le_of_ble_eq_true rfl, Nat.le_of_ble_eq_true rfl⟩ ⟨rfl, rfl⟩ rfl (Nat.le_of_ble_eq_true rfl) dX3_follow_114 ?_
      refine x_iinc C 2 (x4 + (1 : Int32)) [(4, .int (x4 + (1 : Int32))), (0, .ref (x_ad G 143)), (2, .int x2), (5, .int x5)] dX3_follow_117 rfl rfl (by decide) rfl ?_
      refine x_iinc C 3 (x5 + (-1 : Int32)) [(5, .int (x5 + (-1 : Int32))), (4, .int (x4 + (1 : Int32))), (0, .ref (x_ad G 143)), (2, .int x2)] dX3_follow_120 rfl rfl (by decide) rfl ?_
      refine x_goto C 102 dX3_follow_123 rfl ?_
      exact x_sub [2, 3, 1, 0] rfl (ih x2 (x4 + (1 : Int32)) (x5 + (-1 : Int32)) σ6 h)
set_option maxHeartbeats 4000000 in
set_option maxRecDepth 100000 in
theorem w_X3_follow_86 {r : Int32} {τ : x_Hp} (C : x_C p s m args meth c cX3_follow 6 (some .int) yX3_follow.cls TX G) (x1 : Int32) (x2 : Int32) (x3 : Int32) (σ : x_Hp) (h : F_X3_follow_86 x1 x2 x3 σ = some (r, τ)) : x_W p l e rm_X3_follow s m args below meth c (MQ below (x_Q TX G (some (.int r)) τ) args s 0 0 (x_A TX G)) TX G 6 86 [(0, .ref (x_ad G 143)), (1, .int x1), (2, .int x2), (3, .int x3)] [] σ := by
  have hG : x_OK TX G := C.2.2.2.2.2.2.2.2.1
  rw [F_X3_follow_86] at h
  refine x_aload_n C 0 dX3_follow_86 rfl rfl ?_
  refine x_iload_n C 2 dX3_follow_87 rfl rfl ?_
  refine x_iload_n C 3 dX3_follow_88 rfl rfl ?_
  obtain ⟨v5, σ5, hc5, h⟩ := x_b_some h
  refine x_callV C (n := 2) (c_X3_change hG hc5) kX_143 (by decide) rfl wd_1039 wd_1041 wd_39 wd_109 wd_1042 (by decide +kernel) rfl ⟨Nat.le_of_ble_eq_true rfl, Nat.le_of_ble_eq_true rfl⟩ ⟨rfl, rfl⟩ rfl (Nat.le_of_ble_eq_true rfl) dX3_follow_89 ?_
  refine x_iload_n C 2 dX3_follow_92 rfl rfl ?_
  refine x_iconst C (1 : Int32) dX3_follow_93 (by decide) ?_
  refine x_iadd C dX3_follow_94 ?_
  refine x_istore C [(4, .int (x2 + (1 : Int32))), (0, .ref (x_ad G 143)), (1, .int x1), (2, .int x2), (3, .int x3)] dX3_follow_95 (by decide) rfl ?_
  refine x_iload_n C 2 dX3_follow_97 rfl rfl ?_
  refine x_iconst C (1 : Int32) dX3_follow_98 (by decide) ?_
  refine x_isub C dX3_follow_99 ?_
  refine x_istore C [(5, .int (x1 - (1 : Int32))), (4, .int (x2 + (1 : Int32))), (0, .ref (x_ad G 143)), (1, .int x1), (2, .int x2), (3, .int x3)] dX3_follow_100 (by decide) rfl ?_
  exact x_sub [2, 4, 1, 0] rfl (w_X3_follow_102 C x_fuel x2 (x2 + (1 : Int32)) (x1 - (1 : Int32)) σ5 h)
set_option maxHeartbeats 4000000 in
set_option maxRecDepth 100000 in
theorem w_X3_follow_56 {r : Int32} {τ : x_Hp} (C : x_C p s m args meth c cX3_follow 6 (some .int) yX3_follow.cls TX G) : ∀ (n : Nat) (x1 : Int32) (x2 : Int32) (x3 : Int32) (σ : x_Hp) (h : F_X3_follow_56 n x1 x2 x3 σ = some (r, τ)), x_W p l e rm_X3_follow s m args below meth c (MQ below (x_Q TX G (some (.int r)) τ) args s 0 0 (x_A TX G)) TX G 6 56 [(0, .ref (x_ad G 143)), (1, .int x1), (2, .int x2), (3, .int x3)] [] σ := by
  intro n
  induction n with
  | zero => intro x1 x2 x3 σ  h; cases h
  | succ n ih =>
    intro x1 x2 x3 σ  h
    have hG : x_OK TX G := C.2.2.2.2.2.2.2.2.1
    rw [F_X3_follow_56] at h
    refine x_iload_n C 3 dX3_follow_56 rfl rfl ?_
    refine x_iload_n C 2 dX3_follow_57 rfl rfl ?_
    refine x_icmp_le C 86 dX3_follow_58 rfl (fun hc => ?_) (fun hc => ?_)
    · replace h := x_itp hc h
      exact x_sub [0, 1, 2, 3] rfl (w_X3_follow_86 C x1 x2 x3 σ h)
    · replace h := x_itn hc h
      refine x_aload_n C 0 dX3_follow_61 rfl rfl ?_
      refine x_getRq C (k := 4) kX_143 (by decide) rfl x_in3 (by decide) (by decide) rfl rfl wd_465 rfX_143_4 dX3_follow_62 ?_
      refine x_iload_n C 3 dX3_follow_65 rfl rfl ?_
      obtain ⟨v3, σ3, hc3, h⟩ := x_b_some h
      refine x_callSN C (n := 2) (c_X8_at hG kX_148 hc3) nw_1016 wd_541 wd_102 wd_542 (by decide +kernel) rfl ⟨Nat.le_of_ble_eq_true rfl, Nat.le_of_ble_eq_true rfl⟩ ⟨rfl, rfl⟩ rfl (Nat.le_of_ble_eq_true rfl) dX3_follow_66 ?_
      refine x_aload_n C 0 dX3_follow_69 rfl rfl ?_
      refine x_getRq C (k := 4) kX_143 (by decide) rfl x_in3 (by decide) (by decide) rfl rfl wd_465 rfX_143_4 dX3_follow_70 ?_
      refine x_iload_n C 2 dX3_follow_73 rfl rfl ?_
      obtain ⟨v4, σ4, hc4, h⟩ := x_b_some h
      refine x_callSN C (n := 2) (c_X8_at hG kX_148 hc4) nw_1016 wd_541 wd_102 wd_542 (by decide +kernel) rfl ⟨Nat.le_of_ble_eq_true rfl, Nat.le_of_ble_eq_true rfl⟩ ⟨rfl, rfl⟩ rfl (Nat.le_of_ble_eq_true rfl) dX3_follow_74 ?_
      refine x_icmp_ge C 86 dX3_follow_77 rfl (fun hc => ?_) (fun hc => ?_)
      · replace h := x_itp hc h
        exact x_sub [0, 1, 2, 3] rfl (w_X3_follow_86 C x1 x2 x3 σ4 h)
      · replace h := x_itn hc h
        refine x_iinc C 3 (x3 + (-1 : Int32)) [(3, .int (x3 + (-1 : Int32))), (0, .ref (x_ad G 143)), (1, .int x1), (2, .int x2)] dX3_follow_80 rfl rfl (by decide) rfl ?_
        refine x_goto C 56 dX3_follow_83 rfl ?_
        exact x_sub [1, 2, 3, 0] rfl (ih x1 x2 (x3 + (-1 : Int32)) σ4 h)
set_option maxHeartbeats 4000000 in
set_option maxRecDepth 100000 in
theorem w_X3_follow_46 {r : Int32} {τ : x_Hp} (C : x_C p s m args meth c cX3_follow 6 (some .int) yX3_follow.cls TX G) (x1 : Int32) (x2 : Int32) (σ : x_Hp) (h : F_X3_follow_46 x1 x2 σ = some (r, τ)) : x_W p l e rm_X3_follow s m args below meth c (MQ below (x_Q TX G (some (.int r)) τ) args s 0 0 (x_A TX G)) TX G 6 46 [(0, .ref (x_ad G 143)), (1, .int x1), (2, .int x2)] [] σ := by
  have hG : x_OK TX G := C.2.2.2.2.2.2.2.2.1
  rw [F_X3_follow_46] at h
  refine x_iload_n C 2 dX3_follow_46 rfl rfl ?_
  refine x_if_ge C 52 dX3_follow_47 rfl (fun hc => ?_) (fun hc => ?_)
  · replace h := x_itp hc h
    refine x_iload_n C 1 dX3_follow_52 rfl rfl ?_
    refine x_iconst C (1 : Int32) dX3_follow_53 (by decide) ?_
    refine x_isub C dX3_follow_54 ?_
    refine x_istore_n C [(3, .int (x1 - (1 : Int32))), (0, .ref (x_ad G 143)), (1, .int x1), (2, .int x2)] dX3_follow_55 rfl (by decide) rfl ?_
    exact x_sub [1, 2, 3, 0] rfl (w_X3_follow_56 C x_fuel x1 x2 (x1 - (1 : Int32)) σ h)
  · replace h := x_itn hc h
    refine x_iconst C (-1 : Int32) dX3_follow_50 (by decide) ?_
    obtain ⟨rfl, rfl⟩ := x_ret h
    exact x_iret C dX3_follow_51
set_option maxHeartbeats 4000000 in
set_option maxRecDepth 100000 in
theorem w_X3_follow_15 {r : Int32} {τ : x_Hp} (C : x_C p s m args meth c cX3_follow 6 (some .int) yX3_follow.cls TX G) : ∀ (n : Nat) (x1 : Int32) (x2 : Int32) (σ : x_Hp) (h : F_X3_follow_15 n x1 x2 σ = some (r, τ)), x_W p l e rm_X3_follow s m args below meth c (MQ below (x_Q TX G (some (.int r)) τ) args s 0 0 (x_A TX G)) TX G 6 15 [(0, .ref (x_ad G 143)), (1, .int x1), (2, .int x2)] [] σ := by
  intro n
  induction n with
  | zero => intro x1 x2 σ  h; cases h
  | succ n ih =>
    intro x1 x2 σ  h
    have hG : x_OK TX G := C.2.2.2.2.2.2.2.2.1
    rw [F_X3_follow_15] at h
    refine x_iload_n C 2 dX3_follow_15 rfl rfl ?_
    refine x_if_lt C 46 dX3_follow_16 rfl (fun hc => ?_) (fun hc => ?_)
    · replace h := x_itp hc h
      exact x_sub [0, 1, 2] rfl (w_X3_follow_46 C x1 x2 σ h)
    · replace h := x_itn hc h
      refine x_aload_n C 0 dX3_follow_19 rfl rfl ?_
      refine x_getRq C (k := 4) kX_143 (by decide) rfl x_in3 (by decide) (by decide) rfl rfl wd_465 rfX_143_4 dX3_follow_20 ?_
      refine x_iload_n C 2 dX3_follow_23 rfl rfl ?_
      obtain ⟨v1, σ1, hc1, h⟩ := x_b_some h
      refine x_callSN C (n := 2) (c_X8_at hG kX_148 hc1) nw_1016 wd_541 wd_102 wd_542 (by decide +kernel) rfl ⟨Nat.le_of_ble_eq_true rfl, Nat.le_of_ble_eq_true rfl⟩ ⟨rfl, rfl⟩ rfl (Nat.le_of_ble_eq_true rfl) dX3_follow_24 ?_
      refine x_aload_n C 0 dX3_follow_27 rfl rfl ?_
      refine x_getRq C (k := 4) kX_143 (by decide) rfl x_in3 (by decide) (by decide) rfl rfl wd_465 rfX_143_4 dX3_follow_28 ?_
      refine x_iload_n C 2 dX3_follow_31 rfl rfl ?_
      refine x_iconst C (1 : Int32) dX3_follow_32 (by decide) ?_
      refine x_iadd C dX3_follow_33 ?_
      obtain ⟨v2, σ2, hc2, h⟩ := x_b_some h
      refine x_callSN C (n := 2) (c_X8_at hG kX_148 hc2) nw_1016 wd_541 wd_102 wd_542 (by decide +kernel) rfl ⟨Nat.le_of_ble_eq_true rfl, Nat.le_of_ble_eq_true rfl⟩ ⟨rfl, rfl⟩ rfl (Nat.le_of_ble_eq_true rfl) dX3_follow_34 ?_
      refine x_icmp_le C 46 dX3_follow_37 rfl (fun hc => ?_) (fun hc => ?_)
      · replace h := x_itp hc h
        exact x_sub [0, 1, 2] rfl (w_X3_follow_46 C x1 x2 σ2 h)
      · replace h := x_itn hc h
        refine x_iinc C 2 (x2 + (-1 : Int32)) [(2, .int (x2 + (-1 : Int32))), (0, .ref (x_ad G 143)), (1, .int x1)] dX3_follow_40 rfl rfl (by decide) rfl ?_
        refine x_goto C 15 dX3_follow_43 rfl ?_
        exact x_sub [1, 2, 0] rfl (ih x1 (x2 + (-1 : Int32)) σ2 h)
set_option maxHeartbeats 4000000 in
set_option maxRecDepth 100000 in
theorem c_X3_follow (hG : x_OK TX G) {σ τ : x_Hp} {r : Int32} (h : F_X3_follow σ = some (r, τ)) : x_M l TX G yX3_follow cX3_follow 6 (some .int) rm_X3_follow [.ref (x_ad G 143)] σ (some (.int r)) τ := by
  refine x_M.of hG (lv := [(0, .ref (x_ad G 143))]) (by decide) (Nat.le_of_ble_eq_true rfl) rfl (fun p e s m below meth c C => ?_)
  rw [F_X3_follow] at h
  refine x_aload_n C 0 dX3_follow_0 rfl rfl ?_
  refine x_getRq C (k := 0) kX_143 (by decide) rfl x_in3 (by decide) (by decide) rfl rfl wd_461 rfX_143_0 dX3_follow_1 ?_
  refine x_getRq C (k := 0) kX_34 (by decide) rfl x_in0 (by decide) (by decide) rfl rfl wd_295 rfX_34_0 dX3_follow_4 ?_
  refine x_getI C (k := 7) kX_1 (by decide) rfl x_in6 (by decide) (by decide) rfl rfl wd_186 dX3_follow_7 ?_
  refine x_istore_n C [(1, .int (σ.1 1 7)), (0, .ref (x_ad G 143))] dX3_follow_10 rfl (by decide) rfl ?_
  refine x_iload_n C 0 dX3_follow_11 rfl rfl ?_
  refine x_iconst C (2 : Int32) dX3_follow_12 (by decide) ?_
  refine x_isub C dX3_follow_13 ?_
  refine x_istore_n C [(2, .int ((σ.1 1 7) - (2 : Int32))), (1, .int (σ.1 1 7)), (0, .ref (x_ad G 143))] dX3_follow_14 rfl (by decide) rfl ?_
  exact x_sub [2, 1, 0] rfl (w_X3_follow_15 C x_fuel (σ.1 1 7) ((σ.1 1 7) - (2 : Int32)) σ h)
abbrev rm_X3_share : Room := { frames := 2, cells := 0, slots := 0, locals := 43 }
set_option maxHeartbeats 4000000 in
set_option maxRecDepth 100000 in
theorem c_X3_share (hG : x_OK TX G) {x1 : Int32} {x2 : Int32} {σ τ : x_Hp} {r : Int32} (h : F_X3_share x1 x2 σ = some (r, τ)) : x_M l TX G yX3_share cX3_share 3 (some .int) rm_X3_share [.ref (x_ad G 143), .int x1, .int x2] σ (some (.int r)) τ := by
  refine x_M.of hG (lv := [(0, .ref (x_ad G 143)), (1, .int x1), (2, .int x2)]) (by decide) (Nat.le_of_ble_eq_true rfl) rfl (fun p e s m below meth c C => ?_)
  rw [F_X3_share] at h
  refine x_aload_n C 0 dX3_share_0 rfl rfl ?_
  refine x_aload_n C 0 dX3_share_1 rfl rfl ?_
  refine x_getRq C (k := 0) kX_143 (by decide) rfl x_in3 (by decide) (by decide) rfl rfl wd_461 rfX_143_0 dX3_share_2 ?_
  refine x_getRq C (k := 0) kX_34 (by decide) rfl x_in0 (by decide) (by decide) rfl rfl wd_295 rfX_34_0 dX3_share_5 ?_
  refine x_getI C (k := 7) kX_1 (by decide) rfl x_in6 (by decide) (by decide) rfl rfl wd_186 dX3_share_8 ?_
  obtain ⟨v1, σ1, hc1, h⟩ := x_b_some h
  refine x_callV C (n := 1) (c_X3_row hG hc1) kX_143 (by decide) rfl wd_1009 wd_1011 wd_35 wd_109 wd_1012 (by decide +kernel) rfl ⟨Nat.le_of_ble_eq_true rfl, Nat.le_of_ble_eq_true rfl⟩ ⟨rfl, rfl⟩ rfl (Nat.le_of_ble_eq_true rfl) dX3_share_11 ?_
  refine x_iload_n C 1 dX3_share_14 rfl rfl ?_
  refine x_iload_n C 2 dX3_share_15 rfl rfl ?_
  obtain ⟨v2, σ2, hc2, h⟩ := x_b_some h
  refine x_callV C (n := 2) (c_X5_tallied hG (kd_X3_row hc1) hc2) (kd_X3_row hc1) (by decide) rfl wd_1030 wd_840 wd_841 wd_107 wd_842 (by decide +kernel) rfl ⟨Nat.le_of_ble_eq_true rfl, Nat.le_of_ble_eq_true rfl⟩ ⟨rfl, rfl⟩ rfl (Nat.le_of_ble_eq_true rfl) dX3_share_16 ?_
  refine x_aload_n C 0 dX3_share_19 rfl rfl ?_
  refine x_iconst C (0 : Int32) dX3_share_20 (by decide) ?_
  obtain ⟨v3, σ3, hc3, h⟩ := x_b_some h
  refine x_callV C (n := 1) (c_X3_row hG hc3) kX_143 (by decide) rfl wd_1009 wd_1011 wd_35 wd_109 wd_1012 (by decide +kernel) rfl ⟨Nat.le_of_ble_eq_true rfl, Nat.le_of_ble_eq_true rfl⟩ ⟨rfl, rfl⟩ rfl (Nat.le_of_ble_eq_true rfl) dX3_share_21 ?_
  refine x_iload_n C 1 dX3_share_24 rfl rfl ?_
  refine x_iload_n C 2 dX3_share_25 rfl rfl ?_
  obtain ⟨v4, σ4, hc4, h⟩ := x_b_some h
  refine x_callV C (n := 2) (c_X5_tallied hG (kd_X3_row hc3) hc4) (kd_X3_row hc3) (by decide) rfl wd_1030 wd_840 wd_841 wd_107 wd_842 (by decide +kernel) rfl ⟨Nat.le_of_ble_eq_true rfl, Nat.le_of_ble_eq_true rfl⟩ ⟨rfl, rfl⟩ rfl (Nat.le_of_ble_eq_true rfl) dX3_share_26 ?_
  refine x_isub C dX3_share_29 ?_
  obtain ⟨rfl, rfl⟩ := x_ret h
  exact x_iret C dX3_share_30
abbrev rm_X3_weigh : Room := { frames := 3, cells := 0, slots := 0, locals := 65 }
set_option maxHeartbeats 4000000 in
set_option maxRecDepth 100000 in
theorem w_X3_weigh_203 {τ : x_Hp} (C : x_C p s m args meth c cX3_weigh 8 none yX3_weigh.cls TX G) (x1 : Int32) (σ : x_Hp) (h : F_X3_weigh_203 x1 σ = some ((), τ)) : x_W p l e rm_X3_weigh s m args below meth c (MQ below (x_Q TX G none τ) args s 0 0 (x_A TX G)) TX G 8 203 [(0, .ref (x_ad G 143)), (1, .int x1)] [] σ := by
  have hG : x_OK TX G := C.2.2.2.2.2.2.2.2.1
  rw [F_X3_weigh_203] at h
  refine x_aload_n C 0 dX3_weigh_203 rfl rfl ?_
  refine x_getRq C (k := 7) kX_143 (by decide) rfl x_in3 (by decide) (by decide) rfl rfl wd_470 rfX_143_7 dX3_weigh_204 ?_
  refine x_iconst C (0 : Int32) dX3_weigh_207 (by decide) ?_
  refine x_iload_n C 1 dX3_weigh_208 rfl rfl ?_
  obtain ⟨v13, σ13, hc13, h⟩ := x_b_some h
  refine x_callV C (n := 2) (c_X2_offer hG kX_151 hc13) kX_151 (by decide) rfl wd_1033 wd_990 wd_991 wd_110 wd_992 (by decide +kernel) rfl ⟨Nat.le_of_ble_eq_true rfl, Nat.le_of_ble_eq_true rfl⟩ ⟨rfl, rfl⟩ rfl (Nat.le_of_ble_eq_true rfl) dX3_weigh_209 ?_
  obtain ⟨-, rfl⟩ := x_ret h
  exact x_vret C dX3_weigh_212
set_option maxHeartbeats 4000000 in
set_option maxRecDepth 100000 in
theorem w_X3_weigh_192 {τ : x_Hp} (C : x_C p s m args meth c cX3_weigh 8 none yX3_weigh.cls TX G) (x1 : Int32) (σ : x_Hp) (h : F_X3_weigh_192 x1 σ = some ((), τ)) : x_W p l e rm_X3_weigh s m args below meth c (MQ below (x_Q TX G none τ) args s 0 0 (x_A TX G)) TX G 8 192 [(0, .ref (x_ad G 143)), (1, .int x1)] [] σ := by
  have hG : x_OK TX G := C.2.2.2.2.2.2.2.2.1
  rw [F_X3_weigh_192] at h
  refine x_aload_n C 0 dX3_weigh_192 rfl rfl ?_
  refine x_getRq C (k := 4) kX_143 (by decide) rfl x_in3 (by decide) (by decide) rfl rfl wd_465 rfX_143_4 dX3_weigh_193 ?_
  refine x_aload_n C 0 dX3_weigh_196 rfl rfl ?_
  refine x_getRq C (k := 5) kX_143 (by decide) rfl x_in3 (by decide) (by decide) rfl rfl wd_466 rfX_143_5 dX3_weigh_197 ?_
  obtain ⟨v12, σ12, hc12, h⟩ := x_b_some h
  refine x_callSN C (n := 2) (c_X8_copy hG kX_148 kX_149 hc12) nw_1034 wd_806 wd_102 wd_807 (by decide +kernel) rfl ⟨Nat.le_of_ble_eq_true rfl, Nat.le_of_ble_eq_true rfl⟩ ⟨rfl, rfl⟩ rfl (Nat.le_of_ble_eq_true rfl) dX3_weigh_200 ?_
  exact x_sub [0, 1] rfl (w_X3_weigh_203 C x1 σ12 h)
set_option maxHeartbeats 4000000 in
set_option maxRecDepth 100000 in
theorem w_X3_weigh_72 {τ : x_Hp} (C : x_C p s m args meth c cX3_weigh 8 none yX3_weigh.cls TX G) {k17 : Int32 → Int32 → Int32 → Int32 → Int32 → x_Hp → Option (Unit × x_Hp)} (hk17 : ∀ (x1 : Int32) (x2 : Int32) (x3 : Int32) (x4 : Int32) (x5 : Int32) (σ : x_Hp) (h : k17 x1 x2 x3 x4 x5 σ = some ((), τ)), x_W p l e rm_X3_weigh s m args below meth c (MQ below (x_Q TX G none τ) args s 0 0 (x_A TX G)) TX G 8 17 [(0, .ref (x_ad G 143)), (1, .int x1), (2, .int x2), (3, .int x3), (4, .int x4), (5, .int x5)] [] σ) (x1 : Int32) (x3 : Int32) (x4 : Int32) (x5 : Int32) (x7 : Int32) (s0 : Int32) (σ : x_Hp) (h : F_X3_weigh_72 k17 x1 x3 x4 x5 x7 s0 σ = some ((), τ)) : x_W p l e rm_X3_weigh s m args below meth c (MQ below (x_Q TX G none τ) args s 0 0 (x_A TX G)) TX G 8 72 [(0, .ref (x_ad G 143)), (1, .int x1), (3, .int x3), (4, .int x4), (5, .int x5), (7, .int x7)] [.int s0] σ := by
  have hG : x_OK TX G := C.2.2.2.2.2.2.2.2.1
  rw [F_X3_weigh_72] at h
  refine x_istore_n C [(2, .int s0), (0, .ref (x_ad G 143)), (1, .int x1), (3, .int x3), (4, .int x4), (5, .int x5), (7, .int x7)] dX3_weigh_72 rfl (by decide) rfl ?_
  refine x_iload_n C 3 dX3_weigh_73 rfl rfl ?_
  refine x_iload C 6 dX3_weigh_74 rfl ?_
  refine x_max C wd_1031 wd_875 wd_116 wd_876 ⟨Nat.le_of_ble_eq_true rfl, Nat.le_of_ble_eq_true rfl⟩ dX3_weigh_76 ?_
  refine x_istore_n C [(3, .int (if x3 < x7 then x7 else x3)), (2, .int s0), (0, .ref (x_ad G 143)), (1, .int x1), (4, .int x4), (5, .int x5), (7, .int x7)] dX3_weigh_79 rfl (by decide) rfl ?_
  refine x_iload C 4 dX3_weigh_80 rfl ?_
  refine x_iload C 6 dX3_weigh_82 rfl ?_
  refine x_min C wd_1032 wd_872 wd_116 wd_873 ⟨Nat.le_of_ble_eq_true rfl, Nat.le_of_ble_eq_true rfl⟩ dX3_weigh_84 ?_
  refine x_istore C [(4, .int (if x7 < x4 then x7 else x4)), (3, .int (if x3 < x7 then x7 else x3)), (2, .int s0), (0, .ref (x_ad G 143)), (1, .int x1), (5, .int x5), (7, .int x7)] dX3_weigh_87 (by decide) rfl ?_
  refine x_iinc C 5 (x5 + (1 : Int32)) [(5, .int (x5 + (1 : Int32))), (4, .int (if x7 < x4 then x7 else x4)), (3, .int (if x3 < x7 then x7 else x3)), (2, .int s0), (0, .ref (x_ad G 143)), (1, .int x1), (7, .int x7)] dX3_weigh_89 rfl rfl (by decide) rfl ?_
  refine x_goto C 17 dX3_weigh_92 rfl ?_
  exact x_sub [4, 5, 3, 2, 1, 0] rfl (hk17 x1 s0 (if x3 < x7 then x7 else x3) (if x7 < x4 then x7 else x4) (x5 + (1 : Int32)) σ h)
set_option maxHeartbeats 4000000 in
set_option maxRecDepth 100000 in
theorem w_X3_weigh_17 {τ : x_Hp} (C : x_C p s m args meth c cX3_weigh 8 none yX3_weigh.cls TX G) : ∀ (n : Nat) (x1 : Int32) (x2 : Int32) (x3 : Int32) (x4 : Int32) (x5 : Int32) (σ : x_Hp) (h : F_X3_weigh_17 n x1 x2 x3 x4 x5 σ = some ((), τ)), x_W p l e rm_X3_weigh s m args below meth c (MQ below (x_Q TX G none τ) args s 0 0 (x_A TX G)) TX G 8 17 [(0, .ref (x_ad G 143)), (1, .int x1), (2, .int x2), (3, .int x3), (4, .int x4), (5, .int x5)] [] σ := by
  intro n
  induction n with
  | zero => intro x1 x2 x3 x4 x5 σ  h; cases h
  | succ n ih =>
    intro x1 x2 x3 x4 x5 σ  h
    have hG : x_OK TX G := C.2.2.2.2.2.2.2.2.1
    rw [F_X3_weigh_17] at h
    refine x_iload C 5 dX3_weigh_17 rfl ?_
    refine x_aload_n C 0 dX3_weigh_19 rfl rfl ?_
    refine x_getRq C (k := 0) kX_143 (by decide) rfl x_in3 (by decide) (by decide) rfl rfl wd_461 rfX_143_0 dX3_weigh_20 ?_
    refine x_getRq C (k := 0) kX_34 (by decide) rfl x_in0 (by decide) (by decide) rfl rfl wd_295 rfX_34_0 dX3_weigh_23 ?_
    refine x_getI C (k := 7) kX_1 (by decide) rfl x_in6 (by decide) (by decide) rfl rfl wd_186 dX3_weigh_26 ?_
    refine x_icmp_ge C 95 dX3_weigh_29 rfl (fun hc => ?_) (fun hc => ?_)
    · replace h := x_itp hc h
      refine x_aload_n C 0 dX3_weigh_95 rfl rfl ?_
      refine x_getRq C (k := 6) kX_143 (by decide) rfl x_in3 (by decide) (by decide) rfl rfl wd_468 rfX_143_6 dX3_weigh_96 ?_
      refine x_iload_n C 2 dX3_weigh_99 rfl rfl ?_
      refine x_aload_n C 0 dX3_weigh_100 rfl rfl ?_
      refine x_getRq C (k := 6) kX_143 (by decide) rfl x_in3 (by decide) (by decide) rfl rfl wd_468 rfX_143_6 dX3_weigh_101 ?_
      refine x_iload_n C 2 dX3_weigh_104 rfl rfl ?_
      obtain ⟨v2, σ2, hc2, h⟩ := x_b_some h
      refine x_callSN C (n := 2) (c_X8_at hG kX_150 hc2) nw_1016 wd_541 wd_102 wd_542 (by decide +kernel) rfl ⟨Nat.le_of_ble_eq_true rfl, Nat.le_of_ble_eq_true rfl⟩ ⟨rfl, rfl⟩ rfl (Nat.le_of_ble_eq_true rfl) dX3_weigh_105 ?_
      refine x_iconst C (1 : Int32) dX3_weigh_108 (by decide) ?_
      refine x_iadd C dX3_weigh_109 ?_
      obtain ⟨v3, σ3, hc3, h⟩ := x_b_some h
      refine x_callSN C (n := 3) (c_X8_put hG kX_150 hc3) nw_1014 wd_522 wd_102 wd_523 (by decide +kernel) rfl ⟨Nat.le_of_ble_eq_true rfl, Nat.le_of_ble_eq_true rfl⟩ ⟨rfl, rfl⟩ rfl (Nat.le_of_ble_eq_true rfl) dX3_weigh_110 ?_
      refine x_aload_n C 0 dX3_weigh_113 rfl rfl ?_
      refine x_dup C dX3_weigh_114 rfl ?_
      refine x_getI C (k := 9) kX_143 (by decide) rfl x_in3 (by decide) (by decide) rfl rfl wd_474 dX3_weigh_115 ?_
      refine x_aload_n C 0 dX3_weigh_118 rfl rfl ?_
      refine x_getRq C (k := 0) kX_143 (by decide) rfl x_in3 (by decide) (by decide) rfl rfl wd_461 rfX_143_0 dX3_weigh_119 ?_
      refine x_getRq C (k := 0) kX_34 (by decide) rfl x_in0 (by decide) (by decide) rfl rfl wd_295 rfX_34_0 dX3_weigh_122 ?_
      refine x_getRq C (k := 13) kX_1 (by decide) rfl x_in6 (by decide) (by decide) rfl rfl wd_200 rfX_1_13 dX3_weigh_125 ?_
      refine x_aload_n C 0 dX3_weigh_128 rfl rfl ?_
      refine x_getRq C (k := 2) kX_143 (by decide) rfl x_in3 (by decide) (by decide) rfl rfl wd_463 rfX_143_2 dX3_weigh_129 ?_
      refine x_aload_n C 0 dX3_weigh_132 rfl rfl ?_
      refine x_getRq C (k := 0) kX_143 (by decide) rfl x_in3 (by decide) (by decide) rfl rfl wd_461 rfX_143_0 dX3_weigh_133 ?_
      refine x_getRq C (k := 0) kX_34 (by decide) rfl x_in0 (by decide) (by decide) rfl rfl wd_295 rfX_34_0 dX3_weigh_136 ?_
      refine x_getI C (k := 7) kX_1 (by decide) rfl x_in6 (by decide) (by decide) rfl rfl wd_186 dX3_weigh_139 ?_
      obtain ⟨v4, σ4, hc4, h⟩ := x_b_some h
      refine x_callSN C (n := 2) (c_X8_at hG kX_145 hc4) nw_1016 wd_541 wd_102 wd_542 (by decide +kernel) rfl ⟨Nat.le_of_ble_eq_true rfl, Nat.le_of_ble_eq_true rfl⟩ ⟨rfl, rfl⟩ rfl (Nat.le_of_ble_eq_true rfl) dX3_weigh_142 ?_
      obtain ⟨v5, σ5, hc5, h⟩ := x_b_some h
      refine x_callSN C (n := 2) (c_X8_at hG kX_7 hc5) nw_1016 wd_541 wd_102 wd_542 (by decide +kernel) rfl ⟨Nat.le_of_ble_eq_true rfl, Nat.le_of_ble_eq_true rfl⟩ ⟨rfl, rfl⟩ rfl (Nat.le_of_ble_eq_true rfl) dX3_weigh_145 ?_
      refine x_iadd C dX3_weigh_148 ?_
      refine x_putI C (k := 9) tyX3 kX_143 (by decide) rfl x_in3 tyX3_ok nmX3 (by decide) (by decide) rfl rfl wd_474 rfl (tyX3_ok 9 (by decide)) rfl rfl dX3_weigh_149 (x_gen h fun σ6 h => ?_)
      refine x_aload_n C 0 dX3_weigh_152 rfl rfl ?_
      refine x_getRq C (k := 8) kX_143 (by decide) rfl x_in3 (by decide) (by decide) rfl rfl wd_472 rfX_143_8 dX3_weigh_153 ?_
      refine x_aload_n C 0 dX3_weigh_156 rfl rfl ?_
      refine x_getRq C (k := 4) kX_143 (by decide) rfl x_in3 (by decide) (by decide) rfl rfl wd_465 rfX_143_4 dX3_weigh_157 ?_
      refine x_iconst C (0 : Int32) dX3_weigh_160 (by decide) ?_
      obtain ⟨v7, σ7, hc7, h⟩ := x_b_some h
      refine x_callSN C (n := 2) (c_X8_at hG kX_148 hc7) nw_1016 wd_541 wd_102 wd_542 (by decide +kernel) rfl ⟨Nat.le_of_ble_eq_true rfl, Nat.le_of_ble_eq_true rfl⟩ ⟨rfl, rfl⟩ rfl (Nat.le_of_ble_eq_true rfl) dX3_weigh_161 ?_
      refine x_iload_n C 3 dX3_weigh_164 rfl rfl ?_
      refine x_iload C 4 dX3_weigh_165 rfl ?_
      refine x_isub C dX3_weigh_167 ?_
      obtain ⟨v8, σ8, hc8, h⟩ := x_b_some h
      refine x_callV C (n := 2) (c_X2_offer hG kX_152 hc8) kX_152 (by decide) rfl wd_1033 wd_990 wd_991 wd_110 wd_992 (by decide +kernel) rfl ⟨Nat.le_of_ble_eq_true rfl, Nat.le_of_ble_eq_true rfl⟩ ⟨rfl, rfl⟩ rfl (Nat.le_of_ble_eq_true rfl) dX3_weigh_168 ?_
      refine x_aload_n C 0 dX3_weigh_171 rfl rfl ?_
      refine x_getRq C (k := 7) kX_143 (by decide) rfl x_in3 (by decide) (by decide) rfl rfl wd_470 rfX_143_7 dX3_weigh_172 ?_
      refine x_getI C (k := 2) kX_151 (by decide) rfl x_in2 (by decide) (by decide) rfl rfl wd_453 dX3_weigh_175 ?_
      refine x_if_eq C 192 dX3_weigh_178 rfl (fun hc => ?_) (fun hc => ?_)
      · replace h := x_itp hc h
        exact x_sub [0, 1] rfl (w_X3_weigh_192 C x1 σ8 h)
      · replace h := x_itn hc h
        refine x_iload_n C 1 dX3_weigh_181 rfl rfl ?_
        refine x_aload_n C 0 dX3_weigh_182 rfl rfl ?_
        refine x_getRq C (k := 7) kX_143 (by decide) rfl x_in3 (by decide) (by decide) rfl rfl wd_470 rfX_143_7 dX3_weigh_183 ?_
        refine x_getI C (k := 1) kX_151 (by decide) rfl x_in2 (by decide) (by decide) rfl rfl wd_450 dX3_weigh_186 ?_
        refine x_icmp_ge C 203 dX3_weigh_189 rfl (fun hc => ?_) (fun hc => ?_)
        · replace h := x_itp hc h
          exact x_sub [0, 1] rfl (w_X3_weigh_203 C x1 σ8 h)
        · replace h := x_itn hc h
          exact x_sub [0, 1] rfl (w_X3_weigh_192 C x1 σ8 h)
    · replace h := x_itn hc h
      refine x_aload_n C 0 dX3_weigh_32 rfl rfl ?_
      refine x_iload C 5 dX3_weigh_33 rfl ?_
      refine x_iconst C (1 : Int32) dX3_weigh_35 (by decide) ?_
      obtain ⟨v9, σ9, hc9, h⟩ := x_b_some h
      refine x_callV C (n := 2) (c_X3_share hG hc9) kX_143 (by decide) rfl wd_1026 wd_1028 wd_37 wd_109 wd_1029 (by decide +kernel) rfl ⟨Nat.le_of_ble_eq_true rfl, Nat.le_of_ble_eq_true rfl⟩ ⟨rfl, rfl⟩ rfl (Nat.le_of_ble_eq_true rfl) dX3_weigh_36 ?_
      refine x_istore C [(6, .int v9), (0, .ref (x_ad G 143)), (1, .int x1), (2, .int x2), (3, .int x3), (4, .int x4), (5, .int x5)] dX3_weigh_39 (by decide) rfl ?_
      refine x_aload_n C 1 dX3_weigh_41 rfl rfl ?_
      refine x_iload C 6 dX3_weigh_42 rfl ?_
      refine x_iconst C (2 : Int32) dX3_weigh_44 (by decide) ?_
      obtain ⟨v10, σ10, hc10, h⟩ := x_b_some h
      refine x_callV C (n := 2) (c_X3_share hG hc10) kX_143 (by decide) rfl wd_1026 wd_1028 wd_37 wd_109 wd_1029 (by decide +kernel) rfl ⟨Nat.le_of_ble_eq_true rfl, Nat.le_of_ble_eq_true rfl⟩ ⟨rfl, rfl⟩ rfl (Nat.le_of_ble_eq_true rfl) dX3_weigh_45 ?_
      refine x_istore C [(7, .int v10), (6, .int v9), (0, .ref (x_ad G 143)), (1, .int x1), (2, .int x2), (3, .int x3), (4, .int x4), (5, .int x5)] dX3_weigh_48 (by decide) rfl ?_
      refine x_iload_n C 3 dX3_weigh_50 rfl rfl ?_
      refine x_iload C 1 dX3_weigh_51 rfl ?_
      refine x_iadd C dX3_weigh_53 ?_
      refine x_istore_n C [(1, .int (x1 + v9)), (7, .int v10), (6, .int v9), (0, .ref (x_ad G 143)), (2, .int x2), (3, .int x3), (4, .int x4), (5, .int x5)] dX3_weigh_54 rfl (by decide) rfl ?_
      refine x_iload C 2 dX3_weigh_55 rfl ?_
      refine x_aload_n C 3 dX3_weigh_57 rfl rfl ?_
      refine x_iload_n C 4 dX3_weigh_58 rfl rfl ?_
      refine x_iconst C (1 : Int32) dX3_weigh_59 (by decide) ?_
      obtain ⟨v11, σ11, hc11, h⟩ := x_b_some h
      refine x_callV C (n := 2) (c_X3_share hG hc11) kX_143 (by decide) rfl wd_1026 wd_1028 wd_37 wd_109 wd_1029 (by decide +kernel) rfl ⟨Nat.le_of_ble_eq_true rfl, Nat.le_of_ble_eq_true rfl⟩ ⟨rfl, rfl⟩ rfl (Nat.le_of_ble_eq_true rfl) dX3_weigh_60 ?_
      refine x_icmp_ge C 71 dX3_weigh_63 rfl (fun hc => ?_) (fun hc => ?_)
      · replace h := x_itp hc h
        refine x_iload_n C 4 dX3_weigh_71 rfl rfl ?_
        exact x_sub [3, 0, 5, 6, 7, 1] rfl (w_X3_weigh_72 C ih (x1 + v9) x3 x4 x5 v10 x2 σ11 h)
      · replace h := x_itn hc h
        refine x_iload C 7 dX3_weigh_66 rfl ?_
        refine x_goto C 72 dX3_weigh_68 rfl ?_
        exact x_sub [3, 0, 5, 6, 7, 1] rfl (w_X3_weigh_72 C ih (x1 + v9) x3 x4 x5 v10 x5 σ11 h)
set_option maxHeartbeats 4000000 in
set_option maxRecDepth 100000 in
theorem c_X3_weigh (hG : x_OK TX G) {σ τ : x_Hp} (h : F_X3_weigh σ = some ((), τ)) : x_M l TX G yX3_weigh cX3_weigh 8 none rm_X3_weigh [.ref (x_ad G 143)] σ none τ := by
  refine x_M.of hG (lv := [(0, .ref (x_ad G 143))]) (by decide) (Nat.le_of_ble_eq_true rfl) rfl (fun p e s m below meth c C => ?_)
  rw [F_X3_weigh] at h
  refine x_iconst C (0 : Int32) dX3_weigh_0 (by decide) ?_
  refine x_istore_n C [(1, .int (0 : Int32)), (0, .ref (x_ad G 143))] dX3_weigh_1 rfl (by decide) rfl ?_
  refine x_iconst C (0 : Int32) dX3_weigh_2 (by decide) ?_
  refine x_istore_n C [(2, .int (0 : Int32)), (1, .int (0 : Int32)), (0, .ref (x_ad G 143))] dX3_weigh_3 rfl (by decide) rfl ?_
  refine x_aload_n C 2 dX3_weigh_4 rfl rfl ?_
  refine x_iconst C (0 : Int32) dX3_weigh_5 (by decide) ?_
  refine x_iconst C (2 : Int32) dX3_weigh_6 (by decide) ?_
  obtain ⟨v1, σ1, hc1, h⟩ := x_b_some h
  refine x_callV C (n := 2) (c_X3_share hG hc1) kX_143 (by decide) rfl wd_1026 wd_1028 wd_37 wd_109 wd_1029 (by decide +kernel) rfl ⟨Nat.le_of_ble_eq_true rfl, Nat.le_of_ble_eq_true rfl⟩ ⟨rfl, rfl⟩ rfl (Nat.le_of_ble_eq_true rfl) dX3_weigh_7 ?_
  refine x_istore_n C [(3, .int v1), (2, .int (0 : Int32)), (1, .int (0 : Int32)), (0, .ref (x_ad G 143))] dX3_weigh_10 rfl (by decide) rfl ?_
  refine x_iload_n C 0 dX3_weigh_11 rfl rfl ?_
  refine x_istore C [(4, .int v1), (3, .int v1), (2, .int (0 : Int32)), (1, .int (0 : Int32)), (0, .ref (x_ad G 143))] dX3_weigh_12 (by decide) rfl ?_
  refine x_iconst C (0 : Int32) dX3_weigh_14 (by decide) ?_
  refine x_istore C [(5, .int (0 : Int32)), (4, .int v1), (3, .int v1), (2, .int (0 : Int32)), (1, .int (0 : Int32)), (0, .ref (x_ad G 143))] dX3_weigh_15 (by decide) rfl ?_
  exact x_sub [5, 4, 3, 2, 1, 0] rfl (w_X3_weigh_17 C x_fuel (0 : Int32) (0 : Int32) v1 v1 (0 : Int32) σ1 h)
abbrev rm_X3_search : Room := { frames := 6, cells := 0, slots := 0, locals := 148 }
set_option maxHeartbeats 4000000 in
set_option maxRecDepth 100000 in
theorem w_X3_search_164 {τ : x_Hp} (C : x_C p s m args meth c cX3_search 11 none yX3_search.cls TX G) {k38 : Int32 → Int32 → Int32 → x_Hp → Option (Unit × x_Hp)} (hk38 : ∀ (x2 : Int32) (x4 : Int32) (x5 : Int32) (σ : x_Hp) (h : k38 x2 x4 x5 σ = some ((), τ)), x_W p l e rm_X3_search s m args below meth c (MQ below (x_Q TX G none τ) args s 0 0 (x_A TX G)) TX G 11 38 [(0, .ref (x_ad G 143)), (2, .int x2), (4, .int x4), (5, .int x5)] [] σ) {k55 : Int32 → Int32 → Int32 → x_Hp → Option (Unit × x_Hp)} (hk55 : ∀ (x2 : Int32) (x5 : Int32) (x6 : Int32) (σ : x_Hp) (h : k55 x2 x5 x6 σ = some ((), τ)), x_W p l e rm_X3_search s m args below meth c (MQ below (x_Q TX G none τ) args s 0 0 (x_A TX G)) TX G 11 55 [(0, .ref (x_ad G 143)), (2, .int x2), (5, .int x5), (6, .int x6)] [] σ) (x2 : Int32) (x5 : Int32) (x6 : Int32) (s0 : Int32) (s1 : Int32) (σ : x_Hp) (h : F_X3_search_164 k38 k55 x2 x5 x6 s0 s1 σ = some ((), τ)) : x_W p l e rm_X3_search s m args below meth c (MQ below (x_Q TX G none τ) args s 0 0 (x_A TX G)) TX G 11 164 [(0, .ref (x_ad G 143)), (2, .int x2), (5, .int x5), (6, .int x6)] [.int s0, .int s1, .ref (x_ad G 145)] σ := by
  have hG : x_OK TX G := C.2.2.2.2.2.2.2.2.1
  rw [F_X3_search_164] at h
  obtain ⟨v12, σ12, hc12, h⟩ := x_b_some h
  refine x_callSN C (n := 3) (c_X8_put hG kX_145 hc12) nw_1014 wd_522 wd_102 wd_523 (by decide +kernel) rfl ⟨Nat.le_of_ble_eq_true rfl, Nat.le_of_ble_eq_true rfl⟩ ⟨rfl, rfl⟩ rfl (Nat.le_of_ble_eq_true rfl) dX3_search_164 ?_
  refine x_iinc C 3 (x6 + (1 : Int32)) [(6, .int (x6 + (1 : Int32))), (0, .ref (x_ad G 143)), (2, .int x2), (5, .int x5)] dX3_search_167 rfl rfl (by decide) rfl ?_
  refine x_goto C 55 dX3_search_170 rfl ?_
  exact x_sub [1, 2, 3, 0] rfl (hk55 x2 x5 (x6 + (1 : Int32)) σ12 h)
set_option maxHeartbeats 4000000 in
set_option maxRecDepth 100000 in
theorem w_X3_search_162 {τ : x_Hp} (C : x_C p s m args meth c cX3_search 11 none yX3_search.cls TX G) {k38 : Int32 → Int32 → Int32 → x_Hp → Option (Unit × x_Hp)} (hk38 : ∀ (x2 : Int32) (x4 : Int32) (x5 : Int32) (σ : x_Hp) (h : k38 x2 x4 x5 σ = some ((), τ)), x_W p l e rm_X3_search s m args below meth c (MQ below (x_Q TX G none τ) args s 0 0 (x_A TX G)) TX G 11 38 [(0, .ref (x_ad G 143)), (2, .int x2), (4, .int x4), (5, .int x5)] [] σ) {k55 : Int32 → Int32 → Int32 → x_Hp → Option (Unit × x_Hp)} (hk55 : ∀ (x2 : Int32) (x5 : Int32) (x6 : Int32) (σ : x_Hp) (h : k55 x2 x5 x6 σ = some ((), τ)), x_W p l e rm_X3_search s m args below meth c (MQ below (x_Q TX G none τ) args s 0 0 (x_A TX G)) TX G 11 55 [(0, .ref (x_ad G 143)), (2, .int x2), (5, .int x5), (6, .int x6)] [] σ) (x2 : Int32) (x5 : Int32) (x6 : Int32) (x10 : Int32) (s0 : Int32) (σ : x_Hp) (h : F_X3_search_162 k38 k55 x2 x5 x6 x10 s0 σ = some ((), τ)) : x_W p l e rm_X3_search s m args below meth c (MQ below (x_Q TX G none τ) args s 0 0 (x_A TX G)) TX G 11 162 [(0, .ref (x_ad G 143)), (2, .int x2), (5, .int x5), (6, .int x6), (10, .int x10)] [.int s0, .ref (x_ad G 145)] σ := by
  have hG : x_OK TX G := C.2.2.2.2.2.2.2.2.1
  rw [F_X3_search_162] at h
  refine x_iload C 4 dX3_search_162 rfl ?_
  exact x_sub [0, 1, 2, 3] rfl (w_X3_search_164 C hk38 hk55 x2 x5 x6 x10 s0 σ h)
set_option maxHeartbeats 4000000 in
set_option maxRecDepth 100000 in
theorem w_X3_search_55 {τ : x_Hp} (C : x_C p s m args meth c cX3_search 11 none yX3_search.cls TX G) {k38 : Int32 → Int32 → Int32 → x_Hp → Option (Unit × x_Hp)} (hk38 : ∀ (x2 : Int32) (x4 : Int32) (x5 : Int32) (σ : x_Hp) (h : k38 x2 x4 x5 σ = some ((), τ)), x_W p l e rm_X3_search s m args below meth c (MQ below (x_Q TX G none τ) args s 0 0 (x_A TX G)) TX G 11 38 [(0, .ref (x_ad G 143)), (2, .int x2), (4, .int x4), (5, .int x5)] [] σ) : ∀ (n : Nat) (x2 : Int32) (x5 : Int32) (x6 : Int32) (σ : x_Hp) (h : F_X3_search_55 k38 n x2 x5 x6 σ = some ((), τ)), x_W p l e rm_X3_search s m args below meth c (MQ below (x_Q TX G none τ) args s 0 0 (x_A TX G)) TX G 11 55 [(0, .ref (x_ad G 143)), (2, .int x2), (5, .int x5), (6, .int x6)] [] σ := by
  intro n
  induction n with
  | zero => intro x2 x5 x6 σ  h; cases h
  | succ n ih =>
    intro x2 x5 x6 σ  h
    have hG : x_OK TX G := C.2.2.2.2.2.2.2.2.1
    rw [F_X3_search_55] at h
    refine x_iload C 3 dX3_search_55 rfl ?_
    refine x_aload_n C 0 dX3_search_57 rfl rfl ?_
    refine x_getRq C (k := 0) kX_143 (by decide) rfl x_in3 (by decide) (by decide) rfl rfl wd_461 rfX_143_0 dX3_search_58 ?_
    refine x_getRq C (k := 0) kX_34 (by decide) rfl x_in0 (by decide) (by decide) rfl rfl wd_295 rfX_34_0 dX3_search_61 ?_
    refine x_getI C (k := 7) kX_1 (by decide) rfl x_in6 (by decide) (by decide) rfl rfl wd_186 dX3_search_64 ?_
    refine x_icmp_ge C 173 dX3_search_67 rfl (fun hc => ?_) (fun hc => ?_)
    · replace h := x_itp hc h
      refine x_aload_n C 0 dX3_search_173 rfl rfl ?_
      obtain ⟨v4, σ4, hc4, h⟩ := x_b_some h
      refine x_callV C (n := 0) (c_X3_weigh hG hc4) kX_143 (by decide) rfl wd_1022 wd_1024 wd_36 wd_109 wd_1025 (by decide +kernel) rfl ⟨Nat.le_of_ble_eq_true rfl, Nat.le_of_ble_eq_true rfl⟩ ⟨rfl, rfl⟩ rfl (Nat.le_of_ble_eq_true rfl) dX3_search_174 ?_
      refine x_aload_n C 0 dX3_search_177 rfl rfl ?_
      obtain ⟨v5, σ5, hc5, h⟩ := x_b_some h
      refine x_callV C (n := 0) (c_X3_follow hG hc5) kX_143 (by decide) rfl wd_1035 wd_1037 wd_38 wd_109 wd_1038 (by decide +kernel) rfl ⟨Nat.le_of_ble_eq_true rfl, Nat.le_of_ble_eq_true rfl⟩ ⟨rfl, rfl⟩ rfl (Nat.le_of_ble_eq_true rfl) dX3_search_178 ?_
      refine x_istore C [(4, .int v5), (0, .ref (x_ad G 143)), (2, .int x2), (5, .int x5), (6, .int x6)] dX3_search_181 (by decide) rfl ?_
      refine x_iinc C 3 (x5 + (1 : Int32)) [(5, .int (x5 + (1 : Int32))), (4, .int v5), (0, .ref (x_ad G 143)), (2, .int x2), (6, .int x6)] dX3_search_183 rfl rfl (by decide) rfl ?_
      refine x_goto C 38 dX3_search_186 rfl ?_
      exact x_sub [2, 3, 1, 0] rfl (hk38 x2 v5 (x5 + (1 : Int32)) σ5 h)
    · replace h := x_itn hc h
      refine x_aload_n C 0 dX3_search_70 rfl rfl ?_
      refine x_iload C 3 dX3_search_71 rfl ?_
      refine x_iconst C (1 : Int32) dX3_search_73 (by decide) ?_
      refine x_iadd C dX3_search_74 ?_
      obtain ⟨v6, σ6, hc6, h⟩ := x_b_some h
      refine x_callV C (n := 1) (c_X3_row hG hc6) kX_143 (by decide) rfl wd_1009 wd_1011 wd_35 wd_109 wd_1012 (by decide +kernel) rfl ⟨Nat.le_of_ble_eq_true rfl, Nat.le_of_ble_eq_true rfl⟩ ⟨rfl, rfl⟩ rfl (Nat.le_of_ble_eq_true rfl) dX3_search_75 ?_
      refine x_astore C [(7, .ref (x_ad G v6)), (0, .ref (x_ad G 143)), (2, .int x2), (5, .int x5), (6, .int x6)] dX3_search_78 (by decide) rfl ?_
      refine x_aload C 0 dX3_search_80 rfl ?_
      refine x_aload_n C 1 dX3_search_82 rfl rfl ?_
      refine x_iload C 4 dX3_search_83 rfl ?_
      obtain ⟨v7, σ7, hc7, h⟩ := x_b_some h
      refine x_callV C (n := 1) (c_X3_row hG hc7) kX_143 (by decide) rfl wd_1009 wd_1011 wd_35 wd_109 wd_1012 (by decide +kernel) rfl ⟨Nat.le_of_ble_eq_true rfl, Nat.le_of_ble_eq_true rfl⟩ ⟨rfl, rfl⟩ rfl (Nat.le_of_ble_eq_true rfl) dX3_search_85 ?_
      obtain ⟨v8, σ8, hc8, h⟩ := x_b_some h
      refine x_callV C (n := 1) (c_X5_takeFrom hG (kd_X3_row hc6) (kd_X3_row hc7) hc8) (kd_X3_row hc6) (by decide) rfl wd_1013 wd_886 wd_887 wd_107 wd_888 (by decide +kernel) rfl ⟨Nat.le_of_ble_eq_true rfl, Nat.le_of_ble_eq_true rfl⟩ ⟨rfl, rfl⟩ rfl (Nat.le_of_ble_eq_true rfl) dX3_search_88 ?_
      refine x_aload C 0 dX3_search_91 rfl ?_
      refine x_getI C (k := 17) (kd_X3_row hc6) (by decide) rfl x_in5 (by decide) (by decide) rfl rfl wd_356 dX3_search_93 ?_
      refine x_istore C [(8, .int (σ8.1 v6 17)), (7, .ref (x_ad G v6)), (0, .ref (x_ad G 143)), (2, .int x2), (5, .int x5), (6, .int x6)] dX3_search_96 (by decide) rfl ?_
      refine x_aload_n C 2 dX3_search_98 rfl rfl ?_
      refine x_getRq C (k := 4) kX_143 (by decide) rfl x_in3 (by decide) (by decide) rfl rfl wd_465 rfX_143_4 dX3_search_99 ?_
      refine x_iload C 5 dX3_search_102 rfl ?_
      obtain ⟨v9, σ9, hc9, h⟩ := x_b_some h
      refine x_callSN C (n := 2) (c_X8_at hG kX_148 hc9) nw_1016 wd_541 wd_102 wd_542 (by decide +kernel) rfl ⟨Nat.le_of_ble_eq_true rfl, Nat.le_of_ble_eq_true rfl⟩ ⟨rfl, rfl⟩ rfl (Nat.le_of_ble_eq_true rfl) dX3_search_104 ?_
      refine x_istore C [(9, .int v9), (8, .int (σ8.1 v6 17)), (7, .ref (x_ad G v6)), (0, .ref (x_ad G 143)), (2, .int x2), (5, .int x5), (6, .int x6)] dX3_search_107 (by decide) rfl ?_
      refine x_aload_n C 3 dX3_search_109 rfl rfl ?_
      refine x_getRq C (k := 0) kX_143 (by decide) rfl x_in3 (by decide) (by decide) rfl rfl wd_461 rfX_143_0 dX3_search_110 ?_
      refine x_aload C 2 dX3_search_113 rfl ?_
      refine x_iload C 0 dX3_search_115 rfl ?_
      refine x_iload_n C 4 dX3_search_117 rfl rfl ?_
      obtain ⟨v10, σ10, hc10, h⟩ := x_b_some h
      refine x_callV C (n := 3) (c_X0_keep hG kX_34 (kd_X3_row hc6) hc10) kX_34 (by decide) rfl wd_1017 wd_1018 wd_1019 wd_106 wd_1020 (by decide +kernel) rfl ⟨Nat.le_of_ble_eq_true rfl, Nat.le_of_ble_eq_true rfl⟩ ⟨rfl, rfl⟩ rfl (Nat.le_of_ble_eq_true rfl) dX3_search_118 ?_
      refine x_aload_n C 3 dX3_search_121 rfl rfl ?_
      refine x_getRq C (k := 2) kX_143 (by decide) rfl x_in3 (by decide) (by decide) rfl rfl wd_463 rfX_143_2 dX3_search_122 ?_
      refine x_iload C 6 dX3_search_125 rfl ?_
      obtain ⟨v11, σ11, hc11, h⟩ := x_b_some h
      refine x_callSN C (n := 2) (c_X8_at hG kX_145 hc11) nw_1016 wd_541 wd_102 wd_542 (by decide +kernel) rfl ⟨Nat.le_of_ble_eq_true rfl, Nat.le_of_ble_eq_true rfl⟩ ⟨rfl, rfl⟩ rfl (Nat.le_of_ble_eq_true rfl) dX3_search_127 ?_
      refine x_istore C [(10, .int v11), (9, .int v9), (8, .int (σ8.1 v6 17)), (7, .ref (x_ad G v6)), (0, .ref (x_ad G 143)), (2, .int x2), (5, .int x5), (6, .int x6)] dX3_search_130 (by decide) rfl ?_
      refine x_aload_n C 4 dX3_search_132 rfl rfl ?_
      refine x_getRq C (k := 2) kX_143 (by decide) rfl x_in3 (by decide) (by decide) rfl rfl wd_463 rfX_143_2 dX3_search_133 ?_
      refine x_iload C 7 dX3_search_136 rfl ?_
      refine x_iconst C (1 : Int32) dX3_search_138 (by decide) ?_
      refine x_iadd C dX3_search_139 ?_
      refine x_iload C 0 dX3_search_140 rfl ?_
      refine x_bipush C (-2 : Int32) dX3_search_142 (by decide) ?_
      refine x_icmp_ne C 162 dX3_search_144 rfl (fun hc => ?_) (fun hc => ?_)
      · replace h := x_itn hc h
        exact x_sub [4, 5, 6, 7, 0] rfl (w_X3_search_162 C hk38 ih x2 x5 x6 v11 (x6 + (1 : Int32)) σ11 h)
      · replace h := x_itp hc h
        refine x_aload C 3 dX3_search_147 rfl ?_
        refine x_getI C (k := 17) (kd_X3_row hc6) (by decide) rfl x_in5 (by decide) (by decide) rfl rfl wd_356 dX3_search_149 ?_
        refine x_iload C 2 dX3_search_152 rfl ?_
        refine x_icmp_le C 162 dX3_search_154 rfl (fun hc => ?_) (fun hc => ?_)
        · replace h := x_itp hc h
          exact x_sub [4, 5, 6, 7, 0] rfl (w_X3_search_162 C hk38 ih x2 x5 x6 v11 (x6 + (1 : Int32)) σ11 h)
        · replace h := x_itn hc h
          refine x_iload C 1 dX3_search_157 rfl ?_
          refine x_goto C 164 dX3_search_159 rfl ?_
          exact x_sub [4, 5, 6, 7] rfl (w_X3_search_164 C hk38 ih x2 x5 x6 v9 (x6 + (1 : Int32)) σ11 h)
set_option maxHeartbeats 4000000 in
set_option maxRecDepth 100000 in
theorem w_X3_search_38 {τ : x_Hp} (C : x_C p s m args meth c cX3_search 11 none yX3_search.cls TX G) : ∀ (n : Nat) (x2 : Int32) (x4 : Int32) (x5 : Int32) (σ : x_Hp) (h : F_X3_search_38 n x2 x4 x5 σ = some ((), τ)), x_W p l e rm_X3_search s m args below meth c (MQ below (x_Q TX G none τ) args s 0 0 (x_A TX G)) TX G 11 38 [(0, .ref (x_ad G 143)), (2, .int x2), (4, .int x4), (5, .int x5)] [] σ := by
  intro n
  induction n with
  | zero => intro x2 x4 x5 σ  h; cases h
  | succ n ih =>
    intro x2 x4 x5 σ  h
    have hG : x_OK TX G := C.2.2.2.2.2.2.2.2.1
    rw [F_X3_search_38] at h
    refine x_iload C 3 dX3_search_38 rfl ?_
    refine x_sipush C (720 : Int32) dX3_search_40 (by decide) ?_
    refine x_icmp_ge C 189 dX3_search_43 rfl (fun hc => ?_) (fun hc => ?_)
    · replace h := x_itp hc h
      obtain ⟨-, rfl⟩ := x_ret h
      exact x_vret C dX3_search_189
    · replace h := x_itn hc h
      refine x_iload C 2 dX3_search_46 rfl ?_
      refine x_if_lt C 189 dX3_search_48 rfl (fun hc => ?_) (fun hc => ?_)
      · replace h := x_itp hc h
        obtain ⟨-, rfl⟩ := x_ret h
        exact x_vret C dX3_search_189
      · replace h := x_itn hc h
        refine x_iload C 2 dX3_search_51 rfl ?_
        refine x_istore C [(6, .int x4), (0, .ref (x_ad G 143)), (2, .int x2), (4, .int x4), (5, .int x5)] dX3_search_53 (by decide) rfl ?_
        exact x_sub [1, 2, 4, 0] rfl (w_X3_search_55 C ih x_fuel x2 x5 x4 σ h)
set_option maxHeartbeats 4000000 in
set_option maxRecDepth 100000 in
theorem w_X3_search_17 {τ : x_Hp} (C : x_C p s m args meth c cX3_search 11 none yX3_search.cls TX G) (r1 : Nat) (x2 : Int32) (x3 : Int32) (σ : x_Hp) (hk_r1 : x_kd TX r1 = 5) (h : F_X3_search_17 r1 x2 x3 σ = some ((), τ)) : x_W p l e rm_X3_search s m args below meth c (MQ below (x_Q TX G none τ) args s 0 0 (x_A TX G)) TX G 11 17 [(0, .ref (x_ad G 143)), (1, .ref (x_ad G r1)), (2, .int x2), (3, .int x3)] [] σ := by
  have hG : x_OK TX G := C.2.2.2.2.2.2.2.2.1
  rw [F_X3_search_17] at h
  refine x_aload_n C 0 dX3_search_17 rfl rfl ?_
  refine x_iload_n C 2 dX3_search_18 rfl rfl ?_
  refine x_putI C (k := 10) tyX3 kX_143 (by decide) rfl x_in3 tyX3_ok nmX3 (by decide) (by decide) rfl rfl wd_476 rfl (tyX3_ok 10 (by decide)) rfl rfl dX3_search_19 (x_gen h fun σ1 h => ?_)
  refine x_aload_n C 0 dX3_search_22 rfl rfl ?_
  refine x_iload_n C 3 dX3_search_23 rfl rfl ?_
  refine x_putI C (k := 11) tyX3 kX_143 (by decide) rfl x_in3 tyX3_ok nmX3 (by decide) (by decide) rfl rfl wd_477 rfl (tyX3_ok 11 (by decide)) rfl rfl dX3_search_24 (x_gen h fun σ2 h => ?_)
  refine x_aload_n C 0 dX3_search_27 rfl rfl ?_
  refine x_aload_n C 1 dX3_search_28 rfl rfl ?_
  obtain ⟨v3, σ3, hc3, h⟩ := x_b_some h
  refine x_callV C (n := 1) (c_X3_begin hG hk_r1 hc3) kX_143 (by decide) rfl wd_1005 wd_1007 wd_34 wd_109 wd_1008 (by decide +kernel) rfl ⟨Nat.le_of_ble_eq_true rfl, Nat.le_of_ble_eq_true rfl⟩ ⟨rfl, rfl⟩ rfl (Nat.le_of_ble_eq_true rfl) dX3_search_29 ?_
  refine x_iconst C (0 : Int32) dX3_search_32 (by decide) ?_
  refine x_istore C [(4, .int (0 : Int32)), (0, .ref (x_ad G 143)), (1, .ref (x_ad G r1)), (2, .int x2), (3, .int x3)] dX3_search_33 (by decide) rfl ?_
  refine x_iconst C (0 : Int32) dX3_search_35 (by decide) ?_
  refine x_istore C [(5, .int (0 : Int32)), (4, .int (0 : Int32)), (0, .ref (x_ad G 143)), (1, .ref (x_ad G r1)), (2, .int x2), (3, .int x3)] dX3_search_36 (by decide) rfl ?_
  exact x_sub [2, 4, 1, 0] rfl (w_X3_search_38 C x_fuel x2 (0 : Int32) (0 : Int32) σ3 h)
set_option maxHeartbeats 4000000 in
set_option maxRecDepth 100000 in
theorem c_X3_search (hG : x_OK TX G) {r1 : Nat} {x2 : Int32} {x3 : Int32} {σ τ : x_Hp} (hk_r1 : x_kd TX r1 = 5) (h : F_X3_search r1 x2 x3 σ = some ((), τ)) : x_M l TX G yX3_search cX3_search 11 none rm_X3_search [.ref (x_ad G 143), .ref (x_ad G r1), .int x2, .int x3] σ none τ := by
  refine x_M.of hG (lv := [(0, .ref (x_ad G 143)), (1, .ref (x_ad G r1)), (2, .int x2), (3, .int x3)]) (by decide) (Nat.le_of_ble_eq_true rfl) rfl (fun p e s m below meth c C => ?_)
  rw [F_X3_search] at h
  refine x_iload_n C 2 dX3_search_0 rfl rfl ?_
  refine x_aload_n C 0 dX3_search_1 rfl rfl ?_
  refine x_getI C (k := 10) kX_143 (by decide) rfl x_in3 (by decide) (by decide) rfl rfl wd_476 dX3_search_2 ?_
  refine x_icmp_ne C 17 dX3_search_5 rfl (fun hc => ?_) (fun hc => ?_)
  · replace h := x_itn hc h
    exact x_sub [0, 1, 2, 3] rfl (w_X3_search_17 C r1 x2 x3 σ hk_r1 h)
  · replace h := x_itp hc h
    refine x_iload_n C 3 dX3_search_8 rfl rfl ?_
    refine x_aload_n C 0 dX3_search_9 rfl rfl ?_
    refine x_getI C (k := 11) kX_143 (by decide) rfl x_in3 (by decide) (by decide) rfl rfl wd_477 dX3_search_10 ?_
    refine x_icmp_ne C 17 dX3_search_13 rfl (fun hc => ?_) (fun hc => ?_)
    · replace h := x_itn hc h
      exact x_sub [0, 1, 2, 3] rfl (w_X3_search_17 C r1 x2 x3 σ hk_r1 h)
    · replace h := x_itp hc h
      obtain ⟨-, rfl⟩ := x_ret h
      exact x_vret C dX3_search_16
abbrev rm_X4_addFour : Room := { frames := 0, cells := 0, slots := 0, locals := 0 }
set_option maxHeartbeats 4000000 in
set_option maxRecDepth 100000 in
theorem w_X4_addFour_53 {τ : x_Hp} (C : x_C p s m args meth c cX4_addFour 3 none yX4_addFour.cls TX G) {k3 : Int32 → Int32 → x_Hp → Option (Unit × x_Hp)} (hk3 : ∀ (x1 : Int32) (x2 : Int32) (σ : x_Hp) (h : k3 x1 x2 σ = some ((), τ)), x_W p l e rm_X4_addFour s m args below meth c (MQ below (x_Q TX G none τ) args s 0 0 (x_A TX G)) TX G 3 3 [(0, .ref (x_ad G 14)), (1, .int x1), (2, .int x2)] [] σ) (x1 : Int32) (x2 : Int32) (σ : x_Hp) (h : F_X4_addFour_53 k3 x1 x2 σ = some ((), τ)) : x_W p l e rm_X4_addFour s m args below meth c (MQ below (x_Q TX G none τ) args s 0 0 (x_A TX G)) TX G 3 53 [(0, .ref (x_ad G 14)), (1, .int x1), (2, .int x2)] [] σ := by
  have hG : x_OK TX G := C.2.2.2.2.2.2.2.2.1
  rw [F_X4_addFour_53] at h
  refine x_iinc C 2 (x2 + (-8 : Int32)) [(2, .int (x2 + (-8 : Int32))), (0, .ref (x_ad G 14)), (1, .int x1)] dX4_addFour_53 rfl rfl (by decide) rfl ?_
  refine x_goto C 3 dX4_addFour_56 rfl ?_
  exact x_sub [1, 2, 0] rfl (hk3 x1 (x2 + (-8 : Int32)) σ h)
set_option maxHeartbeats 4000000 in
set_option maxRecDepth 100000 in
theorem w_X4_addFour_3 {τ : x_Hp} (C : x_C p s m args meth c cX4_addFour 3 none yX4_addFour.cls TX G) : ∀ (n : Nat) (x1 : Int32) (x2 : Int32) (σ : x_Hp) (h : F_X4_addFour_3 n x1 x2 σ = some ((), τ)), x_W p l e rm_X4_addFour s m args below meth c (MQ below (x_Q TX G none τ) args s 0 0 (x_A TX G)) TX G 3 3 [(0, .ref (x_ad G 14)), (1, .int x1), (2, .int x2)] [] σ := by
  intro n
  induction n with
  | zero => intro x1 x2 σ  h; cases h
  | succ n ih =>
    intro x1 x2 σ  h
    have hG : x_OK TX G := C.2.2.2.2.2.2.2.2.1
    rw [F_X4_addFour_3] at h
    refine x_iload_n C 2 dX4_addFour_3 rfl rfl ?_
    refine x_if_lt C 59 dX4_addFour_4 rfl (fun hc => ?_) (fun hc => ?_)
    · replace h := x_itp hc h
      obtain ⟨-, rfl⟩ := x_ret h
      exact x_vret C dX4_addFour_59
    · replace h := x_itn hc h
      refine x_aload_n C 0 dX4_addFour_7 rfl rfl ?_
      refine x_getI C (k := 1) kX_14 (by decide) rfl x_in4 (by decide) (by decide) rfl rfl wd_245 dX4_addFour_8 ?_
      refine x_if_lt C 53 dX4_addFour_11 rfl (fun hc => ?_) (fun hc => ?_)
      · replace h := x_itp hc h
        exact x_sub [0, 1, 2] rfl (w_X4_addFour_53 C ih x1 x2 σ h)
      · replace h := x_itn hc h
        refine x_aload_n C 0 dX4_addFour_14 rfl rfl ?_
        refine x_getI C (k := 1) kX_14 (by decide) rfl x_in4 (by decide) (by decide) rfl rfl wd_245 dX4_addFour_15 ?_
        refine x_aload_n C 0 dX4_addFour_18 rfl rfl ?_
        refine x_getRq C (k := 0) kX_14 (by decide) rfl x_in4 (by decide) (by decide) rfl rfl wd_244 rfX_14_0 dX4_addFour_19 ?_
        refine x_alen C (2000 : Int32) kX_15 (by decide) (by rw [lnX_15]; rfl) dX4_addFour_22 ?_
        refine x_icmp_ge C 53 dX4_addFour_23 rfl (fun hc => ?_) (fun hc => ?_)
        · replace h := x_itp hc h
          exact x_sub [0, 1, 2] rfl (w_X4_addFour_53 C ih x1 x2 σ h)
        · replace h := x_itn hc h
          refine x_aload_n C 0 dX4_addFour_26 rfl rfl ?_
          refine x_getRq C (k := 0) kX_14 (by decide) rfl x_in4 (by decide) (by decide) rfl rfl wd_244 rfX_14_0 dX4_addFour_27 ?_
          refine x_aload_n C 0 dX4_addFour_30 rfl rfl ?_
          refine x_getI C (k := 1) kX_14 (by decide) rfl x_in4 (by decide) (by decide) rfl rfl wd_245 dX4_addFour_31 ?_
          refine x_iload_n C 1 dX4_addFour_34 rfl rfl ?_
          refine x_iload_n C 2 dX4_addFour_35 rfl rfl ?_
          refine x_iushr C dX4_addFour_36 ?_
          refine x_sipush C (255 : Int32) dX4_addFour_37 (by decide) ?_
          refine x_iand C dX4_addFour_40 ?_
          refine x_i2c C dX4_addFour_41 ?_
          obtain ⟨hi1, h⟩ := x_gd_some h
          refine x_cast C kX_15 (x_inl lnX_15 hi1) dX4_addFour_42 (x_gen h fun σ2 h => ?_)
          refine x_aload_n C 0 dX4_addFour_43 rfl rfl ?_
          refine x_dup C dX4_addFour_44 rfl ?_
          refine x_getI C (k := 1) kX_14 (by decide) rfl x_in4 (by decide) (by decide) rfl rfl wd_245 dX4_addFour_45 ?_
          refine x_iconst C (1 : Int32) dX4_addFour_48 (by decide) ?_
          refine x_iadd C dX4_addFour_49 ?_
          refine x_putI C (k := 1) tyX4 kX_14 (by decide) rfl x_in4 tyX4_ok nmX4 (by decide) (by decide) rfl rfl wd_245 rfl (tyX4_ok 1 (by decide)) rfl rfl dX4_addFour_50 (x_gen h fun σ3 h => ?_)
          exact x_sub [0, 1, 2] rfl (w_X4_addFour_53 C ih x1 x2 σ3 h)
set_option maxHeartbeats 4000000 in
set_option maxRecDepth 100000 in
theorem c_X4_addFour (hG : x_OK TX G) {x1 : Int32} {σ τ : x_Hp} (h : F_X4_addFour x1 σ = some ((), τ)) : x_M l TX G yX4_addFour cX4_addFour 3 none rm_X4_addFour [.ref (x_ad G 14), .int x1] σ none τ := by
  refine x_M.of hG (lv := [(0, .ref (x_ad G 14)), (1, .int x1)]) (by decide) (Nat.le_of_ble_eq_true rfl) rfl (fun p e s m below meth c C => ?_)
  rw [F_X4_addFour] at h
  refine x_bipush C (24 : Int32) dX4_addFour_0 (by decide) ?_
  refine x_istore_n C [(2, .int (24 : Int32)), (0, .ref (x_ad G 14)), (1, .int x1)] dX4_addFour_2 rfl (by decide) rfl ?_
  exact x_sub [1, 2, 0] rfl (w_X4_addFour_3 C x_fuel x1 (24 : Int32) σ h)
abbrev rm_X4_addBytes : Room := { frames := 1, cells := 0, slots := 0, locals := 22 }
set_option maxHeartbeats 4000000 in
set_option maxRecDepth 100000 in
theorem c_X4_addBytes (hG : x_OK TX G) {x1 : Int32} {x2 : Int32} {x3 : Int32} {x4 : Int32} {x5 : Int32} {σ τ : x_Hp} {r : Int32} (h : F_X4_addBytes x1 x2 x3 x4 x5 σ = some (r, τ)) : x_M l TX G yX4_addBytes cX4_addBytes 6 (some .int) rm_X4_addBytes [.ref (x_ad G 14), .int x1, .int x2, .int x3, .int x4, .int x5] σ (some (.int r)) τ := by
  refine x_M.of hG (lv := [(0, .ref (x_ad G 14)), (1, .int x1), (2, .int x2), (3, .int x3), (4, .int x4), (5, .int x5)]) (by decide) (Nat.le_of_ble_eq_true rfl) rfl (fun p e s m below meth c C => ?_)
  rw [F_X4_addBytes] at h
  refine x_aload_n C 0 dX4_addBytes_0 rfl rfl ?_
  refine x_getI C (k := 1) kX_14 (by decide) rfl x_in4 (by decide) (by decide) rfl rfl wd_245 dX4_addBytes_1 ?_
  refine x_bipush C (20 : Int32) dX4_addBytes_4 (by decide) ?_
  refine x_iadd C dX4_addBytes_6 ?_
  refine x_sipush C (2000 : Int32) dX4_addBytes_7 (by decide) ?_
  refine x_icmp_le C 15 dX4_addBytes_10 rfl (fun hc => ?_) (fun hc => ?_)
  · replace h := x_itp hc h
    refine x_aload_n C 0 dX4_addBytes_15 rfl rfl ?_
    refine x_iload_n C 1 dX4_addBytes_16 rfl rfl ?_
    obtain ⟨v1, σ1, hc1, h⟩ := x_b_some h
    refine x_callV C (n := 1) (c_X4_addFour hG hc1) kX_14 (by decide) rfl wd_594 wd_596 wd_1 wd_105 wd_597 (by decide +kernel) rfl ⟨Nat.le_of_ble_eq_true rfl, Nat.le_of_ble_eq_true rfl⟩ ⟨rfl, rfl⟩ rfl (Nat.le_of_ble_eq_true rfl) dX4_addBytes_17 ?_
    refine x_aload_n C 0 dX4_addBytes_20 rfl rfl ?_
    refine x_iload_n C 2 dX4_addBytes_21 rfl rfl ?_
    obtain ⟨v2, σ2, hc2, h⟩ := x_b_some h
    refine x_callV C (n := 1) (c_X4_addFour hG hc2) kX_14 (by decide) rfl wd_594 wd_596 wd_1 wd_105 wd_597 (by decide +kernel) rfl ⟨Nat.le_of_ble_eq_true rfl, Nat.le_of_ble_eq_true rfl⟩ ⟨rfl, rfl⟩ rfl (Nat.le_of_ble_eq_true rfl) dX4_addBytes_22 ?_
    refine x_aload_n C 0 dX4_addBytes_25 rfl rfl ?_
    refine x_iload_n C 3 dX4_addBytes_26 rfl rfl ?_
    obtain ⟨v3, σ3, hc3, h⟩ := x_b_some h
    refine x_callV C (n := 1) (c_X4_addFour hG hc3) kX_14 (by decide) rfl wd_594 wd_596 wd_1 wd_105 wd_597 (by decide +kernel) rfl ⟨Nat.le_of_ble_eq_true rfl, Nat.le_of_ble_eq_true rfl⟩ ⟨rfl, rfl⟩ rfl (Nat.le_of_ble_eq_true rfl) dX4_addBytes_27 ?_
    refine x_aload_n C 0 dX4_addBytes_30 rfl rfl ?_
    refine x_iload C 4 dX4_addBytes_31 rfl ?_
    obtain ⟨v4, σ4, hc4, h⟩ := x_b_some h
    refine x_callV C (n := 1) (c_X4_addFour hG hc4) kX_14 (by decide) rfl wd_594 wd_596 wd_1 wd_105 wd_597 (by decide +kernel) rfl ⟨Nat.le_of_ble_eq_true rfl, Nat.le_of_ble_eq_true rfl⟩ ⟨rfl, rfl⟩ rfl (Nat.le_of_ble_eq_true rfl) dX4_addBytes_33 ?_
    refine x_aload_n C 0 dX4_addBytes_36 rfl rfl ?_
    refine x_iload C 5 dX4_addBytes_37 rfl ?_
    obtain ⟨v5, σ5, hc5, h⟩ := x_b_some h
    refine x_callV C (n := 1) (c_X4_addFour hG hc5) kX_14 (by decide) rfl wd_594 wd_596 wd_1 wd_105 wd_597 (by decide +kernel) rfl ⟨Nat.le_of_ble_eq_true rfl, Nat.le_of_ble_eq_true rfl⟩ ⟨rfl, rfl⟩ rfl (Nat.le_of_ble_eq_true rfl) dX4_addBytes_39 ?_
    refine x_aload_n C 0 dX4_addBytes_42 rfl rfl ?_
    refine x_getI C (k := 1) kX_14 (by decide) rfl x_in4 (by decide) (by decide) rfl rfl wd_245 dX4_addBytes_43 ?_
    obtain ⟨rfl, rfl⟩ := x_ret h
    exact x_iret C dX4_addBytes_46
  · replace h := x_itn hc h
    refine x_iconst C (-1 : Int32) dX4_addBytes_13 (by decide) ?_
    obtain ⟨rfl, rfl⟩ := x_ret h
    exact x_iret C dX4_addBytes_14
abbrev rm_X4_dropBytes : Room := { frames := 0, cells := 0, slots := 0, locals := 0 }
set_option maxHeartbeats 4000000 in
set_option maxRecDepth 100000 in
theorem c_X4_dropBytes (hG : x_OK TX G) {x1 : Int32} {σ τ : x_Hp} {r : Int32} (h : F_X4_dropBytes x1 σ = some (r, τ)) : x_M l TX G yX4_dropBytes cX4_dropBytes 2 (some .int) rm_X4_dropBytes [.ref (x_ad G 14), .int x1] σ (some (.int r)) τ := by
  refine x_M.of hG (lv := [(0, .ref (x_ad G 14)), (1, .int x1)]) (by decide) (Nat.le_of_ble_eq_true rfl) rfl (fun p e s m below meth c C => ?_)
  rw [F_X4_dropBytes] at h
  refine x_iload_n C 1 dX4_dropBytes_0 rfl rfl ?_
  refine x_if_lt C 12 dX4_dropBytes_1 rfl (fun hc => ?_) (fun hc => ?_)
  · replace h := x_itp hc h
    refine x_iconst C (-1 : Int32) dX4_dropBytes_12 (by decide) ?_
    obtain ⟨rfl, rfl⟩ := x_ret h
    exact x_iret C dX4_dropBytes_13
  · replace h := x_itn hc h
    refine x_iload_n C 1 dX4_dropBytes_4 rfl rfl ?_
    refine x_aload_n C 0 dX4_dropBytes_5 rfl rfl ?_
    refine x_getI C (k := 1) kX_14 (by decide) rfl x_in4 (by decide) (by decide) rfl rfl wd_245 dX4_dropBytes_6 ?_
    refine x_icmp_le C 14 dX4_dropBytes_9 rfl (fun hc => ?_) (fun hc => ?_)
    · replace h := x_itp hc h
      refine x_aload_n C 0 dX4_dropBytes_14 rfl rfl ?_
      refine x_dup C dX4_dropBytes_15 rfl ?_
      refine x_getI C (k := 1) kX_14 (by decide) rfl x_in4 (by decide) (by decide) rfl rfl wd_245 dX4_dropBytes_16 ?_
      refine x_iload_n C 1 dX4_dropBytes_19 rfl rfl ?_
      refine x_isub C dX4_dropBytes_20 ?_
      refine x_putI C (k := 1) tyX4 kX_14 (by decide) rfl x_in4 tyX4_ok nmX4 (by decide) (by decide) rfl rfl wd_245 rfl (tyX4_ok 1 (by decide)) rfl rfl dX4_dropBytes_21 (x_gen h fun σ1 h => ?_)
      refine x_aload_n C 0 dX4_dropBytes_24 rfl rfl ?_
      refine x_getI C (k := 1) kX_14 (by decide) rfl x_in4 (by decide) (by decide) rfl rfl wd_245 dX4_dropBytes_25 ?_
      obtain ⟨rfl, rfl⟩ := x_ret h
      exact x_iret C dX4_dropBytes_28
    · replace h := x_itn hc h
      refine x_iconst C (-1 : Int32) dX4_dropBytes_12 (by decide) ?_
      obtain ⟨rfl, rfl⟩ := x_ret h
      exact x_iret C dX4_dropBytes_13
abbrev rm_X4_byteAt : Room := { frames := 0, cells := 0, slots := 0, locals := 0 }
set_option maxHeartbeats 4000000 in
set_option maxRecDepth 100000 in
theorem c_X4_byteAt (hG : x_OK TX G) {x1 : Int32} {σ τ : x_Hp} {r : Int32} (h : F_X4_byteAt x1 σ = some (r, τ)) : x_M l TX G yX4_byteAt cX4_byteAt 2 (some .char) rm_X4_byteAt [.ref (x_ad G 14), .int x1] σ (some (.int r)) τ := by
  refine x_M.of hG (lv := [(0, .ref (x_ad G 14)), (1, .int x1)]) (by decide) (Nat.le_of_ble_eq_true rfl) rfl (fun p e s m below meth c C => ?_)
  rw [F_X4_byteAt] at h
  refine x_iload_n C 1 dX4_byteAt_0 rfl rfl ?_
  refine x_if_lt C 22 dX4_byteAt_1 rfl (fun hc => ?_) (fun hc => ?_)
  · replace h := x_itp hc h
    refine x_iconst C (0 : Int32) dX4_byteAt_22 (by decide) ?_
    obtain ⟨hg, h⟩ := x_gd_some h
    obtain ⟨rfl, rfl⟩ := x_ret h
    exact x_zret C (x_isc_n hg) dX4_byteAt_23
  · replace h := x_itn hc h
    refine x_iload_n C 1 dX4_byteAt_4 rfl rfl ?_
    refine x_aload_n C 0 dX4_byteAt_5 rfl rfl ?_
    refine x_getRq C (k := 0) kX_14 (by decide) rfl x_in4 (by decide) (by decide) rfl rfl wd_244 rfX_14_0 dX4_byteAt_6 ?_
    refine x_alen C (2000 : Int32) kX_15 (by decide) (by rw [lnX_15]; rfl) dX4_byteAt_9 ?_
    refine x_icmp_ge C 22 dX4_byteAt_10 rfl (fun hc => ?_) (fun hc => ?_)
    · replace h := x_itp hc h
      refine x_iconst C (0 : Int32) dX4_byteAt_22 (by decide) ?_
      obtain ⟨hg, h⟩ := x_gd_some h
      obtain ⟨rfl, rfl⟩ := x_ret h
      exact x_zret C (x_isc_n hg) dX4_byteAt_23
    · replace h := x_itn hc h
      refine x_aload_n C 0 dX4_byteAt_13 rfl rfl ?_
      refine x_getRq C (k := 0) kX_14 (by decide) rfl x_in4 (by decide) (by decide) rfl rfl wd_244 rfX_14_0 dX4_byteAt_14 ?_
      refine x_iload_n C 1 dX4_byteAt_17 rfl rfl ?_
      obtain ⟨hi1, h⟩ := x_gd_some h
      refine x_cald C kX_15 (x_inl lnX_15 hi1) dX4_byteAt_18 ?_
      refine x_goto C 23 dX4_byteAt_19 rfl ?_
      obtain ⟨hg, h⟩ := x_gd_some h
      obtain ⟨rfl, rfl⟩ := x_ret h
      exact x_zret C (x_isc_n hg) dX4_byteAt_23
abbrev rm_X4_kind : Room := { frames := 1, cells := 0, slots := 0, locals := 21 }
set_option maxHeartbeats 4000000 in
set_option maxRecDepth 100000 in
theorem c_X4_kind (hG : x_OK TX G) {σ τ : x_Hp} {r : Int32} (h : F_X4_kind σ = some (r, τ)) : x_M l TX G yX4_kind cX4_kind 1 (some .int) rm_X4_kind [.ref (x_ad G 14)] σ (some (.int r)) τ := by
  refine x_M.of hG (lv := [(0, .ref (x_ad G 14))]) (by decide) (Nat.le_of_ble_eq_true rfl) rfl (fun p e s m below meth c C => ?_)
  rw [F_X4_kind] at h
  refine x_aload_n C 0 dX4_kind_0 rfl rfl ?_
  refine x_getRq C (k := 2) kX_14 (by decide) rfl x_in4 (by decide) (by decide) rfl rfl wd_247 rfX_14_2 dX4_kind_1 ?_
  refine x_aload_n C 0 dX4_kind_4 rfl rfl ?_
  refine x_getI C (k := 6) kX_14 (by decide) rfl x_in4 (by decide) (by decide) rfl rfl wd_251 dX4_kind_5 ?_
  obtain ⟨v1, σ1, hc1, h⟩ := x_b_some h
  refine x_callSN C (n := 2) (c_X8_at hG kX_16 hc1) nw_718 wd_541 wd_102 wd_542 (by decide +kernel) rfl ⟨Nat.le_of_ble_eq_true rfl, Nat.le_of_ble_eq_true rfl⟩ ⟨rfl, rfl⟩ rfl (Nat.le_of_ble_eq_true rfl) dX4_kind_8 ?_
  obtain ⟨rfl, rfl⟩ := x_ret h
  exact x_iret C dX4_kind_11
abbrev rm_X4_addRow : Room := { frames := 1, cells := 0, slots := 0, locals := 22 }
set_option maxHeartbeats 4000000 in
set_option maxRecDepth 100000 in
theorem w_X4_addRow_54 {τ : x_Hp} (C : x_C p s m args meth c cX4_addRow 5 none yX4_addRow.cls TX G) (σ : x_Hp) (h : F_X4_addRow_54 σ = some ((), τ)) : x_W p l e rm_X4_addRow s m args below meth c (MQ below (x_Q TX G none τ) args s 0 0 (x_A TX G)) TX G 5 54 [(0, .ref (x_ad G 14))] [] σ := by
  have hG : x_OK TX G := C.2.2.2.2.2.2.2.2.1
  rw [F_X4_addRow_54] at h
  refine x_aload_n C 0 dX4_addRow_54 rfl rfl ?_
  refine x_dup C dX4_addRow_55 rfl ?_
  refine x_getI C (k := 5) kX_14 (by decide) rfl x_in4 (by decide) (by decide) rfl rfl wd_250 dX4_addRow_56 ?_
  refine x_iconst C (1 : Int32) dX4_addRow_59 (by decide) ?_
  refine x_iadd C dX4_addRow_60 ?_
  refine x_putI C (k := 5) tyX4 kX_14 (by decide) rfl x_in4 tyX4_ok nmX4 (by decide) (by decide) rfl rfl wd_250 rfl (tyX4_ok 5 (by decide)) rfl rfl dX4_addRow_61 (x_gen h fun σ5 h => ?_)
  obtain ⟨-, rfl⟩ := x_ret h
  exact x_vret C dX4_addRow_64
set_option maxHeartbeats 4000000 in
set_option maxRecDepth 100000 in
theorem c_X4_addRow (hG : x_OK TX G) {x1 : Int32} {y2 : Int64} {x4 : Int32} {σ τ : x_Hp} (h : F_X4_addRow x1 y2 x4 σ = some ((), τ)) : x_M l TX G yX4_addRow cX4_addRow 5 none rm_X4_addRow [.ref (x_ad G 14), .int x1, .long y2, .int x4] σ none τ := by
  refine x_M.of hG (lv := [(0, .ref (x_ad G 14)), (1, .int x1), (2, .long y2), (4, .int x4)]) (by decide) (Nat.le_of_ble_eq_true rfl) rfl (fun p e s m below meth c C => ?_)
  rw [F_X4_addRow] at h
  refine x_aload_n C 0 dX4_addRow_0 rfl rfl ?_
  refine x_getRq C (k := 2) kX_14 (by decide) rfl x_in4 (by decide) (by decide) rfl rfl wd_247 rfX_14_2 dX4_addRow_1 ?_
  refine x_aload_n C 0 dX4_addRow_4 rfl rfl ?_
  refine x_getI C (k := 5) kX_14 (by decide) rfl x_in4 (by decide) (by decide) rfl rfl wd_250 dX4_addRow_5 ?_
  refine x_iload_n C 1 dX4_addRow_8 rfl rfl ?_
  obtain ⟨v1, σ1, hc1, h⟩ := x_b_some h
  refine x_callSN C (n := 3) (c_X8_put hG kX_16 hc1) nw_648 wd_522 wd_102 wd_523 (by decide +kernel) rfl ⟨Nat.le_of_ble_eq_true rfl, Nat.le_of_ble_eq_true rfl⟩ ⟨rfl, rfl⟩ rfl (Nat.le_of_ble_eq_true rfl) dX4_addRow_9 ?_
  refine x_aload_n C 0 dX4_addRow_12 rfl rfl ?_
  refine x_getRq C (k := 4) kX_14 (by decide) rfl x_in4 (by decide) (by decide) rfl rfl wd_249 rfX_14_4 dX4_addRow_13 ?_
  refine x_aload_n C 0 dX4_addRow_16 rfl rfl ?_
  refine x_getI C (k := 5) kX_14 (by decide) rfl x_in4 (by decide) (by decide) rfl rfl wd_250 dX4_addRow_17 ?_
  refine x_iload C 3 dX4_addRow_20 rfl ?_
  obtain ⟨v2, σ2, hc2, h⟩ := x_b_some h
  refine x_callSN C (n := 3) (c_X8_put hG kX_18 hc2) nw_648 wd_522 wd_102 wd_523 (by decide +kernel) rfl ⟨Nat.le_of_ble_eq_true rfl, Nat.le_of_ble_eq_true rfl⟩ ⟨rfl, rfl⟩ rfl (Nat.le_of_ble_eq_true rfl) dX4_addRow_22 ?_
  refine x_aload_n C 0 dX4_addRow_25 rfl rfl ?_
  refine x_getI C (k := 5) kX_14 (by decide) rfl x_in4 (by decide) (by decide) rfl rfl wd_250 dX4_addRow_26 ?_
  refine x_if_lt C 54 dX4_addRow_29 rfl (fun hc => ?_) (fun hc => ?_)
  · replace h := x_itp hc h
    exact x_sub [0] rfl (w_X4_addRow_54 C σ2 h)
  · replace h := x_itn hc h
    refine x_aload_n C 0 dX4_addRow_32 rfl rfl ?_
    refine x_getI C (k := 5) kX_14 (by decide) rfl x_in4 (by decide) (by decide) rfl rfl wd_250 dX4_addRow_33 ?_
    refine x_aload_n C 0 dX4_addRow_36 rfl rfl ?_
    refine x_getRq C (k := 3) kX_14 (by decide) rfl x_in4 (by decide) (by decide) rfl rfl wd_248 rfX_14_3 dX4_addRow_37 ?_
    refine x_alen C (402 : Int32) kX_17 (by decide) (by rw [lnX_17]; rfl) dX4_addRow_40 ?_
    refine x_icmp_ge C 54 dX4_addRow_41 rfl (fun hc => ?_) (fun hc => ?_)
    · replace h := x_itp hc h
      exact x_sub [0] rfl (w_X4_addRow_54 C σ2 h)
    · replace h := x_itn hc h
      refine x_aload_n C 0 dX4_addRow_44 rfl rfl ?_
      refine x_getRq C (k := 3) kX_14 (by decide) rfl x_in4 (by decide) (by decide) rfl rfl wd_248 rfX_14_3 dX4_addRow_45 ?_
      refine x_aload_n C 0 dX4_addRow_48 rfl rfl ?_
      refine x_getI C (k := 5) kX_14 (by decide) rfl x_in4 (by decide) (by decide) rfl rfl wd_250 dX4_addRow_49 ?_
      refine x_lload_n C 2 dX4_addRow_52 rfl rfl ?_
      obtain ⟨hi3, h⟩ := x_gd_some h
      refine x_last C kX_17 (x_inl lnX_17 hi3) dX4_addRow_53 (x_gen h fun σ4 h => ?_)
      exact x_sub [0] rfl (w_X4_addRow_54 C σ4 h)
abbrev rm_X4_nameAt : Room := { frames := 1, cells := 0, slots := 0, locals := 21 }
set_option maxHeartbeats 4000000 in
set_option maxRecDepth 100000 in
theorem w_X4_nameAt_5 {r : Int64} {τ : x_Hp} (C : x_C p s m args meth c cX4_nameAt 6 (some .long) yX4_nameAt.cls TX G) : ∀ (n : Nat) (x2 : Int32) (y3 : Int64) (x5 : Int32) (σ : x_Hp) (h : F_X4_nameAt_5 n x2 y3 x5 σ = some (r, τ)), x_W p l e rm_X4_nameAt s m args below meth c (MQ below (x_Q TX G (some (.long r)) τ) args s 0 0 (x_A TX G)) TX G 6 5 [(0, .ref (x_ad G 14)), (2, .int x2), (3, .long y3), (5, .int x5)] [] σ := by
  intro n
  induction n with
  | zero => intro x2 y3 x5 σ  h; cases h
  | succ n ih =>
    intro x2 y3 x5 σ  h
    have hG : x_OK TX G := C.2.2.2.2.2.2.2.2.1
    rw [F_X4_nameAt_5] at h
    refine x_iload C 3 dX4_nameAt_5 rfl ?_
    refine x_iload_n C 1 dX4_nameAt_7 rfl rfl ?_
    refine x_icmp_ge C 36 dX4_nameAt_8 rfl (fun hc => ?_) (fun hc => ?_)
    · replace h := x_itp hc h
      refine x_lload_n C 2 dX4_nameAt_36 rfl rfl ?_
      obtain ⟨rfl, rfl⟩ := x_ret h
      exact x_lret C dX4_nameAt_37
    · replace h := x_itn hc h
      refine x_lload_n C 2 dX4_nameAt_11 rfl rfl ?_
      refine x_ldc2 C wd_706 dX4_nameAt_12 ?_
      refine x_lmul C dX4_nameAt_15 ?_
      refine x_aload_n C 0 dX4_nameAt_16 rfl rfl ?_
      refine x_iload C 3 dX4_nameAt_17 rfl ?_
      obtain ⟨v1, σ1, hc1, h⟩ := x_b_some h
      refine x_callV C (n := 1) (c_X4_byteAt hG hc1) kX_14 (by decide) rfl wd_619 wd_621 wd_3 wd_105 wd_622 (by decide +kernel) rfl ⟨Nat.le_of_ble_eq_true rfl, Nat.le_of_ble_eq_true rfl⟩ ⟨rfl, rfl⟩ rfl (Nat.le_of_ble_eq_true rfl) dX4_nameAt_19 ?_
      refine x_bipush C (97 : Int32) dX4_nameAt_22 (by decide) ?_
      refine x_isub C dX4_nameAt_24 ?_
      refine x_iconst C (1 : Int32) dX4_nameAt_25 (by decide) ?_
      refine x_iadd C dX4_nameAt_26 ?_
      refine x_i2l C dX4_nameAt_27 ?_
      refine x_ladd C dX4_nameAt_28 ?_
      refine x_lstore_n C [(3, .long ((y3 * (27 : Int64)) + (((v1 - (97 : Int32)) + (1 : Int32)).toInt64))), (0, .ref (x_ad G 14)), (2, .int x2), (5, .int x5)] dX4_nameAt_29 rfl (by decide) rfl ?_
      refine x_iinc C 3 (x5 + (1 : Int32)) [(5, .int (x5 + (1 : Int32))), (3, .long ((y3 * (27 : Int64)) + (((v1 - (97 : Int32)) + (1 : Int32)).toInt64))), (0, .ref (x_ad G 14)), (2, .int x2)] dX4_nameAt_30 rfl rfl (by decide) rfl ?_
      refine x_goto C 5 dX4_nameAt_33 rfl ?_
      exact x_sub [2, 3, 1, 0] rfl (ih x2 ((y3 * (27 : Int64)) + (((v1 - (97 : Int32)) + (1 : Int32)).toInt64)) (x5 + (1 : Int32)) σ1 h)
set_option maxHeartbeats 4000000 in
set_option maxRecDepth 100000 in
theorem c_X4_nameAt (hG : x_OK TX G) {x1 : Int32} {x2 : Int32} {σ τ : x_Hp} {r : Int64} (h : F_X4_nameAt x1 x2 σ = some (r, τ)) : x_M l TX G yX4_nameAt cX4_nameAt 6 (some .long) rm_X4_nameAt [.ref (x_ad G 14), .int x1, .int x2] σ (some (.long r)) τ := by
  refine x_M.of hG (lv := [(0, .ref (x_ad G 14)), (1, .int x1), (2, .int x2)]) (by decide) (Nat.le_of_ble_eq_true rfl) rfl (fun p e s m below meth c C => ?_)
  rw [F_X4_nameAt] at h
  refine x_lconst C (0 : Int64) dX4_nameAt_0 (by decide) ?_
  refine x_lstore_n C [(3, .long (0 : Int64)), (0, .ref (x_ad G 14)), (1, .int x1), (2, .int x2)] dX4_nameAt_1 rfl (by decide) rfl ?_
  refine x_iload_n C 2 dX4_nameAt_2 rfl rfl ?_
  refine x_istore C [(5, .int x1), (3, .long (0 : Int64)), (0, .ref (x_ad G 14)), (1, .int x1), (2, .int x2)] dX4_nameAt_3 (by decide) rfl ?_
  exact x_sub [2, 4, 1, 0] rfl (w_X4_nameAt_5 C x_fuel x2 (0 : Int64) x1 σ h)
abbrev rm_X4_wordAt : Room := { frames := 4, cells := 0, slots := 0, locals := 85 }
set_option maxHeartbeats 4000000 in
set_option maxRecDepth 100000 in
theorem w_X4_wordAt_98 {r : Int32} {τ : x_Hp} (C : x_C p s m args meth c cX4_wordAt 8 (some .int) yX4_wordAt.cls TX G) {k2 : Int32 → Int32 → Int32 → x_Hp → Option (Int32 × x_Hp)} (hk2 : ∀ (x1 : Int32) (x2 : Int32) (x3 : Int32) (σ : x_Hp) (h : k2 x1 x2 x3 σ = some (r, τ)), x_W p l e rm_X4_wordAt s m args below meth c (MQ below (x_Q TX G (some (.int r)) τ) args s 0 0 (x_A TX G)) TX G 8 2 [(0, .ref (x_ad G 14)), (1, .int x1), (2, .int x2), (3, .int x3)] [] σ) (x1 : Int32) (x2 : Int32) (x3 : Int32) (x4 : Int32) (σ : x_Hp) (h : F_X4_wordAt_98 k2 x1 x2 x3 x4 σ = some (r, τ)) : x_W p l e rm_X4_wordAt s m args below meth c (MQ below (x_Q TX G (some (.int r)) τ) args s 0 0 (x_A TX G)) TX G 8 98 [(0, .ref (x_ad G 14)), (1, .int x1), (2, .int x2), (3, .int x3), (4, .int x4)] [] σ := by
  have hG : x_OK TX G := C.2.2.2.2.2.2.2.2.1
  rw [F_X4_wordAt_98] at h
  refine x_iload C 4 dX4_wordAt_98 rfl ?_
  refine x_if_eq C 105 dX4_wordAt_100 rfl (fun hc => ?_) (fun hc => ?_)
  · replace h := x_itp hc h
    refine x_iinc C 3 (x3 + (1 : Int32)) [(3, .int (x3 + (1 : Int32))), (0, .ref (x_ad G 14)), (1, .int x1), (2, .int x2), (4, .int x4)] dX4_wordAt_105 rfl rfl (by decide) rfl ?_
    refine x_goto C 2 dX4_wordAt_108 rfl ?_
    exact x_sub [1, 2, 3, 0] rfl (hk2 x1 x2 (x3 + (1 : Int32)) σ h)
  · replace h := x_itn hc h
    refine x_iload_n C 3 dX4_wordAt_103 rfl rfl ?_
    obtain ⟨rfl, rfl⟩ := x_ret h
    exact x_iret C dX4_wordAt_104
set_option maxHeartbeats 4000000 in
set_option maxRecDepth 100000 in
theorem w_X4_wordAt_90 {r : Int32} {τ : x_Hp} (C : x_C p s m args meth c cX4_wordAt 8 (some .int) yX4_wordAt.cls TX G) {k2 : Int32 → Int32 → Int32 → x_Hp → Option (Int32 × x_Hp)} (hk2 : ∀ (x1 : Int32) (x2 : Int32) (x3 : Int32) (σ : x_Hp) (h : k2 x1 x2 x3 σ = some (r, τ)), x_W p l e rm_X4_wordAt s m args below meth c (MQ below (x_Q TX G (some (.int r)) τ) args s 0 0 (x_A TX G)) TX G 8 2 [(0, .ref (x_ad G 14)), (1, .int x1), (2, .int x2), (3, .int x3)] [] σ) {k14 : Int32 → Int32 → Int32 → Int32 → Int32 → x_Hp → Option (Int32 × x_Hp)} (hk14 : ∀ (x1 : Int32) (x2 : Int32) (x3 : Int32) (x4 : Int32) (x5 : Int32) (σ : x_Hp) (h : k14 x1 x2 x3 x4 x5 σ = some (r, τ)), x_W p l e rm_X4_wordAt s m args below meth c (MQ below (x_Q TX G (some (.int r)) τ) args s 0 0 (x_A TX G)) TX G 8 14 [(0, .ref (x_ad G 14)), (1, .int x1), (2, .int x2), (3, .int x3), (4, .int x4), (5, .int x5)] [] σ) (x1 : Int32) (x2 : Int32) (x3 : Int32) (x5 : Int32) (s0 : Int32) (σ : x_Hp) (h : F_X4_wordAt_90 k2 k14 x1 x2 x3 x5 s0 σ = some (r, τ)) : x_W p l e rm_X4_wordAt s m args below meth c (MQ below (x_Q TX G (some (.int r)) τ) args s 0 0 (x_A TX G)) TX G 8 90 [(0, .ref (x_ad G 14)), (1, .int x1), (2, .int x2), (3, .int x3), (5, .int x5)] [.int s0] σ := by
  have hG : x_OK TX G := C.2.2.2.2.2.2.2.2.1
  rw [F_X4_wordAt_90] at h
  refine x_istore C [(4, .int s0), (0, .ref (x_ad G 14)), (1, .int x1), (2, .int x2), (3, .int x3), (5, .int x5)] dX4_wordAt_90 (by decide) rfl ?_
  refine x_iinc C 5 (x5 + (1 : Int32)) [(5, .int (x5 + (1 : Int32))), (4, .int s0), (0, .ref (x_ad G 14)), (1, .int x1), (2, .int x2), (3, .int x3)] dX4_wordAt_92 rfl rfl (by decide) rfl ?_
  refine x_goto C 14 dX4_wordAt_95 rfl ?_
  exact x_sub [2, 3, 4, 5, 1, 0] rfl (hk14 x1 x2 x3 s0 (x5 + (1 : Int32)) σ h)
set_option maxHeartbeats 4000000 in
set_option maxRecDepth 100000 in
theorem w_X4_wordAt_89 {r : Int32} {τ : x_Hp} (C : x_C p s m args meth c cX4_wordAt 8 (some .int) yX4_wordAt.cls TX G) {k2 : Int32 → Int32 → Int32 → x_Hp → Option (Int32 × x_Hp)} (hk2 : ∀ (x1 : Int32) (x2 : Int32) (x3 : Int32) (σ : x_Hp) (h : k2 x1 x2 x3 σ = some (r, τ)), x_W p l e rm_X4_wordAt s m args below meth c (MQ below (x_Q TX G (some (.int r)) τ) args s 0 0 (x_A TX G)) TX G 8 2 [(0, .ref (x_ad G 14)), (1, .int x1), (2, .int x2), (3, .int x3)] [] σ) {k14 : Int32 → Int32 → Int32 → Int32 → Int32 → x_Hp → Option (Int32 × x_Hp)} (hk14 : ∀ (x1 : Int32) (x2 : Int32) (x3 : Int32) (x4 : Int32) (x5 : Int32) (σ : x_Hp) (h : k14 x1 x2 x3 x4 x5 σ = some (r, τ)), x_W p l e rm_X4_wordAt s m args below meth c (MQ below (x_Q TX G (some (.int r)) τ) args s 0 0 (x_A TX G)) TX G 8 14 [(0, .ref (x_ad G 14)), (1, .int x1), (2, .int x2), (3, .int x3), (4, .int x4), (5, .int x5)] [] σ) (x1 : Int32) (x2 : Int32) (x3 : Int32) (x5 : Int32) (σ : x_Hp) (h : F_X4_wordAt_89 k2 k14 x1 x2 x3 x5 σ = some (r, τ)) : x_W p l e rm_X4_wordAt s m args below meth c (MQ below (x_Q TX G (some (.int r)) τ) args s 0 0 (x_A TX G)) TX G 8 89 [(0, .ref (x_ad G 14)), (1, .int x1), (2, .int x2), (3, .int x3), (5, .int x5)] [] σ := by
  have hG : x_OK TX G := C.2.2.2.2.2.2.2.2.1
  rw [F_X4_wordAt_89] at h
  refine x_iconst C (0 : Int32) dX4_wordAt_89 (by decide) ?_
  exact x_sub [0, 1, 2, 3, 4] rfl (w_X4_wordAt_90 C hk2 hk14 x1 x2 x3 x5 (0 : Int32) σ h)
set_option maxHeartbeats 4000000 in
set_option maxRecDepth 100000 in
theorem w_X4_wordAt_56 {r : Int32} {τ : x_Hp} (C : x_C p s m args meth c cX4_wordAt 8 (some .int) yX4_wordAt.cls TX G) {k2 : Int32 → Int32 → Int32 → x_Hp → Option (Int32 × x_Hp)} (hk2 : ∀ (x1 : Int32) (x2 : Int32) (x3 : Int32) (σ : x_Hp) (h : k2 x1 x2 x3 σ = some (r, τ)), x_W p l e rm_X4_wordAt s m args below meth c (MQ below (x_Q TX G (some (.int r)) τ) args s 0 0 (x_A TX G)) TX G 8 2 [(0, .ref (x_ad G 14)), (1, .int x1), (2, .int x2), (3, .int x3)] [] σ) {k14 : Int32 → Int32 → Int32 → Int32 → Int32 → x_Hp → Option (Int32 × x_Hp)} (hk14 : ∀ (x1 : Int32) (x2 : Int32) (x3 : Int32) (x4 : Int32) (x5 : Int32) (σ : x_Hp) (h : k14 x1 x2 x3 x4 x5 σ = some (r, τ)), x_W p l e rm_X4_wordAt s m args below meth c (MQ below (x_Q TX G (some (.int r)) τ) args s 0 0 (x_A TX G)) TX G 8 14 [(0, .ref (x_ad G 14)), (1, .int x1), (2, .int x2), (3, .int x3), (4, .int x4), (5, .int x5)] [] σ) (x1 : Int32) (x2 : Int32) (x3 : Int32) (x5 : Int32) (x6 : Int32) (s0 : Int32) (σ : x_Hp) (h : F_X4_wordAt_56 k2 k14 x1 x2 x3 x5 x6 s0 σ = some (r, τ)) : x_W p l e rm_X4_wordAt s m args below meth c (MQ below (x_Q TX G (some (.int r)) τ) args s 0 0 (x_A TX G)) TX G 8 56 [(0, .ref (x_ad G 14)), (1, .int x1), (2, .int x2), (3, .int x3), (5, .int x5), (6, .int x6)] [.int s0] σ := by
  have hG : x_OK TX G := C.2.2.2.2.2.2.2.2.1
  rw [F_X4_wordAt_56] at h
  refine x_istore C [(7, .int s0), (0, .ref (x_ad G 14)), (1, .int x1), (2, .int x2), (3, .int x3), (5, .int x5), (6, .int x6)] dX4_wordAt_56 (by decide) rfl ?_
  refine x_iload C 6 dX4_wordAt_58 rfl ?_
  refine x_if_lt C 89 dX4_wordAt_60 rfl (fun hc => ?_) (fun hc => ?_)
  · replace h := x_itp hc h
    exact x_sub [1, 2, 3, 4, 5] rfl (w_X4_wordAt_89 C hk2 hk14 x1 x2 x3 x5 σ h)
  · replace h := x_itn hc h
    refine x_iload C 6 dX4_wordAt_63 rfl ?_
    refine x_strLen C ⟨Nat.le_of_ble_eq_true rfl, Nat.le_of_ble_eq_true rfl⟩ (Nat.le_of_ble_eq_true rfl) dX4_wordAt_65 dX4_wordAt_67 ?_
    refine x_icmp_ge C 89 dX4_wordAt_70 rfl (fun hc => ?_) (fun hc => ?_)
    · replace h := x_itp hc h
      exact x_sub [1, 2, 3, 4, 5] rfl (w_X4_wordAt_89 C hk2 hk14 x1 x2 x3 x5 σ h)
    · replace h := x_itn hc h
      obtain ⟨hi, h⟩ := x_gd_some h
      refine x_strChar C ⟨Nat.le_of_ble_eq_true rfl, Nat.le_of_ble_eq_true rfl⟩ (Nat.le_of_ble_eq_true rfl) 6 rfl hi dX4_wordAt_73 dX4_wordAt_75 dX4_wordAt_77 ?_
      refine x_iload C 0 dX4_wordAt_80 rfl ?_
      refine x_icmp_ne C 89 dX4_wordAt_82 rfl (fun hc => ?_) (fun hc => ?_)
      · replace h := x_itn hc h
        exact x_sub [1, 2, 3, 4, 5] rfl (w_X4_wordAt_89 C hk2 hk14 x1 x2 x3 x5 σ h)
      · replace h := x_itp hc h
        refine x_iconst C (1 : Int32) dX4_wordAt_85 (by decide) ?_
        refine x_goto C 90 dX4_wordAt_86 rfl ?_
        exact x_sub [1, 2, 3, 4, 5] rfl (w_X4_wordAt_90 C hk2 hk14 x1 x2 x3 x5 (1 : Int32) σ h)
set_option maxHeartbeats 4000000 in
set_option maxRecDepth 100000 in
theorem w_X4_wordAt_14 {r : Int32} {τ : x_Hp} (C : x_C p s m args meth c cX4_wordAt 8 (some .int) yX4_wordAt.cls TX G) {k2 : Int32 → Int32 → Int32 → x_Hp → Option (Int32 × x_Hp)} (hk2 : ∀ (x1 : Int32) (x2 : Int32) (x3 : Int32) (σ : x_Hp) (h : k2 x1 x2 x3 σ = some (r, τ)), x_W p l e rm_X4_wordAt s m args below meth c (MQ below (x_Q TX G (some (.int r)) τ) args s 0 0 (x_A TX G)) TX G 8 2 [(0, .ref (x_ad G 14)), (1, .int x1), (2, .int x2), (3, .int x3)] [] σ) : ∀ (n : Nat) (x1 : Int32) (x2 : Int32) (x3 : Int32) (x4 : Int32) (x5 : Int32) (σ : x_Hp) (h : F_X4_wordAt_14 k2 n x1 x2 x3 x4 x5 σ = some (r, τ)), x_W p l e rm_X4_wordAt s m args below meth c (MQ below (x_Q TX G (some (.int r)) τ) args s 0 0 (x_A TX G)) TX G 8 14 [(0, .ref (x_ad G 14)), (1, .int x1), (2, .int x2), (3, .int x3), (4, .int x4), (5, .int x5)] [] σ := by
  intro n
  induction n with
  | zero => intro x1 x2 x3 x4 x5 σ  h; cases h
  | succ n ih =>
    intro x1 x2 x3 x4 x5 σ  h
    have hG : x_OK TX G := C.2.2.2.2.2.2.2.2.1
    rw [F_X4_wordAt_14] at h
    refine x_iload C 5 dX4_wordAt_14 rfl ?_
    refine x_bipush C (8 : Int32) dX4_wordAt_16 (by decide) ?_
    refine x_icmp_ge C 98 dX4_wordAt_18 rfl (fun hc => ?_) (fun hc => ?_)
    · replace h := x_itp hc h
      exact x_sub [0, 1, 2, 3, 4] rfl (w_X4_wordAt_98 C hk2 x1 x2 x3 x4 σ h)
    · replace h := x_itn hc h
      refine x_iload C 4 dX4_wordAt_21 rfl ?_
      refine x_if_eq C 98 dX4_wordAt_23 rfl (fun hc => ?_) (fun hc => ?_)
      · replace h := x_itp hc h
        exact x_sub [0, 1, 2, 3, 4] rfl (w_X4_wordAt_98 C hk2 x1 x2 x3 x4 σ h)
      · replace h := x_itn hc h
        refine x_iload_n C 3 dX4_wordAt_26 rfl rfl ?_
        refine x_bipush C (8 : Int32) dX4_wordAt_27 (by decide) ?_
        refine x_imul C dX4_wordAt_29 ?_
        refine x_iload C 5 dX4_wordAt_30 rfl ?_
        refine x_iadd C dX4_wordAt_32 ?_
        refine x_istore C [(6, .int ((x3 * (8 : Int32)) + x5)), (0, .ref (x_ad G 14)), (1, .int x1), (2, .int x2), (3, .int x3), (4, .int x4), (5, .int x5)] dX4_wordAt_33 (by decide) rfl ?_
        refine x_iload_n C 2 dX4_wordAt_35 rfl rfl ?_
        refine x_iload C 6 dX4_wordAt_36 rfl ?_
        refine x_iadd C dX4_wordAt_38 ?_
        refine x_iload_n C 3 dX4_wordAt_39 rfl rfl ?_
        refine x_icmp_ge C 54 dX4_wordAt_40 rfl (fun hc => ?_) (fun hc => ?_)
        · replace h := x_itp hc h
          refine x_bipush C (32 : Int32) dX4_wordAt_54 (by decide) ?_
          exact x_sub [1, 2, 3, 4, 6, 0] rfl (w_X4_wordAt_56 C hk2 ih x1 x2 x3 x5 ((x3 * (8 : Int32)) + x5) (32 : Int32) σ h)
        · replace h := x_itn hc h
          refine x_aload_n C 1 dX4_wordAt_43 rfl rfl ?_
          refine x_iload_n C 2 dX4_wordAt_44 rfl rfl ?_
          refine x_iload C 6 dX4_wordAt_45 rfl ?_
          refine x_iadd C dX4_wordAt_47 ?_
          obtain ⟨v1, σ1, hc1, h⟩ := x_b_some h
          refine x_callV C (n := 1) (c_X4_byteAt hG hc1) kX_14 (by decide) rfl wd_619 wd_621 wd_3 wd_105 wd_622 (by decide +kernel) rfl ⟨Nat.le_of_ble_eq_true rfl, Nat.le_of_ble_eq_true rfl⟩ ⟨rfl, rfl⟩ rfl (Nat.le_of_ble_eq_true rfl) dX4_wordAt_48 ?_
          refine x_goto C 56 dX4_wordAt_51 rfl ?_
          exact x_sub [1, 2, 3, 4, 6, 0] rfl (w_X4_wordAt_56 C hk2 ih x1 x2 x3 x5 ((x3 * (8 : Int32)) + x5) v1 σ1 h)
set_option maxHeartbeats 4000000 in
set_option maxRecDepth 100000 in
theorem w_X4_wordAt_2 {r : Int32} {τ : x_Hp} (C : x_C p s m args meth c cX4_wordAt 8 (some .int) yX4_wordAt.cls TX G) : ∀ (n : Nat) (x1 : Int32) (x2 : Int32) (x3 : Int32) (σ : x_Hp) (h : F_X4_wordAt_2 n x1 x2 x3 σ = some (r, τ)), x_W p l e rm_X4_wordAt s m args below meth c (MQ below (x_Q TX G (some (.int r)) τ) args s 0 0 (x_A TX G)) TX G 8 2 [(0, .ref (x_ad G 14)), (1, .int x1), (2, .int x2), (3, .int x3)] [] σ := by
  intro n
  induction n with
  | zero => intro x1 x2 x3 σ  h; cases h
  | succ n ih =>
    intro x1 x2 x3 σ  h
    have hG : x_OK TX G := C.2.2.2.2.2.2.2.2.1
    rw [F_X4_wordAt_2] at h
    refine x_iload_n C 3 dX4_wordAt_2 rfl rfl ?_
    refine x_bipush C (24 : Int32) dX4_wordAt_3 (by decide) ?_
    refine x_icmp_gt C 111 dX4_wordAt_5 rfl (fun hc => ?_) (fun hc => ?_)
    · replace h := x_itp hc h
      refine x_iconst C (-1 : Int32) dX4_wordAt_111 (by decide) ?_
      obtain ⟨rfl, rfl⟩ := x_ret h
      exact x_iret C dX4_wordAt_112
    · replace h := x_itn hc h
      refine x_iconst C (1 : Int32) dX4_wordAt_8 (by decide) ?_
      refine x_istore C [(4, .int (1 : Int32)), (0, .ref (x_ad G 14)), (1, .int x1), (2, .int x2), (3, .int x3)] dX4_wordAt_9 (by decide) rfl ?_
      refine x_iconst C (0 : Int32) dX4_wordAt_11 (by decide) ?_
      refine x_istore C [(5, .int (0 : Int32)), (4, .int (1 : Int32)), (0, .ref (x_ad G 14)), (1, .int x1), (2, .int x2), (3, .int x3)] dX4_wordAt_12 (by decide) rfl ?_
      exact x_sub [2, 3, 4, 5, 1, 0] rfl (w_X4_wordAt_14 C ih x_fuel x1 x2 x3 (1 : Int32) (0 : Int32) σ h)
set_option maxHeartbeats 4000000 in
set_option maxRecDepth 100000 in
theorem c_X4_wordAt (hG : x_OK TX G) {x1 : Int32} {x2 : Int32} {σ τ : x_Hp} {r : Int32} (h : F_X4_wordAt x1 x2 σ = some (r, τ)) : x_M l TX G yX4_wordAt cX4_wordAt 8 (some .int) rm_X4_wordAt [.ref (x_ad G 14), .int x1, .int x2] σ (some (.int r)) τ := by
  refine x_M.of hG (lv := [(0, .ref (x_ad G 14)), (1, .int x1), (2, .int x2)]) (by decide) (Nat.le_of_ble_eq_true rfl) rfl (fun p e s m below meth c C => ?_)
  rw [F_X4_wordAt] at h
  refine x_iconst C (0 : Int32) dX4_wordAt_0 (by decide) ?_
  refine x_istore_n C [(3, .int (0 : Int32)), (0, .ref (x_ad G 14)), (1, .int x1), (2, .int x2)] dX4_wordAt_1 rfl (by decide) rfl ?_
  exact x_sub [1, 2, 3, 0] rfl (w_X4_wordAt_2 C x_fuel x1 x2 (0 : Int32) σ h)
abbrev rm_X4_addWord : Room := { frames := 5, cells := 0, slots := 0, locals := 112 }
set_option maxHeartbeats 4000000 in
set_option maxRecDepth 100000 in
theorem w_X4_addWord_36 {τ : x_Hp} (C : x_C p s m args meth c cX4_addWord 4 none yX4_addWord.cls TX G) (x1 : Int32) (x2 : Int32) (s0 : Int32) (σ : x_Hp) (h : F_X4_addWord_36 x1 x2 s0 σ = some ((), τ)) : x_W p l e rm_X4_addWord s m args below meth c (MQ below (x_Q TX G none τ) args s 0 0 (x_A TX G)) TX G 4 36 [(0, .ref (x_ad G 14)), (1, .int x1), (2, .int x2)] [.int s0, .ref (x_ad G 14)] σ := by
  have hG : x_OK TX G := C.2.2.2.2.2.2.2.2.1
  rw [F_X4_addWord_36] at h
  refine x_aload_n C 0 dX4_addWord_36 rfl rfl ?_
  refine x_iload_n C 1 dX4_addWord_37 rfl rfl ?_
  refine x_iload_n C 2 dX4_addWord_38 rfl rfl ?_
  obtain ⟨v3, σ3, hc3, h⟩ := x_b_some h
  refine x_callV C (n := 2) (c_X4_nameAt hG hc3) kX_14 (by decide) rfl wd_702 wd_704 wd_9 wd_105 wd_705 (by decide +kernel) rfl ⟨Nat.le_of_ble_eq_true rfl, Nat.le_of_ble_eq_true rfl⟩ ⟨rfl, rfl⟩ rfl (Nat.le_of_ble_eq_true rfl) dX4_addWord_39 ?_
  refine x_iload_n C 1 dX4_addWord_42 rfl rfl ?_
  obtain ⟨v4, σ4, hc4, h⟩ := x_b_some h
  refine x_callV C (n := 3) (c_X4_addRow hG hc4) kX_14 (by decide) rfl wd_644 wd_646 wd_7 wd_105 wd_647 (by decide +kernel) rfl ⟨Nat.le_of_ble_eq_true rfl, Nat.le_of_ble_eq_true rfl⟩ ⟨rfl, rfl⟩ rfl (Nat.le_of_ble_eq_true rfl) dX4_addWord_43 ?_
  obtain ⟨-, rfl⟩ := x_ret h
  exact x_vret C dX4_addWord_46
set_option maxHeartbeats 4000000 in
set_option maxRecDepth 100000 in
theorem c_X4_addWord (hG : x_OK TX G) {x1 : Int32} {x2 : Int32} {σ τ : x_Hp} (h : F_X4_addWord x1 x2 σ = some ((), τ)) : x_M l TX G yX4_addWord cX4_addWord 4 none rm_X4_addWord [.ref (x_ad G 14), .int x1, .int x2] σ none τ := by
  refine x_M.of hG (lv := [(0, .ref (x_ad G 14)), (1, .int x1), (2, .int x2)]) (by decide) (Nat.le_of_ble_eq_true rfl) rfl (fun p e s m below meth c C => ?_)
  rw [F_X4_addWord] at h
  refine x_iload_n C 2 dX4_addWord_0 rfl rfl ?_
  refine x_iload_n C 1 dX4_addWord_1 rfl rfl ?_
  refine x_isub C dX4_addWord_2 ?_
  refine x_bipush C (8 : Int32) dX4_addWord_3 (by decide) ?_
  refine x_icmp_le C 17 dX4_addWord_5 rfl (fun hc => ?_) (fun hc => ?_)
  · replace h := x_itp hc h
    refine x_aload_n C 0 dX4_addWord_17 rfl rfl ?_
    refine x_iload_n C 1 dX4_addWord_18 rfl rfl ?_
    refine x_iload_n C 2 dX4_addWord_19 rfl rfl ?_
    obtain ⟨v1, σ1, hc1, h⟩ := x_b_some h
    refine x_callV C (n := 2) (c_X4_wordAt hG hc1) kX_14 (by decide) rfl wd_649 wd_651 wd_8 wd_105 wd_652 (by decide +kernel) rfl ⟨Nat.le_of_ble_eq_true rfl, Nat.le_of_ble_eq_true rfl⟩ ⟨rfl, rfl⟩ rfl (Nat.le_of_ble_eq_true rfl) dX4_addWord_20 ?_
    refine x_istore_n C [(3, .int v1), (0, .ref (x_ad G 14)), (1, .int x1), (2, .int x2)] dX4_addWord_23 rfl (by decide) rfl ?_
    refine x_aload_n C 1 dX4_addWord_24 rfl rfl ?_
    refine x_iload_n C 0 dX4_addWord_25 rfl rfl ?_
    refine x_iconst C (-1 : Int32) dX4_addWord_26 (by decide) ?_
    refine x_icmp_ne C 35 dX4_addWord_27 rfl (fun hc => ?_) (fun hc => ?_)
    · replace h := x_itn hc h
      refine x_iload_n C 0 dX4_addWord_35 rfl rfl ?_
      exact x_sub [1, 2, 3] rfl (w_X4_addWord_36 C x1 x2 v1 σ1 h)
    · replace h := x_itp hc h
      refine x_bipush C (30 : Int32) dX4_addWord_30 (by decide) ?_
      refine x_goto C 36 dX4_addWord_32 rfl ?_
      exact x_sub [1, 2, 3] rfl (w_X4_addWord_36 C x1 x2 (30 : Int32) σ1 h)
  · replace h := x_itn hc h
    refine x_aload_n C 0 dX4_addWord_8 rfl rfl ?_
    refine x_bipush C (33 : Int32) dX4_addWord_9 (by decide) ?_
    refine x_lconst C (0 : Int64) dX4_addWord_11 (by decide) ?_
    refine x_iload_n C 1 dX4_addWord_12 rfl rfl ?_
    obtain ⟨v2, σ2, hc2, h⟩ := x_b_some h
    refine x_callV C (n := 3) (c_X4_addRow hG hc2) kX_14 (by decide) rfl wd_644 wd_646 wd_7 wd_105 wd_647 (by decide +kernel) rfl ⟨Nat.le_of_ble_eq_true rfl, Nat.le_of_ble_eq_true rfl⟩ ⟨rfl, rfl⟩ rfl (Nat.le_of_ble_eq_true rfl) dX4_addWord_13 ?_
    obtain ⟨-, rfl⟩ := x_ret h
    exact x_vret C dX4_addWord_16
abbrev rm_X4_isDigit : Room := { frames := 0, cells := 0, slots := 0, locals := 0 }
set_option maxHeartbeats 4000000 in
set_option maxRecDepth 100000 in
theorem c_X4_isDigit (hG : x_OK TX G) {x0 : Int32} {σ τ : x_Hp} {r : Int32} (h : F_X4_isDigit x0 σ = some (r, τ)) : x_M l TX G yX4_isDigit cX4_isDigit 1 (some .boolean) rm_X4_isDigit [.int x0] σ (some (.int r)) τ := by
  refine x_M.of hG (lv := [(0, .int x0)]) (by decide) (Nat.le_of_ble_eq_true rfl) rfl (fun p e s m below meth c C => ?_)
  rw [F_X4_isDigit] at h
  refine x_iload_n C 0 dX4_isDigit_0 rfl rfl ?_
  refine x_bipush C (48 : Int32) dX4_isDigit_1 (by decide) ?_
  refine x_icmp_lt C 16 dX4_isDigit_3 rfl (fun hc => ?_) (fun hc => ?_)
  · replace h := x_itp hc h
    refine x_iconst C (0 : Int32) dX4_isDigit_16 (by decide) ?_
    obtain ⟨rfl, rfl⟩ := x_ret h
    exact x_zret C rfl dX4_isDigit_17
  · replace h := x_itn hc h
    refine x_iload_n C 0 dX4_isDigit_6 rfl rfl ?_
    refine x_bipush C (57 : Int32) dX4_isDigit_7 (by decide) ?_
    refine x_icmp_gt C 16 dX4_isDigit_9 rfl (fun hc => ?_) (fun hc => ?_)
    · replace h := x_itp hc h
      refine x_iconst C (0 : Int32) dX4_isDigit_16 (by decide) ?_
      obtain ⟨rfl, rfl⟩ := x_ret h
      exact x_zret C rfl dX4_isDigit_17
    · replace h := x_itn hc h
      refine x_iconst C (1 : Int32) dX4_isDigit_12 (by decide) ?_
      refine x_goto C 17 dX4_isDigit_13 rfl ?_
      obtain ⟨rfl, rfl⟩ := x_ret h
      exact x_zret C rfl dX4_isDigit_17
abbrev rm_X4_isLetter : Room := { frames := 0, cells := 0, slots := 0, locals := 0 }
set_option maxHeartbeats 4000000 in
set_option maxRecDepth 100000 in
theorem c_X4_isLetter (hG : x_OK TX G) {x0 : Int32} {σ τ : x_Hp} {r : Int32} (h : F_X4_isLetter x0 σ = some (r, τ)) : x_M l TX G yX4_isLetter cX4_isLetter 1 (some .boolean) rm_X4_isLetter [.int x0] σ (some (.int r)) τ := by
  refine x_M.of hG (lv := [(0, .int x0)]) (by decide) (Nat.le_of_ble_eq_true rfl) rfl (fun p e s m below meth c C => ?_)
  rw [F_X4_isLetter] at h
  refine x_iload_n C 0 dX4_isLetter_0 rfl rfl ?_
  refine x_bipush C (97 : Int32) dX4_isLetter_1 (by decide) ?_
  refine x_icmp_lt C 16 dX4_isLetter_3 rfl (fun hc => ?_) (fun hc => ?_)
  · replace h := x_itp hc h
    refine x_iconst C (0 : Int32) dX4_isLetter_16 (by decide) ?_
    obtain ⟨rfl, rfl⟩ := x_ret h
    exact x_zret C rfl dX4_isLetter_17
  · replace h := x_itn hc h
    refine x_iload_n C 0 dX4_isLetter_6 rfl rfl ?_
    refine x_bipush C (122 : Int32) dX4_isLetter_7 (by decide) ?_
    refine x_icmp_gt C 16 dX4_isLetter_9 rfl (fun hc => ?_) (fun hc => ?_)
    · replace h := x_itp hc h
      refine x_iconst C (0 : Int32) dX4_isLetter_16 (by decide) ?_
      obtain ⟨rfl, rfl⟩ := x_ret h
      exact x_zret C rfl dX4_isLetter_17
    · replace h := x_itn hc h
      refine x_iconst C (1 : Int32) dX4_isLetter_12 (by decide) ?_
      refine x_goto C 17 dX4_isLetter_13 rfl ?_
      obtain ⟨rfl, rfl⟩ := x_ret h
      exact x_zret C rfl dX4_isLetter_17
abbrev rm_X4_isSign : Room := { frames := 0, cells := 0, slots := 0, locals := 0 }
set_option maxHeartbeats 4000000 in
set_option maxRecDepth 100000 in
theorem c_X4_isSign (hG : x_OK TX G) {x0 : Int32} {σ τ : x_Hp} {r : Int32} (h : F_X4_isSign x0 σ = some (r, τ)) : x_M l TX G yX4_isSign cX4_isSign 1 (some .boolean) rm_X4_isSign [.int x0] σ (some (.int r)) τ := by
  refine x_M.of hG (lv := [(0, .int x0)]) (by decide) (Nat.le_of_ble_eq_true rfl) rfl (fun p e s m below meth c C => ?_)
  rw [F_X4_isSign] at h
  refine x_iload_n C 0 dX4_isSign_0 rfl rfl ?_
  refine x_bipush C (43 : Int32) dX4_isSign_1 (by decide) ?_
  refine x_icmp_eq C 24 dX4_isSign_3 rfl (fun hc => ?_) (fun hc => ?_)
  · replace h := x_itp hc h
    refine x_iconst C (1 : Int32) dX4_isSign_24 (by decide) ?_
    refine x_goto C 29 dX4_isSign_25 rfl ?_
    obtain ⟨rfl, rfl⟩ := x_ret h
    exact x_zret C rfl dX4_isSign_29
  · replace h := x_itn hc h
    refine x_iload_n C 0 dX4_isSign_6 rfl rfl ?_
    refine x_bipush C (45 : Int32) dX4_isSign_7 (by decide) ?_
    refine x_icmp_eq C 24 dX4_isSign_9 rfl (fun hc => ?_) (fun hc => ?_)
    · replace h := x_itp hc h
      refine x_iconst C (1 : Int32) dX4_isSign_24 (by decide) ?_
      refine x_goto C 29 dX4_isSign_25 rfl ?_
      obtain ⟨rfl, rfl⟩ := x_ret h
      exact x_zret C rfl dX4_isSign_29
    · replace h := x_itn hc h
      refine x_iload_n C 0 dX4_isSign_12 rfl rfl ?_
      refine x_bipush C (42 : Int32) dX4_isSign_13 (by decide) ?_
      refine x_icmp_eq C 24 dX4_isSign_15 rfl (fun hc => ?_) (fun hc => ?_)
      · replace h := x_itp hc h
        refine x_iconst C (1 : Int32) dX4_isSign_24 (by decide) ?_
        refine x_goto C 29 dX4_isSign_25 rfl ?_
        obtain ⟨rfl, rfl⟩ := x_ret h
        exact x_zret C rfl dX4_isSign_29
      · replace h := x_itn hc h
        refine x_iload_n C 0 dX4_isSign_18 rfl rfl ?_
        refine x_bipush C (47 : Int32) dX4_isSign_19 (by decide) ?_
        refine x_icmp_ne C 28 dX4_isSign_21 rfl (fun hc => ?_) (fun hc => ?_)
        · replace h := x_itn hc h
          refine x_iconst C (0 : Int32) dX4_isSign_28 (by decide) ?_
          obtain ⟨rfl, rfl⟩ := x_ret h
          exact x_zret C rfl dX4_isSign_29
        · replace h := x_itp hc h
          refine x_iconst C (1 : Int32) dX4_isSign_24 (by decide) ?_
          refine x_goto C 29 dX4_isSign_25 rfl ?_
          obtain ⟨rfl, rfl⟩ := x_ret h
          exact x_zret C rfl dX4_isSign_29
abbrev rm_X4_numberAt : Room := { frames := 1, cells := 0, slots := 0, locals := 21 }
set_option maxHeartbeats 4000000 in
set_option maxRecDepth 100000 in
theorem w_X4_numberAt_5 {r : Int32} {τ : x_Hp} (C : x_C p s m args meth c cX4_numberAt 5 (some .int) yX4_numberAt.cls TX G) : ∀ (n : Nat) (x2 : Int32) (x3 : Int32) (x4 : Int32) (σ : x_Hp) (h : F_X4_numberAt_5 n x2 x3 x4 σ = some (r, τ)), x_W p l e rm_X4_numberAt s m args below meth c (MQ below (x_Q TX G (some (.int r)) τ) args s 0 0 (x_A TX G)) TX G 5 5 [(0, .ref (x_ad G 14)), (2, .int x2), (3, .int x3), (4, .int x4)] [] σ := by
  intro n
  induction n with
  | zero => intro x2 x3 x4 σ  h; cases h
  | succ n ih =>
    intro x2 x3 x4 σ  h
    have hG : x_OK TX G := C.2.2.2.2.2.2.2.2.1
    rw [F_X4_numberAt_5] at h
    refine x_iload C 3 dX4_numberAt_5 rfl ?_
    refine x_iload_n C 1 dX4_numberAt_7 rfl rfl ?_
    refine x_icmp_ge C 32 dX4_numberAt_8 rfl (fun hc => ?_) (fun hc => ?_)
    · replace h := x_itp hc h
      refine x_iload_n C 2 dX4_numberAt_32 rfl rfl ?_
      obtain ⟨rfl, rfl⟩ := x_ret h
      exact x_iret C dX4_numberAt_33
    · replace h := x_itn hc h
      refine x_iload_n C 2 dX4_numberAt_11 rfl rfl ?_
      refine x_bipush C (10 : Int32) dX4_numberAt_12 (by decide) ?_
      refine x_imul C dX4_numberAt_14 ?_
      refine x_aload_n C 0 dX4_numberAt_15 rfl rfl ?_
      refine x_iload C 3 dX4_numberAt_16 rfl ?_
      obtain ⟨v1, σ1, hc1, h⟩ := x_b_some h
      refine x_callV C (n := 1) (c_X4_byteAt hG hc1) kX_14 (by decide) rfl wd_619 wd_621 wd_3 wd_105 wd_622 (by decide +kernel) rfl ⟨Nat.le_of_ble_eq_true rfl, Nat.le_of_ble_eq_true rfl⟩ ⟨rfl, rfl⟩ rfl (Nat.le_of_ble_eq_true rfl) dX4_numberAt_18 ?_
      refine x_bipush C (48 : Int32) dX4_numberAt_21 (by decide) ?_
      refine x_isub C dX4_numberAt_23 ?_
      refine x_iadd C dX4_numberAt_24 ?_
      refine x_istore_n C [(3, .int ((x3 * (10 : Int32)) + (v1 - (48 : Int32)))), (0, .ref (x_ad G 14)), (2, .int x2), (4, .int x4)] dX4_numberAt_25 rfl (by decide) rfl ?_
      refine x_iinc C 3 (x4 + (1 : Int32)) [(4, .int (x4 + (1 : Int32))), (3, .int ((x3 * (10 : Int32)) + (v1 - (48 : Int32)))), (0, .ref (x_ad G 14)), (2, .int x2)] dX4_numberAt_26 rfl rfl (by decide) rfl ?_
      refine x_goto C 5 dX4_numberAt_29 rfl ?_
      exact x_sub [2, 3, 1, 0] rfl (ih x2 ((x3 * (10 : Int32)) + (v1 - (48 : Int32))) (x4 + (1 : Int32)) σ1 h)
set_option maxHeartbeats 4000000 in
set_option maxRecDepth 100000 in
theorem c_X4_numberAt (hG : x_OK TX G) {x1 : Int32} {x2 : Int32} {σ τ : x_Hp} {r : Int32} (h : F_X4_numberAt x1 x2 σ = some (r, τ)) : x_M l TX G yX4_numberAt cX4_numberAt 5 (some .int) rm_X4_numberAt [.ref (x_ad G 14), .int x1, .int x2] σ (some (.int r)) τ := by
  refine x_M.of hG (lv := [(0, .ref (x_ad G 14)), (1, .int x1), (2, .int x2)]) (by decide) (Nat.le_of_ble_eq_true rfl) rfl (fun p e s m below meth c C => ?_)
  rw [F_X4_numberAt] at h
  refine x_iconst C (0 : Int32) dX4_numberAt_0 (by decide) ?_
  refine x_istore_n C [(3, .int (0 : Int32)), (0, .ref (x_ad G 14)), (1, .int x1), (2, .int x2)] dX4_numberAt_1 rfl (by decide) rfl ?_
  refine x_iload_n C 2 dX4_numberAt_2 rfl rfl ?_
  refine x_istore C [(4, .int x1), (3, .int (0 : Int32)), (0, .ref (x_ad G 14)), (1, .int x1), (2, .int x2)] dX4_numberAt_3 (by decide) rfl ?_
  exact x_sub [2, 4, 1, 0] rfl (w_X4_numberAt_5 C x_fuel x2 (0 : Int32) x1 σ h)
abbrev rm_X4_addToken : Room := { frames := 6, cells := 0, slots := 0, locals := 135 }
set_option maxHeartbeats 4000000 in
set_option maxRecDepth 100000 in
theorem w_X4_addToken_114 {τ : x_Hp} (C : x_C p s m args meth c cX4_addToken 5 none yX4_addToken.cls TX G) (x1 : Int32) (s0 : Int32) (σ : x_Hp) (h : F_X4_addToken_114 x1 s0 σ = some ((), τ)) : x_W p l e rm_X4_addToken s m args below meth c (MQ below (x_Q TX G none τ) args s 0 0 (x_A TX G)) TX G 5 114 [(1, .int x1)] [.int s0, .ref (x_ad G 14)] σ := by
  have hG : x_OK TX G := C.2.2.2.2.2.2.2.2.1
  rw [F_X4_addToken_114] at h
  refine x_lconst C (0 : Int64) dX4_addToken_114 (by decide) ?_
  refine x_iload_n C 0 dX4_addToken_115 rfl rfl ?_
  obtain ⟨v8, σ8, hc8, h⟩ := x_b_some h
  refine x_callV C (n := 3) (c_X4_addRow hG hc8) kX_14 (by decide) rfl wd_644 wd_646 wd_7 wd_105 wd_647 (by decide +kernel) rfl ⟨Nat.le_of_ble_eq_true rfl, Nat.le_of_ble_eq_true rfl⟩ ⟨rfl, rfl⟩ rfl (Nat.le_of_ble_eq_true rfl) dX4_addToken_116 ?_
  obtain ⟨-, rfl⟩ := x_ret h
  exact x_vret C dX4_addToken_119
set_option maxHeartbeats 4000000 in
set_option maxRecDepth 100000 in
theorem w_X4_addToken_100 {τ : x_Hp} (C : x_C p s m args meth c cX4_addToken 5 none yX4_addToken.cls TX G) (x1 : Int32) (x3 : Int32) (s0 : Int32) (σ : x_Hp) (h : F_X4_addToken_100 x1 x3 s0 σ = some ((), τ)) : x_W p l e rm_X4_addToken s m args below meth c (MQ below (x_Q TX G none τ) args s 0 0 (x_A TX G)) TX G 5 100 [(0, .ref (x_ad G 14)), (1, .int x1), (3, .int x3)] [.int s0] σ := by
  have hG : x_OK TX G := C.2.2.2.2.2.2.2.2.1
  rw [F_X4_addToken_100] at h
  refine x_istore C [(4, .int s0), (0, .ref (x_ad G 14)), (1, .int x1), (3, .int x3)] dX4_addToken_100 (by decide) rfl ?_
  refine x_aload_n C 1 dX4_addToken_102 rfl rfl ?_
  refine x_iload C 0 dX4_addToken_103 rfl ?_
  refine x_if_eq C 112 dX4_addToken_105 rfl (fun hc => ?_) (fun hc => ?_)
  · replace h := x_itp hc h
    refine x_bipush C (33 : Int32) dX4_addToken_112 (by decide) ?_
    exact x_sub [2] rfl (w_X4_addToken_114 C x1 (33 : Int32) σ h)
  · replace h := x_itn hc h
    refine x_iload_n C 3 dX4_addToken_108 rfl rfl ?_
    refine x_goto C 114 dX4_addToken_109 rfl ?_
    exact x_sub [2] rfl (w_X4_addToken_114 C x1 x3 σ h)
set_option maxHeartbeats 4000000 in
set_option maxRecDepth 100000 in
theorem w_X4_addToken_95 {τ : x_Hp} (C : x_C p s m args meth c cX4_addToken 5 none yX4_addToken.cls TX G) (x1 : Int32) (x3 : Int32) (σ : x_Hp) (h : F_X4_addToken_95 x1 x3 σ = some ((), τ)) : x_W p l e rm_X4_addToken s m args below meth c (MQ below (x_Q TX G none τ) args s 0 0 (x_A TX G)) TX G 5 95 [(0, .ref (x_ad G 14)), (1, .int x1), (3, .int x3)] [] σ := by
  have hG : x_OK TX G := C.2.2.2.2.2.2.2.2.1
  rw [F_X4_addToken_95] at h
  refine x_iconst C (1 : Int32) dX4_addToken_95 (by decide) ?_
  refine x_goto C 100 dX4_addToken_96 rfl ?_
  exact x_sub [0, 1, 2] rfl (w_X4_addToken_100 C x1 x3 (1 : Int32) σ h)
set_option maxHeartbeats 4000000 in
set_option maxRecDepth 100000 in
theorem w_X4_addToken_44 {τ : x_Hp} (C : x_C p s m args meth c cX4_addToken 5 none yX4_addToken.cls TX G) (x1 : Int32) (x2 : Int32) (s0 : Int32) (σ : x_Hp) (h : F_X4_addToken_44 x1 x2 s0 σ = some ((), τ)) : x_W p l e rm_X4_addToken s m args below meth c (MQ below (x_Q TX G none τ) args s 0 0 (x_A TX G)) TX G 5 44 [(0, .ref (x_ad G 14)), (1, .int x1), (2, .int x2)] [.int s0, .ref (x_ad G 14)] σ := by
  have hG : x_OK TX G := C.2.2.2.2.2.2.2.2.1
  rw [F_X4_addToken_44] at h
  refine x_aload_n C 0 dX4_addToken_44 rfl rfl ?_
  refine x_iload_n C 1 dX4_addToken_45 rfl rfl ?_
  refine x_iload_n C 2 dX4_addToken_46 rfl rfl ?_
  obtain ⟨v6, σ6, hc6, h⟩ := x_b_some h
  refine x_callV C (n := 2) (c_X4_numberAt hG hc6) kX_14 (by decide) rfl wd_707 wd_709 wd_10 wd_105 wd_710 (by decide +kernel) rfl ⟨Nat.le_of_ble_eq_true rfl, Nat.le_of_ble_eq_true rfl⟩ ⟨rfl, rfl⟩ rfl (Nat.le_of_ble_eq_true rfl) dX4_addToken_47 ?_
  refine x_i2l C dX4_addToken_50 ?_
  refine x_iload_n C 1 dX4_addToken_51 rfl rfl ?_
  obtain ⟨v7, σ7, hc7, h⟩ := x_b_some h
  refine x_callV C (n := 3) (c_X4_addRow hG hc7) kX_14 (by decide) rfl wd_644 wd_646 wd_7 wd_105 wd_647 (by decide +kernel) rfl ⟨Nat.le_of_ble_eq_true rfl, Nat.le_of_ble_eq_true rfl⟩ ⟨rfl, rfl⟩ rfl (Nat.le_of_ble_eq_true rfl) dX4_addToken_52 ?_
  refine x_goto C 119 dX4_addToken_55 rfl ?_
  obtain ⟨-, rfl⟩ := x_ret h
  exact x_vret C dX4_addToken_119
set_option maxHeartbeats 4000000 in
set_option maxRecDepth 100000 in
theorem c_X4_addToken (hG : x_OK TX G) {x1 : Int32} {x2 : Int32} {σ τ : x_Hp} (h : F_X4_addToken x1 x2 σ = some ((), τ)) : x_M l TX G yX4_addToken cX4_addToken 5 none rm_X4_addToken [.ref (x_ad G 14), .int x1, .int x2] σ none τ := by
  refine x_M.of hG (lv := [(0, .ref (x_ad G 14)), (1, .int x1), (2, .int x2)]) (by decide) (Nat.le_of_ble_eq_true rfl) rfl (fun p e s m below meth c C => ?_)
  rw [F_X4_addToken] at h
  refine x_aload_n C 0 dX4_addToken_0 rfl rfl ?_
  refine x_iload_n C 1 dX4_addToken_1 rfl rfl ?_
  obtain ⟨v1, σ1, hc1, h⟩ := x_b_some h
  refine x_callV C (n := 1) (c_X4_byteAt hG hc1) kX_14 (by decide) rfl wd_619 wd_621 wd_3 wd_105 wd_622 (by decide +kernel) rfl ⟨Nat.le_of_ble_eq_true rfl, Nat.le_of_ble_eq_true rfl⟩ ⟨rfl, rfl⟩ rfl (Nat.le_of_ble_eq_true rfl) dX4_addToken_2 ?_
  refine x_istore_n C [(3, .int v1), (0, .ref (x_ad G 14)), (1, .int x1), (2, .int x2)] dX4_addToken_5 rfl (by decide) rfl ?_
  refine x_iload_n C 0 dX4_addToken_6 rfl rfl ?_
  obtain ⟨v2, σ2, hc2, h⟩ := x_b_some h
  refine x_callS C (n := 1) (c_X4_isLetter hG hc2) wd_630 wd_631 wd_105 wd_632 (by decide +kernel) rfl ⟨Nat.le_of_ble_eq_true rfl, Nat.le_of_ble_eq_true rfl⟩ ⟨rfl, rfl⟩ rfl (Nat.le_of_ble_eq_true rfl) dX4_addToken_7 ?_
  refine x_if_eq C 22 dX4_addToken_10 rfl (fun hc => ?_) (fun hc => ?_)
  · replace h := x_itp hc h
    refine x_iload_n C 0 dX4_addToken_22 rfl rfl ?_
    obtain ⟨v3, σ3, hc3, h⟩ := x_b_some h
    refine x_callS C (n := 1) (c_X4_isDigit hG hc3) wd_633 wd_634 wd_105 wd_635 (by decide +kernel) rfl ⟨Nat.le_of_ble_eq_true rfl, Nat.le_of_ble_eq_true rfl⟩ ⟨rfl, rfl⟩ rfl (Nat.le_of_ble_eq_true rfl) dX4_addToken_23 ?_
    refine x_if_eq C 58 dX4_addToken_26 rfl (fun hc => ?_) (fun hc => ?_)
    · replace h := x_itp hc h
      refine x_iload_n C 0 dX4_addToken_58 rfl rfl ?_
      obtain ⟨v4, σ4, hc4, h⟩ := x_b_some h
      refine x_callS C (n := 1) (c_X4_isSign hG hc4) wd_711 wd_712 wd_105 wd_713 (by decide +kernel) rfl ⟨Nat.le_of_ble_eq_true rfl, Nat.le_of_ble_eq_true rfl⟩ ⟨rfl, rfl⟩ rfl (Nat.le_of_ble_eq_true rfl) dX4_addToken_59 ?_
      refine x_if_ne C 95 dX4_addToken_62 rfl (fun hc => ?_) (fun hc => ?_)
      · replace h := x_itn hc h
        exact x_sub [1, 2, 0] rfl (w_X4_addToken_95 C x1 v1 σ4 h)
      · replace h := x_itp hc h
        refine x_iload_n C 0 dX4_addToken_65 rfl rfl ?_
        refine x_bipush C (59 : Int32) dX4_addToken_66 (by decide) ?_
        refine x_icmp_eq C 95 dX4_addToken_68 rfl (fun hc => ?_) (fun hc => ?_)
        · replace h := x_itp hc h
          exact x_sub [1, 2, 0] rfl (w_X4_addToken_95 C x1 v1 σ4 h)
        · replace h := x_itn hc h
          refine x_iload_n C 0 dX4_addToken_71 rfl rfl ?_
          refine x_bipush C (61 : Int32) dX4_addToken_72 (by decide) ?_
          refine x_icmp_eq C 95 dX4_addToken_74 rfl (fun hc => ?_) (fun hc => ?_)
          · replace h := x_itp hc h
            exact x_sub [1, 2, 0] rfl (w_X4_addToken_95 C x1 v1 σ4 h)
          · replace h := x_itn hc h
            refine x_iload_n C 0 dX4_addToken_77 rfl rfl ?_
            refine x_bipush C (60 : Int32) dX4_addToken_78 (by decide) ?_
            refine x_icmp_eq C 95 dX4_addToken_80 rfl (fun hc => ?_) (fun hc => ?_)
            · replace h := x_itp hc h
              exact x_sub [1, 2, 0] rfl (w_X4_addToken_95 C x1 v1 σ4 h)
            · replace h := x_itn hc h
              refine x_iload_n C 0 dX4_addToken_83 rfl rfl ?_
              refine x_bipush C (40 : Int32) dX4_addToken_84 (by decide) ?_
              refine x_icmp_eq C 95 dX4_addToken_86 rfl (fun hc => ?_) (fun hc => ?_)
              · replace h := x_itp hc h
                exact x_sub [1, 2, 0] rfl (w_X4_addToken_95 C x1 v1 σ4 h)
              · replace h := x_itn hc h
                refine x_iload_n C 0 dX4_addToken_89 rfl rfl ?_
                refine x_bipush C (41 : Int32) dX4_addToken_90 (by decide) ?_
                refine x_icmp_ne C 99 dX4_addToken_92 rfl (fun hc => ?_) (fun hc => ?_)
                · replace h := x_itn hc h
                  refine x_iconst C (0 : Int32) dX4_addToken_99 (by decide) ?_
                  exact x_sub [1, 2, 0] rfl (w_X4_addToken_100 C x1 v1 (0 : Int32) σ4 h)
                · replace h := x_itp hc h
                  exact x_sub [1, 2, 0] rfl (w_X4_addToken_95 C x1 v1 σ4 h)
    · replace h := x_itn hc h
      refine x_aload_n C 1 dX4_addToken_29 rfl rfl ?_
      refine x_iload_n C 3 dX4_addToken_30 rfl rfl ?_
      refine x_iload_n C 2 dX4_addToken_31 rfl rfl ?_
      refine x_isub C dX4_addToken_32 ?_
      refine x_iconst C (4 : Int32) dX4_addToken_33 (by decide) ?_
      refine x_icmp_gt C 42 dX4_addToken_34 rfl (fun hc => ?_) (fun hc => ?_)
      · replace h := x_itp hc h
        refine x_bipush C (33 : Int32) dX4_addToken_42 (by decide) ?_
        exact x_sub [1, 2, 3] rfl (w_X4_addToken_44 C x1 x2 (33 : Int32) σ3 h)
      · replace h := x_itn hc h
        refine x_bipush C (31 : Int32) dX4_addToken_37 (by decide) ?_
        refine x_goto C 44 dX4_addToken_39 rfl ?_
        exact x_sub [1, 2, 3] rfl (w_X4_addToken_44 C x1 x2 (31 : Int32) σ3 h)
  · replace h := x_itn hc h
    refine x_aload_n C 1 dX4_addToken_13 rfl rfl ?_
    refine x_iload_n C 2 dX4_addToken_14 rfl rfl ?_
    refine x_iload_n C 3 dX4_addToken_15 rfl rfl ?_
    obtain ⟨v5, σ5, hc5, h⟩ := x_b_some h
    refine x_callV C (n := 2) (c_X4_addWord hG hc5) kX_14 (by decide) rfl wd_640 wd_642 wd_6 wd_105 wd_643 (by decide +kernel) rfl ⟨Nat.le_of_ble_eq_true rfl, Nat.le_of_ble_eq_true rfl⟩ ⟨rfl, rfl⟩ rfl (Nat.le_of_ble_eq_true rfl) dX4_addToken_16 ?_
    refine x_goto C 119 dX4_addToken_19 rfl ?_
    obtain ⟨-, rfl⟩ := x_ret h
    exact x_vret C dX4_addToken_119
abbrev rm_X4_endOfRun : Room := { frames := 1, cells := 0, slots := 0, locals := 21 }
set_option maxHeartbeats 4000000 in
set_option maxRecDepth 100000 in
theorem w_X4_endOfRun_64 {r : Int32} {τ : x_Hp} (C : x_C p s m args meth c cX4_endOfRun 5 (some .int) yX4_endOfRun.cls TX G) {k23 : Int32 → Int32 → Int32 → x_Hp → Option (Int32 × x_Hp)} (hk23 : ∀ (x2 : Int32) (x3 : Int32) (x4 : Int32) (σ : x_Hp) (h : k23 x2 x3 x4 σ = some (r, τ)), x_W p l e rm_X4_endOfRun s m args below meth c (MQ below (x_Q TX G (some (.int r)) τ) args s 0 0 (x_A TX G)) TX G 5 23 [(0, .ref (x_ad G 14)), (2, .int x2), (3, .int x3), (4, .int x4)] [] σ) (x2 : Int32) (x3 : Int32) (x4 : Int32) (σ : x_Hp) (h : F_X4_endOfRun_64 k23 x2 x3 x4 σ = some (r, τ)) : x_W p l e rm_X4_endOfRun s m args below meth c (MQ below (x_Q TX G (some (.int r)) τ) args s 0 0 (x_A TX G)) TX G 5 64 [(0, .ref (x_ad G 14)), (2, .int x2), (3, .int x3), (4, .int x4)] [] σ := by
  have hG : x_OK TX G := C.2.2.2.2.2.2.2.2.1
  rw [F_X4_endOfRun_64] at h
  refine x_iinc C 3 (x4 + (1 : Int32)) [(4, .int (x4 + (1 : Int32))), (0, .ref (x_ad G 14)), (2, .int x2), (3, .int x3)] dX4_endOfRun_64 rfl rfl (by decide) rfl ?_
  refine x_goto C 23 dX4_endOfRun_67 rfl ?_
  exact x_sub [1, 2, 3, 0] rfl (hk23 x2 x3 (x4 + (1 : Int32)) σ h)
set_option maxHeartbeats 4000000 in
set_option maxRecDepth 100000 in
theorem w_X4_endOfRun_48 {r : Int32} {τ : x_Hp} (C : x_C p s m args meth c cX4_endOfRun 5 (some .int) yX4_endOfRun.cls TX G) {k23 : Int32 → Int32 → Int32 → x_Hp → Option (Int32 × x_Hp)} (hk23 : ∀ (x2 : Int32) (x3 : Int32) (x4 : Int32) (σ : x_Hp) (h : k23 x2 x3 x4 σ = some (r, τ)), x_W p l e rm_X4_endOfRun s m args below meth c (MQ below (x_Q TX G (some (.int r)) τ) args s 0 0 (x_A TX G)) TX G 5 23 [(0, .ref (x_ad G 14)), (2, .int x2), (3, .int x3), (4, .int x4)] [] σ) (x2 : Int32) (x3 : Int32) (x4 : Int32) (σ : x_Hp) (h : F_X4_endOfRun_48 k23 x2 x3 x4 σ = some (r, τ)) : x_W p l e rm_X4_endOfRun s m args below meth c (MQ below (x_Q TX G (some (.int r)) τ) args s 0 0 (x_A TX G)) TX G 5 48 [(0, .ref (x_ad G 14)), (2, .int x2), (3, .int x3), (4, .int x4)] [] σ := by
  have hG : x_OK TX G := C.2.2.2.2.2.2.2.2.1
  rw [F_X4_endOfRun_48] at h
  refine x_iload_n C 2 dX4_endOfRun_48 rfl rfl ?_
  refine x_if_eq C 70 dX4_endOfRun_49 rfl (fun hc => ?_) (fun hc => ?_)
  · replace h := x_itp hc h
    refine x_iload C 3 dX4_endOfRun_70 rfl ?_
    obtain ⟨rfl, rfl⟩ := x_ret h
    exact x_iret C dX4_endOfRun_72
  · replace h := x_itn hc h
    refine x_aload_n C 0 dX4_endOfRun_52 rfl rfl ?_
    refine x_iload C 3 dX4_endOfRun_53 rfl ?_
    obtain ⟨v7, σ7, hc7, h⟩ := x_b_some h
    refine x_callV C (n := 1) (c_X4_byteAt hG hc7) kX_14 (by decide) rfl wd_619 wd_621 wd_3 wd_105 wd_622 (by decide +kernel) rfl ⟨Nat.le_of_ble_eq_true rfl, Nat.le_of_ble_eq_true rfl⟩ ⟨rfl, rfl⟩ rfl (Nat.le_of_ble_eq_true rfl) dX4_endOfRun_55 ?_
    obtain ⟨v8, σ8, hc8, h⟩ := x_b_some h
    refine x_callS C (n := 1) (c_X4_isDigit hG hc8) wd_633 wd_634 wd_105 wd_635 (by decide +kernel) rfl ⟨Nat.le_of_ble_eq_true rfl, Nat.le_of_ble_eq_true rfl⟩ ⟨rfl, rfl⟩ rfl (Nat.le_of_ble_eq_true rfl) dX4_endOfRun_58 ?_
    refine x_if_eq C 70 dX4_endOfRun_61 rfl (fun hc => ?_) (fun hc => ?_)
    · replace h := x_itp hc h
      refine x_iload C 3 dX4_endOfRun_70 rfl ?_
      obtain ⟨rfl, rfl⟩ := x_ret h
      exact x_iret C dX4_endOfRun_72
    · replace h := x_itn hc h
      exact x_sub [0, 1, 2, 3] rfl (w_X4_endOfRun_64 C hk23 x2 x3 x4 σ8 h)
set_option maxHeartbeats 4000000 in
set_option maxRecDepth 100000 in
theorem w_X4_endOfRun_23 {r : Int32} {τ : x_Hp} (C : x_C p s m args meth c cX4_endOfRun 5 (some .int) yX4_endOfRun.cls TX G) : ∀ (n : Nat) (x2 : Int32) (x3 : Int32) (x4 : Int32) (σ : x_Hp) (h : F_X4_endOfRun_23 n x2 x3 x4 σ = some (r, τ)), x_W p l e rm_X4_endOfRun s m args below meth c (MQ below (x_Q TX G (some (.int r)) τ) args s 0 0 (x_A TX G)) TX G 5 23 [(0, .ref (x_ad G 14)), (2, .int x2), (3, .int x3), (4, .int x4)] [] σ := by
  intro n
  induction n with
  | zero => intro x2 x3 x4 σ  h; cases h
  | succ n ih =>
    intro x2 x3 x4 σ  h
    have hG : x_OK TX G := C.2.2.2.2.2.2.2.2.1
    rw [F_X4_endOfRun_23] at h
    refine x_iload C 3 dX4_endOfRun_23 rfl ?_
    refine x_aload_n C 0 dX4_endOfRun_25 rfl rfl ?_
    refine x_getI C (k := 1) kX_14 (by decide) rfl x_in4 (by decide) (by decide) rfl rfl wd_245 dX4_endOfRun_26 ?_
    refine x_icmp_ge C 70 dX4_endOfRun_29 rfl (fun hc => ?_) (fun hc => ?_)
    · replace h := x_itp hc h
      refine x_iload C 3 dX4_endOfRun_70 rfl ?_
      obtain ⟨rfl, rfl⟩ := x_ret h
      exact x_iret C dX4_endOfRun_72
    · replace h := x_itn hc h
      refine x_iload_n C 1 dX4_endOfRun_32 rfl rfl ?_
      refine x_if_eq C 48 dX4_endOfRun_33 rfl (fun hc => ?_) (fun hc => ?_)
      · replace h := x_itp hc h
        exact x_sub [0, 1, 2, 3] rfl (w_X4_endOfRun_48 C ih x2 x3 x4 σ h)
      · replace h := x_itn hc h
        refine x_aload_n C 0 dX4_endOfRun_36 rfl rfl ?_
        refine x_iload C 3 dX4_endOfRun_37 rfl ?_
        obtain ⟨v5, σ5, hc5, h⟩ := x_b_some h
        refine x_callV C (n := 1) (c_X4_byteAt hG hc5) kX_14 (by decide) rfl wd_619 wd_621 wd_3 wd_105 wd_622 (by decide +kernel) rfl ⟨Nat.le_of_ble_eq_true rfl, Nat.le_of_ble_eq_true rfl⟩ ⟨rfl, rfl⟩ rfl (Nat.le_of_ble_eq_true rfl) dX4_endOfRun_39 ?_
        obtain ⟨v6, σ6, hc6, h⟩ := x_b_some h
        refine x_callS C (n := 1) (c_X4_isLetter hG hc6) wd_630 wd_631 wd_105 wd_632 (by decide +kernel) rfl ⟨Nat.le_of_ble_eq_true rfl, Nat.le_of_ble_eq_true rfl⟩ ⟨rfl, rfl⟩ rfl (Nat.le_of_ble_eq_true rfl) dX4_endOfRun_42 ?_
        refine x_if_ne C 64 dX4_endOfRun_45 rfl (fun hc => ?_) (fun hc => ?_)
        · replace h := x_itn hc h
          exact x_sub [0, 1, 2, 3] rfl (w_X4_endOfRun_64 C ih x2 x3 x4 σ6 h)
        · replace h := x_itp hc h
          exact x_sub [0, 1, 2, 3] rfl (w_X4_endOfRun_48 C ih x2 x3 x4 σ6 h)
set_option maxHeartbeats 4000000 in
set_option maxRecDepth 100000 in
theorem c_X4_endOfRun (hG : x_OK TX G) {x1 : Int32} {σ τ : x_Hp} {r : Int32} (h : F_X4_endOfRun x1 σ = some (r, τ)) : x_M l TX G yX4_endOfRun cX4_endOfRun 5 (some .int) rm_X4_endOfRun [.ref (x_ad G 14), .int x1] σ (some (.int r)) τ := by
  refine x_M.of hG (lv := [(0, .ref (x_ad G 14)), (1, .int x1)]) (by decide) (Nat.le_of_ble_eq_true rfl) rfl (fun p e s m below meth c C => ?_)
  rw [F_X4_endOfRun] at h
  refine x_aload_n C 0 dX4_endOfRun_0 rfl rfl ?_
  refine x_iload_n C 1 dX4_endOfRun_1 rfl rfl ?_
  obtain ⟨v1, σ1, hc1, h⟩ := x_b_some h
  refine x_callV C (n := 1) (c_X4_byteAt hG hc1) kX_14 (by decide) rfl wd_619 wd_621 wd_3 wd_105 wd_622 (by decide +kernel) rfl ⟨Nat.le_of_ble_eq_true rfl, Nat.le_of_ble_eq_true rfl⟩ ⟨rfl, rfl⟩ rfl (Nat.le_of_ble_eq_true rfl) dX4_endOfRun_2 ?_
  obtain ⟨v2, σ2, hc2, h⟩ := x_b_some h
  refine x_callS C (n := 1) (c_X4_isLetter hG hc2) wd_630 wd_631 wd_105 wd_632 (by decide +kernel) rfl ⟨Nat.le_of_ble_eq_true rfl, Nat.le_of_ble_eq_true rfl⟩ ⟨rfl, rfl⟩ rfl (Nat.le_of_ble_eq_true rfl) dX4_endOfRun_5 ?_
  refine x_istore_n C [(2, .int v2), (0, .ref (x_ad G 14)), (1, .int x1)] dX4_endOfRun_8 rfl (by decide) rfl ?_
  refine x_aload_n C 1 dX4_endOfRun_9 rfl rfl ?_
  refine x_iload_n C 2 dX4_endOfRun_10 rfl rfl ?_
  obtain ⟨v3, σ3, hc3, h⟩ := x_b_some h
  refine x_callV C (n := 1) (c_X4_byteAt hG hc3) kX_14 (by decide) rfl wd_619 wd_621 wd_3 wd_105 wd_622 (by decide +kernel) rfl ⟨Nat.le_of_ble_eq_true rfl, Nat.le_of_ble_eq_true rfl⟩ ⟨rfl, rfl⟩ rfl (Nat.le_of_ble_eq_true rfl) dX4_endOfRun_11 ?_
  obtain ⟨v4, σ4, hc4, h⟩ := x_b_some h
  refine x_callS C (n := 1) (c_X4_isDigit hG hc4) wd_633 wd_634 wd_105 wd_635 (by decide +kernel) rfl ⟨Nat.le_of_ble_eq_true rfl, Nat.le_of_ble_eq_true rfl⟩ ⟨rfl, rfl⟩ rfl (Nat.le_of_ble_eq_true rfl) dX4_endOfRun_14 ?_
  refine x_istore_n C [(3, .int v4), (2, .int v2), (0, .ref (x_ad G 14)), (1, .int x1)] dX4_endOfRun_17 rfl (by decide) rfl ?_
  refine x_iload_n C 3 dX4_endOfRun_18 rfl rfl ?_
  refine x_iconst C (1 : Int32) dX4_endOfRun_19 (by decide) ?_
  refine x_iadd C dX4_endOfRun_20 ?_
  refine x_istore C [(4, .int (x1 + (1 : Int32))), (3, .int v4), (2, .int v2), (0, .ref (x_ad G 14)), (1, .int x1)] dX4_endOfRun_21 (by decide) rfl ?_
  exact x_sub [3, 2, 1, 0] rfl (w_X4_endOfRun_23 C x_fuel v2 v4 (x1 + (1 : Int32)) σ4 h)
abbrev rm_X4_isBlank : Room := { frames := 0, cells := 0, slots := 0, locals := 0 }
set_option maxHeartbeats 4000000 in
set_option maxRecDepth 100000 in
theorem c_X4_isBlank (hG : x_OK TX G) {x0 : Int32} {σ τ : x_Hp} {r : Int32} (h : F_X4_isBlank x0 σ = some (r, τ)) : x_M l TX G yX4_isBlank cX4_isBlank 1 (some .boolean) rm_X4_isBlank [.int x0] σ (some (.int r)) τ := by
  refine x_M.of hG (lv := [(0, .int x0)]) (by decide) (Nat.le_of_ble_eq_true rfl) rfl (fun p e s m below meth c C => ?_)
  rw [F_X4_isBlank] at h
  refine x_iload_n C 0 dX4_isBlank_0 rfl rfl ?_
  refine x_bipush C (9 : Int32) dX4_isBlank_1 (by decide) ?_
  refine x_icmp_eq C 24 dX4_isBlank_3 rfl (fun hc => ?_) (fun hc => ?_)
  · replace h := x_itp hc h
    refine x_iconst C (1 : Int32) dX4_isBlank_24 (by decide) ?_
    refine x_goto C 29 dX4_isBlank_25 rfl ?_
    obtain ⟨rfl, rfl⟩ := x_ret h
    exact x_zret C rfl dX4_isBlank_29
  · replace h := x_itn hc h
    refine x_iload_n C 0 dX4_isBlank_6 rfl rfl ?_
    refine x_bipush C (10 : Int32) dX4_isBlank_7 (by decide) ?_
    refine x_icmp_eq C 24 dX4_isBlank_9 rfl (fun hc => ?_) (fun hc => ?_)
    · replace h := x_itp hc h
      refine x_iconst C (1 : Int32) dX4_isBlank_24 (by decide) ?_
      refine x_goto C 29 dX4_isBlank_25 rfl ?_
      obtain ⟨rfl, rfl⟩ := x_ret h
      exact x_zret C rfl dX4_isBlank_29
    · replace h := x_itn hc h
      refine x_iload_n C 0 dX4_isBlank_12 rfl rfl ?_
      refine x_bipush C (13 : Int32) dX4_isBlank_13 (by decide) ?_
      refine x_icmp_eq C 24 dX4_isBlank_15 rfl (fun hc => ?_) (fun hc => ?_)
      · replace h := x_itp hc h
        refine x_iconst C (1 : Int32) dX4_isBlank_24 (by decide) ?_
        refine x_goto C 29 dX4_isBlank_25 rfl ?_
        obtain ⟨rfl, rfl⟩ := x_ret h
        exact x_zret C rfl dX4_isBlank_29
      · replace h := x_itn hc h
        refine x_iload_n C 0 dX4_isBlank_18 rfl rfl ?_
        refine x_bipush C (32 : Int32) dX4_isBlank_19 (by decide) ?_
        refine x_icmp_ne C 28 dX4_isBlank_21 rfl (fun hc => ?_) (fun hc => ?_)
        · replace h := x_itn hc h
          refine x_iconst C (0 : Int32) dX4_isBlank_28 (by decide) ?_
          obtain ⟨rfl, rfl⟩ := x_ret h
          exact x_zret C rfl dX4_isBlank_29
        · replace h := x_itp hc h
          refine x_iconst C (1 : Int32) dX4_isBlank_24 (by decide) ?_
          refine x_goto C 29 dX4_isBlank_25 rfl ?_
          obtain ⟨rfl, rfl⟩ := x_ret h
          exact x_zret C rfl dX4_isBlank_29
abbrev rm_X4_scan : Room := { frames := 7, cells := 0, slots := 0, locals := 159 }
set_option maxHeartbeats 4000000 in
set_option maxRecDepth 100000 in
theorem w_X4_scan_63 {τ : x_Hp} (C : x_C p s m args meth c cX4_scan 4 none yX4_scan.cls TX G) (σ : x_Hp) (h : F_X4_scan_63 σ = some ((), τ)) : x_W p l e rm_X4_scan s m args below meth c (MQ below (x_Q TX G none τ) args s 0 0 (x_A TX G)) TX G 4 63 [(0, .ref (x_ad G 14))] [] σ := by
  have hG : x_OK TX G := C.2.2.2.2.2.2.2.2.1
  rw [F_X4_scan_63] at h
  refine x_aload_n C 0 dX4_scan_63 rfl rfl ?_
  refine x_bipush C (32 : Int32) dX4_scan_64 (by decide) ?_
  refine x_lconst C (0 : Int64) dX4_scan_66 (by decide) ?_
  refine x_aload_n C 0 dX4_scan_67 rfl rfl ?_
  refine x_getI C (k := 1) kX_14 (by decide) rfl x_in4 (by decide) (by decide) rfl rfl wd_245 dX4_scan_68 ?_
  obtain ⟨v6, σ6, hc6, h⟩ := x_b_some h
  refine x_callV C (n := 3) (c_X4_addRow hG hc6) kX_14 (by decide) rfl wd_644 wd_646 wd_7 wd_105 wd_647 (by decide +kernel) rfl ⟨Nat.le_of_ble_eq_true rfl, Nat.le_of_ble_eq_true rfl⟩ ⟨rfl, rfl⟩ rfl (Nat.le_of_ble_eq_true rfl) dX4_scan_71 ?_
  obtain ⟨-, rfl⟩ := x_ret h
  exact x_vret C dX4_scan_74
set_option maxHeartbeats 4000000 in
set_option maxRecDepth 100000 in
theorem w_X4_scan_57 {τ : x_Hp} (C : x_C p s m args meth c cX4_scan 4 none yX4_scan.cls TX G) {k9 : Int32 → Int32 → x_Hp → Option (Unit × x_Hp)} (hk9 : ∀ (x1 : Int32) (x2 : Int32) (σ : x_Hp) (h : k9 x1 x2 σ = some ((), τ)), x_W p l e rm_X4_scan s m args below meth c (MQ below (x_Q TX G none τ) args s 0 0 (x_A TX G)) TX G 4 9 [(0, .ref (x_ad G 14)), (1, .int x1), (2, .int x2)] [] σ) (x1 : Int32) (x2 : Int32) (σ : x_Hp) (h : F_X4_scan_57 k9 x1 x2 σ = some ((), τ)) : x_W p l e rm_X4_scan s m args below meth c (MQ below (x_Q TX G none τ) args s 0 0 (x_A TX G)) TX G 4 57 [(0, .ref (x_ad G 14)), (1, .int x1), (2, .int x2)] [] σ := by
  have hG : x_OK TX G := C.2.2.2.2.2.2.2.2.1
  rw [F_X4_scan_57] at h
  refine x_iinc C 2 (x2 + (1 : Int32)) [(2, .int (x2 + (1 : Int32))), (0, .ref (x_ad G 14)), (1, .int x1)] dX4_scan_57 rfl rfl (by decide) rfl ?_
  refine x_goto C 9 dX4_scan_60 rfl ?_
  exact x_sub [1, 2, 0] rfl (hk9 x1 (x2 + (1 : Int32)) σ h)
set_option maxHeartbeats 4000000 in
set_option maxRecDepth 100000 in
theorem w_X4_scan_9 {τ : x_Hp} (C : x_C p s m args meth c cX4_scan 4 none yX4_scan.cls TX G) : ∀ (n : Nat) (x1 : Int32) (x2 : Int32) (σ : x_Hp) (h : F_X4_scan_9 n x1 x2 σ = some ((), τ)), x_W p l e rm_X4_scan s m args below meth c (MQ below (x_Q TX G none τ) args s 0 0 (x_A TX G)) TX G 4 9 [(0, .ref (x_ad G 14)), (1, .int x1), (2, .int x2)] [] σ := by
  intro n
  induction n with
  | zero => intro x1 x2 σ  h; cases h
  | succ n ih =>
    intro x1 x2 σ  h
    have hG : x_OK TX G := C.2.2.2.2.2.2.2.2.1
    rw [F_X4_scan_9] at h
    refine x_iload_n C 2 dX4_scan_9 rfl rfl ?_
    refine x_aload_n C 0 dX4_scan_10 rfl rfl ?_
    refine x_getI C (k := 1) kX_14 (by decide) rfl x_in4 (by decide) (by decide) rfl rfl wd_245 dX4_scan_11 ?_
    refine x_icmp_ge C 63 dX4_scan_14 rfl (fun hc => ?_) (fun hc => ?_)
    · replace h := x_itp hc h
      exact x_sub [0] rfl (w_X4_scan_63 C σ h)
    · replace h := x_itn hc h
      refine x_aload_n C 0 dX4_scan_17 rfl rfl ?_
      refine x_getI C (k := 5) kX_14 (by decide) rfl x_in4 (by decide) (by decide) rfl rfl wd_250 dX4_scan_18 ?_
      refine x_sipush C (400 : Int32) dX4_scan_21 (by decide) ?_
      refine x_icmp_gt C 63 dX4_scan_24 rfl (fun hc => ?_) (fun hc => ?_)
      · replace h := x_itp hc h
        exact x_sub [0] rfl (w_X4_scan_63 C σ h)
      · replace h := x_itn hc h
        refine x_aload_n C 0 dX4_scan_27 rfl rfl ?_
        refine x_iload_n C 2 dX4_scan_28 rfl rfl ?_
        obtain ⟨v2, σ2, hc2, h⟩ := x_b_some h
        refine x_callV C (n := 1) (c_X4_byteAt hG hc2) kX_14 (by decide) rfl wd_619 wd_621 wd_3 wd_105 wd_622 (by decide +kernel) rfl ⟨Nat.le_of_ble_eq_true rfl, Nat.le_of_ble_eq_true rfl⟩ ⟨rfl, rfl⟩ rfl (Nat.le_of_ble_eq_true rfl) dX4_scan_29 ?_
        refine x_istore_n C [(3, .int v2), (0, .ref (x_ad G 14)), (1, .int x1), (2, .int x2)] dX4_scan_32 rfl (by decide) rfl ?_
        refine x_iload_n C 3 dX4_scan_33 rfl rfl ?_
        refine x_iload_n C 2 dX4_scan_34 rfl rfl ?_
        refine x_icmp_lt C 57 dX4_scan_35 rfl (fun hc => ?_) (fun hc => ?_)
        · replace h := x_itp hc h
          exact x_sub [1, 2, 3] rfl (w_X4_scan_57 C ih x1 x2 σ2 h)
        · replace h := x_itn hc h
          refine x_iload_n C 0 dX4_scan_38 rfl rfl ?_
          obtain ⟨v3, σ3, hc3, h⟩ := x_b_some h
          refine x_callS C (n := 1) (c_X4_isBlank hG hc3) wd_623 wd_624 wd_105 wd_625 (by decide +kernel) rfl ⟨Nat.le_of_ble_eq_true rfl, Nat.le_of_ble_eq_true rfl⟩ ⟨rfl, rfl⟩ rfl (Nat.le_of_ble_eq_true rfl) dX4_scan_39 ?_
          refine x_if_ne C 57 dX4_scan_42 rfl (fun hc => ?_) (fun hc => ?_)
          · replace h := x_itn hc h
            exact x_sub [1, 2, 3] rfl (w_X4_scan_57 C ih x1 x2 σ3 h)
          · replace h := x_itp hc h
            refine x_aload_n C 1 dX4_scan_45 rfl rfl ?_
            refine x_iload_n C 3 dX4_scan_46 rfl rfl ?_
            obtain ⟨v4, σ4, hc4, h⟩ := x_b_some h
            refine x_callV C (n := 1) (c_X4_endOfRun hG hc4) kX_14 (by decide) rfl wd_626 wd_628 wd_4 wd_105 wd_629 (by decide +kernel) rfl ⟨Nat.le_of_ble_eq_true rfl, Nat.le_of_ble_eq_true rfl⟩ ⟨rfl, rfl⟩ rfl (Nat.le_of_ble_eq_true rfl) dX4_scan_47 ?_
            refine x_istore_n C [(1, .int v4), (3, .int v2), (0, .ref (x_ad G 14)), (2, .int x2)] dX4_scan_50 rfl (by decide) rfl ?_
            refine x_aload_n C 2 dX4_scan_51 rfl rfl ?_
            refine x_iload_n C 3 dX4_scan_52 rfl rfl ?_
            refine x_iload_n C 0 dX4_scan_53 rfl rfl ?_
            obtain ⟨v5, σ5, hc5, h⟩ := x_b_some h
            refine x_callV C (n := 2) (c_X4_addToken hG hc5) kX_14 (by decide) rfl wd_636 wd_638 wd_5 wd_105 wd_639 (by decide +kernel) rfl ⟨Nat.le_of_ble_eq_true rfl, Nat.le_of_ble_eq_true rfl⟩ ⟨rfl, rfl⟩ rfl (Nat.le_of_ble_eq_true rfl) dX4_scan_54 ?_
            exact x_sub [2, 0, 3] rfl (w_X4_scan_57 C ih v4 x2 σ5 h)
set_option maxHeartbeats 4000000 in
set_option maxRecDepth 100000 in
theorem c_X4_scan (hG : x_OK TX G) {σ τ : x_Hp} (h : F_X4_scan σ = some ((), τ)) : x_M l TX G yX4_scan cX4_scan 4 none rm_X4_scan [.ref (x_ad G 14)] σ none τ := by
  refine x_M.of hG (lv := [(0, .ref (x_ad G 14))]) (by decide) (Nat.le_of_ble_eq_true rfl) rfl (fun p e s m below meth c C => ?_)
  rw [F_X4_scan] at h
  refine x_aload_n C 0 dX4_scan_0 rfl rfl ?_
  refine x_iconst C (0 : Int32) dX4_scan_1 (by decide) ?_
  refine x_putI C (k := 5) tyX4 kX_14 (by decide) rfl x_in4 tyX4_ok nmX4 (by decide) (by decide) rfl rfl wd_250 rfl (tyX4_ok 5 (by decide)) rfl rfl dX4_scan_2 (x_gen h fun σ1 h => ?_)
  refine x_iconst C (0 : Int32) dX4_scan_5 (by decide) ?_
  refine x_istore_n C [(1, .int (0 : Int32)), (0, .ref (x_ad G 14))] dX4_scan_6 rfl (by decide) rfl ?_
  refine x_iconst C (0 : Int32) dX4_scan_7 (by decide) ?_
  refine x_istore_n C [(2, .int (0 : Int32)), (1, .int (0 : Int32)), (0, .ref (x_ad G 14))] dX4_scan_8 rfl (by decide) rfl ?_
  exact x_sub [2, 1, 0] rfl (w_X4_scan_9 C x_fuel (0 : Int32) (0 : Int32) σ1 h)
abbrev rm_X4_fail : Room := { frames := 0, cells := 0, slots := 0, locals := 0 }
set_option maxHeartbeats 4000000 in
set_option maxRecDepth 100000 in
theorem w_X4_fail_41 {r : Int32} {τ : x_Hp} (C : x_C p s m args meth c cX4_fail 2 (some .boolean) yX4_fail.cls TX G) (s0 : Int32) (σ : x_Hp) (h : F_X4_fail_41 s0 σ = some (r, τ)) : x_W p l e rm_X4_fail s m args below meth c (MQ below (x_Q TX G (some (.int r)) τ) args s 0 0 (x_A TX G)) TX G 2 41 [] [.int s0, .ref (x_ad G 14)] σ := by
  have hG : x_OK TX G := C.2.2.2.2.2.2.2.2.1
  rw [F_X4_fail_41] at h
  refine x_putI C (k := 11) tyX4 kX_14 (by decide) rfl x_in4 tyX4_ok nmX4 (by decide) (by decide) rfl rfl wd_256 rfl (tyX4_ok 11 (by decide)) rfl rfl dX4_fail_41 (x_gen h fun σ3 h => ?_)
  refine x_iconst C (0 : Int32) dX4_fail_44 (by decide) ?_
  obtain ⟨rfl, rfl⟩ := x_ret h
  exact x_zret C rfl dX4_fail_45
set_option maxHeartbeats 4000000 in
set_option maxRecDepth 100000 in
theorem w_X4_fail_37 {r : Int32} {τ : x_Hp} (C : x_C p s m args meth c cX4_fail 2 (some .boolean) yX4_fail.cls TX G) (σ : x_Hp) (h : F_X4_fail_37 σ = some (r, τ)) : x_W p l e rm_X4_fail s m args below meth c (MQ below (x_Q TX G (some (.int r)) τ) args s 0 0 (x_A TX G)) TX G 2 37 [(0, .ref (x_ad G 14))] [.ref (x_ad G 14)] σ := by
  have hG : x_OK TX G := C.2.2.2.2.2.2.2.2.1
  rw [F_X4_fail_37] at h
  refine x_aload_n C 0 dX4_fail_37 rfl rfl ?_
  refine x_getI C (k := 1) kX_14 (by decide) rfl x_in4 (by decide) (by decide) rfl rfl wd_245 dX4_fail_38 ?_
  exact x_sub [] rfl (w_X4_fail_41 C (σ.1 14 1) σ h)
set_option maxHeartbeats 4000000 in
set_option maxRecDepth 100000 in
theorem c_X4_fail (hG : x_OK TX G) {x1 : Int32} {σ τ : x_Hp} {r : Int32} (h : F_X4_fail x1 σ = some (r, τ)) : x_M l TX G yX4_fail cX4_fail 2 (some .boolean) rm_X4_fail [.ref (x_ad G 14), .int x1] σ (some (.int r)) τ := by
  refine x_M.of hG (lv := [(0, .ref (x_ad G 14)), (1, .int x1)]) (by decide) (Nat.le_of_ble_eq_true rfl) rfl (fun p e s m below meth c C => ?_)
  rw [F_X4_fail] at h
  refine x_aload_n C 0 dX4_fail_0 rfl rfl ?_
  refine x_iload_n C 1 dX4_fail_1 rfl rfl ?_
  refine x_putI C (k := 10) tyX4 kX_14 (by decide) rfl x_in4 tyX4_ok nmX4 (by decide) (by decide) rfl rfl wd_255 rfl (tyX4_ok 10 (by decide)) rfl rfl dX4_fail_2 (x_gen h fun σ1 h => ?_)
  refine x_aload_n C 0 dX4_fail_5 rfl rfl ?_
  refine x_aload_n C 0 dX4_fail_6 rfl rfl ?_
  refine x_getI C (k := 6) kX_14 (by decide) rfl x_in4 (by decide) (by decide) rfl rfl wd_251 dX4_fail_7 ?_
  refine x_if_lt C 37 dX4_fail_10 rfl (fun hc => ?_) (fun hc => ?_)
  · replace h := x_itp hc h
    exact x_sub [0] rfl (w_X4_fail_37 C σ1 h)
  · replace h := x_itn hc h
    refine x_aload_n C 0 dX4_fail_13 rfl rfl ?_
    refine x_getI C (k := 6) kX_14 (by decide) rfl x_in4 (by decide) (by decide) rfl rfl wd_251 dX4_fail_14 ?_
    refine x_aload_n C 0 dX4_fail_17 rfl rfl ?_
    refine x_getRq C (k := 4) kX_14 (by decide) rfl x_in4 (by decide) (by decide) rfl rfl wd_249 rfX_14_4 dX4_fail_18 ?_
    refine x_alen C (402 : Int32) kX_18 (by decide) (by rw [lnX_18]; rfl) dX4_fail_21 ?_
    refine x_icmp_ge C 37 dX4_fail_22 rfl (fun hc => ?_) (fun hc => ?_)
    · replace h := x_itp hc h
      exact x_sub [0] rfl (w_X4_fail_37 C σ1 h)
    · replace h := x_itn hc h
      refine x_aload_n C 0 dX4_fail_25 rfl rfl ?_
      refine x_getRq C (k := 4) kX_14 (by decide) rfl x_in4 (by decide) (by decide) rfl rfl wd_249 rfX_14_4 dX4_fail_26 ?_
      refine x_aload_n C 0 dX4_fail_29 rfl rfl ?_
      refine x_getI C (k := 6) kX_14 (by decide) rfl x_in4 (by decide) (by decide) rfl rfl wd_251 dX4_fail_30 ?_
      obtain ⟨hi2, h⟩ := x_gd_some h
      refine x_iald C kX_18 (x_inl lnX_18 hi2) dX4_fail_33 ?_
      refine x_goto C 41 dX4_fail_34 rfl ?_
      exact x_sub [] rfl (w_X4_fail_41 C (σ1.1 18 (x_ix (σ1.1 14 6))) σ1 h)
abbrev rm_X4_note : Room := { frames := 1, cells := 0, slots := 0, locals := 21 }
set_option maxHeartbeats 4000000 in
set_option maxRecDepth 100000 in
theorem c_X4_note (hG : x_OK TX G) {x1 : Int32} {σ τ : x_Hp} (h : F_X4_note x1 σ = some ((), τ)) : x_M l TX G yX4_note cX4_note 2 none rm_X4_note [.ref (x_ad G 14), .int x1] σ none τ := by
  refine x_M.of hG (lv := [(0, .ref (x_ad G 14)), (1, .int x1)]) (by decide) (Nat.le_of_ble_eq_true rfl) rfl (fun p e s m below meth c C => ?_)
  rw [F_X4_note] at h
  refine x_aload_n C 0 dX4_note_0 rfl rfl ?_
  refine x_getI C (k := 10) kX_14 (by decide) rfl x_in4 (by decide) (by decide) rfl rfl wd_255 dX4_note_1 ?_
  refine x_if_ne C 13 dX4_note_4 rfl (fun hc => ?_) (fun hc => ?_)
  · replace h := x_itn hc h
    obtain ⟨-, rfl⟩ := x_ret h
    exact x_vret C dX4_note_13
  · replace h := x_itp hc h
    refine x_aload_n C 0 dX4_note_7 rfl rfl ?_
    refine x_iload_n C 1 dX4_note_8 rfl rfl ?_
    obtain ⟨v1, σ1, hc1, h⟩ := x_b_some h
    refine x_callV C (n := 1) (c_X4_fail hG hc1) kX_14 (by decide) rfl wd_727 wd_729 wd_14 wd_105 wd_730 (by decide +kernel) rfl ⟨Nat.le_of_ble_eq_true rfl, Nat.le_of_ble_eq_true rfl⟩ ⟨rfl, rfl⟩ rfl (Nat.le_of_ble_eq_true rfl) dX4_note_9 ?_
    refine x_pop C dX4_note_12 rfl ?_
    obtain ⟨-, rfl⟩ := x_ret h
    exact x_vret C dX4_note_13
abbrev rm_X4_take : Room := { frames := 1, cells := 0, slots := 0, locals := 21 }
set_option maxHeartbeats 4000000 in
set_option maxRecDepth 100000 in
theorem c_X4_take (hG : x_OK TX G) {σ τ : x_Hp} {r : Int32} (h : F_X4_take σ = some (r, τ)) : x_M l TX G yX4_take cX4_take 1 (some .boolean) rm_X4_take [.ref (x_ad G 14)] σ (some (.int r)) τ := by
  refine x_M.of hG (lv := [(0, .ref (x_ad G 14))]) (by decide) (Nat.le_of_ble_eq_true rfl) rfl (fun p e s m below meth c C => ?_)
  rw [F_X4_take] at h
  refine x_aload_n C 0 dX4_take_0 rfl rfl ?_
  refine x_getI C (k := 6) kX_14 (by decide) rfl x_in4 (by decide) (by decide) rfl rfl wd_251 dX4_take_1 ?_
  refine x_sipush C (400 : Int32) dX4_take_4 (by decide) ?_
  refine x_icmp_lt C 16 dX4_take_7 rfl (fun hc => ?_) (fun hc => ?_)
  · replace h := x_itp hc h
    refine x_aload_n C 0 dX4_take_16 rfl rfl ?_
    refine x_dup C dX4_take_17 rfl ?_
    refine x_getI C (k := 6) kX_14 (by decide) rfl x_in4 (by decide) (by decide) rfl rfl wd_251 dX4_take_18 ?_
    refine x_iconst C (1 : Int32) dX4_take_21 (by decide) ?_
    refine x_iadd C dX4_take_22 ?_
    refine x_putI C (k := 6) tyX4 kX_14 (by decide) rfl x_in4 tyX4_ok nmX4 (by decide) (by decide) rfl rfl wd_251 rfl (tyX4_ok 6 (by decide)) rfl rfl dX4_take_23 (x_gen h fun σ1 h => ?_)
    refine x_iconst C (1 : Int32) dX4_take_26 (by decide) ?_
    obtain ⟨rfl, rfl⟩ := x_ret h
    exact x_zret C rfl dX4_take_27
  · replace h := x_itn hc h
    refine x_aload_n C 0 dX4_take_10 rfl rfl ?_
    refine x_iconst C (2 : Int32) dX4_take_11 (by decide) ?_
    obtain ⟨v2, σ2, hc2, h⟩ := x_b_some h
    refine x_callV C (n := 1) (c_X4_fail hG hc2) kX_14 (by decide) rfl wd_727 wd_729 wd_14 wd_105 wd_730 (by decide +kernel) rfl ⟨Nat.le_of_ble_eq_true rfl, Nat.le_of_ble_eq_true rfl⟩ ⟨rfl, rfl⟩ rfl (Nat.le_of_ble_eq_true rfl) dX4_take_12 ?_
    obtain ⟨hg, h⟩ := x_gd_some h
    obtain ⟨rfl, rfl⟩ := x_ret h
    exact x_zret C (x_isz_n hg) dX4_take_15
abbrev rm_X4_take_ : Room := { frames := 2, cells := 0, slots := 0, locals := 41 }
set_option maxHeartbeats 4000000 in
set_option maxRecDepth 100000 in
theorem c_X4_take_ (hG : x_OK TX G) {x1 : Int32} {σ τ : x_Hp} {r : Int32} (h : F_X4_take_ x1 σ = some (r, τ)) : x_M l TX G yX4_take_ cX4_take_ 2 (some .boolean) rm_X4_take_ [.ref (x_ad G 14), .int x1] σ (some (.int r)) τ := by
  refine x_M.of hG (lv := [(0, .ref (x_ad G 14)), (1, .int x1)]) (by decide) (Nat.le_of_ble_eq_true rfl) rfl (fun p e s m below meth c C => ?_)
  rw [F_X4_take_] at h
  refine x_aload_n C 0 dX4_take__0 rfl rfl ?_
  obtain ⟨v1, σ1, hc1, h⟩ := x_b_some h
  refine x_callV C (n := 0) (c_X4_kind hG hc1) kX_14 (by decide) rfl wd_714 wd_716 wd_11 wd_105 wd_717 (by decide +kernel) rfl ⟨Nat.le_of_ble_eq_true rfl, Nat.le_of_ble_eq_true rfl⟩ ⟨rfl, rfl⟩ rfl (Nat.le_of_ble_eq_true rfl) dX4_take__1 ?_
  refine x_iload_n C 1 dX4_take__4 rfl rfl ?_
  refine x_icmp_ne C 15 dX4_take__5 rfl (fun hc => ?_) (fun hc => ?_)
  · replace h := x_itn hc h
    refine x_aload_n C 0 dX4_take__15 rfl rfl ?_
    refine x_iconst C (1 : Int32) dX4_take__16 (by decide) ?_
    obtain ⟨v2, σ2, hc2, h⟩ := x_b_some h
    refine x_callV C (n := 1) (c_X4_fail hG hc2) kX_14 (by decide) rfl wd_727 wd_729 wd_14 wd_105 wd_730 (by decide +kernel) rfl ⟨Nat.le_of_ble_eq_true rfl, Nat.le_of_ble_eq_true rfl⟩ ⟨rfl, rfl⟩ rfl (Nat.le_of_ble_eq_true rfl) dX4_take__17 ?_
    obtain ⟨hg, h⟩ := x_gd_some h
    obtain ⟨rfl, rfl⟩ := x_ret h
    exact x_zret C (x_isz_n hg) dX4_take__20
  · replace h := x_itp hc h
    refine x_aload_n C 0 dX4_take__8 rfl rfl ?_
    obtain ⟨v3, σ3, hc3, h⟩ := x_b_some h
    refine x_callV C (n := 0) (c_X4_take hG hc3) kX_14 (by decide) rfl wd_731 wd_733 wd_15 wd_105 wd_734 (by decide +kernel) rfl ⟨Nat.le_of_ble_eq_true rfl, Nat.le_of_ble_eq_true rfl⟩ ⟨rfl, rfl⟩ rfl (Nat.le_of_ble_eq_true rfl) dX4_take__9 ?_
    refine x_goto C 20 dX4_take__12 rfl ?_
    obtain ⟨hg, h⟩ := x_gd_some h
    obtain ⟨rfl, rfl⟩ := x_ret h
    exact x_zret C (x_isz_n hg) dX4_take__20
abbrev rm_X4_worth : Room := { frames := 0, cells := 0, slots := 0, locals := 0 }
set_option maxHeartbeats 4000000 in
set_option maxRecDepth 100000 in
theorem c_X4_worth (hG : x_OK TX G) {σ τ : x_Hp} {r : Int64} (h : F_X4_worth σ = some (r, τ)) : x_M l TX G yX4_worth cX4_worth 1 (some .long) rm_X4_worth [.ref (x_ad G 14)] σ (some (.long r)) τ := by
  refine x_M.of hG (lv := [(0, .ref (x_ad G 14))]) (by decide) (Nat.le_of_ble_eq_true rfl) rfl (fun p e s m below meth c C => ?_)
  rw [F_X4_worth] at h
  refine x_aload_n C 0 dX4_worth_0 rfl rfl ?_
  refine x_getI C (k := 6) kX_14 (by decide) rfl x_in4 (by decide) (by decide) rfl rfl wd_251 dX4_worth_1 ?_
  refine x_if_lt C 31 dX4_worth_4 rfl (fun hc => ?_) (fun hc => ?_)
  · replace h := x_itp hc h
    refine x_lconst C (0 : Int64) dX4_worth_31 (by decide) ?_
    obtain ⟨rfl, rfl⟩ := x_ret h
    exact x_lret C dX4_worth_32
  · replace h := x_itn hc h
    refine x_aload_n C 0 dX4_worth_7 rfl rfl ?_
    refine x_getI C (k := 6) kX_14 (by decide) rfl x_in4 (by decide) (by decide) rfl rfl wd_251 dX4_worth_8 ?_
    refine x_aload_n C 0 dX4_worth_11 rfl rfl ?_
    refine x_getRq C (k := 3) kX_14 (by decide) rfl x_in4 (by decide) (by decide) rfl rfl wd_248 rfX_14_3 dX4_worth_12 ?_
    refine x_alen C (402 : Int32) kX_17 (by decide) (by rw [lnX_17]; rfl) dX4_worth_15 ?_
    refine x_icmp_ge C 31 dX4_worth_16 rfl (fun hc => ?_) (fun hc => ?_)
    · replace h := x_itp hc h
      refine x_lconst C (0 : Int64) dX4_worth_31 (by decide) ?_
      obtain ⟨rfl, rfl⟩ := x_ret h
      exact x_lret C dX4_worth_32
    · replace h := x_itn hc h
      refine x_aload_n C 0 dX4_worth_19 rfl rfl ?_
      refine x_getRq C (k := 3) kX_14 (by decide) rfl x_in4 (by decide) (by decide) rfl rfl wd_248 rfX_14_3 dX4_worth_20 ?_
      refine x_aload_n C 0 dX4_worth_23 rfl rfl ?_
      refine x_getI C (k := 6) kX_14 (by decide) rfl x_in4 (by decide) (by decide) rfl rfl wd_251 dX4_worth_24 ?_
      obtain ⟨hi1, h⟩ := x_gd_some h
      refine x_lald C kX_17 (x_inl lnX_17 hi1) dX4_worth_27 ?_
      refine x_goto C 32 dX4_worth_28 rfl ?_
      obtain ⟨rfl, rfl⟩ := x_ret h
      exact x_lret C dX4_worth_32
abbrev rm_X4_takeNumbers : Room := { frames := 3, cells := 0, slots := 0, locals := 62 }
set_option maxHeartbeats 4000000 in
set_option maxRecDepth 100000 in
theorem w_X4_takeNumbers_36 {r : Int32} {τ : x_Hp} (C : x_C p s m args meth c cX4_takeNumbers 6 (some .boolean) yX4_takeNumbers.cls TX G) {k3 : Int32 → Int32 → Int32 → x_Hp → Option (Int32 × x_Hp)} (hk3 : ∀ (x2 : Int32) (x3 : Int32) (x4 : Int32) (σ : x_Hp) (h : k3 x2 x3 x4 σ = some (r, τ)), x_W p l e rm_X4_takeNumbers s m args below meth c (MQ below (x_Q TX G (some (.int r)) τ) args s 0 0 (x_A TX G)) TX G 6 3 [(0, .ref (x_ad G 14)), (2, .int x2), (3, .int x3), (4, .int x4)] [] σ) (x2 : Int32) (x3 : Int32) (x4 : Int32) (x5 : Int32) (σ : x_Hp) (h : F_X4_takeNumbers_36 k3 x2 x3 x4 x5 σ = some (r, τ)) : x_W p l e rm_X4_takeNumbers s m args below meth c (MQ below (x_Q TX G (some (.int r)) τ) args s 0 0 (x_A TX G)) TX G 6 36 [(0, .ref (x_ad G 14)), (2, .int x2), (3, .int x3), (4, .int x4), (5, .int x5)] [] σ := by
  have hG : x_OK TX G := C.2.2.2.2.2.2.2.2.1
  rw [F_X4_takeNumbers_36] at h
  refine x_aload_n C 0 dX4_takeNumbers_36 rfl rfl ?_
  refine x_getRq C (k := 7) kX_14 (by decide) rfl x_in4 (by decide) (by decide) rfl rfl wd_252 rfX_14_7 dX4_takeNumbers_37 ?_
  refine x_iload C 3 dX4_takeNumbers_40 rfl ?_
  refine x_iload C 4 dX4_takeNumbers_42 rfl ?_
  obtain ⟨v4, σ4, hc4, h⟩ := x_b_some h
  refine x_callSN C (n := 3) (c_X8_put hG kX_19 hc4) nw_648 wd_522 wd_102 wd_523 (by decide +kernel) rfl ⟨Nat.le_of_ble_eq_true rfl, Nat.le_of_ble_eq_true rfl⟩ ⟨rfl, rfl⟩ rfl (Nat.le_of_ble_eq_true rfl) dX4_takeNumbers_44 ?_
  refine x_aload_n C 0 dX4_takeNumbers_47 rfl rfl ?_
  refine x_bipush C (31 : Int32) dX4_takeNumbers_48 (by decide) ?_
  obtain ⟨v5, σ5, hc5, h⟩ := x_b_some h
  refine x_callV C (n := 1) (c_X4_take_ hG hc5) kX_14 (by decide) rfl wd_747 wd_749 wd_18 wd_105 wd_750 (by decide +kernel) rfl ⟨Nat.le_of_ble_eq_true rfl, Nat.le_of_ble_eq_true rfl⟩ ⟨rfl, rfl⟩ rfl (Nat.le_of_ble_eq_true rfl) dX4_takeNumbers_50 ?_
  refine x_if_ne C 58 dX4_takeNumbers_53 rfl (fun hc => ?_) (fun hc => ?_)
  · replace h := x_itn hc h
    refine x_iinc C 3 (x4 + (1 : Int32)) [(4, .int (x4 + (1 : Int32))), (0, .ref (x_ad G 14)), (2, .int x2), (3, .int x3), (5, .int x5)] dX4_takeNumbers_58 rfl rfl (by decide) rfl ?_
    refine x_goto C 3 dX4_takeNumbers_61 rfl ?_
    exact x_sub [1, 2, 3, 0] rfl (hk3 x2 x3 (x4 + (1 : Int32)) σ5 h)
  · replace h := x_itp hc h
    refine x_iconst C (0 : Int32) dX4_takeNumbers_56 (by decide) ?_
    obtain ⟨rfl, rfl⟩ := x_ret h
    exact x_zret C rfl dX4_takeNumbers_57
set_option maxHeartbeats 4000000 in
set_option maxRecDepth 100000 in
theorem w_X4_takeNumbers_3 {r : Int32} {τ : x_Hp} (C : x_C p s m args meth c cX4_takeNumbers 6 (some .boolean) yX4_takeNumbers.cls TX G) : ∀ (n : Nat) (x2 : Int32) (x3 : Int32) (x4 : Int32) (σ : x_Hp) (h : F_X4_takeNumbers_3 n x2 x3 x4 σ = some (r, τ)), x_W p l e rm_X4_takeNumbers s m args below meth c (MQ below (x_Q TX G (some (.int r)) τ) args s 0 0 (x_A TX G)) TX G 6 3 [(0, .ref (x_ad G 14)), (2, .int x2), (3, .int x3), (4, .int x4)] [] σ := by
  intro n
  induction n with
  | zero => intro x2 x3 x4 σ  h; cases h
  | succ n ih =>
    intro x2 x3 x4 σ  h
    have hG : x_OK TX G := C.2.2.2.2.2.2.2.2.1
    rw [F_X4_takeNumbers_3] at h
    refine x_iload C 3 dX4_takeNumbers_3 rfl ?_
    refine x_iload_n C 1 dX4_takeNumbers_5 rfl rfl ?_
    refine x_icmp_ge C 64 dX4_takeNumbers_6 rfl (fun hc => ?_) (fun hc => ?_)
    · replace h := x_itp hc h
      refine x_iconst C (1 : Int32) dX4_takeNumbers_64 (by decide) ?_
      obtain ⟨rfl, rfl⟩ := x_ret h
      exact x_zret C rfl dX4_takeNumbers_65
    · replace h := x_itn hc h
      refine x_aload_n C 0 dX4_takeNumbers_9 rfl rfl ?_
      obtain ⟨v1, σ1, hc1, h⟩ := x_b_some h
      refine x_callV C (n := 0) (c_X4_worth hG hc1) kX_14 (by decide) rfl wd_735 wd_737 wd_16 wd_105 wd_738 (by decide +kernel) rfl ⟨Nat.le_of_ble_eq_true rfl, Nat.le_of_ble_eq_true rfl⟩ ⟨rfl, rfl⟩ rfl (Nat.le_of_ble_eq_true rfl) dX4_takeNumbers_10 ?_
      refine x_l2i C dX4_takeNumbers_13 ?_
      refine x_istore C [(5, .int v1.toInt32), (0, .ref (x_ad G 14)), (2, .int x2), (3, .int x3), (4, .int x4)] dX4_takeNumbers_14 (by decide) rfl ?_
      refine x_aload_n C 1 dX4_takeNumbers_16 rfl rfl ?_
      obtain ⟨v2, σ2, hc2, h⟩ := x_b_some h
      refine x_callV C (n := 0) (c_X4_kind hG hc2) kX_14 (by decide) rfl wd_714 wd_716 wd_11 wd_105 wd_717 (by decide +kernel) rfl ⟨Nat.le_of_ble_eq_true rfl, Nat.le_of_ble_eq_true rfl⟩ ⟨rfl, rfl⟩ rfl (Nat.le_of_ble_eq_true rfl) dX4_takeNumbers_17 ?_
      refine x_bipush C (31 : Int32) dX4_takeNumbers_20 (by decide) ?_
      refine x_icmp_ne C 36 dX4_takeNumbers_22 rfl (fun hc => ?_) (fun hc => ?_)
      · replace h := x_itn hc h
        exact x_sub [1, 2, 3, 4, 0] rfl (w_X4_takeNumbers_36 C ih x2 x3 x4 v1.toInt32 σ2 h)
      · replace h := x_itp hc h
        refine x_iload C 0 dX4_takeNumbers_25 rfl ?_
        refine x_iload_n C 3 dX4_takeNumbers_27 rfl rfl ?_
        refine x_icmp_le C 36 dX4_takeNumbers_28 rfl (fun hc => ?_) (fun hc => ?_)
        · replace h := x_itp hc h
          exact x_sub [1, 2, 3, 4, 0] rfl (w_X4_takeNumbers_36 C ih x2 x3 x4 v1.toInt32 σ2 h)
        · replace h := x_itn hc h
          refine x_aload_n C 1 dX4_takeNumbers_31 rfl rfl ?_
          refine x_iconst C (5 : Int32) dX4_takeNumbers_32 (by decide) ?_
          obtain ⟨v3, σ3, hc3, h⟩ := x_b_some h
          refine x_callV C (n := 1) (c_X4_note hG hc3) kX_14 (by decide) rfl wd_743 wd_745 wd_17 wd_105 wd_746 (by decide +kernel) rfl ⟨Nat.le_of_ble_eq_true rfl, Nat.le_of_ble_eq_true rfl⟩ ⟨rfl, rfl⟩ rfl (Nat.le_of_ble_eq_true rfl) dX4_takeNumbers_33 ?_
          exact x_sub [1, 2, 3, 4, 0] rfl (w_X4_takeNumbers_36 C ih x2 x3 x4 v1.toInt32 σ3 h)
set_option maxHeartbeats 4000000 in
set_option maxRecDepth 100000 in
theorem c_X4_takeNumbers (hG : x_OK TX G) {x1 : Int32} {x2 : Int32} {x3 : Int32} {σ τ : x_Hp} {r : Int32} (h : F_X4_takeNumbers x1 x2 x3 σ = some (r, τ)) : x_M l TX G yX4_takeNumbers cX4_takeNumbers 6 (some .boolean) rm_X4_takeNumbers [.ref (x_ad G 14), .int x1, .int x2, .int x3] σ (some (.int r)) τ := by
  refine x_M.of hG (lv := [(0, .ref (x_ad G 14)), (1, .int x1), (2, .int x2), (3, .int x3)]) (by decide) (Nat.le_of_ble_eq_true rfl) rfl (fun p e s m below meth c C => ?_)
  rw [F_X4_takeNumbers] at h
  refine x_iload_n C 1 dX4_takeNumbers_0 rfl rfl ?_
  refine x_istore C [(4, .int x1), (0, .ref (x_ad G 14)), (1, .int x1), (2, .int x2), (3, .int x3)] dX4_takeNumbers_1 (by decide) rfl ?_
  exact x_sub [1, 3, 4, 0] rfl (w_X4_takeNumbers_3 C x_fuel x2 x3 x1 σ h)
abbrev rm_X6_knows : Room := { frames := 0, cells := 0, slots := 0, locals := 0 }
set_option maxHeartbeats 4000000 in
set_option maxRecDepth 100000 in
theorem w_X6_knows_2 {r : Int32} {τ : x_Hp} (C : x_C p s m args meth c cX6_knows 4 (some .boolean) yX6_knows.cls TX G) : ∀ (n : Nat) (o : Nat) (y1 : Int64) (x3 : Int32) (σ : x_Hp) (hk_o : x_kd TX o = 6) (h : F_X6_knows_2 n o y1 x3 σ = some (r, τ)), x_W p l e rm_X6_knows s m args below meth c (MQ below (x_Q TX G (some (.int r)) τ) args s 0 0 (x_A TX G)) TX G 4 2 [(0, .ref (x_ad G o)), (1, .long y1), (3, .int x3)] [] σ := by
  intro n
  induction n with
  | zero => intro o y1 x3 σ _ h; cases h
  | succ n ih =>
    intro o y1 x3 σ hk_o h
    have hG : x_OK TX G := C.2.2.2.2.2.2.2.2.1
    rw [F_X6_knows_2] at h
    refine x_iload_n C 2 dX6_knows_2 rfl rfl ?_
    refine x_aload_n C 0 dX6_knows_3 rfl rfl ?_
    refine x_getI C (k := 7) hk_o (by decide) rfl x_in6 (by decide) (by decide) rfl rfl wd_184 dX6_knows_4 ?_
    refine x_icmp_ge C 38 dX6_knows_7 rfl (fun hc => ?_) (fun hc => ?_)
    · replace h := x_itp hc h
      refine x_iconst C (0 : Int32) dX6_knows_38 (by decide) ?_
      obtain ⟨rfl, rfl⟩ := x_ret h
      exact x_zret C rfl dX6_knows_39
    · replace h := x_itn hc h
      refine x_iload_n C 2 dX6_knows_10 rfl rfl ?_
      refine x_aload_n C 0 dX6_knows_11 rfl rfl ?_
      refine x_getR C (k := 8) hk_o (by decide) rfl x_in6 (by decide) (by decide) rfl rfl wd_189 dX6_knows_12 ?_
      refine x_alen C (Int32.ofNat (x_ln TX (x_rf TX o 8))) (t_TX_6_8 hk_o) (by decide) rfl dX6_knows_15 ?_
      refine x_icmp_ge C 38 dX6_knows_16 rfl (fun hc => ?_) (fun hc => ?_)
      · replace h := x_itp hc h
        refine x_iconst C (0 : Int32) dX6_knows_38 (by decide) ?_
        obtain ⟨rfl, rfl⟩ := x_ret h
        exact x_zret C rfl dX6_knows_39
      · replace h := x_itn hc h
        refine x_aload_n C 0 dX6_knows_19 rfl rfl ?_
        refine x_getR C (k := 8) hk_o (by decide) rfl x_in6 (by decide) (by decide) rfl rfl wd_189 dX6_knows_20 ?_
        refine x_iload_n C 2 dX6_knows_23 rfl rfl ?_
        obtain ⟨hi1, h⟩ := x_gd_some h
        refine x_lald C (t_TX_6_8 hk_o) hi1 dX6_knows_24 ?_
        refine x_lload_n C 1 dX6_knows_25 rfl rfl ?_
        refine x_lcmp C dX6_knows_26 ?_
        refine x_if_ne C 32 dX6_knows_27 rfl (fun hc => ?_) (fun hc => ?_)
        · replace h := x_itn hc h
          refine x_iinc C 2 (x3 + (1 : Int32)) [(3, .int (x3 + (1 : Int32))), (0, .ref (x_ad G o)), (1, .long y1)] dX6_knows_32 rfl rfl (by decide) rfl ?_
          refine x_goto C 2 dX6_knows_35 rfl ?_
          exact x_sub [1, 2, 0] rfl (ih o y1 (x3 + (1 : Int32)) σ hk_o h)
        · replace h := x_itp hc h
          refine x_iconst C (1 : Int32) dX6_knows_30 (by decide) ?_
          obtain ⟨rfl, rfl⟩ := x_ret h
          exact x_zret C rfl dX6_knows_31
set_option maxHeartbeats 4000000 in
set_option maxRecDepth 100000 in
theorem c_X6_knows (hG : x_OK TX G) {o : Nat} {y1 : Int64} {σ τ : x_Hp} {r : Int32} (hk_o : x_kd TX o = 6) (h : F_X6_knows o y1 σ = some (r, τ)) : x_M l TX G yX6_knows cX6_knows 4 (some .boolean) rm_X6_knows [.ref (x_ad G o), .long y1] σ (some (.int r)) τ := by
  refine x_M.of hG (lv := [(0, .ref (x_ad G o)), (1, .long y1)]) (by decide) (Nat.le_of_ble_eq_true rfl) rfl (fun p e s m below meth c C => ?_)
  rw [F_X6_knows] at h
  refine x_iconst C (0 : Int32) dX6_knows_0 (by decide) ?_
  refine x_istore_n C [(3, .int (0 : Int32)), (0, .ref (x_ad G o)), (1, .long y1)] dX6_knows_1 rfl (by decide) rfl ?_
  exact x_sub [1, 2, 0] rfl (w_X6_knows_2 C x_fuel o y1 (0 : Int32) σ hk_o h)
end WW
