section WW
variable {p : Program} {l : Launch} {e : Env} {s : State} {m : MethodId} {args : Array Value} {below : List Frame} {meth : Method} {c : Code} {G : x_G}
abbrev rm_X9_put : Room := { frames := 0, cells := 0, slots := 0, locals := 0 }
set_option maxHeartbeats 4000000 in
set_option maxRecDepth 100000 in
theorem w_X9_put_3 {τ : x_Hp} (C : x_C p s m args meth c cX9_put 3 none yX9_put.cls TM G) : ∀ (n : Nat) (x1 : Int32) (x2 : Int32) (σ : x_Hp) (h : F_X9_put_3 n x1 x2 σ = some ((), τ)), x_W p l e rm_X9_put s m args below meth c (MQ below (x_Q TM G none τ) args s 0 0 (x_A TM G)) TM G 3 3 [(0, .ref (x_ad G 0)), (1, .int x1), (2, .int x2)] [] σ := by
  intro n
  induction n with
  | zero => intro x1 x2 σ  h; cases h
  | succ n ih =>
    intro x1 x2 σ  h
    have hG : x_OK TM G := C.2.2.2.2.2.2.2.2.1
    rw [F_X9_put_3] at h
    refine x_iload_n C 2 dX9_put_3 rfl rfl ?_
    refine x_if_lt C 36 dX9_put_4 rfl (fun hc => ?_) (fun hc => ?_)
    · replace h := x_itp hc h
      obtain ⟨-, rfl⟩ := x_ret h
      exact x_vret C dX9_put_36
    · replace h := x_itn hc h
      refine x_aload_n C 0 dX9_put_7 rfl rfl ?_
      refine x_getRq C (k := 1) kM_0 (by decide) rfl x_in9 (by decide) (by decide) rfl rfl wd_1209 rfM_0_1 dX9_put_8 ?_
      refine x_aload_n C 0 dX9_put_11 rfl rfl ?_
      refine x_getI C (k := 2) kM_0 (by decide) rfl x_in9 (by decide) (by decide) rfl rfl wd_1210 dX9_put_12 ?_
      refine x_iload_n C 1 dX9_put_15 rfl rfl ?_
      refine x_iload_n C 2 dX9_put_16 rfl rfl ?_
      refine x_ishr C dX9_put_17 ?_
      refine x_i2b C dX9_put_18 ?_
      obtain ⟨hi1, h⟩ := x_gd_some h
      refine x_bast C kM_1 (x_inl lnM_1 hi1) dX9_put_19 (x_gen h fun σ2 h => ?_)
      refine x_aload_n C 0 dX9_put_20 rfl rfl ?_
      refine x_dup C dX9_put_21 rfl ?_
      refine x_getI C (k := 2) kM_0 (by decide) rfl x_in9 (by decide) (by decide) rfl rfl wd_1210 dX9_put_22 ?_
      refine x_iconst C (1 : Int32) dX9_put_25 (by decide) ?_
      refine x_iadd C dX9_put_26 ?_
      refine x_putI C (k := 2) tyX9 kM_0 (by decide) rfl x_in9 tyX9_ok nmX9 (by decide) (by decide) rfl rfl wd_1210 rfl (tyX9_ok 2 (by decide)) rfl rfl dX9_put_27 (x_gen h fun σ3 h => ?_)
      refine x_iinc C 2 (x2 + (-8 : Int32)) [(2, .int (x2 + (-8 : Int32))), (0, .ref (x_ad G 0)), (1, .int x1)] dX9_put_30 rfl rfl (by decide) rfl ?_
      refine x_goto C 3 dX9_put_33 rfl ?_
      exact x_sub [1, 2, 0] rfl (ih x1 (x2 + (-8 : Int32)) σ3 h)
set_option maxHeartbeats 4000000 in
set_option maxRecDepth 100000 in
theorem c_X9_put (hG : x_OK TM G) {x1 : Int32} {σ τ : x_Hp} (h : F_X9_put x1 σ = some ((), τ)) : x_M l TM G yX9_put cX9_put 3 none rm_X9_put [.ref (x_ad G 0), .int x1] σ none τ := by
  refine x_M.of hG (lv := [(0, .ref (x_ad G 0)), (1, .int x1)]) (by decide) (Nat.le_of_ble_eq_true rfl) rfl (fun p e s m below meth c C => ?_)
  rw [F_X9_put] at h
  refine x_bipush C (24 : Int32) dX9_put_0 (by decide) ?_
  refine x_istore_n C [(2, .int (24 : Int32)), (0, .ref (x_ad G 0)), (1, .int x1)] dX9_put_2 rfl (by decide) rfl ?_
  exact x_sub [1, 2, 0] rfl (w_X9_put_3 C x_fuel x1 (24 : Int32) σ h)
abbrev rm_X9_feed : Room := { frames := 1, cells := 0, slots := 0, locals := 22 }
set_option maxHeartbeats 4000000 in
set_option maxRecDepth 100000 in
theorem c_X9_feed (hG : x_OK TM G) {x1 : Int32} {x2 : Int32} {x3 : Int32} {x4 : Int32} {x5 : Int32} {σ τ : x_Hp} {r : Int32} (h : F_X9_feed x1 x2 x3 x4 x5 σ = some (r, τ)) : x_M l TM G yX9_feed cX9_feed 6 (some .int) rm_X9_feed [.ref (x_ad G 0), .int x1, .int x2, .int x3, .int x4, .int x5] σ (some (.int r)) τ := by
  refine x_M.of hG (lv := [(0, .ref (x_ad G 0)), (1, .int x1), (2, .int x2), (3, .int x3), (4, .int x4), (5, .int x5)]) (by decide) (Nat.le_of_ble_eq_true rfl) rfl (fun p e s m below meth c C => ?_)
  rw [F_X9_feed] at h
  refine x_aload_n C 0 dX9_feed_0 rfl rfl ?_
  refine x_getI C (k := 2) kM_0 (by decide) rfl x_in9 (by decide) (by decide) rfl rfl wd_1210 dX9_feed_1 ?_
  refine x_bipush C (20 : Int32) dX9_feed_4 (by decide) ?_
  refine x_iadd C dX9_feed_6 ?_
  refine x_sipush C (2000 : Int32) dX9_feed_7 (by decide) ?_
  refine x_icmp_le C 15 dX9_feed_10 rfl (fun hc => ?_) (fun hc => ?_)
  · replace h := x_itp hc h
    refine x_aload_n C 0 dX9_feed_15 rfl rfl ?_
    refine x_iload_n C 1 dX9_feed_16 rfl rfl ?_
    obtain ⟨v1, σ1, hc1, h⟩ := x_b_some h
    refine x_callV C (n := 1) (c_X9_put hG hc1) kM_0 (by decide) rfl wd_1433 wd_1435 wd_50 wd_111 wd_1436 (by decide +kernel) rfl ⟨Nat.le_of_ble_eq_true rfl, Nat.le_of_ble_eq_true rfl⟩ ⟨rfl, rfl⟩ rfl (Nat.le_of_ble_eq_true rfl) dX9_feed_17 ?_
    refine x_aload_n C 0 dX9_feed_20 rfl rfl ?_
    refine x_iload_n C 2 dX9_feed_21 rfl rfl ?_
    obtain ⟨v2, σ2, hc2, h⟩ := x_b_some h
    refine x_callV C (n := 1) (c_X9_put hG hc2) kM_0 (by decide) rfl wd_1433 wd_1435 wd_50 wd_111 wd_1436 (by decide +kernel) rfl ⟨Nat.le_of_ble_eq_true rfl, Nat.le_of_ble_eq_true rfl⟩ ⟨rfl, rfl⟩ rfl (Nat.le_of_ble_eq_true rfl) dX9_feed_22 ?_
    refine x_aload_n C 0 dX9_feed_25 rfl rfl ?_
    refine x_iload_n C 3 dX9_feed_26 rfl rfl ?_
    obtain ⟨v3, σ3, hc3, h⟩ := x_b_some h
    refine x_callV C (n := 1) (c_X9_put hG hc3) kM_0 (by decide) rfl wd_1433 wd_1435 wd_50 wd_111 wd_1436 (by decide +kernel) rfl ⟨Nat.le_of_ble_eq_true rfl, Nat.le_of_ble_eq_true rfl⟩ ⟨rfl, rfl⟩ rfl (Nat.le_of_ble_eq_true rfl) dX9_feed_27 ?_
    refine x_aload_n C 0 dX9_feed_30 rfl rfl ?_
    refine x_iload C 4 dX9_feed_31 rfl ?_
    obtain ⟨v4, σ4, hc4, h⟩ := x_b_some h
    refine x_callV C (n := 1) (c_X9_put hG hc4) kM_0 (by decide) rfl wd_1433 wd_1435 wd_50 wd_111 wd_1436 (by decide +kernel) rfl ⟨Nat.le_of_ble_eq_true rfl, Nat.le_of_ble_eq_true rfl⟩ ⟨rfl, rfl⟩ rfl (Nat.le_of_ble_eq_true rfl) dX9_feed_33 ?_
    refine x_aload_n C 0 dX9_feed_36 rfl rfl ?_
    refine x_iload C 5 dX9_feed_37 rfl ?_
    obtain ⟨v5, σ5, hc5, h⟩ := x_b_some h
    refine x_callV C (n := 1) (c_X9_put hG hc5) kM_0 (by decide) rfl wd_1433 wd_1435 wd_50 wd_111 wd_1436 (by decide +kernel) rfl ⟨Nat.le_of_ble_eq_true rfl, Nat.le_of_ble_eq_true rfl⟩ ⟨rfl, rfl⟩ rfl (Nat.le_of_ble_eq_true rfl) dX9_feed_39 ?_
    refine x_aload_n C 0 dX9_feed_42 rfl rfl ?_
    refine x_getI C (k := 2) kM_0 (by decide) rfl x_in9 (by decide) (by decide) rfl rfl wd_1210 dX9_feed_43 ?_
    obtain ⟨rfl, rfl⟩ := x_ret h
    exact x_iret C dX9_feed_46
  · replace h := x_itn hc h
    refine x_iconst C (-1 : Int32) dX9_feed_13 (by decide) ?_
    obtain ⟨rfl, rfl⟩ := x_ret h
    exact x_iret C dX9_feed_14
abbrev rm_X9_back : Room := { frames := 0, cells := 0, slots := 0, locals := 0 }
set_option maxHeartbeats 4000000 in
set_option maxRecDepth 100000 in
theorem c_X9_back (hG : x_OK TM G) {x1 : Int32} {σ τ : x_Hp} {r : Int32} (h : F_X9_back x1 σ = some (r, τ)) : x_M l TM G yX9_back cX9_back 2 (some .int) rm_X9_back [.ref (x_ad G 0), .int x1] σ (some (.int r)) τ := by
  refine x_M.of hG (lv := [(0, .ref (x_ad G 0)), (1, .int x1)]) (by decide) (Nat.le_of_ble_eq_true rfl) rfl (fun p e s m below meth c C => ?_)
  rw [F_X9_back] at h
  refine x_iload_n C 1 dX9_back_0 rfl rfl ?_
  refine x_if_lt C 12 dX9_back_1 rfl (fun hc => ?_) (fun hc => ?_)
  · replace h := x_itp hc h
    refine x_iconst C (-1 : Int32) dX9_back_12 (by decide) ?_
    obtain ⟨rfl, rfl⟩ := x_ret h
    exact x_iret C dX9_back_13
  · replace h := x_itn hc h
    refine x_iload_n C 1 dX9_back_4 rfl rfl ?_
    refine x_aload_n C 0 dX9_back_5 rfl rfl ?_
    refine x_getI C (k := 2) kM_0 (by decide) rfl x_in9 (by decide) (by decide) rfl rfl wd_1210 dX9_back_6 ?_
    refine x_icmp_le C 14 dX9_back_9 rfl (fun hc => ?_) (fun hc => ?_)
    · replace h := x_itp hc h
      refine x_aload_n C 0 dX9_back_14 rfl rfl ?_
      refine x_dup C dX9_back_15 rfl ?_
      refine x_getI C (k := 2) kM_0 (by decide) rfl x_in9 (by decide) (by decide) rfl rfl wd_1210 dX9_back_16 ?_
      refine x_iload_n C 1 dX9_back_19 rfl rfl ?_
      refine x_isub C dX9_back_20 ?_
      refine x_putI C (k := 2) tyX9 kM_0 (by decide) rfl x_in9 tyX9_ok nmX9 (by decide) (by decide) rfl rfl wd_1210 rfl (tyX9_ok 2 (by decide)) rfl rfl dX9_back_21 (x_gen h fun σ1 h => ?_)
      refine x_aload_n C 0 dX9_back_24 rfl rfl ?_
      refine x_getI C (k := 2) kM_0 (by decide) rfl x_in9 (by decide) (by decide) rfl rfl wd_1210 dX9_back_25 ?_
      obtain ⟨rfl, rfl⟩ := x_ret h
      exact x_iret C dX9_back_28
    · replace h := x_itn hc h
      refine x_iconst C (-1 : Int32) dX9_back_12 (by decide) ?_
      obtain ⟨rfl, rfl⟩ := x_ret h
      exact x_iret C dX9_back_13
abbrev rm_X9_byteAt : Room := { frames := 0, cells := 0, slots := 0, locals := 0 }
set_option maxHeartbeats 4000000 in
set_option maxRecDepth 100000 in
theorem c_X9_byteAt (hG : x_OK TM G) {x1 : Int32} {σ τ : x_Hp} {r : Int32} (h : F_X9_byteAt x1 σ = some (r, τ)) : x_M l TM G yX9_byteAt cX9_byteAt 2 (some .int) rm_X9_byteAt [.ref (x_ad G 0), .int x1] σ (some (.int r)) τ := by
  refine x_M.of hG (lv := [(0, .ref (x_ad G 0)), (1, .int x1)]) (by decide) (Nat.le_of_ble_eq_true rfl) rfl (fun p e s m below meth c C => ?_)
  rw [F_X9_byteAt] at h
  refine x_iload_n C 1 dX9_byteAt_0 rfl rfl ?_
  refine x_aload_n C 0 dX9_byteAt_1 rfl rfl ?_
  refine x_getI C (k := 4) kM_0 (by decide) rfl x_in9 (by decide) (by decide) rfl rfl wd_1212 dX9_byteAt_2 ?_
  refine x_icmp_ge C 21 dX9_byteAt_5 rfl (fun hc => ?_) (fun hc => ?_)
  · replace h := x_itp hc h
    refine x_iconst C (0 : Int32) dX9_byteAt_21 (by decide) ?_
    obtain ⟨rfl, rfl⟩ := x_ret h
    exact x_iret C dX9_byteAt_22
  · replace h := x_itn hc h
    refine x_aload_n C 0 dX9_byteAt_8 rfl rfl ?_
    refine x_getRq C (k := 3) kM_0 (by decide) rfl x_in9 (by decide) (by decide) rfl rfl wd_1211 rfM_0_3 dX9_byteAt_9 ?_
    refine x_iload_n C 1 dX9_byteAt_12 rfl rfl ?_
    obtain ⟨hi1, h⟩ := x_gd_some h
    refine x_bald C kM_2 (x_inl lnM_2 hi1) dX9_byteAt_13 ?_
    refine x_sipush C (255 : Int32) dX9_byteAt_14 (by decide) ?_
    refine x_iand C dX9_byteAt_17 ?_
    refine x_goto C 22 dX9_byteAt_18 rfl ?_
    obtain ⟨rfl, rfl⟩ := x_ret h
    exact x_iret C dX9_byteAt_22
abbrev rm_X9_isDigit : Room := { frames := 0, cells := 0, slots := 0, locals := 0 }
set_option maxHeartbeats 4000000 in
set_option maxRecDepth 100000 in
theorem c_X9_isDigit (hG : x_OK TM G) {x0 : Int32} {σ τ : x_Hp} {r : Int32} (h : F_X9_isDigit x0 σ = some (r, τ)) : x_M l TM G yX9_isDigit cX9_isDigit 1 (some .boolean) rm_X9_isDigit [.int x0] σ (some (.int r)) τ := by
  refine x_M.of hG (lv := [(0, .int x0)]) (by decide) (Nat.le_of_ble_eq_true rfl) rfl (fun p e s m below meth c C => ?_)
  rw [F_X9_isDigit] at h
  refine x_iload_n C 0 dX9_isDigit_0 rfl rfl ?_
  refine x_bipush C (48 : Int32) dX9_isDigit_1 (by decide) ?_
  refine x_icmp_lt C 16 dX9_isDigit_3 rfl (fun hc => ?_) (fun hc => ?_)
  · replace h := x_itp hc h
    refine x_iconst C (0 : Int32) dX9_isDigit_16 (by decide) ?_
    obtain ⟨rfl, rfl⟩ := x_ret h
    exact x_zret C rfl dX9_isDigit_17
  · replace h := x_itn hc h
    refine x_iload_n C 0 dX9_isDigit_6 rfl rfl ?_
    refine x_bipush C (57 : Int32) dX9_isDigit_7 (by decide) ?_
    refine x_icmp_gt C 16 dX9_isDigit_9 rfl (fun hc => ?_) (fun hc => ?_)
    · replace h := x_itp hc h
      refine x_iconst C (0 : Int32) dX9_isDigit_16 (by decide) ?_
      obtain ⟨rfl, rfl⟩ := x_ret h
      exact x_zret C rfl dX9_isDigit_17
    · replace h := x_itn hc h
      refine x_iconst C (1 : Int32) dX9_isDigit_12 (by decide) ?_
      refine x_goto C 17 dX9_isDigit_13 rfl ?_
      obtain ⟨rfl, rfl⟩ := x_ret h
      exact x_zret C rfl dX9_isDigit_17
abbrev rm_X9_isLetter : Room := { frames := 0, cells := 0, slots := 0, locals := 0 }
set_option maxHeartbeats 4000000 in
set_option maxRecDepth 100000 in
theorem c_X9_isLetter (hG : x_OK TM G) {x0 : Int32} {σ τ : x_Hp} {r : Int32} (h : F_X9_isLetter x0 σ = some (r, τ)) : x_M l TM G yX9_isLetter cX9_isLetter 1 (some .boolean) rm_X9_isLetter [.int x0] σ (some (.int r)) τ := by
  refine x_M.of hG (lv := [(0, .int x0)]) (by decide) (Nat.le_of_ble_eq_true rfl) rfl (fun p e s m below meth c C => ?_)
  rw [F_X9_isLetter] at h
  refine x_iload_n C 0 dX9_isLetter_0 rfl rfl ?_
  refine x_bipush C (97 : Int32) dX9_isLetter_1 (by decide) ?_
  refine x_icmp_lt C 16 dX9_isLetter_3 rfl (fun hc => ?_) (fun hc => ?_)
  · replace h := x_itp hc h
    refine x_iconst C (0 : Int32) dX9_isLetter_16 (by decide) ?_
    obtain ⟨rfl, rfl⟩ := x_ret h
    exact x_zret C rfl dX9_isLetter_17
  · replace h := x_itn hc h
    refine x_iload_n C 0 dX9_isLetter_6 rfl rfl ?_
    refine x_bipush C (122 : Int32) dX9_isLetter_7 (by decide) ?_
    refine x_icmp_gt C 16 dX9_isLetter_9 rfl (fun hc => ?_) (fun hc => ?_)
    · replace h := x_itp hc h
      refine x_iconst C (0 : Int32) dX9_isLetter_16 (by decide) ?_
      obtain ⟨rfl, rfl⟩ := x_ret h
      exact x_zret C rfl dX9_isLetter_17
    · replace h := x_itn hc h
      refine x_iconst C (1 : Int32) dX9_isLetter_12 (by decide) ?_
      refine x_goto C 17 dX9_isLetter_13 rfl ?_
      obtain ⟨rfl, rfl⟩ := x_ret h
      exact x_zret C rfl dX9_isLetter_17
abbrev rm_X9_appends : Room := { frames := 0, cells := 0, slots := 0, locals := 0 }
set_option maxHeartbeats 4000000 in
set_option maxRecDepth 100000 in
theorem c_X9_appends (hG : x_OK TM G) {y0 : Int64} {x2 : Int32} {σ τ : x_Hp} {r : Int64} (h : F_X9_appends y0 x2 σ = some (r, τ)) : x_M l TM G yX9_appends cX9_appends 3 (some .long) rm_X9_appends [.long y0, .int x2] σ (some (.long r)) τ := by
  refine x_M.of hG (lv := [(0, .long y0), (2, .int x2)]) (by decide) (Nat.le_of_ble_eq_true rfl) rfl (fun p e s m below meth c C => ?_)
  rw [F_X9_appends] at h
  refine x_iload_n C 1 dX9_appends_0 rfl rfl ?_
  refine x_if_ne C 8 dX9_appends_1 rfl (fun hc => ?_) (fun hc => ?_)
  · replace h := x_itn hc h
    refine x_ldc2 C wd_1196 dX9_appends_8 ?_
    refine x_lload_n C 0 dX9_appends_11 rfl rfl ?_
    refine x_lmul C dX9_appends_12 ?_
    refine x_iload_n C 1 dX9_appends_13 rfl rfl ?_
    refine x_bipush C (97 : Int32) dX9_appends_14 (by decide) ?_
    refine x_isub C dX9_appends_16 ?_
    refine x_iconst C (1 : Int32) dX9_appends_17 (by decide) ?_
    refine x_iadd C dX9_appends_18 ?_
    refine x_i2l C dX9_appends_19 ?_
    refine x_ladd C dX9_appends_20 ?_
    obtain ⟨rfl, rfl⟩ := x_ret h
    exact x_lret C dX9_appends_21
  · replace h := x_itp hc h
    refine x_lload_n C 0 dX9_appends_4 rfl rfl ?_
    refine x_goto C 21 dX9_appends_5 rfl ?_
    obtain ⟨rfl, rfl⟩ := x_ret h
    exact x_lret C dX9_appends_21
abbrev rm_X9_word : Room := { frames := 1, cells := 0, slots := 0, locals := 22 }
set_option maxHeartbeats 4000000 in
set_option maxRecDepth 100000 in
theorem c_X9_word (hG : x_OK TM G) {x0 : Int32} {x1 : Int32} {x2 : Int32} {x3 : Int32} {x4 : Int32} {x5 : Int32} {x6 : Int32} {σ τ : x_Hp} {r : Int64} (h : F_X9_word x0 x1 x2 x3 x4 x5 x6 σ = some (r, τ)) : x_M l TM G yX9_word cX9_word 7 (some .long) rm_X9_word [.int x0, .int x1, .int x2, .int x3, .int x4, .int x5, .int x6] σ (some (.long r)) τ := by
  refine x_M.of hG (lv := [(0, .int x0), (1, .int x1), (2, .int x2), (3, .int x3), (4, .int x4), (5, .int x5), (6, .int x6)]) (by decide) (Nat.le_of_ble_eq_true rfl) rfl (fun p e s m below meth c C => ?_)
  rw [F_X9_word] at h
  refine x_lconst C (0 : Int64) dX9_word_0 (by decide) ?_
  refine x_iload_n C 0 dX9_word_1 rfl rfl ?_
  obtain ⟨v1, σ1, hc1, h⟩ := x_b_some h
  refine x_callS C (n := 2) (c_X9_appends hG hc1) wd_1193 wd_1194 wd_111 wd_1195 (by decide +kernel) rfl ⟨Nat.le_of_ble_eq_true rfl, Nat.le_of_ble_eq_true rfl⟩ ⟨rfl, rfl⟩ rfl (Nat.le_of_ble_eq_true rfl) dX9_word_2 ?_
  refine x_iload_n C 1 dX9_word_5 rfl rfl ?_
  obtain ⟨v2, σ2, hc2, h⟩ := x_b_some h
  refine x_callS C (n := 2) (c_X9_appends hG hc2) wd_1193 wd_1194 wd_111 wd_1195 (by decide +kernel) rfl ⟨Nat.le_of_ble_eq_true rfl, Nat.le_of_ble_eq_true rfl⟩ ⟨rfl, rfl⟩ rfl (Nat.le_of_ble_eq_true rfl) dX9_word_6 ?_
  refine x_iload_n C 2 dX9_word_9 rfl rfl ?_
  obtain ⟨v3, σ3, hc3, h⟩ := x_b_some h
  refine x_callS C (n := 2) (c_X9_appends hG hc3) wd_1193 wd_1194 wd_111 wd_1195 (by decide +kernel) rfl ⟨Nat.le_of_ble_eq_true rfl, Nat.le_of_ble_eq_true rfl⟩ ⟨rfl, rfl⟩ rfl (Nat.le_of_ble_eq_true rfl) dX9_word_10 ?_
  refine x_iload_n C 3 dX9_word_13 rfl rfl ?_
  obtain ⟨v4, σ4, hc4, h⟩ := x_b_some h
  refine x_callS C (n := 2) (c_X9_appends hG hc4) wd_1193 wd_1194 wd_111 wd_1195 (by decide +kernel) rfl ⟨Nat.le_of_ble_eq_true rfl, Nat.le_of_ble_eq_true rfl⟩ ⟨rfl, rfl⟩ rfl (Nat.le_of_ble_eq_true rfl) dX9_word_14 ?_
  refine x_iload C 4 dX9_word_17 rfl ?_
  obtain ⟨v5, σ5, hc5, h⟩ := x_b_some h
  refine x_callS C (n := 2) (c_X9_appends hG hc5) wd_1193 wd_1194 wd_111 wd_1195 (by decide +kernel) rfl ⟨Nat.le_of_ble_eq_true rfl, Nat.le_of_ble_eq_true rfl⟩ ⟨rfl, rfl⟩ rfl (Nat.le_of_ble_eq_true rfl) dX9_word_19 ?_
  refine x_iload C 5 dX9_word_22 rfl ?_
  obtain ⟨v6, σ6, hc6, h⟩ := x_b_some h
  refine x_callS C (n := 2) (c_X9_appends hG hc6) wd_1193 wd_1194 wd_111 wd_1195 (by decide +kernel) rfl ⟨Nat.le_of_ble_eq_true rfl, Nat.le_of_ble_eq_true rfl⟩ ⟨rfl, rfl⟩ rfl (Nat.le_of_ble_eq_true rfl) dX9_word_24 ?_
  refine x_iload C 6 dX9_word_27 rfl ?_
  obtain ⟨v7, σ7, hc7, h⟩ := x_b_some h
  refine x_callS C (n := 2) (c_X9_appends hG hc7) wd_1193 wd_1194 wd_111 wd_1195 (by decide +kernel) rfl ⟨Nat.le_of_ble_eq_true rfl, Nat.le_of_ble_eq_true rfl⟩ ⟨rfl, rfl⟩ rfl (Nat.le_of_ble_eq_true rfl) dX9_word_29 ?_
  obtain ⟨rfl, rfl⟩ := x_ret h
  exact x_lret C dX9_word_32
abbrev rm_X9_token : Room := { frames := 0, cells := 0, slots := 0, locals := 0 }
set_option maxHeartbeats 4000000 in
set_option maxRecDepth 100000 in
theorem c_X9_token (hG : x_OK TM G) {x1 : Int32} {x2 : Int32} {x3 : Int32} {y4 : Int64} {σ τ : x_Hp} (h : F_X9_token x1 x2 x3 y4 σ = some ((), τ)) : x_M l TM G yX9_token cX9_token 6 none rm_X9_token [.ref (x_ad G 0), .int x1, .int x2, .int x3, .long y4] σ none τ := by
  refine x_M.of hG (lv := [(0, .ref (x_ad G 0)), (1, .int x1), (2, .int x2), (3, .int x3), (4, .long y4)]) (by decide) (Nat.le_of_ble_eq_true rfl) rfl (fun p e s m below meth c C => ?_)
  rw [F_X9_token] at h
  refine x_aload_n C 0 dX9_token_0 rfl rfl ?_
  refine x_getRq C (k := 5) kM_0 (by decide) rfl x_in9 (by decide) (by decide) rfl rfl wd_1213 rfM_0_5 dX9_token_1 ?_
  refine x_aload_n C 0 dX9_token_4 rfl rfl ?_
  refine x_getI C (k := 10) kM_0 (by decide) rfl x_in9 (by decide) (by decide) rfl rfl wd_1218 dX9_token_5 ?_
  refine x_iload_n C 1 dX9_token_8 rfl rfl ?_
  obtain ⟨hi1, h⟩ := x_gd_some h
  refine x_iast C kM_3 (x_inl lnM_3 hi1) dX9_token_9 (x_gen h fun σ2 h => ?_)
  refine x_aload_n C 0 dX9_token_10 rfl rfl ?_
  refine x_getRq C (k := 6) kM_0 (by decide) rfl x_in9 (by decide) (by decide) rfl rfl wd_1214 rfM_0_6 dX9_token_11 ?_
  refine x_aload_n C 0 dX9_token_14 rfl rfl ?_
  refine x_getI C (k := 10) kM_0 (by decide) rfl x_in9 (by decide) (by decide) rfl rfl wd_1218 dX9_token_15 ?_
  refine x_iload_n C 2 dX9_token_18 rfl rfl ?_
  obtain ⟨hi3, h⟩ := x_gd_some h
  refine x_iast C kM_4 (x_inl lnM_4 hi3) dX9_token_19 (x_gen h fun σ4 h => ?_)
  refine x_aload_n C 0 dX9_token_20 rfl rfl ?_
  refine x_getRq C (k := 7) kM_0 (by decide) rfl x_in9 (by decide) (by decide) rfl rfl wd_1215 rfM_0_7 dX9_token_21 ?_
  refine x_aload_n C 0 dX9_token_24 rfl rfl ?_
  refine x_getI C (k := 10) kM_0 (by decide) rfl x_in9 (by decide) (by decide) rfl rfl wd_1218 dX9_token_25 ?_
  refine x_iload_n C 3 dX9_token_28 rfl rfl ?_
  obtain ⟨hi5, h⟩ := x_gd_some h
  refine x_iast C kM_5 (x_inl lnM_5 hi5) dX9_token_29 (x_gen h fun σ6 h => ?_)
  refine x_aload_n C 0 dX9_token_30 rfl rfl ?_
  refine x_getRq C (k := 8) kM_0 (by decide) rfl x_in9 (by decide) (by decide) rfl rfl wd_1216 rfM_0_8 dX9_token_31 ?_
  refine x_aload_n C 0 dX9_token_34 rfl rfl ?_
  refine x_getI C (k := 10) kM_0 (by decide) rfl x_in9 (by decide) (by decide) rfl rfl wd_1218 dX9_token_35 ?_
  refine x_lload C 4 dX9_token_38 rfl ?_
  obtain ⟨hi7, h⟩ := x_gd_some h
  refine x_last C kM_6 (x_inl lnM_6 hi7) dX9_token_40 (x_gen h fun σ8 h => ?_)
  refine x_aload_n C 0 dX9_token_41 rfl rfl ?_
  refine x_dup C dX9_token_42 rfl ?_
  refine x_getI C (k := 10) kM_0 (by decide) rfl x_in9 (by decide) (by decide) rfl rfl wd_1218 dX9_token_43 ?_
  refine x_iconst C (1 : Int32) dX9_token_46 (by decide) ?_
  refine x_iadd C dX9_token_47 ?_
  refine x_putI C (k := 10) tyX9 kM_0 (by decide) rfl x_in9 tyX9_ok nmX9 (by decide) (by decide) rfl rfl wd_1218 rfl (tyX9_ok 10 (by decide)) rfl rfl dX9_token_48 (x_gen h fun σ9 h => ?_)
  obtain ⟨-, rfl⟩ := x_ret h
  exact x_vret C dX9_token_51
abbrev rm_X9_sign : Room := { frames := 1, cells := 0, slots := 0, locals := 25 }
set_option maxHeartbeats 4000000 in
set_option maxRecDepth 100000 in
theorem w_X9_sign_95 {r : Int32} {τ : x_Hp} (C : x_C p s m args meth c cX9_sign 5 (some .int) yX9_sign.cls TM G) (x1 : Int32) (x4 : Int32) (σ : x_Hp) (h : F_X9_sign_95 x1 x4 σ = some (r, τ)) : x_W p l e rm_X9_sign s m args below meth c (MQ below (x_Q TM G (some (.int r)) τ) args s 0 0 (x_A TM G)) TM G 5 95 [(0, .ref (x_ad G 0)), (1, .int x1), (4, .int x4)] [] σ := by
  have hG : x_OK TM G := C.2.2.2.2.2.2.2.2.1
  rw [F_X9_sign_95] at h
  refine x_aload_n C 0 dX9_sign_95 rfl rfl ?_
  refine x_iload C 2 dX9_sign_96 rfl ?_
  refine x_iload_n C 1 dX9_sign_98 rfl rfl ?_
  refine x_iconst C (0 : Int32) dX9_sign_99 (by decide) ?_
  refine x_lconst C (0 : Int64) dX9_sign_100 (by decide) ?_
  obtain ⟨v1, σ1, hc1, h⟩ := x_b_some h
  refine x_callV C (n := 4) (c_X9_token hG hc1) kM_0 (by decide) rfl wd_1453 wd_1455 wd_53 wd_111 wd_1456 (by decide +kernel) rfl ⟨Nat.le_of_ble_eq_true rfl, Nat.le_of_ble_eq_true rfl⟩ ⟨rfl, rfl⟩ rfl (Nat.le_of_ble_eq_true rfl) dX9_sign_101 ?_
  refine x_iconst C (1 : Int32) dX9_sign_104 (by decide) ?_
  obtain ⟨rfl, rfl⟩ := x_ret h
  exact x_iret C dX9_sign_105
set_option maxHeartbeats 4000000 in
set_option maxRecDepth 100000 in
theorem w_X9_sign_85 {r : Int32} {τ : x_Hp} (C : x_C p s m args meth c cX9_sign 5 (some .int) yX9_sign.cls TM G) (x1 : Int32) (x2 : Int32) (x4 : Int32) (σ : x_Hp) (h : F_X9_sign_85 x1 x2 x4 σ = some (r, τ)) : x_W p l e rm_X9_sign s m args below meth c (MQ below (x_Q TM G (some (.int r)) τ) args s 0 0 (x_A TM G)) TM G 5 85 [(0, .ref (x_ad G 0)), (1, .int x1), (2, .int x2), (4, .int x4)] [] σ := by
  have hG : x_OK TM G := C.2.2.2.2.2.2.2.2.1
  rw [F_X9_sign_85] at h
  refine x_iload_n C 2 dX9_sign_85 rfl rfl ?_
  refine x_bipush C (60 : Int32) dX9_sign_86 (by decide) ?_
  refine x_icmp_ne C 95 dX9_sign_88 rfl (fun hc => ?_) (fun hc => ?_)
  · replace h := x_itn hc h
    exact x_sub [0, 1, 3] rfl (w_X9_sign_95 C x1 x4 σ h)
  · replace h := x_itp hc h
    refine x_bipush C (13 : Int32) dX9_sign_91 (by decide) ?_
    refine x_istore C [(4, .int (13 : Int32)), (0, .ref (x_ad G 0)), (1, .int x1), (2, .int x2)] dX9_sign_93 (by decide) rfl ?_
    exact x_sub [1, 2, 0] rfl (w_X9_sign_95 C x1 (13 : Int32) σ h)
set_option maxHeartbeats 4000000 in
set_option maxRecDepth 100000 in
theorem w_X9_sign_75 {r : Int32} {τ : x_Hp} (C : x_C p s m args meth c cX9_sign 5 (some .int) yX9_sign.cls TM G) (x1 : Int32) (x2 : Int32) (x4 : Int32) (σ : x_Hp) (h : F_X9_sign_75 x1 x2 x4 σ = some (r, τ)) : x_W p l e rm_X9_sign s m args below meth c (MQ below (x_Q TM G (some (.int r)) τ) args s 0 0 (x_A TM G)) TM G 5 75 [(0, .ref (x_ad G 0)), (1, .int x1), (2, .int x2), (4, .int x4)] [] σ := by
  have hG : x_OK TM G := C.2.2.2.2.2.2.2.2.1
  rw [F_X9_sign_75] at h
  refine x_iload_n C 2 dX9_sign_75 rfl rfl ?_
  refine x_bipush C (47 : Int32) dX9_sign_76 (by decide) ?_
  refine x_icmp_ne C 85 dX9_sign_78 rfl (fun hc => ?_) (fun hc => ?_)
  · replace h := x_itn hc h
    exact x_sub [0, 1, 2, 3] rfl (w_X9_sign_85 C x1 x2 x4 σ h)
  · replace h := x_itp hc h
    refine x_bipush C (15 : Int32) dX9_sign_81 (by decide) ?_
    refine x_istore C [(4, .int (15 : Int32)), (0, .ref (x_ad G 0)), (1, .int x1), (2, .int x2)] dX9_sign_83 (by decide) rfl ?_
    exact x_sub [1, 2, 3, 0] rfl (w_X9_sign_85 C x1 x2 (15 : Int32) σ h)
set_option maxHeartbeats 4000000 in
set_option maxRecDepth 100000 in
theorem w_X9_sign_65 {r : Int32} {τ : x_Hp} (C : x_C p s m args meth c cX9_sign 5 (some .int) yX9_sign.cls TM G) (x1 : Int32) (x2 : Int32) (x4 : Int32) (σ : x_Hp) (h : F_X9_sign_65 x1 x2 x4 σ = some (r, τ)) : x_W p l e rm_X9_sign s m args below meth c (MQ below (x_Q TM G (some (.int r)) τ) args s 0 0 (x_A TM G)) TM G 5 65 [(0, .ref (x_ad G 0)), (1, .int x1), (2, .int x2), (4, .int x4)] [] σ := by
  have hG : x_OK TM G := C.2.2.2.2.2.2.2.2.1
  rw [F_X9_sign_65] at h
  refine x_iload_n C 2 dX9_sign_65 rfl rfl ?_
  refine x_bipush C (42 : Int32) dX9_sign_66 (by decide) ?_
  refine x_icmp_ne C 75 dX9_sign_68 rfl (fun hc => ?_) (fun hc => ?_)
  · replace h := x_itn hc h
    exact x_sub [0, 1, 2, 3] rfl (w_X9_sign_75 C x1 x2 x4 σ h)
  · replace h := x_itp hc h
    refine x_bipush C (10 : Int32) dX9_sign_71 (by decide) ?_
    refine x_istore C [(4, .int (10 : Int32)), (0, .ref (x_ad G 0)), (1, .int x1), (2, .int x2)] dX9_sign_73 (by decide) rfl ?_
    exact x_sub [1, 2, 3, 0] rfl (w_X9_sign_75 C x1 x2 (10 : Int32) σ h)
set_option maxHeartbeats 4000000 in
set_option maxRecDepth 100000 in
theorem w_X9_sign_55 {r : Int32} {τ : x_Hp} (C : x_C p s m args meth c cX9_sign 5 (some .int) yX9_sign.cls TM G) (x1 : Int32) (x2 : Int32) (x4 : Int32) (σ : x_Hp) (h : F_X9_sign_55 x1 x2 x4 σ = some (r, τ)) : x_W p l e rm_X9_sign s m args below meth c (MQ below (x_Q TM G (some (.int r)) τ) args s 0 0 (x_A TM G)) TM G 5 55 [(0, .ref (x_ad G 0)), (1, .int x1), (2, .int x2), (4, .int x4)] [] σ := by
  have hG : x_OK TM G := C.2.2.2.2.2.2.2.2.1
  rw [F_X9_sign_55] at h
  refine x_iload_n C 2 dX9_sign_55 rfl rfl ?_
  refine x_bipush C (45 : Int32) dX9_sign_56 (by decide) ?_
  refine x_icmp_ne C 65 dX9_sign_58 rfl (fun hc => ?_) (fun hc => ?_)
  · replace h := x_itn hc h
    exact x_sub [0, 1, 2, 3] rfl (w_X9_sign_65 C x1 x2 x4 σ h)
  · replace h := x_itp hc h
    refine x_bipush C (9 : Int32) dX9_sign_61 (by decide) ?_
    refine x_istore C [(4, .int (9 : Int32)), (0, .ref (x_ad G 0)), (1, .int x1), (2, .int x2)] dX9_sign_63 (by decide) rfl ?_
    exact x_sub [1, 2, 3, 0] rfl (w_X9_sign_65 C x1 x2 (9 : Int32) σ h)
set_option maxHeartbeats 4000000 in
set_option maxRecDepth 100000 in
theorem w_X9_sign_43 {r : Int32} {τ : x_Hp} (C : x_C p s m args meth c cX9_sign 5 (some .int) yX9_sign.cls TM G) (x1 : Int32) (x2 : Int32) (s0 : Int32) (σ : x_Hp) (h : F_X9_sign_43 x1 x2 s0 σ = some (r, τ)) : x_W p l e rm_X9_sign s m args below meth c (MQ below (x_Q TM G (some (.int r)) τ) args s 0 0 (x_A TM G)) TM G 5 43 [(0, .ref (x_ad G 0)), (1, .int x1), (2, .int x2)] [.int s0] σ := by
  have hG : x_OK TM G := C.2.2.2.2.2.2.2.2.1
  rw [F_X9_sign_43] at h
  refine x_istore C [(4, .int s0), (0, .ref (x_ad G 0)), (1, .int x1), (2, .int x2)] dX9_sign_43 (by decide) rfl ?_
  refine x_iload_n C 3 dX9_sign_45 rfl rfl ?_
  refine x_bipush C (43 : Int32) dX9_sign_46 (by decide) ?_
  refine x_icmp_ne C 55 dX9_sign_48 rfl (fun hc => ?_) (fun hc => ?_)
  · replace h := x_itn hc h
    exact x_sub [1, 2, 3, 0] rfl (w_X9_sign_55 C x1 x2 s0 σ h)
  · replace h := x_itp hc h
    refine x_bipush C (8 : Int32) dX9_sign_51 (by decide) ?_
    refine x_istore C [(4, .int (8 : Int32)), (0, .ref (x_ad G 0)), (1, .int x1), (2, .int x2)] dX9_sign_53 (by decide) rfl ?_
    exact x_sub [1, 2, 3, 0] rfl (w_X9_sign_55 C x1 x2 (8 : Int32) σ h)
set_option maxHeartbeats 4000000 in
set_option maxRecDepth 100000 in
theorem c_X9_sign (hG : x_OK TM G) {x1 : Int32} {x2 : Int32} {x3 : Int32} {σ τ : x_Hp} {r : Int32} (h : F_X9_sign x1 x2 x3 σ = some (r, τ)) : x_M l TM G yX9_sign cX9_sign 5 (some .int) rm_X9_sign [.ref (x_ad G 0), .int x1, .int x2, .int x3] σ (some (.int r)) τ := by
  refine x_M.of hG (lv := [(0, .ref (x_ad G 0)), (1, .int x1), (2, .int x2), (3, .int x3)]) (by decide) (Nat.le_of_ble_eq_true rfl) rfl (fun p e s m below meth c C => ?_)
  rw [F_X9_sign] at h
  refine x_iload_n C 2 dX9_sign_0 rfl rfl ?_
  refine x_bipush C (59 : Int32) dX9_sign_1 (by decide) ?_
  refine x_icmp_ne C 10 dX9_sign_3 rfl (fun hc => ?_) (fun hc => ?_)
  · replace h := x_itn hc h
    refine x_iload_n C 2 dX9_sign_10 rfl rfl ?_
    refine x_bipush C (61 : Int32) dX9_sign_11 (by decide) ?_
    refine x_icmp_ne C 20 dX9_sign_13 rfl (fun hc => ?_) (fun hc => ?_)
    · replace h := x_itn hc h
      refine x_iload_n C 2 dX9_sign_20 rfl rfl ?_
      refine x_bipush C (40 : Int32) dX9_sign_21 (by decide) ?_
      refine x_icmp_ne C 31 dX9_sign_23 rfl (fun hc => ?_) (fun hc => ?_)
      · replace h := x_itn hc h
        refine x_iload_n C 2 dX9_sign_31 rfl rfl ?_
        refine x_bipush C (41 : Int32) dX9_sign_32 (by decide) ?_
        refine x_icmp_ne C 42 dX9_sign_34 rfl (fun hc => ?_) (fun hc => ?_)
        · replace h := x_itn hc h
          refine x_iconst C (3 : Int32) dX9_sign_42 (by decide) ?_
          exact x_sub [0, 1, 2] rfl (w_X9_sign_43 C x1 x2 (3 : Int32) σ h)
        · replace h := x_itp hc h
          refine x_bipush C (7 : Int32) dX9_sign_37 (by decide) ?_
          refine x_goto C 43 dX9_sign_39 rfl ?_
          exact x_sub [0, 1, 2] rfl (w_X9_sign_43 C x1 x2 (7 : Int32) σ h)
      · replace h := x_itp hc h
        refine x_bipush C (6 : Int32) dX9_sign_26 (by decide) ?_
        refine x_goto C 43 dX9_sign_28 rfl ?_
        exact x_sub [0, 1, 2] rfl (w_X9_sign_43 C x1 x2 (6 : Int32) σ h)
    · replace h := x_itp hc h
      refine x_iconst C (5 : Int32) dX9_sign_16 (by decide) ?_
      refine x_goto C 43 dX9_sign_17 rfl ?_
      exact x_sub [0, 1, 2] rfl (w_X9_sign_43 C x1 x2 (5 : Int32) σ h)
  · replace h := x_itp hc h
    refine x_iconst C (4 : Int32) dX9_sign_6 (by decide) ?_
    refine x_goto C 43 dX9_sign_7 rfl ?_
    exact x_sub [0, 1, 2] rfl (w_X9_sign_43 C x1 x2 (4 : Int32) σ h)
abbrev rm_X9_cut : Room := { frames := 2, cells := 0, slots := 0, locals := 49 }
set_option maxHeartbeats 4000000 in
set_option maxRecDepth 100000 in
theorem w_X9_cut_291 {τ : x_Hp} (C : x_C p s m args meth c cX9_cut 8 none yX9_cut.cls TM G) {k7 : Int32 → x_Hp → Option (Unit × x_Hp)} (hk7 : ∀ (x1 : Int32) (σ : x_Hp) (h : k7 x1 σ = some ((), τ)), x_W p l e rm_X9_cut s m args below meth c (MQ below (x_Q TM G none τ) args s 0 0 (x_A TM G)) TM G 8 7 [(0, .ref (x_ad G 0)), (1, .int x1)] [] σ) (x1 : Int32) (σ : x_Hp) (h : F_X9_cut_291 k7 x1 σ = some ((), τ)) : x_W p l e rm_X9_cut s m args below meth c (MQ below (x_Q TM G none τ) args s 0 0 (x_A TM G)) TM G 8 291 [(0, .ref (x_ad G 0)), (1, .int x1)] [] σ := by
  have hG : x_OK TM G := C.2.2.2.2.2.2.2.2.1
  rw [F_X9_cut_291] at h
  refine x_goto C 7 dX9_cut_291 rfl ?_
  exact x_sub [0, 1] rfl (hk7 x1 σ h)
set_option maxHeartbeats 4000000 in
set_option maxRecDepth 100000 in
theorem w_X9_cut_67 {τ : x_Hp} (C : x_C p s m args meth c cX9_cut 8 none yX9_cut.cls TM G) {k7 : Int32 → x_Hp → Option (Unit × x_Hp)} (hk7 : ∀ (x1 : Int32) (σ : x_Hp) (h : k7 x1 σ = some ((), τ)), x_W p l e rm_X9_cut s m args below meth c (MQ below (x_Q TM G none τ) args s 0 0 (x_A TM G)) TM G 8 7 [(0, .ref (x_ad G 0)), (1, .int x1)] [] σ) (x1 : Int32) (σ : x_Hp) (h : F_X9_cut_67 k7 x1 σ = some ((), τ)) : x_W p l e rm_X9_cut s m args below meth c (MQ below (x_Q TM G none τ) args s 0 0 (x_A TM G)) TM G 8 67 [(0, .ref (x_ad G 0)), (1, .int x1)] [] σ := by
  have hG : x_OK TM G := C.2.2.2.2.2.2.2.2.1
  rw [F_X9_cut_67] at h
  refine x_iinc C 1 (x1 + (1 : Int32)) [(1, .int (x1 + (1 : Int32))), (0, .ref (x_ad G 0))] dX9_cut_67 rfl rfl (by decide) rfl ?_
  refine x_goto C 291 dX9_cut_70 rfl ?_
  exact x_sub [1, 0] rfl (w_X9_cut_291 C hk7 (x1 + (1 : Int32)) σ h)
set_option maxHeartbeats 4000000 in
set_option maxRecDepth 100000 in
theorem w_X9_cut_261 {τ : x_Hp} (C : x_C p s m args meth c cX9_cut 8 none yX9_cut.cls TM G) {k7 : Int32 → x_Hp → Option (Unit × x_Hp)} (hk7 : ∀ (x1 : Int32) (σ : x_Hp) (h : k7 x1 σ = some ((), τ)), x_W p l e rm_X9_cut s m args below meth c (MQ below (x_Q TM G none τ) args s 0 0 (x_A TM G)) TM G 8 7 [(0, .ref (x_ad G 0)), (1, .int x1)] [] σ) (x1 : Int32) (x3 : Int32) (x4 : Int32) (s0 : Int32) (σ : x_Hp) (h : F_X9_cut_261 k7 x1 x3 x4 s0 σ = some ((), τ)) : x_W p l e rm_X9_cut s m args below meth c (MQ below (x_Q TM G none τ) args s 0 0 (x_A TM G)) TM G 8 261 [(0, .ref (x_ad G 0)), (1, .int x1), (3, .int x3), (4, .int x4)] [.int s0, .ref (x_ad G 0)] σ := by
  have hG : x_OK TM G := C.2.2.2.2.2.2.2.2.1
  rw [F_X9_cut_261] at h
  refine x_iload_n C 1 dX9_cut_261 rfl rfl ?_
  refine x_iload C 3 dX9_cut_262 rfl ?_
  refine x_lconst C (0 : Int64) dX9_cut_264 (by decide) ?_
  obtain ⟨v15, σ15, hc15, h⟩ := x_b_some h
  refine x_callV C (n := 4) (c_X9_token hG hc15) kM_0 (by decide) rfl wd_1453 wd_1455 wd_53 wd_111 wd_1456 (by decide +kernel) rfl ⟨Nat.le_of_ble_eq_true rfl, Nat.le_of_ble_eq_true rfl⟩ ⟨rfl, rfl⟩ rfl (Nat.le_of_ble_eq_true rfl) dX9_cut_265 ?_
  refine x_iload_n C 1 dX9_cut_268 rfl rfl ?_
  refine x_iload_n C 2 dX9_cut_269 rfl rfl ?_
  refine x_iadd C dX9_cut_270 ?_
  refine x_istore_n C [(1, .int (x1 + x3)), (0, .ref (x_ad G 0)), (3, .int x3), (4, .int x4)] dX9_cut_271 rfl (by decide) rfl ?_
  refine x_goto C 291 dX9_cut_272 rfl ?_
  exact x_sub [1, 0] rfl (w_X9_cut_291 C hk7 (x1 + x3) σ15 h)
set_option maxHeartbeats 4000000 in
set_option maxRecDepth 100000 in
theorem w_X9_cut_244 {τ : x_Hp} (C : x_C p s m args meth c cX9_cut 8 none yX9_cut.cls TM G) {k7 : Int32 → x_Hp → Option (Unit × x_Hp)} (hk7 : ∀ (x1 : Int32) (σ : x_Hp) (h : k7 x1 σ = some ((), τ)), x_W p l e rm_X9_cut s m args below meth c (MQ below (x_Q TM G none τ) args s 0 0 (x_A TM G)) TM G 8 7 [(0, .ref (x_ad G 0)), (1, .int x1)] [] σ) {k208 : Int32 → Int32 → Int32 → x_Hp → Option (Unit × x_Hp)} (hk208 : ∀ (x1 : Int32) (x3 : Int32) (x4 : Int32) (σ : x_Hp) (h : k208 x1 x3 x4 σ = some ((), τ)), x_W p l e rm_X9_cut s m args below meth c (MQ below (x_Q TM G none τ) args s 0 0 (x_A TM G)) TM G 8 208 [(0, .ref (x_ad G 0)), (1, .int x1), (3, .int x3), (4, .int x4)] [] σ) (x1 : Int32) (x3 : Int32) (x4 : Int32) (σ : x_Hp) (h : F_X9_cut_244 k7 k208 x1 x3 x4 σ = some ((), τ)) : x_W p l e rm_X9_cut s m args below meth c (MQ below (x_Q TM G none τ) args s 0 0 (x_A TM G)) TM G 8 244 [(0, .ref (x_ad G 0)), (1, .int x1), (3, .int x3), (4, .int x4)] [] σ := by
  have hG : x_OK TM G := C.2.2.2.2.2.2.2.2.1
  rw [F_X9_cut_244] at h
  refine x_iinc C 2 (x3 + (1 : Int32)) [(3, .int (x3 + (1 : Int32))), (0, .ref (x_ad G 0)), (1, .int x1), (4, .int x4)] dX9_cut_244 rfl rfl (by decide) rfl ?_
  refine x_goto C 208 dX9_cut_247 rfl ?_
  exact x_sub [1, 2, 0, 3] rfl (hk208 x1 (x3 + (1 : Int32)) x4 σ h)
set_option maxHeartbeats 4000000 in
set_option maxRecDepth 100000 in
theorem w_X9_cut_208 {τ : x_Hp} (C : x_C p s m args meth c cX9_cut 8 none yX9_cut.cls TM G) {k7 : Int32 → x_Hp → Option (Unit × x_Hp)} (hk7 : ∀ (x1 : Int32) (σ : x_Hp) (h : k7 x1 σ = some ((), τ)), x_W p l e rm_X9_cut s m args below meth c (MQ below (x_Q TM G none τ) args s 0 0 (x_A TM G)) TM G 8 7 [(0, .ref (x_ad G 0)), (1, .int x1)] [] σ) : ∀ (n : Nat) (x1 : Int32) (x3 : Int32) (x4 : Int32) (σ : x_Hp) (h : F_X9_cut_208 k7 n x1 x3 x4 σ = some ((), τ)), x_W p l e rm_X9_cut s m args below meth c (MQ below (x_Q TM G none τ) args s 0 0 (x_A TM G)) TM G 8 208 [(0, .ref (x_ad G 0)), (1, .int x1), (3, .int x3), (4, .int x4)] [] σ := by
  intro n
  induction n with
  | zero => intro x1 x3 x4 σ  h; cases h
  | succ n ih =>
    intro x1 x3 x4 σ  h
    have hG : x_OK TM G := C.2.2.2.2.2.2.2.2.1
    rw [F_X9_cut_208] at h
    refine x_aload_n C 0 dX9_cut_208 rfl rfl ?_
    refine x_iload_n C 1 dX9_cut_209 rfl rfl ?_
    refine x_iload_n C 2 dX9_cut_210 rfl rfl ?_
    refine x_iadd C dX9_cut_211 ?_
    obtain ⟨v8, σ8, hc8, h⟩ := x_b_some h
    refine x_callV C (n := 1) (c_X9_byteAt hG hc8) kM_0 (by decide) rfl wd_1449 wd_1451 wd_52 wd_111 wd_1452 (by decide +kernel) rfl ⟨Nat.le_of_ble_eq_true rfl, Nat.le_of_ble_eq_true rfl⟩ ⟨rfl, rfl⟩ rfl (Nat.le_of_ble_eq_true rfl) dX9_cut_212 ?_
    obtain ⟨v9, σ9, hc9, h⟩ := x_b_some h
    refine x_callS C (n := 1) (c_X9_isDigit hG hc9) wd_1460 wd_1461 wd_111 wd_1462 (by decide +kernel) rfl ⟨Nat.le_of_ble_eq_true rfl, Nat.le_of_ble_eq_true rfl⟩ ⟨rfl, rfl⟩ rfl (Nat.le_of_ble_eq_true rfl) dX9_cut_215 ?_
    refine x_if_eq C 250 dX9_cut_218 rfl (fun hc => ?_) (fun hc => ?_)
    · replace h := x_itp hc h
      refine x_aload_n C 0 dX9_cut_250 rfl rfl ?_
      refine x_iload_n C 2 dX9_cut_251 rfl rfl ?_
      refine x_iconst C (4 : Int32) dX9_cut_252 (by decide) ?_
      refine x_icmp_le C 260 dX9_cut_253 rfl (fun hc => ?_) (fun hc => ?_)
      · replace h := x_itp hc h
        refine x_iconst C (2 : Int32) dX9_cut_260 (by decide) ?_
        exact x_sub [0, 1, 2, 3] rfl (w_X9_cut_261 C hk7 x1 x3 x4 (2 : Int32) σ9 h)
      · replace h := x_itn hc h
        refine x_iconst C (3 : Int32) dX9_cut_256 (by decide) ?_
        refine x_goto C 261 dX9_cut_257 rfl ?_
        exact x_sub [0, 1, 2, 3] rfl (w_X9_cut_261 C hk7 x1 x3 x4 (3 : Int32) σ9 h)
    · replace h := x_itn hc h
      refine x_iload_n C 2 dX9_cut_221 rfl rfl ?_
      refine x_iconst C (4 : Int32) dX9_cut_222 (by decide) ?_
      refine x_icmp_ge C 244 dX9_cut_223 rfl (fun hc => ?_) (fun hc => ?_)
      · replace h := x_itp hc h
        exact x_sub [0, 1, 2, 3] rfl (w_X9_cut_244 C hk7 ih x1 x3 x4 σ9 h)
      · replace h := x_itn hc h
        refine x_bipush C (10 : Int32) dX9_cut_226 (by decide) ?_
        refine x_iload C 3 dX9_cut_228 rfl ?_
        refine x_imul C dX9_cut_230 ?_
        refine x_aload_n C 0 dX9_cut_231 rfl rfl ?_
        refine x_iload_n C 1 dX9_cut_232 rfl rfl ?_
        refine x_iload_n C 2 dX9_cut_233 rfl rfl ?_
        refine x_iadd C dX9_cut_234 ?_
        obtain ⟨v10, σ10, hc10, h⟩ := x_b_some h
        refine x_callV C (n := 1) (c_X9_byteAt hG hc10) kM_0 (by decide) rfl wd_1449 wd_1451 wd_52 wd_111 wd_1452 (by decide +kernel) rfl ⟨Nat.le_of_ble_eq_true rfl, Nat.le_of_ble_eq_true rfl⟩ ⟨rfl, rfl⟩ rfl (Nat.le_of_ble_eq_true rfl) dX9_cut_235 ?_
        refine x_iadd C dX9_cut_238 ?_
        refine x_bipush C (48 : Int32) dX9_cut_239 (by decide) ?_
        refine x_isub C dX9_cut_241 ?_
        refine x_istore C [(4, .int ((((10 : Int32) * x4) + v10) - (48 : Int32))), (0, .ref (x_ad G 0)), (1, .int x1), (3, .int x3)] dX9_cut_242 (by decide) rfl ?_
        exact x_sub [1, 2, 3, 0] rfl (w_X9_cut_244 C hk7 ih x1 x3 ((((10 : Int32) * x4) + v10) - (48 : Int32)) σ10 h)
set_option maxHeartbeats 4000000 in
set_option maxRecDepth 100000 in
theorem w_X9_cut_179 {τ : x_Hp} (C : x_C p s m args meth c cX9_cut 8 none yX9_cut.cls TM G) {k7 : Int32 → x_Hp → Option (Unit × x_Hp)} (hk7 : ∀ (x1 : Int32) (σ : x_Hp) (h : k7 x1 σ = some ((), τ)), x_W p l e rm_X9_cut s m args below meth c (MQ below (x_Q TM G none τ) args s 0 0 (x_A TM G)) TM G 8 7 [(0, .ref (x_ad G 0)), (1, .int x1)] [] σ) (x1 : Int32) (x3 : Int32) (y4 : Int64) (x6 : Int32) (σ : x_Hp) (h : F_X9_cut_179 k7 x1 x3 y4 x6 σ = some ((), τ)) : x_W p l e rm_X9_cut s m args below meth c (MQ below (x_Q TM G none τ) args s 0 0 (x_A TM G)) TM G 8 179 [(0, .ref (x_ad G 0)), (1, .int x1), (3, .int x3), (4, .long y4), (6, .int x6)] [] σ := by
  have hG : x_OK TM G := C.2.2.2.2.2.2.2.2.1
  rw [F_X9_cut_179] at h
  refine x_aload_n C 0 dX9_cut_179 rfl rfl ?_
  refine x_iload C 4 dX9_cut_180 rfl ?_
  refine x_iload_n C 1 dX9_cut_182 rfl rfl ?_
  refine x_iconst C (0 : Int32) dX9_cut_183 (by decide) ?_
  refine x_lload C 3 dX9_cut_184 rfl ?_
  obtain ⟨v16, σ16, hc16, h⟩ := x_b_some h
  refine x_callV C (n := 4) (c_X9_token hG hc16) kM_0 (by decide) rfl wd_1453 wd_1455 wd_53 wd_111 wd_1456 (by decide +kernel) rfl ⟨Nat.le_of_ble_eq_true rfl, Nat.le_of_ble_eq_true rfl⟩ ⟨rfl, rfl⟩ rfl (Nat.le_of_ble_eq_true rfl) dX9_cut_186 ?_
  refine x_iload_n C 1 dX9_cut_189 rfl rfl ?_
  refine x_iload_n C 2 dX9_cut_190 rfl rfl ?_
  refine x_iadd C dX9_cut_191 ?_
  refine x_istore_n C [(1, .int (x1 + x3)), (0, .ref (x_ad G 0)), (3, .int x3), (4, .long y4), (6, .int x6)] dX9_cut_192 rfl (by decide) rfl ?_
  refine x_goto C 291 dX9_cut_193 rfl ?_
  exact x_sub [1, 0] rfl (w_X9_cut_291 C hk7 (x1 + x3) σ16 h)
set_option maxHeartbeats 4000000 in
set_option maxRecDepth 100000 in
theorem w_X9_cut_173 {τ : x_Hp} (C : x_C p s m args meth c cX9_cut 8 none yX9_cut.cls TM G) {k7 : Int32 → x_Hp → Option (Unit × x_Hp)} (hk7 : ∀ (x1 : Int32) (σ : x_Hp) (h : k7 x1 σ = some ((), τ)), x_W p l e rm_X9_cut s m args below meth c (MQ below (x_Q TM G none τ) args s 0 0 (x_A TM G)) TM G 8 7 [(0, .ref (x_ad G 0)), (1, .int x1)] [] σ) {k146 : Int32 → Int32 → Int64 → Int32 → Int32 → x_Hp → Option (Unit × x_Hp)} (hk146 : ∀ (x1 : Int32) (x3 : Int32) (y4 : Int64) (x6 : Int32) (x7 : Int32) (σ : x_Hp) (h : k146 x1 x3 y4 x6 x7 σ = some ((), τ)), x_W p l e rm_X9_cut s m args below meth c (MQ below (x_Q TM G none τ) args s 0 0 (x_A TM G)) TM G 8 146 [(0, .ref (x_ad G 0)), (1, .int x1), (3, .int x3), (4, .long y4), (6, .int x6), (7, .int x7)] [] σ) (x1 : Int32) (x3 : Int32) (y4 : Int64) (x6 : Int32) (x7 : Int32) (σ : x_Hp) (h : F_X9_cut_173 k7 k146 x1 x3 y4 x6 x7 σ = some ((), τ)) : x_W p l e rm_X9_cut s m args below meth c (MQ below (x_Q TM G none τ) args s 0 0 (x_A TM G)) TM G 8 173 [(0, .ref (x_ad G 0)), (1, .int x1), (3, .int x3), (4, .long y4), (6, .int x6), (7, .int x7)] [] σ := by
  have hG : x_OK TM G := C.2.2.2.2.2.2.2.2.1
  rw [F_X9_cut_173] at h
  refine x_iinc C 5 (x7 + (1 : Int32)) [(7, .int (x7 + (1 : Int32))), (0, .ref (x_ad G 0)), (1, .int x1), (3, .int x3), (4, .long y4), (6, .int x6)] dX9_cut_173 rfl rfl (by decide) rfl ?_
  refine x_goto C 146 dX9_cut_176 rfl ?_
  exact x_sub [1, 2, 3, 4, 5, 0] rfl (hk146 x1 x3 y4 x6 (x7 + (1 : Int32)) σ h)
set_option maxHeartbeats 4000000 in
set_option maxRecDepth 100000 in
theorem w_X9_cut_146 {τ : x_Hp} (C : x_C p s m args meth c cX9_cut 8 none yX9_cut.cls TM G) {k7 : Int32 → x_Hp → Option (Unit × x_Hp)} (hk7 : ∀ (x1 : Int32) (σ : x_Hp) (h : k7 x1 σ = some ((), τ)), x_W p l e rm_X9_cut s m args below meth c (MQ below (x_Q TM G none τ) args s 0 0 (x_A TM G)) TM G 8 7 [(0, .ref (x_ad G 0)), (1, .int x1)] [] σ) : ∀ (n : Nat) (x1 : Int32) (x3 : Int32) (y4 : Int64) (x6 : Int32) (x7 : Int32) (σ : x_Hp) (h : F_X9_cut_146 k7 n x1 x3 y4 x6 x7 σ = some ((), τ)), x_W p l e rm_X9_cut s m args below meth c (MQ below (x_Q TM G none τ) args s 0 0 (x_A TM G)) TM G 8 146 [(0, .ref (x_ad G 0)), (1, .int x1), (3, .int x3), (4, .long y4), (6, .int x6), (7, .int x7)] [] σ := by
  intro n
  induction n with
  | zero => intro x1 x3 y4 x6 x7 σ  h; cases h
  | succ n ih =>
    intro x1 x3 y4 x6 x7 σ  h
    have hG : x_OK TM G := C.2.2.2.2.2.2.2.2.1
    rw [F_X9_cut_146] at h
    refine x_iload C 5 dX9_cut_146 rfl ?_
    refine x_bipush C (25 : Int32) dX9_cut_148 (by decide) ?_
    refine x_icmp_ge C 179 dX9_cut_150 rfl (fun hc => ?_) (fun hc => ?_)
    · replace h := x_itp hc h
      exact x_sub [0, 1, 2, 3, 4] rfl (w_X9_cut_179 C hk7 x1 x3 y4 x6 σ h)
    · replace h := x_itn hc h
      refine x_aload_n C 0 dX9_cut_153 rfl rfl ?_
      refine x_getRq C (k := 9) kM_0 (by decide) rfl x_in9 (by decide) (by decide) rfl rfl wd_1217 rfM_0_9 dX9_cut_154 ?_
      refine x_iload C 5 dX9_cut_157 rfl ?_
      obtain ⟨hi17, h⟩ := x_gd_some h
      refine x_lald C kM_7 (x_inl lnM_7 hi17) dX9_cut_159 ?_
      refine x_lload C 3 dX9_cut_160 rfl ?_
      refine x_lcmp C dX9_cut_162 ?_
      refine x_if_ne C 173 dX9_cut_163 rfl (fun hc => ?_) (fun hc => ?_)
      · replace h := x_itn hc h
        exact x_sub [0, 1, 2, 3, 4, 5] rfl (w_X9_cut_173 C hk7 ih x1 x3 y4 x6 x7 σ h)
      · replace h := x_itp hc h
        refine x_bipush C (20 : Int32) dX9_cut_166 (by decide) ?_
        refine x_iload C 5 dX9_cut_168 rfl ?_
        refine x_iadd C dX9_cut_170 ?_
        refine x_istore C [(6, .int ((20 : Int32) + x7)), (0, .ref (x_ad G 0)), (1, .int x1), (3, .int x3), (4, .long y4), (7, .int x7)] dX9_cut_171 (by decide) rfl ?_
        exact x_sub [1, 2, 3, 4, 0, 5] rfl (w_X9_cut_173 C hk7 ih x1 x3 y4 ((20 : Int32) + x7) x7 σ h)
set_option maxHeartbeats 4000000 in
set_option maxRecDepth 100000 in
theorem w_X9_cut_135 {τ : x_Hp} (C : x_C p s m args meth c cX9_cut 8 none yX9_cut.cls TM G) {k7 : Int32 → x_Hp → Option (Unit × x_Hp)} (hk7 : ∀ (x1 : Int32) (σ : x_Hp) (h : k7 x1 σ = some ((), τ)), x_W p l e rm_X9_cut s m args below meth c (MQ below (x_Q TM G none τ) args s 0 0 (x_A TM G)) TM G 8 7 [(0, .ref (x_ad G 0)), (1, .int x1)] [] σ) (x1 : Int32) (x3 : Int32) (y4 : Int64) (s0 : Int32) (σ : x_Hp) (h : F_X9_cut_135 k7 x1 x3 y4 s0 σ = some ((), τ)) : x_W p l e rm_X9_cut s m args below meth c (MQ below (x_Q TM G none τ) args s 0 0 (x_A TM G)) TM G 8 135 [(0, .ref (x_ad G 0)), (1, .int x1), (3, .int x3), (4, .long y4)] [.int s0] σ := by
  have hG : x_OK TM G := C.2.2.2.2.2.2.2.2.1
  rw [F_X9_cut_135] at h
  refine x_istore C [(6, .int s0), (0, .ref (x_ad G 0)), (1, .int x1), (3, .int x3), (4, .long y4)] dX9_cut_135 (by decide) rfl ?_
  refine x_iload_n C 3 dX9_cut_137 rfl rfl ?_
  refine x_bipush C (7 : Int32) dX9_cut_138 (by decide) ?_
  refine x_icmp_gt C 179 dX9_cut_140 rfl (fun hc => ?_) (fun hc => ?_)
  · replace h := x_itp hc h
    exact x_sub [1, 2, 3, 4, 0] rfl (w_X9_cut_179 C hk7 x1 x3 y4 s0 σ h)
  · replace h := x_itn hc h
    refine x_iconst C (0 : Int32) dX9_cut_143 (by decide) ?_
    refine x_istore C [(7, .int (0 : Int32)), (6, .int s0), (0, .ref (x_ad G 0)), (1, .int x1), (3, .int x3), (4, .long y4)] dX9_cut_144 (by decide) rfl ?_
    exact x_sub [2, 3, 4, 5, 1, 0] rfl (w_X9_cut_146 C hk7 x_fuel x1 x3 y4 s0 (0 : Int32) σ h)
set_option maxHeartbeats 4000000 in
set_option maxRecDepth 100000 in
theorem w_X9_cut_118 {τ : x_Hp} (C : x_C p s m args meth c cX9_cut 8 none yX9_cut.cls TM G) {k7 : Int32 → x_Hp → Option (Unit × x_Hp)} (hk7 : ∀ (x1 : Int32) (σ : x_Hp) (h : k7 x1 σ = some ((), τ)), x_W p l e rm_X9_cut s m args below meth c (MQ below (x_Q TM G none τ) args s 0 0 (x_A TM G)) TM G 8 7 [(0, .ref (x_ad G 0)), (1, .int x1)] [] σ) {k85 : Int32 → Int32 → Int64 → x_Hp → Option (Unit × x_Hp)} (hk85 : ∀ (x1 : Int32) (x3 : Int32) (y4 : Int64) (σ : x_Hp) (h : k85 x1 x3 y4 σ = some ((), τ)), x_W p l e rm_X9_cut s m args below meth c (MQ below (x_Q TM G none τ) args s 0 0 (x_A TM G)) TM G 8 85 [(0, .ref (x_ad G 0)), (1, .int x1), (3, .int x3), (4, .long y4)] [] σ) (x1 : Int32) (x3 : Int32) (y4 : Int64) (σ : x_Hp) (h : F_X9_cut_118 k7 k85 x1 x3 y4 σ = some ((), τ)) : x_W p l e rm_X9_cut s m args below meth c (MQ below (x_Q TM G none τ) args s 0 0 (x_A TM G)) TM G 8 118 [(0, .ref (x_ad G 0)), (1, .int x1), (3, .int x3), (4, .long y4)] [] σ := by
  have hG : x_OK TM G := C.2.2.2.2.2.2.2.2.1
  rw [F_X9_cut_118] at h
  refine x_iinc C 2 (x3 + (1 : Int32)) [(3, .int (x3 + (1 : Int32))), (0, .ref (x_ad G 0)), (1, .int x1), (4, .long y4)] dX9_cut_118 rfl rfl (by decide) rfl ?_
  refine x_goto C 85 dX9_cut_121 rfl ?_
  exact x_sub [1, 2, 0, 3] rfl (hk85 x1 (x3 + (1 : Int32)) y4 σ h)
set_option maxHeartbeats 4000000 in
set_option maxRecDepth 100000 in
theorem w_X9_cut_85 {τ : x_Hp} (C : x_C p s m args meth c cX9_cut 8 none yX9_cut.cls TM G) {k7 : Int32 → x_Hp → Option (Unit × x_Hp)} (hk7 : ∀ (x1 : Int32) (σ : x_Hp) (h : k7 x1 σ = some ((), τ)), x_W p l e rm_X9_cut s m args below meth c (MQ below (x_Q TM G none τ) args s 0 0 (x_A TM G)) TM G 8 7 [(0, .ref (x_ad G 0)), (1, .int x1)] [] σ) : ∀ (n : Nat) (x1 : Int32) (x3 : Int32) (y4 : Int64) (σ : x_Hp) (h : F_X9_cut_85 k7 n x1 x3 y4 σ = some ((), τ)), x_W p l e rm_X9_cut s m args below meth c (MQ below (x_Q TM G none τ) args s 0 0 (x_A TM G)) TM G 8 85 [(0, .ref (x_ad G 0)), (1, .int x1), (3, .int x3), (4, .long y4)] [] σ := by
  intro n
  induction n with
  | zero => intro x1 x3 y4 σ  h; cases h
  | succ n ih =>
    intro x1 x3 y4 σ  h
    have hG : x_OK TM G := C.2.2.2.2.2.2.2.2.1
    rw [F_X9_cut_85] at h
    refine x_aload_n C 0 dX9_cut_85 rfl rfl ?_
    refine x_iload_n C 1 dX9_cut_86 rfl rfl ?_
    refine x_iload_n C 2 dX9_cut_87 rfl rfl ?_
    refine x_iadd C dX9_cut_88 ?_
    obtain ⟨v11, σ11, hc11, h⟩ := x_b_some h
    refine x_callV C (n := 1) (c_X9_byteAt hG hc11) kM_0 (by decide) rfl wd_1449 wd_1451 wd_52 wd_111 wd_1452 (by decide +kernel) rfl ⟨Nat.le_of_ble_eq_true rfl, Nat.le_of_ble_eq_true rfl⟩ ⟨rfl, rfl⟩ rfl (Nat.le_of_ble_eq_true rfl) dX9_cut_89 ?_
    obtain ⟨v12, σ12, hc12, h⟩ := x_b_some h
    refine x_callS C (n := 1) (c_X9_isLetter hG hc12) wd_1457 wd_1458 wd_111 wd_1459 (by decide +kernel) rfl ⟨Nat.le_of_ble_eq_true rfl, Nat.le_of_ble_eq_true rfl⟩ ⟨rfl, rfl⟩ rfl (Nat.le_of_ble_eq_true rfl) dX9_cut_92 ?_
    refine x_if_eq C 124 dX9_cut_95 rfl (fun hc => ?_) (fun hc => ?_)
    · replace h := x_itp hc h
      refine x_iload_n C 2 dX9_cut_124 rfl rfl ?_
      refine x_bipush C (8 : Int32) dX9_cut_125 (by decide) ?_
      refine x_icmp_le C 134 dX9_cut_127 rfl (fun hc => ?_) (fun hc => ?_)
      · replace h := x_itp hc h
        refine x_iconst C (1 : Int32) dX9_cut_134 (by decide) ?_
        exact x_sub [0, 1, 2, 3] rfl (w_X9_cut_135 C hk7 x1 x3 y4 (1 : Int32) σ12 h)
      · replace h := x_itn hc h
        refine x_iconst C (3 : Int32) dX9_cut_130 (by decide) ?_
        refine x_goto C 135 dX9_cut_131 rfl ?_
        exact x_sub [0, 1, 2, 3] rfl (w_X9_cut_135 C hk7 x1 x3 y4 (3 : Int32) σ12 h)
    · replace h := x_itn hc h
      refine x_iload_n C 2 dX9_cut_98 rfl rfl ?_
      refine x_bipush C (8 : Int32) dX9_cut_99 (by decide) ?_
      refine x_icmp_ge C 118 dX9_cut_101 rfl (fun hc => ?_) (fun hc => ?_)
      · replace h := x_itp hc h
        exact x_sub [0, 1, 2, 3] rfl (w_X9_cut_118 C hk7 ih x1 x3 y4 σ12 h)
      · replace h := x_itn hc h
        refine x_lload C 3 dX9_cut_104 rfl ?_
        refine x_aload_n C 0 dX9_cut_106 rfl rfl ?_
        refine x_iload_n C 1 dX9_cut_107 rfl rfl ?_
        refine x_iload_n C 2 dX9_cut_108 rfl rfl ?_
        refine x_iadd C dX9_cut_109 ?_
        obtain ⟨v13, σ13, hc13, h⟩ := x_b_some h
        refine x_callV C (n := 1) (c_X9_byteAt hG hc13) kM_0 (by decide) rfl wd_1449 wd_1451 wd_52 wd_111 wd_1452 (by decide +kernel) rfl ⟨Nat.le_of_ble_eq_true rfl, Nat.le_of_ble_eq_true rfl⟩ ⟨rfl, rfl⟩ rfl (Nat.le_of_ble_eq_true rfl) dX9_cut_110 ?_
        obtain ⟨v14, σ14, hc14, h⟩ := x_b_some h
        refine x_callS C (n := 2) (c_X9_appends hG hc14) wd_1193 wd_1194 wd_111 wd_1195 (by decide +kernel) rfl ⟨Nat.le_of_ble_eq_true rfl, Nat.le_of_ble_eq_true rfl⟩ ⟨rfl, rfl⟩ rfl (Nat.le_of_ble_eq_true rfl) dX9_cut_113 ?_
        refine x_lstore C [(4, .long v14), (0, .ref (x_ad G 0)), (1, .int x1), (3, .int x3)] dX9_cut_116 (by decide) rfl ?_
        exact x_sub [1, 2, 3, 0] rfl (w_X9_cut_118 C hk7 ih x1 x3 v14 σ14 h)
set_option maxHeartbeats 4000000 in
set_option maxRecDepth 100000 in
theorem w_X9_cut_7 {τ : x_Hp} (C : x_C p s m args meth c cX9_cut 8 none yX9_cut.cls TM G) : ∀ (n : Nat) (x1 : Int32) (σ : x_Hp) (h : F_X9_cut_7 n x1 σ = some ((), τ)), x_W p l e rm_X9_cut s m args below meth c (MQ below (x_Q TM G none τ) args s 0 0 (x_A TM G)) TM G 8 7 [(0, .ref (x_ad G 0)), (1, .int x1)] [] σ := by
  intro n
  induction n with
  | zero => intro x1 σ  h; cases h
  | succ n ih =>
    intro x1 σ  h
    have hG : x_OK TM G := C.2.2.2.2.2.2.2.2.1
    rw [F_X9_cut_7] at h
    refine x_aload_n C 0 dX9_cut_7 rfl rfl ?_
    refine x_getI C (k := 10) kM_0 (by decide) rfl x_in9 (by decide) (by decide) rfl rfl wd_1218 dX9_cut_8 ?_
    refine x_sipush C (400 : Int32) dX9_cut_11 (by decide) ?_
    refine x_icmp_gt C 294 dX9_cut_14 rfl (fun hc => ?_) (fun hc => ?_)
    · replace h := x_itp hc h
      obtain ⟨-, rfl⟩ := x_ret h
      exact x_vret C dX9_cut_294
    · replace h := x_itn hc h
      refine x_aload_n C 0 dX9_cut_17 rfl rfl ?_
      refine x_iload_n C 1 dX9_cut_18 rfl rfl ?_
      obtain ⟨v2, σ2, hc2, h⟩ := x_b_some h
      refine x_callV C (n := 1) (c_X9_byteAt hG hc2) kM_0 (by decide) rfl wd_1449 wd_1451 wd_52 wd_111 wd_1452 (by decide +kernel) rfl ⟨Nat.le_of_ble_eq_true rfl, Nat.le_of_ble_eq_true rfl⟩ ⟨rfl, rfl⟩ rfl (Nat.le_of_ble_eq_true rfl) dX9_cut_19 ?_
      refine x_istore_n C [(2, .int v2), (0, .ref (x_ad G 0)), (1, .int x1)] dX9_cut_22 rfl (by decide) rfl ?_
      refine x_iload_n C 2 dX9_cut_23 rfl rfl ?_
      refine x_aload_n C 1 dX9_cut_24 rfl rfl ?_
      refine x_getI C (k := 4) kM_0 (by decide) rfl x_in9 (by decide) (by decide) rfl rfl wd_1212 dX9_cut_25 ?_
      refine x_icmp_lt C 43 dX9_cut_28 rfl (fun hc => ?_) (fun hc => ?_)
      · replace h := x_itp hc h
        refine x_iload_n C 0 dX9_cut_43 rfl rfl ?_
        refine x_bipush C (9 : Int32) dX9_cut_44 (by decide) ?_
        refine x_icmp_eq C 67 dX9_cut_46 rfl (fun hc => ?_) (fun hc => ?_)
        · replace h := x_itp hc h
          exact x_sub [1, 2] rfl (w_X9_cut_67 C ih x1 σ2 h)
        · replace h := x_itn hc h
          refine x_iload_n C 0 dX9_cut_49 rfl rfl ?_
          refine x_bipush C (10 : Int32) dX9_cut_50 (by decide) ?_
          refine x_icmp_eq C 67 dX9_cut_52 rfl (fun hc => ?_) (fun hc => ?_)
          · replace h := x_itp hc h
            exact x_sub [1, 2] rfl (w_X9_cut_67 C ih x1 σ2 h)
          · replace h := x_itn hc h
            refine x_iload_n C 0 dX9_cut_55 rfl rfl ?_
            refine x_bipush C (13 : Int32) dX9_cut_56 (by decide) ?_
            refine x_icmp_eq C 67 dX9_cut_58 rfl (fun hc => ?_) (fun hc => ?_)
            · replace h := x_itp hc h
              exact x_sub [1, 2] rfl (w_X9_cut_67 C ih x1 σ2 h)
            · replace h := x_itn hc h
              refine x_iload_n C 0 dX9_cut_61 rfl rfl ?_
              refine x_bipush C (32 : Int32) dX9_cut_62 (by decide) ?_
              refine x_icmp_ne C 73 dX9_cut_64 rfl (fun hc => ?_) (fun hc => ?_)
              · replace h := x_itn hc h
                refine x_iload_n C 0 dX9_cut_73 rfl rfl ?_
                obtain ⟨v3, σ3, hc3, h⟩ := x_b_some h
                refine x_callS C (n := 1) (c_X9_isLetter hG hc3) wd_1457 wd_1458 wd_111 wd_1459 (by decide +kernel) rfl ⟨Nat.le_of_ble_eq_true rfl, Nat.le_of_ble_eq_true rfl⟩ ⟨rfl, rfl⟩ rfl (Nat.le_of_ble_eq_true rfl) dX9_cut_74 ?_
                refine x_if_eq C 196 dX9_cut_77 rfl (fun hc => ?_) (fun hc => ?_)
                · replace h := x_itp hc h
                  refine x_iload_n C 0 dX9_cut_196 rfl rfl ?_
                  obtain ⟨v4, σ4, hc4, h⟩ := x_b_some h
                  refine x_callS C (n := 1) (c_X9_isDigit hG hc4) wd_1460 wd_1461 wd_111 wd_1462 (by decide +kernel) rfl ⟨Nat.le_of_ble_eq_true rfl, Nat.le_of_ble_eq_true rfl⟩ ⟨rfl, rfl⟩ rfl (Nat.le_of_ble_eq_true rfl) dX9_cut_197 ?_
                  refine x_if_eq C 275 dX9_cut_200 rfl (fun hc => ?_) (fun hc => ?_)
                  · replace h := x_itp hc h
                    refine x_iload_n C 2 dX9_cut_275 rfl rfl ?_
                    refine x_aload_n C 1 dX9_cut_276 rfl rfl ?_
                    refine x_iload_n C 2 dX9_cut_277 rfl rfl ?_
                    refine x_iload_n C 0 dX9_cut_278 rfl rfl ?_
                    refine x_aload_n C 1 dX9_cut_279 rfl rfl ?_
                    refine x_iload_n C 2 dX9_cut_280 rfl rfl ?_
                    refine x_iconst C (1 : Int32) dX9_cut_281 (by decide) ?_
                    refine x_iadd C dX9_cut_282 ?_
                    obtain ⟨v5, σ5, hc5, h⟩ := x_b_some h
                    refine x_callV C (n := 1) (c_X9_byteAt hG hc5) kM_0 (by decide) rfl wd_1449 wd_1451 wd_52 wd_111 wd_1452 (by decide +kernel) rfl ⟨Nat.le_of_ble_eq_true rfl, Nat.le_of_ble_eq_true rfl⟩ ⟨rfl, rfl⟩ rfl (Nat.le_of_ble_eq_true rfl) dX9_cut_283 ?_
                    obtain ⟨v6, σ6, hc6, h⟩ := x_b_some h
                    refine x_callV C (n := 3) (c_X9_sign hG hc6) kM_0 (by decide) rfl wd_1463 wd_1465 wd_54 wd_111 wd_1466 (by decide +kernel) rfl ⟨Nat.le_of_ble_eq_true rfl, Nat.le_of_ble_eq_true rfl⟩ ⟨rfl, rfl⟩ rfl (Nat.le_of_ble_eq_true rfl) dX9_cut_286 ?_
                    refine x_iadd C dX9_cut_289 ?_
                    refine x_istore_n C [(1, .int (x1 + v6)), (2, .int v2), (0, .ref (x_ad G 0))] dX9_cut_290 rfl (by decide) rfl ?_
                    exact x_sub [2, 0] rfl (w_X9_cut_291 C ih (x1 + v6) σ6 h)
                  · replace h := x_itn hc h
                    refine x_iconst C (0 : Int32) dX9_cut_203 (by decide) ?_
                    refine x_istore_n C [(3, .int (0 : Int32)), (2, .int v2), (0, .ref (x_ad G 0)), (1, .int x1)] dX9_cut_204 rfl (by decide) rfl ?_
                    refine x_iconst C (0 : Int32) dX9_cut_205 (by decide) ?_
                    refine x_istore C [(4, .int (0 : Int32)), (3, .int (0 : Int32)), (2, .int v2), (0, .ref (x_ad G 0)), (1, .int x1)] dX9_cut_206 (by decide) rfl ?_
                    exact x_sub [3, 4, 1, 0] rfl (w_X9_cut_208 C ih x_fuel x1 (0 : Int32) (0 : Int32) σ4 h)
                · replace h := x_itn hc h
                  refine x_iconst C (0 : Int32) dX9_cut_80 (by decide) ?_
                  refine x_istore_n C [(3, .int (0 : Int32)), (2, .int v2), (0, .ref (x_ad G 0)), (1, .int x1)] dX9_cut_81 rfl (by decide) rfl ?_
                  refine x_lconst C (0 : Int64) dX9_cut_82 (by decide) ?_
                  refine x_lstore C [(4, .long (0 : Int64)), (3, .int (0 : Int32)), (2, .int v2), (0, .ref (x_ad G 0)), (1, .int x1)] dX9_cut_83 (by decide) rfl ?_
                  exact x_sub [3, 4, 1, 0] rfl (w_X9_cut_85 C ih x_fuel x1 (0 : Int32) (0 : Int64) σ3 h)
              · replace h := x_itp hc h
                exact x_sub [1, 2] rfl (w_X9_cut_67 C ih x1 σ2 h)
      · replace h := x_itn hc h
        refine x_aload_n C 1 dX9_cut_31 rfl rfl ?_
        refine x_iconst C (0 : Int32) dX9_cut_32 (by decide) ?_
        refine x_aload_n C 1 dX9_cut_33 rfl rfl ?_
        refine x_getI C (k := 4) kM_0 (by decide) rfl x_in9 (by decide) (by decide) rfl rfl wd_1212 dX9_cut_34 ?_
        refine x_iconst C (0 : Int32) dX9_cut_37 (by decide) ?_
        refine x_lconst C (0 : Int64) dX9_cut_38 (by decide) ?_
        obtain ⟨v7, σ7, hc7, h⟩ := x_b_some h
        refine x_callV C (n := 4) (c_X9_token hG hc7) kM_0 (by decide) rfl wd_1453 wd_1455 wd_53 wd_111 wd_1456 (by decide +kernel) rfl ⟨Nat.le_of_ble_eq_true rfl, Nat.le_of_ble_eq_true rfl⟩ ⟨rfl, rfl⟩ rfl (Nat.le_of_ble_eq_true rfl) dX9_cut_39 ?_
        obtain ⟨-, rfl⟩ := x_ret h
        exact x_vret C dX9_cut_42
set_option maxHeartbeats 4000000 in
set_option maxRecDepth 100000 in
theorem c_X9_cut (hG : x_OK TM G) {σ τ : x_Hp} (h : F_X9_cut σ = some ((), τ)) : x_M l TM G yX9_cut cX9_cut 8 none rm_X9_cut [.ref (x_ad G 0)] σ none τ := by
  refine x_M.of hG (lv := [(0, .ref (x_ad G 0))]) (by decide) (Nat.le_of_ble_eq_true rfl) rfl (fun p e s m below meth c C => ?_)
  rw [F_X9_cut] at h
  refine x_aload_n C 0 dX9_cut_0 rfl rfl ?_
  refine x_iconst C (0 : Int32) dX9_cut_1 (by decide) ?_
  refine x_putI C (k := 10) tyX9 kM_0 (by decide) rfl x_in9 tyX9_ok nmX9 (by decide) (by decide) rfl rfl wd_1218 rfl (tyX9_ok 10 (by decide)) rfl rfl dX9_cut_2 (x_gen h fun σ1 h => ?_)
  refine x_iconst C (0 : Int32) dX9_cut_5 (by decide) ?_
  refine x_istore_n C [(1, .int (0 : Int32)), (0, .ref (x_ad G 0))] dX9_cut_6 rfl (by decide) rfl ?_
  exact x_sub [1, 0] rfl (w_X9_cut_7 C x_fuel (0 : Int32) σ1 h)
abbrev rm_X9_is : Room := { frames := 0, cells := 0, slots := 0, locals := 0 }
set_option maxHeartbeats 4000000 in
set_option maxRecDepth 100000 in
theorem c_X9_is (hG : x_OK TM G) {x1 : Int32} {σ τ : x_Hp} {r : Int32} (h : F_X9_is x1 σ = some (r, τ)) : x_M l TM G yX9_is cX9_is 2 (some .boolean) rm_X9_is [.ref (x_ad G 0), .int x1] σ (some (.int r)) τ := by
  refine x_M.of hG (lv := [(0, .ref (x_ad G 0)), (1, .int x1)]) (by decide) (Nat.le_of_ble_eq_true rfl) rfl (fun p e s m below meth c C => ?_)
  rw [F_X9_is] at h
  refine x_aload_n C 0 dX9_is_0 rfl rfl ?_
  refine x_getI C (k := 13) kM_0 (by decide) rfl x_in9 (by decide) (by decide) rfl rfl wd_1221 dX9_is_1 ?_
  refine x_if_ne C 24 dX9_is_4 rfl (fun hc => ?_) (fun hc => ?_)
  · replace h := x_itn hc h
    refine x_iconst C (0 : Int32) dX9_is_24 (by decide) ?_
    obtain ⟨rfl, rfl⟩ := x_ret h
    exact x_zret C rfl dX9_is_25
  · replace h := x_itp hc h
    refine x_aload_n C 0 dX9_is_7 rfl rfl ?_
    refine x_getRq C (k := 5) kM_0 (by decide) rfl x_in9 (by decide) (by decide) rfl rfl wd_1213 rfM_0_5 dX9_is_8 ?_
    refine x_aload_n C 0 dX9_is_11 rfl rfl ?_
    refine x_getI C (k := 11) kM_0 (by decide) rfl x_in9 (by decide) (by decide) rfl rfl wd_1219 dX9_is_12 ?_
    obtain ⟨hi1, h⟩ := x_gd_some h
    refine x_iald C kM_3 (x_inl lnM_3 hi1) dX9_is_15 ?_
    refine x_iload_n C 1 dX9_is_16 rfl rfl ?_
    refine x_icmp_ne C 24 dX9_is_17 rfl (fun hc => ?_) (fun hc => ?_)
    · replace h := x_itn hc h
      refine x_iconst C (0 : Int32) dX9_is_24 (by decide) ?_
      obtain ⟨rfl, rfl⟩ := x_ret h
      exact x_zret C rfl dX9_is_25
    · replace h := x_itp hc h
      refine x_iconst C (1 : Int32) dX9_is_20 (by decide) ?_
      refine x_goto C 25 dX9_is_21 rfl ?_
      obtain ⟨rfl, rfl⟩ := x_ret h
      exact x_zret C rfl dX9_is_25
abbrev rm_X9_fail : Room := { frames := 0, cells := 0, slots := 0, locals := 0 }
set_option maxHeartbeats 4000000 in
set_option maxRecDepth 100000 in
theorem c_X9_fail (hG : x_OK TM G) {x1 : Int32} {σ τ : x_Hp} (h : F_X9_fail x1 σ = some ((), τ)) : x_M l TM G yX9_fail cX9_fail 2 none rm_X9_fail [.ref (x_ad G 0), .int x1] σ none τ := by
  refine x_M.of hG (lv := [(0, .ref (x_ad G 0)), (1, .int x1)]) (by decide) (Nat.le_of_ble_eq_true rfl) rfl (fun p e s m below meth c C => ?_)
  rw [F_X9_fail] at h
  refine x_aload_n C 0 dX9_fail_0 rfl rfl ?_
  refine x_getI C (k := 13) kM_0 (by decide) rfl x_in9 (by decide) (by decide) rfl rfl wd_1221 dX9_fail_1 ?_
  refine x_if_le C 8 dX9_fail_4 rfl (fun hc => ?_) (fun hc => ?_)
  · replace h := x_itp hc h
    refine x_aload_n C 0 dX9_fail_8 rfl rfl ?_
    refine x_iload_n C 1 dX9_fail_9 rfl rfl ?_
    refine x_putI C (k := 13) tyX9 kM_0 (by decide) rfl x_in9 tyX9_ok nmX9 (by decide) (by decide) rfl rfl wd_1221 rfl (tyX9_ok 13 (by decide)) rfl rfl dX9_fail_10 (x_gen h fun σ1 h => ?_)
    refine x_aload_n C 0 dX9_fail_13 rfl rfl ?_
    refine x_aload_n C 0 dX9_fail_14 rfl rfl ?_
    refine x_getRq C (k := 6) kM_0 (by decide) rfl x_in9 (by decide) (by decide) rfl rfl wd_1214 rfM_0_6 dX9_fail_15 ?_
    refine x_aload_n C 0 dX9_fail_18 rfl rfl ?_
    refine x_getI C (k := 11) kM_0 (by decide) rfl x_in9 (by decide) (by decide) rfl rfl wd_1219 dX9_fail_19 ?_
    obtain ⟨hi2, h⟩ := x_gd_some h
    refine x_iald C kM_4 (x_inl lnM_4 hi2) dX9_fail_22 ?_
    refine x_putI C (k := 14) tyX9 kM_0 (by decide) rfl x_in9 tyX9_ok nmX9 (by decide) (by decide) rfl rfl wd_1222 rfl (tyX9_ok 14 (by decide)) rfl rfl dX9_fail_23 (x_gen h fun σ3 h => ?_)
    obtain ⟨-, rfl⟩ := x_ret h
    exact x_vret C dX9_fail_26
  · replace h := x_itn hc h
    obtain ⟨-, rfl⟩ := x_ret h
    exact x_vret C dX9_fail_7
abbrev rm_X9_wrong : Room := { frames := 0, cells := 0, slots := 0, locals := 0 }
set_option maxHeartbeats 4000000 in
set_option maxRecDepth 100000 in
theorem w_X9_wrong_46 {τ : x_Hp} (C : x_C p s m args meth c cX9_wrong 4 none yX9_wrong.cls TM G) (x1 : Int32) (x3 : Int32) (σ : x_Hp) (h : F_X9_wrong_46 x1 x3 σ = some ((), τ)) : x_W p l e rm_X9_wrong s m args below meth c (MQ below (x_Q TM G none τ) args s 0 0 (x_A TM G)) TM G 4 46 [(0, .ref (x_ad G 0)), (1, .int x1), (3, .int x3)] [] σ := by
  have hG : x_OK TM G := C.2.2.2.2.2.2.2.2.1
  rw [F_X9_wrong_46] at h
  refine x_aload_n C 0 dX9_wrong_46 rfl rfl ?_
  refine x_iload_n C 1 dX9_wrong_47 rfl rfl ?_
  refine x_putI C (k := 15) tyX9 kM_0 (by decide) rfl x_in9 tyX9_ok nmX9 (by decide) (by decide) rfl rfl wd_1223 rfl (tyX9_ok 15 (by decide)) rfl rfl dX9_wrong_48 (x_gen h fun σ2 h => ?_)
  refine x_aload_n C 0 dX9_wrong_51 rfl rfl ?_
  refine x_iload_n C 2 dX9_wrong_52 rfl rfl ?_
  refine x_putI C (k := 16) tyX9 kM_0 (by decide) rfl x_in9 tyX9_ok nmX9 (by decide) (by decide) rfl rfl wd_1224 rfl (tyX9_ok 16 (by decide)) rfl rfl dX9_wrong_53 (x_gen h fun σ3 h => ?_)
  obtain ⟨-, rfl⟩ := x_ret h
  exact x_vret C dX9_wrong_56
set_option maxHeartbeats 4000000 in
set_option maxRecDepth 100000 in
theorem c_X9_wrong (hG : x_OK TM G) {x1 : Int32} {x2 : Int32} {σ τ : x_Hp} (h : F_X9_wrong x1 x2 σ = some ((), τ)) : x_M l TM G yX9_wrong cX9_wrong 4 none rm_X9_wrong [.ref (x_ad G 0), .int x1, .int x2] σ none τ := by
  refine x_M.of hG (lv := [(0, .ref (x_ad G 0)), (1, .int x1), (2, .int x2)]) (by decide) (Nat.le_of_ble_eq_true rfl) rfl (fun p e s m below meth c C => ?_)
  rw [F_X9_wrong] at h
  refine x_aload_n C 0 dX9_wrong_0 rfl rfl ?_
  refine x_getRq C (k := 6) kM_0 (by decide) rfl x_in9 (by decide) (by decide) rfl rfl wd_1214 rfM_0_6 dX9_wrong_1 ?_
  refine x_iload_n C 2 dX9_wrong_4 rfl rfl ?_
  obtain ⟨hi1, h⟩ := x_gd_some h
  refine x_iald C kM_4 (x_inl lnM_4 hi1) dX9_wrong_5 ?_
  refine x_istore_n C [(3, .int (σ.1 4 (x_ix x2))), (0, .ref (x_ad G 0)), (1, .int x1), (2, .int x2)] dX9_wrong_6 rfl (by decide) rfl ?_
  refine x_aload_n C 1 dX9_wrong_7 rfl rfl ?_
  refine x_getI C (k := 13) kM_0 (by decide) rfl x_in9 (by decide) (by decide) rfl rfl wd_1221 dX9_wrong_8 ?_
  refine x_if_gt C 45 dX9_wrong_11 rfl (fun hc => ?_) (fun hc => ?_)
  · replace h := x_itp hc h
    obtain ⟨-, rfl⟩ := x_ret h
    exact x_vret C dX9_wrong_45
  · replace h := x_itn hc h
    refine x_aload_n C 1 dX9_wrong_14 rfl rfl ?_
    refine x_getI C (k := 15) kM_0 (by decide) rfl x_in9 (by decide) (by decide) rfl rfl wd_1223 dX9_wrong_15 ?_
    refine x_if_eq C 46 dX9_wrong_18 rfl (fun hc => ?_) (fun hc => ?_)
    · replace h := x_itp hc h
      exact x_sub [1, 2, 0] rfl (w_X9_wrong_46 C x1 (σ.1 4 (x_ix x2)) σ h)
    · replace h := x_itn hc h
      refine x_iload_n C 0 dX9_wrong_21 rfl rfl ?_
      refine x_aload_n C 1 dX9_wrong_22 rfl rfl ?_
      refine x_getI C (k := 16) kM_0 (by decide) rfl x_in9 (by decide) (by decide) rfl rfl wd_1224 dX9_wrong_23 ?_
      refine x_icmp_gt C 45 dX9_wrong_26 rfl (fun hc => ?_) (fun hc => ?_)
      · replace h := x_itp hc h
        obtain ⟨-, rfl⟩ := x_ret h
        exact x_vret C dX9_wrong_45
      · replace h := x_itn hc h
        refine x_iload_n C 0 dX9_wrong_29 rfl rfl ?_
        refine x_aload_n C 1 dX9_wrong_30 rfl rfl ?_
        refine x_getI C (k := 16) kM_0 (by decide) rfl x_in9 (by decide) (by decide) rfl rfl wd_1224 dX9_wrong_31 ?_
        refine x_icmp_ne C 46 dX9_wrong_34 rfl (fun hc => ?_) (fun hc => ?_)
        · replace h := x_itn hc h
          exact x_sub [1, 2, 0] rfl (w_X9_wrong_46 C x1 (σ.1 4 (x_ix x2)) σ h)
        · replace h := x_itp hc h
          refine x_iload_n C 2 dX9_wrong_37 rfl rfl ?_
          refine x_aload_n C 1 dX9_wrong_38 rfl rfl ?_
          refine x_getI C (k := 15) kM_0 (by decide) rfl x_in9 (by decide) (by decide) rfl rfl wd_1223 dX9_wrong_39 ?_
          refine x_icmp_lt C 46 dX9_wrong_42 rfl (fun hc => ?_) (fun hc => ?_)
          · replace h := x_itp hc h
            exact x_sub [1, 2, 0] rfl (w_X9_wrong_46 C x1 (σ.1 4 (x_ix x2)) σ h)
          · replace h := x_itn hc h
            obtain ⟨-, rfl⟩ := x_ret h
            exact x_vret C dX9_wrong_45
abbrev rm_X9_goesOn : Room := { frames := 1, cells := 0, slots := 0, locals := 21 }
set_option maxHeartbeats 4000000 in
set_option maxRecDepth 100000 in
theorem c_X9_goesOn (hG : x_OK TM G) {σ τ : x_Hp} (h : F_X9_goesOn σ = some ((), τ)) : x_M l TM G yX9_goesOn cX9_goesOn 1 none rm_X9_goesOn [.ref (x_ad G 0)] σ none τ := by
  refine x_M.of hG (lv := [(0, .ref (x_ad G 0))]) (by decide) (Nat.le_of_ble_eq_true rfl) rfl (fun p e s m below meth c C => ?_)
  rw [F_X9_goesOn] at h
  refine x_aload_n C 0 dX9_goesOn_0 rfl rfl ?_
  refine x_getI C (k := 11) kM_0 (by decide) rfl x_in9 (by decide) (by decide) rfl rfl wd_1219 dX9_goesOn_1 ?_
  refine x_sipush C (400 : Int32) dX9_goesOn_4 (by decide) ?_
  refine x_icmp_ne C 18 dX9_goesOn_7 rfl (fun hc => ?_) (fun hc => ?_)
  · replace h := x_itn hc h
    refine x_aload_n C 0 dX9_goesOn_18 rfl rfl ?_
    refine x_dup C dX9_goesOn_19 rfl ?_
    refine x_getI C (k := 11) kM_0 (by decide) rfl x_in9 (by decide) (by decide) rfl rfl wd_1219 dX9_goesOn_20 ?_
    refine x_iconst C (1 : Int32) dX9_goesOn_23 (by decide) ?_
    refine x_iadd C dX9_goesOn_24 ?_
    refine x_putI C (k := 11) tyX9 kM_0 (by decide) rfl x_in9 tyX9_ok nmX9 (by decide) (by decide) rfl rfl wd_1219 rfl (tyX9_ok 11 (by decide)) rfl rfl dX9_goesOn_25 (x_gen h fun σ1 h => ?_)
    obtain ⟨-, rfl⟩ := x_ret h
    exact x_vret C dX9_goesOn_28
  · replace h := x_itp hc h
    refine x_aload_n C 0 dX9_goesOn_10 rfl rfl ?_
    refine x_iconst C (2 : Int32) dX9_goesOn_11 (by decide) ?_
    obtain ⟨v2, σ2, hc2, h⟩ := x_b_some h
    refine x_callV C (n := 1) (c_X9_fail hG hc2) kM_0 (by decide) rfl wd_1479 wd_1481 wd_58 wd_111 wd_1482 (by decide +kernel) rfl ⟨Nat.le_of_ble_eq_true rfl, Nat.le_of_ble_eq_true rfl⟩ ⟨rfl, rfl⟩ rfl (Nat.le_of_ble_eq_true rfl) dX9_goesOn_12 ?_
    refine x_goto C 28 dX9_goesOn_15 rfl ?_
    obtain ⟨-, rfl⟩ := x_ret h
    exact x_vret C dX9_goesOn_28
abbrev rm_X9_must : Room := { frames := 2, cells := 0, slots := 0, locals := 41 }
set_option maxHeartbeats 4000000 in
set_option maxRecDepth 100000 in
theorem c_X9_must (hG : x_OK TM G) {x1 : Int32} {σ τ : x_Hp} (h : F_X9_must x1 σ = some ((), τ)) : x_M l TM G yX9_must cX9_must 2 none rm_X9_must [.ref (x_ad G 0), .int x1] σ none τ := by
  refine x_M.of hG (lv := [(0, .ref (x_ad G 0)), (1, .int x1)]) (by decide) (Nat.le_of_ble_eq_true rfl) rfl (fun p e s m below meth c C => ?_)
  rw [F_X9_must] at h
  refine x_aload_n C 0 dX9_must_0 rfl rfl ?_
  refine x_iload_n C 1 dX9_must_1 rfl rfl ?_
  obtain ⟨v1, σ1, hc1, h⟩ := x_b_some h
  refine x_callV C (n := 1) (c_X9_is hG hc1) kM_0 (by decide) rfl wd_1467 wd_1469 wd_55 wd_111 wd_1470 (by decide +kernel) rfl ⟨Nat.le_of_ble_eq_true rfl, Nat.le_of_ble_eq_true rfl⟩ ⟨rfl, rfl⟩ rfl (Nat.le_of_ble_eq_true rfl) dX9_must_2 ?_
  refine x_if_eq C 15 dX9_must_5 rfl (fun hc => ?_) (fun hc => ?_)
  · replace h := x_itp hc h
    refine x_aload_n C 0 dX9_must_15 rfl rfl ?_
    refine x_iconst C (1 : Int32) dX9_must_16 (by decide) ?_
    obtain ⟨v2, σ2, hc2, h⟩ := x_b_some h
    refine x_callV C (n := 1) (c_X9_fail hG hc2) kM_0 (by decide) rfl wd_1479 wd_1481 wd_58 wd_111 wd_1482 (by decide +kernel) rfl ⟨Nat.le_of_ble_eq_true rfl, Nat.le_of_ble_eq_true rfl⟩ ⟨rfl, rfl⟩ rfl (Nat.le_of_ble_eq_true rfl) dX9_must_17 ?_
    obtain ⟨-, rfl⟩ := x_ret h
    exact x_vret C dX9_must_20
  · replace h := x_itn hc h
    refine x_aload_n C 0 dX9_must_8 rfl rfl ?_
    obtain ⟨v3, σ3, hc3, h⟩ := x_b_some h
    refine x_callV C (n := 0) (c_X9_goesOn hG hc3) kM_0 (by decide) rfl wd_1475 wd_1477 wd_57 wd_111 wd_1478 (by decide +kernel) rfl ⟨Nat.le_of_ble_eq_true rfl, Nat.le_of_ble_eq_true rfl⟩ ⟨rfl, rfl⟩ rfl (Nat.le_of_ble_eq_true rfl) dX9_must_9 ?_
    refine x_goto C 20 dX9_must_12 rfl ?_
    obtain ⟨-, rfl⟩ := x_ret h
    exact x_vret C dX9_must_20
abbrev rm_X9_plain : Room := { frames := 0, cells := 0, slots := 0, locals := 0 }
set_option maxHeartbeats 4000000 in
set_option maxRecDepth 100000 in
theorem w_X9_plain_56 {τ : x_Hp} (C : x_C p s m args meth c cX9_plain 3 none yX9_plain.cls TM G) : ∀ (n : Nat) (x1 : Int32) (x2 : Int32) (σ : x_Hp) (h : F_X9_plain_56 n x1 x2 σ = some ((), τ)), x_W p l e rm_X9_plain s m args below meth c (MQ below (x_Q TM G none τ) args s 0 0 (x_A TM G)) TM G 3 56 [(0, .ref (x_ad G 0)), (1, .int x1), (2, .int x2)] [] σ := by
  intro n
  induction n with
  | zero => intro x1 x2 σ  h; cases h
  | succ n ih =>
    intro x1 x2 σ  h
    have hG : x_OK TM G := C.2.2.2.2.2.2.2.2.1
    rw [F_X9_plain_56] at h
    refine x_iload_n C 2 dX9_plain_56 rfl rfl ?_
    refine x_bipush C (7 : Int32) dX9_plain_57 (by decide) ?_
    refine x_icmp_ge C 92 dX9_plain_59 rfl (fun hc => ?_) (fun hc => ?_)
    · replace h := x_itp hc h
      obtain ⟨-, rfl⟩ := x_ret h
      exact x_vret C dX9_plain_92
    · replace h := x_itn hc h
      refine x_aload_n C 0 dX9_plain_62 rfl rfl ?_
      refine x_getRq C (k := 32) kM_0 (by decide) rfl x_in9 (by decide) (by decide) rfl rfl wd_1240 rfM_0_32 dX9_plain_63 ?_
      refine x_bipush C (7 : Int32) dX9_plain_66 (by decide) ?_
      refine x_iload_n C 1 dX9_plain_68 rfl rfl ?_
      refine x_imul C dX9_plain_69 ?_
      refine x_iload_n C 2 dX9_plain_70 rfl rfl ?_
      refine x_iadd C dX9_plain_71 ?_
      refine x_iconst C (0 : Int32) dX9_plain_72 (by decide) ?_
      obtain ⟨hi11, h⟩ := x_gd_some h
      refine x_iast C kM_19 (x_inl lnM_19 hi11) dX9_plain_73 (x_gen h fun σ12 h => ?_)
      refine x_aload_n C 0 dX9_plain_74 rfl rfl ?_
      refine x_getRq C (k := 33) kM_0 (by decide) rfl x_in9 (by decide) (by decide) rfl rfl wd_1241 rfM_0_33 dX9_plain_75 ?_
      refine x_bipush C (7 : Int32) dX9_plain_78 (by decide) ?_
      refine x_iload_n C 1 dX9_plain_80 rfl rfl ?_
      refine x_imul C dX9_plain_81 ?_
      refine x_iload_n C 2 dX9_plain_82 rfl rfl ?_
      refine x_iadd C dX9_plain_83 ?_
      refine x_iconst C (0 : Int32) dX9_plain_84 (by decide) ?_
      obtain ⟨hi13, h⟩ := x_gd_some h
      refine x_iast C kM_20 (x_inl lnM_20 hi13) dX9_plain_85 (x_gen h fun σ14 h => ?_)
      refine x_iinc C 2 (x2 + (1 : Int32)) [(2, .int (x2 + (1 : Int32))), (0, .ref (x_ad G 0)), (1, .int x1)] dX9_plain_86 rfl rfl (by decide) rfl ?_
      refine x_goto C 56 dX9_plain_89 rfl ?_
      exact x_sub [1, 2, 0] rfl (ih x1 (x2 + (1 : Int32)) σ14 h)
set_option maxHeartbeats 4000000 in
set_option maxRecDepth 100000 in
theorem w_X9_plain_2 {τ : x_Hp} (C : x_C p s m args meth c cX9_plain 3 none yX9_plain.cls TM G) : ∀ (n : Nat) (x1 : Int32) (x2 : Int32) (σ : x_Hp) (h : F_X9_plain_2 n x1 x2 σ = some ((), τ)), x_W p l e rm_X9_plain s m args below meth c (MQ below (x_Q TM G none τ) args s 0 0 (x_A TM G)) TM G 3 2 [(0, .ref (x_ad G 0)), (1, .int x1), (2, .int x2)] [] σ := by
  intro n
  induction n with
  | zero => intro x1 x2 σ  h; cases h
  | succ n ih =>
    intro x1 x2 σ  h
    have hG : x_OK TM G := C.2.2.2.2.2.2.2.2.1
    rw [F_X9_plain_2] at h
    refine x_iload_n C 2 dX9_plain_2 rfl rfl ?_
    refine x_iconst C (4 : Int32) dX9_plain_3 (by decide) ?_
    refine x_icmp_ge C 24 dX9_plain_4 rfl (fun hc => ?_) (fun hc => ?_)
    · replace h := x_itp hc h
      refine x_aload_n C 0 dX9_plain_24 rfl rfl ?_
      refine x_getRq C (k := 23) kM_0 (by decide) rfl x_in9 (by decide) (by decide) rfl rfl wd_1231 rfM_0_23 dX9_plain_25 ?_
      refine x_iload_n C 1 dX9_plain_28 rfl rfl ?_
      refine x_iconst C (0 : Int32) dX9_plain_29 (by decide) ?_
      obtain ⟨hi1, h⟩ := x_gd_some h
      refine x_iast C kM_10 (x_inl lnM_10 hi1) dX9_plain_30 (x_gen h fun σ2 h => ?_)
      refine x_aload_n C 0 dX9_plain_31 rfl rfl ?_
      refine x_getRq C (k := 29) kM_0 (by decide) rfl x_in9 (by decide) (by decide) rfl rfl wd_1237 rfM_0_29 dX9_plain_32 ?_
      refine x_iload_n C 1 dX9_plain_35 rfl rfl ?_
      refine x_bipush C (20 : Int32) dX9_plain_36 (by decide) ?_
      obtain ⟨hi3, h⟩ := x_gd_some h
      refine x_iast C kM_16 (x_inl lnM_16 hi3) dX9_plain_38 (x_gen h fun σ4 h => ?_)
      refine x_aload_n C 0 dX9_plain_39 rfl rfl ?_
      refine x_getRq C (k := 30) kM_0 (by decide) rfl x_in9 (by decide) (by decide) rfl rfl wd_1238 rfM_0_30 dX9_plain_40 ?_
      refine x_iload_n C 1 dX9_plain_43 rfl rfl ?_
      refine x_bipush C (30 : Int32) dX9_plain_44 (by decide) ?_
      obtain ⟨hi5, h⟩ := x_gd_some h
      refine x_iast C kM_17 (x_inl lnM_17 hi5) dX9_plain_46 (x_gen h fun σ6 h => ?_)
      refine x_aload_n C 0 dX9_plain_47 rfl rfl ?_
      refine x_getRq C (k := 31) kM_0 (by decide) rfl x_in9 (by decide) (by decide) rfl rfl wd_1239 rfM_0_31 dX9_plain_48 ?_
      refine x_iload_n C 1 dX9_plain_51 rfl rfl ?_
      refine x_iconst C (0 : Int32) dX9_plain_52 (by decide) ?_
      obtain ⟨hi7, h⟩ := x_gd_some h
      refine x_iast C kM_18 (x_inl lnM_18 hi7) dX9_plain_53 (x_gen h fun σ8 h => ?_)
      refine x_iconst C (0 : Int32) dX9_plain_54 (by decide) ?_
      refine x_istore_n C [(2, .int (0 : Int32)), (0, .ref (x_ad G 0)), (1, .int x1)] dX9_plain_55 rfl (by decide) rfl ?_
      exact x_sub [1, 2, 0] rfl (w_X9_plain_56 C x_fuel x1 (0 : Int32) σ8 h)
    · replace h := x_itn hc h
      refine x_aload_n C 0 dX9_plain_7 rfl rfl ?_
      refine x_getRq C (k := 22) kM_0 (by decide) rfl x_in9 (by decide) (by decide) rfl rfl wd_1230 rfM_0_22 dX9_plain_8 ?_
      refine x_iconst C (4 : Int32) dX9_plain_11 (by decide) ?_
      refine x_iload_n C 1 dX9_plain_12 rfl rfl ?_
      refine x_imul C dX9_plain_13 ?_
      refine x_iload_n C 2 dX9_plain_14 rfl rfl ?_
      refine x_iadd C dX9_plain_15 ?_
      refine x_iconst C (0 : Int32) dX9_plain_16 (by decide) ?_
      obtain ⟨hi9, h⟩ := x_gd_some h
      refine x_iast C kM_9 (x_inl lnM_9 hi9) dX9_plain_17 (x_gen h fun σ10 h => ?_)
      refine x_iinc C 2 (x2 + (1 : Int32)) [(2, .int (x2 + (1 : Int32))), (0, .ref (x_ad G 0)), (1, .int x1)] dX9_plain_18 rfl rfl (by decide) rfl ?_
      refine x_goto C 2 dX9_plain_21 rfl ?_
      exact x_sub [1, 2, 0] rfl (ih x1 (x2 + (1 : Int32)) σ10 h)
set_option maxHeartbeats 4000000 in
set_option maxRecDepth 100000 in
theorem c_X9_plain (hG : x_OK TM G) {x1 : Int32} {σ τ : x_Hp} (h : F_X9_plain x1 σ = some ((), τ)) : x_M l TM G yX9_plain cX9_plain 3 none rm_X9_plain [.ref (x_ad G 0), .int x1] σ none τ := by
  refine x_M.of hG (lv := [(0, .ref (x_ad G 0)), (1, .int x1)]) (by decide) (Nat.le_of_ble_eq_true rfl) rfl (fun p e s m below meth c C => ?_)
  rw [F_X9_plain] at h
  refine x_iconst C (0 : Int32) dX9_plain_0 (by decide) ?_
  refine x_istore_n C [(2, .int (0 : Int32)), (0, .ref (x_ad G 0)), (1, .int x1)] dX9_plain_1 rfl (by decide) rfl ?_
  exact x_sub [1, 2, 0] rfl (w_X9_plain_2 C x_fuel x1 (0 : Int32) σ h)
abbrev rm_X9_plainly : Room := { frames := 0, cells := 0, slots := 0, locals := 0 }
set_option maxHeartbeats 4000000 in
set_option maxRecDepth 100000 in
theorem c_X9_plainly (hG : x_OK TM G) {σ τ : x_Hp} (h : F_X9_plainly σ = some ((), τ)) : x_M l TM G yX9_plainly cX9_plainly 1 none rm_X9_plainly [.ref (x_ad G 0)] σ none τ := by
  refine x_M.of hG (lv := [(0, .ref (x_ad G 0))]) (by decide) (Nat.le_of_ble_eq_true rfl) rfl (fun p e s m below meth c C => ?_)
  rw [F_X9_plainly] at h
  refine x_aload_n C 0 dX9_plainly_0 rfl rfl ?_
  refine x_aload_n C 0 dX9_plainly_1 rfl rfl ?_
  refine x_getRq C (k := 31) kM_0 (by decide) rfl x_in9 (by decide) (by decide) rfl rfl wd_1239 rfM_0_31 dX9_plainly_2 ?_
  refine x_aload_n C 0 dX9_plainly_5 rfl rfl ?_
  refine x_getI C (k := 18) kM_0 (by decide) rfl x_in9 (by decide) (by decide) rfl rfl wd_1226 dX9_plainly_6 ?_
  obtain ⟨hi1, h⟩ := x_gd_some h
  refine x_iald C kM_18 (x_inl lnM_18 hi1) dX9_plainly_9 ?_
  refine x_putI C (k := 50) tyX9 kM_0 (by decide) rfl x_in9 tyX9_ok nmX9 (by decide) (by decide) rfl rfl wd_1258 rfl (tyX9_ok 50 (by decide)) rfl rfl dX9_plainly_10 (x_gen h fun σ2 h => ?_)
  refine x_aload_n C 0 dX9_plainly_13 rfl rfl ?_
  refine x_iconst C (-1 : Int32) dX9_plainly_14 (by decide) ?_
  refine x_putI C (k := 51) tyX9 kM_0 (by decide) rfl x_in9 tyX9_ok nmX9 (by decide) (by decide) rfl rfl wd_1259 rfl (tyX9_ok 51 (by decide)) rfl rfl dX9_plainly_15 (x_gen h fun σ3 h => ?_)
  refine x_aload_n C 0 dX9_plainly_18 rfl rfl ?_
  refine x_iconst C (0 : Int32) dX9_plainly_19 (by decide) ?_
  refine x_putI C (k := 52) tyX9 kM_0 (by decide) rfl x_in9 tyX9_ok nmX9 (by decide) (by decide) rfl rfl wd_1260 rfl (tyX9_ok 52 (by decide)) rfl rfl dX9_plainly_20 (x_gen h fun σ4 h => ?_)
  obtain ⟨-, rfl⟩ := x_ret h
  exact x_vret C dX9_plainly_23
abbrev rm_X9_begins : Room := { frames := 1, cells := 0, slots := 0, locals := 20 }
set_option maxHeartbeats 4000000 in
set_option maxRecDepth 100000 in
theorem w_X9_begins_118 {τ : x_Hp} (C : x_C p s m args meth c cX9_begins 2 none yX9_begins.cls TM G) (s0 : Int32) (s1 : Int32) (σ : x_Hp) (h : F_X9_begins_118 s0 s1 σ = some ((), τ)) : x_W p l e rm_X9_begins s m args below meth c (MQ below (x_Q TM G none τ) args s 0 0 (x_A TM G)) TM G 2 118 [(0, .ref (x_ad G 0))] [.int s0, .int s1, .ref (x_ad G 32)] σ := by
  have hG : x_OK TM G := C.2.2.2.2.2.2.2.2.1
  rw [F_X9_begins_118] at h
  obtain ⟨hi12, h⟩ := x_gd_some h
  refine x_iast C kM_32 (x_inl lnM_32 hi12) dX9_begins_118 (x_gen h fun σ13 h => ?_)
  refine x_aload_n C 0 dX9_begins_119 rfl rfl ?_
  obtain ⟨v14, σ14, hc14, h⟩ := x_b_some h
  refine x_callV C (n := 0) (c_X9_plainly hG hc14) kM_0 (by decide) rfl wd_1201 wd_1203 wd_48 wd_111 wd_1204 (by decide +kernel) rfl ⟨Nat.le_of_ble_eq_true rfl, Nat.le_of_ble_eq_true rfl⟩ ⟨rfl, rfl⟩ rfl (Nat.le_of_ble_eq_true rfl) dX9_begins_120 ?_
  obtain ⟨-, rfl⟩ := x_ret h
  exact x_vret C dX9_begins_123
set_option maxHeartbeats 4000000 in
set_option maxRecDepth 100000 in
theorem w_X9_begins_76 {τ : x_Hp} (C : x_C p s m args meth c cX9_begins 2 none yX9_begins.cls TM G) (s0 : Int32) (s1 : Int32) (σ : x_Hp) (h : F_X9_begins_76 s0 s1 σ = some ((), τ)) : x_W p l e rm_X9_begins s m args below meth c (MQ below (x_Q TM G none τ) args s 0 0 (x_A TM G)) TM G 2 76 [(0, .ref (x_ad G 0))] [.int s0, .int s1, .ref (x_ad G 32)] σ := by
  have hG : x_OK TM G := C.2.2.2.2.2.2.2.2.1
  rw [F_X9_begins_76] at h
  obtain ⟨hi7, h⟩ := x_gd_some h
  refine x_iast C kM_32 (x_inl lnM_32 hi7) dX9_begins_76 (x_gen h fun σ8 h => ?_)
  refine x_aload_n C 0 dX9_begins_77 rfl rfl ?_
  refine x_getRq C (k := 49) kM_0 (by decide) rfl x_in9 (by decide) (by decide) rfl rfl wd_1257 rfM_0_49 dX9_begins_78 ?_
  refine x_bipush C (10 : Int32) dX9_begins_81 (by decide) ?_
  refine x_bipush C (-2 : Int32) dX9_begins_83 (by decide) ?_
  refine x_iastJ C kM_32 (x_inl lnM_32 (by decide)) (j := 10) (by decide) dX9_begins_85 (x_gen h fun σ9 h => ?_)
  refine x_aload_n C 0 dX9_begins_86 rfl rfl ?_
  refine x_getRq C (k := 49) kM_0 (by decide) rfl x_in9 (by decide) (by decide) rfl rfl wd_1257 rfM_0_49 dX9_begins_87 ?_
  refine x_bipush C (11 : Int32) dX9_begins_90 (by decide) ?_
  refine x_bipush C (-2 : Int32) dX9_begins_92 (by decide) ?_
  refine x_iastJ C kM_32 (x_inl lnM_32 (by decide)) (j := 11) (by decide) dX9_begins_94 (x_gen h fun σ10 h => ?_)
  refine x_aload_n C 0 dX9_begins_95 rfl rfl ?_
  refine x_getRq C (k := 49) kM_0 (by decide) rfl x_in9 (by decide) (by decide) rfl rfl wd_1257 rfM_0_49 dX9_begins_96 ?_
  refine x_bipush C (18 : Int32) dX9_begins_99 (by decide) ?_
  refine x_aload_n C 0 dX9_begins_101 rfl rfl ?_
  refine x_getRq C (k := 23) kM_0 (by decide) rfl x_in9 (by decide) (by decide) rfl rfl wd_1231 rfM_0_23 dX9_begins_102 ?_
  refine x_aload_n C 0 dX9_begins_105 rfl rfl ?_
  refine x_getI C (k := 18) kM_0 (by decide) rfl x_in9 (by decide) (by decide) rfl rfl wd_1226 dX9_begins_106 ?_
  obtain ⟨hi11, h⟩ := x_gd_some h
  refine x_iald C kM_10 (x_inl lnM_10 hi11) dX9_begins_109 ?_
  refine x_if_le C 117 dX9_begins_110 rfl (fun hc => ?_) (fun hc => ?_)
  · replace h := x_itp hc h
    refine x_iconst C (0 : Int32) dX9_begins_117 (by decide) ?_
    exact x_sub [0] rfl (w_X9_begins_118 C (0 : Int32) (18 : Int32) σ10 h)
  · replace h := x_itn hc h
    refine x_iconst C (1 : Int32) dX9_begins_113 (by decide) ?_
    refine x_goto C 118 dX9_begins_114 rfl ?_
    exact x_sub [0] rfl (w_X9_begins_118 C (1 : Int32) (18 : Int32) σ10 h)
set_option maxHeartbeats 4000000 in
set_option maxRecDepth 100000 in
theorem w_X9_begins_23 {τ : x_Hp} (C : x_C p s m args meth c cX9_begins 2 none yX9_begins.cls TM G) : ∀ (n : Nat) (x1 : Int32) (σ : x_Hp) (h : F_X9_begins_23 n x1 σ = some ((), τ)), x_W p l e rm_X9_begins s m args below meth c (MQ below (x_Q TM G none τ) args s 0 0 (x_A TM G)) TM G 2 23 [(0, .ref (x_ad G 0)), (1, .int x1)] [] σ := by
  intro n
  induction n with
  | zero => intro x1 σ  h; cases h
  | succ n ih =>
    intro x1 σ  h
    have hG : x_OK TM G := C.2.2.2.2.2.2.2.2.1
    rw [F_X9_begins_23] at h
    refine x_iload_n C 1 dX9_begins_23 rfl rfl ?_
    refine x_iconst C (4 : Int32) dX9_begins_24 (by decide) ?_
    refine x_icmp_ge C 53 dX9_begins_25 rfl (fun hc => ?_) (fun hc => ?_)
    · replace h := x_itp hc h
      refine x_aload_n C 0 dX9_begins_53 rfl rfl ?_
      refine x_getRq C (k := 49) kM_0 (by decide) rfl x_in9 (by decide) (by decide) rfl rfl wd_1257 rfM_0_49 dX9_begins_54 ?_
      refine x_iconst C (4 : Int32) dX9_begins_57 (by decide) ?_
      refine x_aload_n C 0 dX9_begins_58 rfl rfl ?_
      refine x_getRq C (k := 23) kM_0 (by decide) rfl x_in9 (by decide) (by decide) rfl rfl wd_1231 rfM_0_23 dX9_begins_59 ?_
      refine x_aload_n C 0 dX9_begins_62 rfl rfl ?_
      refine x_getI C (k := 18) kM_0 (by decide) rfl x_in9 (by decide) (by decide) rfl rfl wd_1226 dX9_begins_63 ?_
      obtain ⟨hi3, h⟩ := x_gd_some h
      refine x_iald C kM_10 (x_inl lnM_10 hi3) dX9_begins_66 ?_
      refine x_if_le C 74 dX9_begins_67 rfl (fun hc => ?_) (fun hc => ?_)
      · replace h := x_itp hc h
        refine x_bipush C (-2 : Int32) dX9_begins_74 (by decide) ?_
        exact x_sub [0] rfl (w_X9_begins_76 C (-2 : Int32) (4 : Int32) σ h)
      · replace h := x_itn hc h
        refine x_iconst C (0 : Int32) dX9_begins_70 (by decide) ?_
        refine x_goto C 76 dX9_begins_71 rfl ?_
        exact x_sub [0] rfl (w_X9_begins_76 C (0 : Int32) (4 : Int32) σ h)
    · replace h := x_itn hc h
      refine x_aload_n C 0 dX9_begins_28 rfl rfl ?_
      refine x_getRq C (k := 49) kM_0 (by decide) rfl x_in9 (by decide) (by decide) rfl rfl wd_1257 rfM_0_49 dX9_begins_29 ?_
      refine x_iload_n C 1 dX9_begins_32 rfl rfl ?_
      refine x_aload_n C 0 dX9_begins_33 rfl rfl ?_
      refine x_getRq C (k := 22) kM_0 (by decide) rfl x_in9 (by decide) (by decide) rfl rfl wd_1230 rfM_0_22 dX9_begins_34 ?_
      refine x_iconst C (4 : Int32) dX9_begins_37 (by decide) ?_
      refine x_aload_n C 0 dX9_begins_38 rfl rfl ?_
      refine x_getI C (k := 18) kM_0 (by decide) rfl x_in9 (by decide) (by decide) rfl rfl wd_1226 dX9_begins_39 ?_
      refine x_imul C dX9_begins_42 ?_
      refine x_iload_n C 1 dX9_begins_43 rfl rfl ?_
      refine x_iadd C dX9_begins_44 ?_
      obtain ⟨hi4, h⟩ := x_gd_some h
      refine x_iald C kM_9 (x_inl lnM_9 hi4) dX9_begins_45 ?_
      obtain ⟨hi5, h⟩ := x_gd_some h
      refine x_iast C kM_32 (x_inl lnM_32 hi5) dX9_begins_46 (x_gen h fun σ6 h => ?_)
      refine x_iinc C 1 (x1 + (1 : Int32)) [(1, .int (x1 + (1 : Int32))), (0, .ref (x_ad G 0))] dX9_begins_47 rfl rfl (by decide) rfl ?_
      refine x_goto C 23 dX9_begins_50 rfl ?_
      exact x_sub [1, 0] rfl (ih (x1 + (1 : Int32)) σ6 h)
set_option maxHeartbeats 4000000 in
set_option maxRecDepth 100000 in
theorem w_X9_begins_2 {τ : x_Hp} (C : x_C p s m args meth c cX9_begins 2 none yX9_begins.cls TM G) : ∀ (n : Nat) (x1 : Int32) (σ : x_Hp) (h : F_X9_begins_2 n x1 σ = some ((), τ)), x_W p l e rm_X9_begins s m args below meth c (MQ below (x_Q TM G none τ) args s 0 0 (x_A TM G)) TM G 2 2 [(0, .ref (x_ad G 0)), (1, .int x1)] [] σ := by
  intro n
  induction n with
  | zero => intro x1 σ  h; cases h
  | succ n ih =>
    intro x1 σ  h
    have hG : x_OK TM G := C.2.2.2.2.2.2.2.2.1
    rw [F_X9_begins_2] at h
    refine x_iload_n C 1 dX9_begins_2 rfl rfl ?_
    refine x_bipush C (60 : Int32) dX9_begins_3 (by decide) ?_
    refine x_icmp_ge C 21 dX9_begins_5 rfl (fun hc => ?_) (fun hc => ?_)
    · replace h := x_itp hc h
      refine x_iconst C (0 : Int32) dX9_begins_21 (by decide) ?_
      refine x_istore_n C [(1, .int (0 : Int32)), (0, .ref (x_ad G 0))] dX9_begins_22 rfl (by decide) rfl ?_
      exact x_sub [1, 0] rfl (w_X9_begins_23 C x_fuel (0 : Int32) σ h)
    · replace h := x_itn hc h
      refine x_aload_n C 0 dX9_begins_8 rfl rfl ?_
      refine x_getRq C (k := 49) kM_0 (by decide) rfl x_in9 (by decide) (by decide) rfl rfl wd_1257 rfM_0_49 dX9_begins_9 ?_
      refine x_iload_n C 1 dX9_begins_12 rfl rfl ?_
      refine x_iconst C (0 : Int32) dX9_begins_13 (by decide) ?_
      obtain ⟨hi1, h⟩ := x_gd_some h
      refine x_iast C kM_32 (x_inl lnM_32 hi1) dX9_begins_14 (x_gen h fun σ2 h => ?_)
      refine x_iinc C 1 (x1 + (1 : Int32)) [(1, .int (x1 + (1 : Int32))), (0, .ref (x_ad G 0))] dX9_begins_15 rfl rfl (by decide) rfl ?_
      refine x_goto C 2 dX9_begins_18 rfl ?_
      exact x_sub [1, 0] rfl (ih (x1 + (1 : Int32)) σ2 h)
set_option maxHeartbeats 4000000 in
set_option maxRecDepth 100000 in
theorem c_X9_begins (hG : x_OK TM G) {σ τ : x_Hp} (h : F_X9_begins σ = some ((), τ)) : x_M l TM G yX9_begins cX9_begins 2 none rm_X9_begins [.ref (x_ad G 0)] σ none τ := by
  refine x_M.of hG (lv := [(0, .ref (x_ad G 0))]) (by decide) (Nat.le_of_ble_eq_true rfl) rfl (fun p e s m below meth c C => ?_)
  rw [F_X9_begins] at h
  refine x_iconst C (0 : Int32) dX9_begins_0 (by decide) ?_
  refine x_istore_n C [(1, .int (0 : Int32)), (0, .ref (x_ad G 0))] dX9_begins_1 rfl (by decide) rfl ?_
  exact x_sub [1, 0] rfl (w_X9_begins_2 C x_fuel (0 : Int32) σ h)
abbrev rm_X9_keepsRow : Room := { frames := 0, cells := 0, slots := 0, locals := 0 }
set_option maxHeartbeats 4000000 in
set_option maxRecDepth 100000 in
theorem w_X9_keepsRow_2 {τ : x_Hp} (C : x_C p s m args meth c cX9_keepsRow 2 none yX9_keepsRow.cls TM G) : ∀ (n : Nat) (x1 : Int32) (σ : x_Hp) (h : F_X9_keepsRow_2 n x1 σ = some ((), τ)), x_W p l e rm_X9_keepsRow s m args below meth c (MQ below (x_Q TM G none τ) args s 0 0 (x_A TM G)) TM G 2 2 [(0, .ref (x_ad G 0)), (1, .int x1)] [] σ := by
  intro n
  induction n with
  | zero => intro x1 σ  h; cases h
  | succ n ih =>
    intro x1 σ  h
    have hG : x_OK TM G := C.2.2.2.2.2.2.2.2.1
    rw [F_X9_keepsRow_2] at h
    refine x_iload_n C 1 dX9_keepsRow_2 rfl rfl ?_
    refine x_bipush C (60 : Int32) dX9_keepsRow_3 (by decide) ?_
    refine x_icmp_ge C 26 dX9_keepsRow_5 rfl (fun hc => ?_) (fun hc => ?_)
    · replace h := x_itp hc h
      obtain ⟨-, rfl⟩ := x_ret h
      exact x_vret C dX9_keepsRow_26
    · replace h := x_itn hc h
      refine x_aload_n C 0 dX9_keepsRow_8 rfl rfl ?_
      refine x_getRq C (k := 48) kM_0 (by decide) rfl x_in9 (by decide) (by decide) rfl rfl wd_1256 rfM_0_48 dX9_keepsRow_9 ?_
      refine x_iload_n C 1 dX9_keepsRow_12 rfl rfl ?_
      refine x_aload_n C 0 dX9_keepsRow_13 rfl rfl ?_
      refine x_getRq C (k := 49) kM_0 (by decide) rfl x_in9 (by decide) (by decide) rfl rfl wd_1257 rfM_0_49 dX9_keepsRow_14 ?_
      refine x_iload_n C 1 dX9_keepsRow_17 rfl rfl ?_
      obtain ⟨hi1, h⟩ := x_gd_some h
      refine x_iald C kM_32 (x_inl lnM_32 hi1) dX9_keepsRow_18 ?_
      obtain ⟨hi2, h⟩ := x_gd_some h
      refine x_iast C kM_31 (x_inl lnM_31 hi2) dX9_keepsRow_19 (x_gen h fun σ3 h => ?_)
      refine x_iinc C 1 (x1 + (1 : Int32)) [(1, .int (x1 + (1 : Int32))), (0, .ref (x_ad G 0))] dX9_keepsRow_20 rfl rfl (by decide) rfl ?_
      refine x_goto C 2 dX9_keepsRow_23 rfl ?_
      exact x_sub [1, 0] rfl (ih (x1 + (1 : Int32)) σ3 h)
set_option maxHeartbeats 4000000 in
set_option maxRecDepth 100000 in
theorem c_X9_keepsRow (hG : x_OK TM G) {σ τ : x_Hp} (h : F_X9_keepsRow σ = some ((), τ)) : x_M l TM G yX9_keepsRow cX9_keepsRow 2 none rm_X9_keepsRow [.ref (x_ad G 0)] σ none τ := by
  refine x_M.of hG (lv := [(0, .ref (x_ad G 0))]) (by decide) (Nat.le_of_ble_eq_true rfl) rfl (fun p e s m below meth c C => ?_)
  rw [F_X9_keepsRow] at h
  refine x_iconst C (0 : Int32) dX9_keepsRow_0 (by decide) ?_
  refine x_istore_n C [(1, .int (0 : Int32)), (0, .ref (x_ad G 0))] dX9_keepsRow_1 rfl (by decide) rfl ?_
  exact x_sub [1, 0] rfl (w_X9_keepsRow_2 C x_fuel (0 : Int32) σ h)
abbrev rm_X9_bounded : Room := { frames := 2, cells := 0, slots := 0, locals := 41 }
set_option maxHeartbeats 4000000 in
set_option maxRecDepth 100000 in
theorem w_X9_bounded_15 {r : Int32} {τ : x_Hp} (C : x_C p s m args meth c cX9_bounded 4 (some .int) yX9_bounded.cls TM G) (x1 : Int32) (σ : x_Hp) (h : F_X9_bounded_15 x1 σ = some (r, τ)) : x_W p l e rm_X9_bounded s m args below meth c (MQ below (x_Q TM G (some (.int r)) τ) args s 0 0 (x_A TM G)) TM G 4 15 [(0, .ref (x_ad G 0)), (1, .int x1)] [] σ := by
  have hG : x_OK TM G := C.2.2.2.2.2.2.2.2.1
  rw [F_X9_bounded_15] at h
  refine x_aload_n C 0 dX9_bounded_15 rfl rfl ?_
  refine x_iconst C (1 : Int32) dX9_bounded_16 (by decide) ?_
  obtain ⟨v3, σ3, hc3, h⟩ := x_b_some h
  refine x_callV C (n := 1) (c_X9_fail hG hc3) kM_0 (by decide) rfl wd_1479 wd_1481 wd_58 wd_111 wd_1482 (by decide +kernel) rfl ⟨Nat.le_of_ble_eq_true rfl, Nat.le_of_ble_eq_true rfl⟩ ⟨rfl, rfl⟩ rfl (Nat.le_of_ble_eq_true rfl) dX9_bounded_17 ?_
  refine x_iload_n C 1 dX9_bounded_20 rfl rfl ?_
  obtain ⟨rfl, rfl⟩ := x_ret h
  exact x_iret C dX9_bounded_21
set_option maxHeartbeats 4000000 in
set_option maxRecDepth 100000 in
theorem w_X9_bounded_51 {r : Int32} {τ : x_Hp} (C : x_C p s m args meth c cX9_bounded 4 (some .int) yX9_bounded.cls TM G) (x3 : Int32) (σ : x_Hp) (h : F_X9_bounded_51 x3 σ = some (r, τ)) : x_W p l e rm_X9_bounded s m args below meth c (MQ below (x_Q TM G (some (.int r)) τ) args s 0 0 (x_A TM G)) TM G 4 51 [(0, .ref (x_ad G 0)), (3, .int x3)] [] σ := by
  have hG : x_OK TM G := C.2.2.2.2.2.2.2.2.1
  rw [F_X9_bounded_51] at h
  refine x_aload_n C 0 dX9_bounded_51 rfl rfl ?_
  obtain ⟨v5, σ5, hc5, h⟩ := x_b_some h
  refine x_callV C (n := 0) (c_X9_goesOn hG hc5) kM_0 (by decide) rfl wd_1475 wd_1477 wd_57 wd_111 wd_1478 (by decide +kernel) rfl ⟨Nat.le_of_ble_eq_true rfl, Nat.le_of_ble_eq_true rfl⟩ ⟨rfl, rfl⟩ rfl (Nat.le_of_ble_eq_true rfl) dX9_bounded_52 ?_
  refine x_iload_n C 1 dX9_bounded_55 rfl rfl ?_
  obtain ⟨rfl, rfl⟩ := x_ret h
  exact x_iret C dX9_bounded_56
set_option maxHeartbeats 4000000 in
set_option maxRecDepth 100000 in
theorem w_X9_bounded_42 {r : Int32} {τ : x_Hp} (C : x_C p s m args meth c cX9_bounded 4 (some .int) yX9_bounded.cls TM G) (x3 : Int32) (σ : x_Hp) (h : F_X9_bounded_42 x3 σ = some (r, τ)) : x_W p l e rm_X9_bounded s m args below meth c (MQ below (x_Q TM G (some (.int r)) τ) args s 0 0 (x_A TM G)) TM G 4 42 [(0, .ref (x_ad G 0)), (3, .int x3)] [] σ := by
  have hG : x_OK TM G := C.2.2.2.2.2.2.2.2.1
  rw [F_X9_bounded_42] at h
  refine x_aload_n C 0 dX9_bounded_42 rfl rfl ?_
  refine x_iconst C (5 : Int32) dX9_bounded_43 (by decide) ?_
  refine x_aload_n C 0 dX9_bounded_44 rfl rfl ?_
  refine x_getI C (k := 11) kM_0 (by decide) rfl x_in9 (by decide) (by decide) rfl rfl wd_1219 dX9_bounded_45 ?_
  obtain ⟨v4, σ4, hc4, h⟩ := x_b_some h
  refine x_callV C (n := 2) (c_X9_wrong hG hc4) kM_0 (by decide) rfl wd_1487 wd_1489 wd_60 wd_111 wd_1490 (by decide +kernel) rfl ⟨Nat.le_of_ble_eq_true rfl, Nat.le_of_ble_eq_true rfl⟩ ⟨rfl, rfl⟩ rfl (Nat.le_of_ble_eq_true rfl) dX9_bounded_48 ?_
  exact x_sub [0, 1] rfl (w_X9_bounded_51 C x3 σ4 h)
set_option maxHeartbeats 4000000 in
set_option maxRecDepth 100000 in
theorem c_X9_bounded (hG : x_OK TM G) {x1 : Int32} {x2 : Int32} {σ τ : x_Hp} {r : Int32} (h : F_X9_bounded x1 x2 σ = some (r, τ)) : x_M l TM G yX9_bounded cX9_bounded 4 (some .int) rm_X9_bounded [.ref (x_ad G 0), .int x1, .int x2] σ (some (.int r)) τ := by
  refine x_M.of hG (lv := [(0, .ref (x_ad G 0)), (1, .int x1), (2, .int x2)]) (by decide) (Nat.le_of_ble_eq_true rfl) rfl (fun p e s m below meth c C => ?_)
  rw [F_X9_bounded] at h
  refine x_aload_n C 0 dX9_bounded_0 rfl rfl ?_
  refine x_getI C (k := 13) kM_0 (by decide) rfl x_in9 (by decide) (by decide) rfl rfl wd_1221 dX9_bounded_1 ?_
  refine x_if_gt C 15 dX9_bounded_4 rfl (fun hc => ?_) (fun hc => ?_)
  · replace h := x_itp hc h
    exact x_sub [0, 1] rfl (w_X9_bounded_15 C x1 σ h)
  · replace h := x_itn hc h
    refine x_aload_n C 0 dX9_bounded_7 rfl rfl ?_
    refine x_iconst C (2 : Int32) dX9_bounded_8 (by decide) ?_
    obtain ⟨v1, σ1, hc1, h⟩ := x_b_some h
    refine x_callV C (n := 1) (c_X9_is hG hc1) kM_0 (by decide) rfl wd_1467 wd_1469 wd_55 wd_111 wd_1470 (by decide +kernel) rfl ⟨Nat.le_of_ble_eq_true rfl, Nat.le_of_ble_eq_true rfl⟩ ⟨rfl, rfl⟩ rfl (Nat.le_of_ble_eq_true rfl) dX9_bounded_9 ?_
    refine x_if_ne C 22 dX9_bounded_12 rfl (fun hc => ?_) (fun hc => ?_)
    · replace h := x_itn hc h
      refine x_aload_n C 0 dX9_bounded_22 rfl rfl ?_
      refine x_getRq C (k := 7) kM_0 (by decide) rfl x_in9 (by decide) (by decide) rfl rfl wd_1215 rfM_0_7 dX9_bounded_23 ?_
      refine x_aload_n C 0 dX9_bounded_26 rfl rfl ?_
      refine x_getI C (k := 11) kM_0 (by decide) rfl x_in9 (by decide) (by decide) rfl rfl wd_1219 dX9_bounded_27 ?_
      obtain ⟨hi2, h⟩ := x_gd_some h
      refine x_iald C kM_5 (x_inl lnM_5 hi2) dX9_bounded_30 ?_
      refine x_istore_n C [(3, .int (σ1.1 5 (x_ix (σ1.1 0 11)))), (0, .ref (x_ad G 0)), (1, .int x1), (2, .int x2)] dX9_bounded_31 rfl (by decide) rfl ?_
      refine x_iload_n C 0 dX9_bounded_32 rfl rfl ?_
      refine x_iload_n C 2 dX9_bounded_33 rfl rfl ?_
      refine x_icmp_lt C 42 dX9_bounded_34 rfl (fun hc => ?_) (fun hc => ?_)
      · replace h := x_itp hc h
        exact x_sub [1, 0] rfl (w_X9_bounded_42 C (σ1.1 5 (x_ix (σ1.1 0 11))) σ1 h)
      · replace h := x_itn hc h
        refine x_iload_n C 0 dX9_bounded_37 rfl rfl ?_
        refine x_iload_n C 3 dX9_bounded_38 rfl rfl ?_
        refine x_icmp_le C 51 dX9_bounded_39 rfl (fun hc => ?_) (fun hc => ?_)
        · replace h := x_itp hc h
          exact x_sub [1, 0] rfl (w_X9_bounded_51 C (σ1.1 5 (x_ix (σ1.1 0 11))) σ1 h)
        · replace h := x_itn hc h
          exact x_sub [1, 0] rfl (w_X9_bounded_42 C (σ1.1 5 (x_ix (σ1.1 0 11))) σ1 h)
    · replace h := x_itp hc h
      exact x_sub [0, 1] rfl (w_X9_bounded_15 C x1 σ1 h)
abbrev rm_X9_tellAunt : Room := { frames := 3, cells := 0, slots := 0, locals := 64 }
set_option maxHeartbeats 4000000 in
set_option maxRecDepth 100000 in
theorem w_X9_tellAunt_169 {τ : x_Hp} (C : x_C p s m args meth c cX9_tellAunt 4 none yX9_tellAunt.cls TM G) (x2 : Int32) (σ : x_Hp) (h : F_X9_tellAunt_169 x2 σ = some ((), τ)) : x_W p l e rm_X9_tellAunt s m args below meth c (MQ below (x_Q TM G none τ) args s 0 0 (x_A TM G)) TM G 4 169 [(0, .ref (x_ad G 0)), (2, .int x2)] [] σ := by
  have hG : x_OK TM G := C.2.2.2.2.2.2.2.2.1
  rw [F_X9_tellAunt_169] at h
  refine x_aload_n C 0 dX9_tellAunt_169 rfl rfl ?_
  refine x_iconst C (4 : Int32) dX9_tellAunt_170 (by decide) ?_
  obtain ⟨v24, σ24, hc24, h⟩ := x_b_some h
  refine x_callV C (n := 1) (c_X9_must hG hc24) kM_0 (by decide) rfl wd_1491 wd_1493 wd_61 wd_111 wd_1494 (by decide +kernel) rfl ⟨Nat.le_of_ble_eq_true rfl, Nat.le_of_ble_eq_true rfl⟩ ⟨rfl, rfl⟩ rfl (Nat.le_of_ble_eq_true rfl) dX9_tellAunt_171 ?_
  refine x_aload_n C 0 dX9_tellAunt_174 rfl rfl ?_
  refine x_getI C (k := 13) kM_0 (by decide) rfl x_in9 (by decide) (by decide) rfl rfl wd_1221 dX9_tellAunt_175 ?_
  refine x_if_le C 182 dX9_tellAunt_178 rfl (fun hc => ?_) (fun hc => ?_)
  · replace h := x_itp hc h
    refine x_aload_n C 0 dX9_tellAunt_182 rfl rfl ?_
    refine x_getRq C (k := 21) kM_0 (by decide) rfl x_in9 (by decide) (by decide) rfl rfl wd_1229 rfM_0_21 dX9_tellAunt_183 ?_
    refine x_aload_n C 0 dX9_tellAunt_186 rfl rfl ?_
    refine x_getI C (k := 20) kM_0 (by decide) rfl x_in9 (by decide) (by decide) rfl rfl wd_1228 dX9_tellAunt_187 ?_
    refine x_aload_n C 0 dX9_tellAunt_190 rfl rfl ?_
    refine x_getRq C (k := 8) kM_0 (by decide) rfl x_in9 (by decide) (by decide) rfl rfl wd_1216 rfM_0_8 dX9_tellAunt_191 ?_
    refine x_iload_n C 1 dX9_tellAunt_194 rfl rfl ?_
    obtain ⟨hi25, h⟩ := x_gd_some h
    refine x_lald C kM_6 (x_inl lnM_6 hi25) dX9_tellAunt_195 ?_
    obtain ⟨hi26, h⟩ := x_gd_some h
    refine x_last C kM_8 (x_inl lnM_8 hi26) dX9_tellAunt_196 (x_gen h fun σ27 h => ?_)
    refine x_aload_n C 0 dX9_tellAunt_197 rfl rfl ?_
    refine x_dup C dX9_tellAunt_198 rfl ?_
    refine x_getI C (k := 20) kM_0 (by decide) rfl x_in9 (by decide) (by decide) rfl rfl wd_1228 dX9_tellAunt_199 ?_
    refine x_iconst C (1 : Int32) dX9_tellAunt_202 (by decide) ?_
    refine x_iadd C dX9_tellAunt_203 ?_
    refine x_putI C (k := 20) tyX9 kM_0 (by decide) rfl x_in9 tyX9_ok nmX9 (by decide) (by decide) rfl rfl wd_1228 rfl (tyX9_ok 20 (by decide)) rfl rfl dX9_tellAunt_204 (x_gen h fun σ28 h => ?_)
    refine x_aload_n C 0 dX9_tellAunt_207 rfl rfl ?_
    refine x_getRq C (k := 23) kM_0 (by decide) rfl x_in9 (by decide) (by decide) rfl rfl wd_1231 rfM_0_23 dX9_tellAunt_208 ?_
    refine x_aload_n C 0 dX9_tellAunt_211 rfl rfl ?_
    refine x_getI C (k := 19) kM_0 (by decide) rfl x_in9 (by decide) (by decide) rfl rfl wd_1227 dX9_tellAunt_212 ?_
    refine x_dup2 C dX9_tellAunt_215 rfl rfl ?_
    obtain ⟨hi29, h⟩ := x_gd_some h
    refine x_iald C kM_10 (x_inl lnM_10 hi29) dX9_tellAunt_216 ?_
    refine x_iconst C (1 : Int32) dX9_tellAunt_217 (by decide) ?_
    refine x_iadd C dX9_tellAunt_218 ?_
    obtain ⟨hi30, h⟩ := x_gd_some h
    refine x_iast C kM_10 (x_inl lnM_10 hi30) dX9_tellAunt_219 (x_gen h fun σ31 h => ?_)
    obtain ⟨-, rfl⟩ := x_ret h
    exact x_vret C dX9_tellAunt_220
  · replace h := x_itn hc h
    obtain ⟨-, rfl⟩ := x_ret h
    exact x_vret C dX9_tellAunt_181
set_option maxHeartbeats 4000000 in
set_option maxRecDepth 100000 in
theorem w_X9_tellAunt_155 {τ : x_Hp} (C : x_C p s m args meth c cX9_tellAunt 4 none yX9_tellAunt.cls TM G) (x1 : Int32) (x2 : Int32) (s0 : Int32) (s1 : Int32) (σ : x_Hp) (h : F_X9_tellAunt_155 x1 x2 s0 s1 σ = some ((), τ)) : x_W p l e rm_X9_tellAunt s m args below meth c (MQ below (x_Q TM G none τ) args s 0 0 (x_A TM G)) TM G 4 155 [(0, .ref (x_ad G 0)), (1, .int x1), (2, .int x2)] [.int s0, .int s1, .ref (x_ad G 15)] σ := by
  have hG : x_OK TM G := C.2.2.2.2.2.2.2.2.1
  rw [F_X9_tellAunt_155] at h
  obtain ⟨hi20, h⟩ := x_gd_some h
  refine x_zast C kM_15 (x_inl lnM_15 hi20) dX9_tellAunt_155 (x_gen h fun σ21 h => ?_)
  refine x_aload_n C 0 dX9_tellAunt_156 rfl rfl ?_
  refine x_getRq C (k := 28) kM_0 (by decide) rfl x_in9 (by decide) (by decide) rfl rfl wd_1236 rfM_0_28 dX9_tellAunt_157 ?_
  refine x_iload_n C 1 dX9_tellAunt_160 rfl rfl ?_
  obtain ⟨hi22, h⟩ := x_gd_some h
  refine x_zald C kM_15 (x_inl lnM_15 hi22) dX9_tellAunt_161 ?_
  refine x_if_eq C 169 dX9_tellAunt_162 rfl (fun hc => ?_) (fun hc => ?_)
  · replace h := x_itp hc h
    exact x_sub [0, 2] rfl (w_X9_tellAunt_169 C x2 σ21 h)
  · replace h := x_itn hc h
    refine x_aload_n C 0 dX9_tellAunt_165 rfl rfl ?_
    obtain ⟨v23, σ23, hc23, h⟩ := x_b_some h
    refine x_callV C (n := 0) (c_X9_goesOn hG hc23) kM_0 (by decide) rfl wd_1475 wd_1477 wd_57 wd_111 wd_1478 (by decide +kernel) rfl ⟨Nat.le_of_ble_eq_true rfl, Nat.le_of_ble_eq_true rfl⟩ ⟨rfl, rfl⟩ rfl (Nat.le_of_ble_eq_true rfl) dX9_tellAunt_166 ?_
    exact x_sub [0, 2] rfl (w_X9_tellAunt_169 C x2 σ23 h)
set_option maxHeartbeats 4000000 in
set_option maxRecDepth 100000 in
theorem w_X9_tellAunt_154 {τ : x_Hp} (C : x_C p s m args meth c cX9_tellAunt 4 none yX9_tellAunt.cls TM G) (x1 : Int32) (x2 : Int32) (s0 : Int32) (σ : x_Hp) (h : F_X9_tellAunt_154 x1 x2 s0 σ = some ((), τ)) : x_W p l e rm_X9_tellAunt s m args below meth c (MQ below (x_Q TM G none τ) args s 0 0 (x_A TM G)) TM G 4 154 [(0, .ref (x_ad G 0)), (1, .int x1), (2, .int x2)] [.int s0, .ref (x_ad G 15)] σ := by
  have hG : x_OK TM G := C.2.2.2.2.2.2.2.2.1
  rw [F_X9_tellAunt_154] at h
  refine x_iconst C (0 : Int32) dX9_tellAunt_154 (by decide) ?_
  exact x_sub [0, 1, 2] rfl (w_X9_tellAunt_155 C x1 x2 (0 : Int32) s0 σ h)
set_option maxHeartbeats 4000000 in
set_option maxRecDepth 100000 in
theorem w_X9_tellAunt_77 {τ : x_Hp} (C : x_C p s m args meth c cX9_tellAunt 4 none yX9_tellAunt.cls TM G) (x1 : Int32) (x2 : Int32) (σ : x_Hp) (h : F_X9_tellAunt_77 x1 x2 σ = some ((), τ)) : x_W p l e rm_X9_tellAunt s m args below meth c (MQ below (x_Q TM G none τ) args s 0 0 (x_A TM G)) TM G 4 77 [(0, .ref (x_ad G 0)), (1, .int x1), (2, .int x2)] [] σ := by
  have hG : x_OK TM G := C.2.2.2.2.2.2.2.2.1
  rw [F_X9_tellAunt_77] at h
  refine x_aload_n C 0 dX9_tellAunt_77 rfl rfl ?_
  refine x_getRq C (k := 24) kM_0 (by decide) rfl x_in9 (by decide) (by decide) rfl rfl wd_1232 rfM_0_24 dX9_tellAunt_78 ?_
  refine x_iload_n C 1 dX9_tellAunt_81 rfl rfl ?_
  refine x_aload_n C 0 dX9_tellAunt_82 rfl rfl ?_
  refine x_iconst C (0 : Int32) dX9_tellAunt_83 (by decide) ?_
  refine x_bipush C (9 : Int32) dX9_tellAunt_84 (by decide) ?_
  obtain ⟨v7, σ7, hc7, h⟩ := x_b_some h
  refine x_callV C (n := 2) (c_X9_bounded hG hc7) kM_0 (by decide) rfl wd_1483 wd_1485 wd_59 wd_111 wd_1486 (by decide +kernel) rfl ⟨Nat.le_of_ble_eq_true rfl, Nat.le_of_ble_eq_true rfl⟩ ⟨rfl, rfl⟩ rfl (Nat.le_of_ble_eq_true rfl) dX9_tellAunt_86 ?_
  obtain ⟨hi8, h⟩ := x_gd_some h
  refine x_iast C kM_11 (x_inl lnM_11 hi8) dX9_tellAunt_89 (x_gen h fun σ9 h => ?_)
  refine x_aload_n C 0 dX9_tellAunt_90 rfl rfl ?_
  refine x_getRq C (k := 25) kM_0 (by decide) rfl x_in9 (by decide) (by decide) rfl rfl wd_1233 rfM_0_25 dX9_tellAunt_91 ?_
  refine x_iload_n C 1 dX9_tellAunt_94 rfl rfl ?_
  refine x_aload_n C 0 dX9_tellAunt_95 rfl rfl ?_
  refine x_iconst C (0 : Int32) dX9_tellAunt_96 (by decide) ?_
  refine x_bipush C (9 : Int32) dX9_tellAunt_97 (by decide) ?_
  obtain ⟨v10, σ10, hc10, h⟩ := x_b_some h
  refine x_callV C (n := 2) (c_X9_bounded hG hc10) kM_0 (by decide) rfl wd_1483 wd_1485 wd_59 wd_111 wd_1486 (by decide +kernel) rfl ⟨Nat.le_of_ble_eq_true rfl, Nat.le_of_ble_eq_true rfl⟩ ⟨rfl, rfl⟩ rfl (Nat.le_of_ble_eq_true rfl) dX9_tellAunt_99 ?_
  obtain ⟨hi11, h⟩ := x_gd_some h
  refine x_iast C kM_12 (x_inl lnM_12 hi11) dX9_tellAunt_102 (x_gen h fun σ12 h => ?_)
  refine x_aload_n C 0 dX9_tellAunt_103 rfl rfl ?_
  refine x_getRq C (k := 26) kM_0 (by decide) rfl x_in9 (by decide) (by decide) rfl rfl wd_1234 rfM_0_26 dX9_tellAunt_104 ?_
  refine x_iload_n C 1 dX9_tellAunt_107 rfl rfl ?_
  refine x_aload_n C 0 dX9_tellAunt_108 rfl rfl ?_
  refine x_iconst C (0 : Int32) dX9_tellAunt_109 (by decide) ?_
  refine x_bipush C (9 : Int32) dX9_tellAunt_110 (by decide) ?_
  obtain ⟨v13, σ13, hc13, h⟩ := x_b_some h
  refine x_callV C (n := 2) (c_X9_bounded hG hc13) kM_0 (by decide) rfl wd_1483 wd_1485 wd_59 wd_111 wd_1486 (by decide +kernel) rfl ⟨Nat.le_of_ble_eq_true rfl, Nat.le_of_ble_eq_true rfl⟩ ⟨rfl, rfl⟩ rfl (Nat.le_of_ble_eq_true rfl) dX9_tellAunt_112 ?_
  obtain ⟨hi14, h⟩ := x_gd_some h
  refine x_iast C kM_13 (x_inl lnM_13 hi14) dX9_tellAunt_115 (x_gen h fun σ15 h => ?_)
  refine x_aload_n C 0 dX9_tellAunt_116 rfl rfl ?_
  refine x_getRq C (k := 27) kM_0 (by decide) rfl x_in9 (by decide) (by decide) rfl rfl wd_1235 rfM_0_27 dX9_tellAunt_117 ?_
  refine x_iload_n C 1 dX9_tellAunt_120 rfl rfl ?_
  refine x_aload_n C 0 dX9_tellAunt_121 rfl rfl ?_
  refine x_iconst C (0 : Int32) dX9_tellAunt_122 (by decide) ?_
  refine x_bipush C (99 : Int32) dX9_tellAunt_123 (by decide) ?_
  obtain ⟨v16, σ16, hc16, h⟩ := x_b_some h
  refine x_callV C (n := 2) (c_X9_bounded hG hc16) kM_0 (by decide) rfl wd_1483 wd_1485 wd_59 wd_111 wd_1486 (by decide +kernel) rfl ⟨Nat.le_of_ble_eq_true rfl, Nat.le_of_ble_eq_true rfl⟩ ⟨rfl, rfl⟩ rfl (Nat.le_of_ble_eq_true rfl) dX9_tellAunt_125 ?_
  obtain ⟨hi17, h⟩ := x_gd_some h
  refine x_iast C kM_14 (x_inl lnM_14 hi17) dX9_tellAunt_128 (x_gen h fun σ18 h => ?_)
  refine x_aload_n C 0 dX9_tellAunt_129 rfl rfl ?_
  refine x_getRq C (k := 28) kM_0 (by decide) rfl x_in9 (by decide) (by decide) rfl rfl wd_1236 rfM_0_28 dX9_tellAunt_130 ?_
  refine x_iload_n C 1 dX9_tellAunt_133 rfl rfl ?_
  refine x_aload_n C 0 dX9_tellAunt_134 rfl rfl ?_
  refine x_getI C (k := 13) kM_0 (by decide) rfl x_in9 (by decide) (by decide) rfl rfl wd_1221 dX9_tellAunt_135 ?_
  refine x_if_ne C 154 dX9_tellAunt_138 rfl (fun hc => ?_) (fun hc => ?_)
  · replace h := x_itn hc h
    exact x_sub [0, 1, 2] rfl (w_X9_tellAunt_154 C x1 x2 x1 σ18 h)
  · replace h := x_itp hc h
    refine x_aload_n C 0 dX9_tellAunt_141 rfl rfl ?_
    refine x_bipush C (22 : Int32) dX9_tellAunt_142 (by decide) ?_
    obtain ⟨v19, σ19, hc19, h⟩ := x_b_some h
    refine x_callV C (n := 1) (c_X9_is hG hc19) kM_0 (by decide) rfl wd_1467 wd_1469 wd_55 wd_111 wd_1470 (by decide +kernel) rfl ⟨Nat.le_of_ble_eq_true rfl, Nat.le_of_ble_eq_true rfl⟩ ⟨rfl, rfl⟩ rfl (Nat.le_of_ble_eq_true rfl) dX9_tellAunt_144 ?_
    refine x_if_eq C 154 dX9_tellAunt_147 rfl (fun hc => ?_) (fun hc => ?_)
    · replace h := x_itp hc h
      exact x_sub [0, 1, 2] rfl (w_X9_tellAunt_154 C x1 x2 x1 σ19 h)
    · replace h := x_itn hc h
      refine x_iconst C (1 : Int32) dX9_tellAunt_150 (by decide) ?_
      refine x_goto C 155 dX9_tellAunt_151 rfl ?_
      exact x_sub [0, 1, 2] rfl (w_X9_tellAunt_155 C x1 x2 (1 : Int32) x1 σ19 h)
set_option maxHeartbeats 4000000 in
set_option maxRecDepth 100000 in
theorem w_X9_tellAunt_71 {τ : x_Hp} (C : x_C p s m args meth c cX9_tellAunt 4 none yX9_tellAunt.cls TM G) {k34 : Int32 → Int32 → Int32 → x_Hp → Option (Unit × x_Hp)} (hk34 : ∀ (x1 : Int32) (x2 : Int32) (x3 : Int32) (σ : x_Hp) (h : k34 x1 x2 x3 σ = some ((), τ)), x_W p l e rm_X9_tellAunt s m args below meth c (MQ below (x_Q TM G none τ) args s 0 0 (x_A TM G)) TM G 4 34 [(0, .ref (x_ad G 0)), (1, .int x1), (2, .int x2), (3, .int x3)] [] σ) (x1 : Int32) (x2 : Int32) (x3 : Int32) (σ : x_Hp) (h : F_X9_tellAunt_71 k34 x1 x2 x3 σ = some ((), τ)) : x_W p l e rm_X9_tellAunt s m args below meth c (MQ below (x_Q TM G none τ) args s 0 0 (x_A TM G)) TM G 4 71 [(0, .ref (x_ad G 0)), (1, .int x1), (2, .int x2), (3, .int x3)] [] σ := by
  have hG : x_OK TM G := C.2.2.2.2.2.2.2.2.1
  rw [F_X9_tellAunt_71] at h
  refine x_iinc C 3 (x3 + (1 : Int32)) [(3, .int (x3 + (1 : Int32))), (0, .ref (x_ad G 0)), (1, .int x1), (2, .int x2)] dX9_tellAunt_71 rfl rfl (by decide) rfl ?_
  refine x_goto C 34 dX9_tellAunt_74 rfl ?_
  exact x_sub [1, 2, 3, 0] rfl (hk34 x1 x2 (x3 + (1 : Int32)) σ h)
set_option maxHeartbeats 4000000 in
set_option maxRecDepth 100000 in
theorem w_X9_tellAunt_34 {τ : x_Hp} (C : x_C p s m args meth c cX9_tellAunt 4 none yX9_tellAunt.cls TM G) : ∀ (n : Nat) (x1 : Int32) (x2 : Int32) (x3 : Int32) (σ : x_Hp) (h : F_X9_tellAunt_34 n x1 x2 x3 σ = some ((), τ)), x_W p l e rm_X9_tellAunt s m args below meth c (MQ below (x_Q TM G none τ) args s 0 0 (x_A TM G)) TM G 4 34 [(0, .ref (x_ad G 0)), (1, .int x1), (2, .int x2), (3, .int x3)] [] σ := by
  intro n
  induction n with
  | zero => intro x1 x2 x3 σ  h; cases h
  | succ n ih =>
    intro x1 x2 x3 σ  h
    have hG : x_OK TM G := C.2.2.2.2.2.2.2.2.1
    rw [F_X9_tellAunt_34] at h
    refine x_iload_n C 3 dX9_tellAunt_34 rfl rfl ?_
    refine x_aload_n C 0 dX9_tellAunt_35 rfl rfl ?_
    refine x_getI C (k := 20) kM_0 (by decide) rfl x_in9 (by decide) (by decide) rfl rfl wd_1228 dX9_tellAunt_36 ?_
    refine x_icmp_ge C 77 dX9_tellAunt_39 rfl (fun hc => ?_) (fun hc => ?_)
    · replace h := x_itp hc h
      exact x_sub [0, 1, 2] rfl (w_X9_tellAunt_77 C x1 x2 σ h)
    · replace h := x_itn hc h
      refine x_aload_n C 0 dX9_tellAunt_42 rfl rfl ?_
      refine x_getI C (k := 13) kM_0 (by decide) rfl x_in9 (by decide) (by decide) rfl rfl wd_1221 dX9_tellAunt_43 ?_
      refine x_if_ne C 77 dX9_tellAunt_46 rfl (fun hc => ?_) (fun hc => ?_)
      · replace h := x_itn hc h
        exact x_sub [0, 1, 2] rfl (w_X9_tellAunt_77 C x1 x2 σ h)
      · replace h := x_itp hc h
        refine x_aload_n C 0 dX9_tellAunt_49 rfl rfl ?_
        refine x_getRq C (k := 21) kM_0 (by decide) rfl x_in9 (by decide) (by decide) rfl rfl wd_1229 rfM_0_21 dX9_tellAunt_50 ?_
        refine x_iload_n C 3 dX9_tellAunt_53 rfl rfl ?_
        obtain ⟨hi4, h⟩ := x_gd_some h
        refine x_lald C kM_8 (x_inl lnM_8 hi4) dX9_tellAunt_54 ?_
        refine x_aload_n C 0 dX9_tellAunt_55 rfl rfl ?_
        refine x_getRq C (k := 8) kM_0 (by decide) rfl x_in9 (by decide) (by decide) rfl rfl wd_1216 rfM_0_8 dX9_tellAunt_56 ?_
        refine x_iload_n C 2 dX9_tellAunt_59 rfl rfl ?_
        obtain ⟨hi5, h⟩ := x_gd_some h
        refine x_lald C kM_6 (x_inl lnM_6 hi5) dX9_tellAunt_60 ?_
        refine x_lcmp C dX9_tellAunt_61 ?_
        refine x_if_ne C 71 dX9_tellAunt_62 rfl (fun hc => ?_) (fun hc => ?_)
        · replace h := x_itn hc h
          exact x_sub [0, 1, 2, 3] rfl (w_X9_tellAunt_71 C ih x1 x2 x3 σ h)
        · replace h := x_itp hc h
          refine x_aload_n C 0 dX9_tellAunt_65 rfl rfl ?_
          refine x_iconst C (3 : Int32) dX9_tellAunt_66 (by decide) ?_
          refine x_iload_n C 2 dX9_tellAunt_67 rfl rfl ?_
          obtain ⟨v6, σ6, hc6, h⟩ := x_b_some h
          refine x_callV C (n := 2) (c_X9_wrong hG hc6) kM_0 (by decide) rfl wd_1487 wd_1489 wd_60 wd_111 wd_1490 (by decide +kernel) rfl ⟨Nat.le_of_ble_eq_true rfl, Nat.le_of_ble_eq_true rfl⟩ ⟨rfl, rfl⟩ rfl (Nat.le_of_ble_eq_true rfl) dX9_tellAunt_68 ?_
          exact x_sub [0, 1, 2, 3] rfl (w_X9_tellAunt_71 C ih x1 x2 x3 σ6 h)
set_option maxHeartbeats 4000000 in
set_option maxRecDepth 100000 in
theorem c_X9_tellAunt (hG : x_OK TM G) {σ τ : x_Hp} (h : F_X9_tellAunt σ = some ((), τ)) : x_M l TM G yX9_tellAunt cX9_tellAunt 4 none rm_X9_tellAunt [.ref (x_ad G 0)] σ none τ := by
  refine x_M.of hG (lv := [(0, .ref (x_ad G 0))]) (by decide) (Nat.le_of_ble_eq_true rfl) rfl (fun p e s m below meth c C => ?_)
  rw [F_X9_tellAunt] at h
  refine x_aload_n C 0 dX9_tellAunt_0 rfl rfl ?_
  obtain ⟨v1, σ1, hc1, h⟩ := x_b_some h
  refine x_callV C (n := 0) (c_X9_goesOn hG hc1) kM_0 (by decide) rfl wd_1475 wd_1477 wd_57 wd_111 wd_1478 (by decide +kernel) rfl ⟨Nat.le_of_ble_eq_true rfl, Nat.le_of_ble_eq_true rfl⟩ ⟨rfl, rfl⟩ rfl (Nat.le_of_ble_eq_true rfl) dX9_tellAunt_1 ?_
  refine x_bipush C (6 : Int32) dX9_tellAunt_4 (by decide) ?_
  refine x_aload_n C 0 dX9_tellAunt_6 rfl rfl ?_
  refine x_getI C (k := 19) kM_0 (by decide) rfl x_in9 (by decide) (by decide) rfl rfl wd_1227 dX9_tellAunt_7 ?_
  refine x_imul C dX9_tellAunt_10 ?_
  refine x_aload_n C 0 dX9_tellAunt_11 rfl rfl ?_
  refine x_getRq C (k := 23) kM_0 (by decide) rfl x_in9 (by decide) (by decide) rfl rfl wd_1231 rfM_0_23 dX9_tellAunt_12 ?_
  refine x_aload_n C 0 dX9_tellAunt_15 rfl rfl ?_
  refine x_getI C (k := 19) kM_0 (by decide) rfl x_in9 (by decide) (by decide) rfl rfl wd_1227 dX9_tellAunt_16 ?_
  obtain ⟨hi2, h⟩ := x_gd_some h
  refine x_iald C kM_10 (x_inl lnM_10 hi2) dX9_tellAunt_19 ?_
  refine x_iadd C dX9_tellAunt_20 ?_
  refine x_istore_n C [(1, .int (((6 : Int32) * (σ1.1 0 19)) + (σ1.1 10 (x_ix (σ1.1 0 19))))), (0, .ref (x_ad G 0))] dX9_tellAunt_21 rfl (by decide) rfl ?_
  refine x_aload_n C 1 dX9_tellAunt_22 rfl rfl ?_
  refine x_getI C (k := 11) kM_0 (by decide) rfl x_in9 (by decide) (by decide) rfl rfl wd_1219 dX9_tellAunt_23 ?_
  refine x_istore_n C [(2, .int (σ1.1 0 11)), (1, .int (((6 : Int32) * (σ1.1 0 19)) + (σ1.1 10 (x_ix (σ1.1 0 19))))), (0, .ref (x_ad G 0))] dX9_tellAunt_26 rfl (by decide) rfl ?_
  refine x_aload_n C 2 dX9_tellAunt_27 rfl rfl ?_
  refine x_iconst C (1 : Int32) dX9_tellAunt_28 (by decide) ?_
  obtain ⟨v3, σ3, hc3, h⟩ := x_b_some h
  refine x_callV C (n := 1) (c_X9_must hG hc3) kM_0 (by decide) rfl wd_1491 wd_1493 wd_61 wd_111 wd_1494 (by decide +kernel) rfl ⟨Nat.le_of_ble_eq_true rfl, Nat.le_of_ble_eq_true rfl⟩ ⟨rfl, rfl⟩ rfl (Nat.le_of_ble_eq_true rfl) dX9_tellAunt_29 ?_
  refine x_iconst C (0 : Int32) dX9_tellAunt_32 (by decide) ?_
  refine x_istore_n C [(3, .int (0 : Int32)), (2, .int (σ1.1 0 11)), (1, .int (((6 : Int32) * (σ1.1 0 19)) + (σ1.1 10 (x_ix (σ1.1 0 19))))), (0, .ref (x_ad G 0))] dX9_tellAunt_33 rfl (by decide) rfl ?_
  exact x_sub [3, 2, 1, 0] rfl (w_X9_tellAunt_34 C x_fuel (((6 : Int32) * (σ1.1 0 19)) + (σ1.1 10 (x_ix (σ1.1 0 19)))) (σ1.1 0 11) (0 : Int32) σ3 h)
abbrev rm_X9_emit : Room := { frames := 0, cells := 0, slots := 0, locals := 0 }
set_option maxHeartbeats 4000000 in
set_option maxRecDepth 100000 in
theorem c_X9_emit (hG : x_OK TM G) {x1 : Int32} {x2 : Int32} {σ τ : x_Hp} (h : F_X9_emit x1 x2 σ = some ((), τ)) : x_M l TM G yX9_emit cX9_emit 3 none rm_X9_emit [.ref (x_ad G 0), .int x1, .int x2] σ none τ := by
  refine x_M.of hG (lv := [(0, .ref (x_ad G 0)), (1, .int x1), (2, .int x2)]) (by decide) (Nat.le_of_ble_eq_true rfl) rfl (fun p e s m below meth c C => ?_)
  rw [F_X9_emit] at h
  refine x_aload_n C 0 dX9_emit_0 rfl rfl ?_
  refine x_getRq C (k := 41) kM_0 (by decide) rfl x_in9 (by decide) (by decide) rfl rfl wd_1249 rfM_0_41 dX9_emit_1 ?_
  refine x_aload_n C 0 dX9_emit_4 rfl rfl ?_
  refine x_getI C (k := 40) kM_0 (by decide) rfl x_in9 (by decide) (by decide) rfl rfl wd_1248 dX9_emit_5 ?_
  refine x_iload_n C 1 dX9_emit_8 rfl rfl ?_
  obtain ⟨hi1, h⟩ := x_gd_some h
  refine x_iast C kM_26 (x_inl lnM_26 hi1) dX9_emit_9 (x_gen h fun σ2 h => ?_)
  refine x_aload_n C 0 dX9_emit_10 rfl rfl ?_
  refine x_getRq C (k := 42) kM_0 (by decide) rfl x_in9 (by decide) (by decide) rfl rfl wd_1250 rfM_0_42 dX9_emit_11 ?_
  refine x_aload_n C 0 dX9_emit_14 rfl rfl ?_
  refine x_getI C (k := 40) kM_0 (by decide) rfl x_in9 (by decide) (by decide) rfl rfl wd_1248 dX9_emit_15 ?_
  refine x_iload_n C 2 dX9_emit_18 rfl rfl ?_
  obtain ⟨hi3, h⟩ := x_gd_some h
  refine x_iast C kM_27 (x_inl lnM_27 hi3) dX9_emit_19 (x_gen h fun σ4 h => ?_)
  refine x_aload_n C 0 dX9_emit_20 rfl rfl ?_
  refine x_dup C dX9_emit_21 rfl ?_
  refine x_getI C (k := 40) kM_0 (by decide) rfl x_in9 (by decide) (by decide) rfl rfl wd_1248 dX9_emit_22 ?_
  refine x_iconst C (1 : Int32) dX9_emit_25 (by decide) ?_
  refine x_iadd C dX9_emit_26 ?_
  refine x_putI C (k := 40) tyX9 kM_0 (by decide) rfl x_in9 tyX9_ok nmX9 (by decide) (by decide) rfl rfl wd_1248 rfl (tyX9_ok 40 (by decide)) rfl rfl dX9_emit_27 (x_gen h fun σ5 h => ?_)
  obtain ⟨-, rfl⟩ := x_ret h
  exact x_vret C dX9_emit_30
abbrev rm_X9_comesOut : Room := { frames := 1, cells := 0, slots := 0, locals := 22 }
set_option maxHeartbeats 4000000 in
set_option maxRecDepth 100000 in
theorem w_X9_comesOut_84 {τ : x_Hp} (C : x_C p s m args meth c cX9_comesOut 3 none yX9_comesOut.cls TM G) {k0 : Int32 → x_Hp → Option (Unit × x_Hp)} (hk0 : ∀ (x1 : Int32) (σ : x_Hp) (h : k0 x1 σ = some ((), τ)), x_W p l e rm_X9_comesOut s m args below meth c (MQ below (x_Q TM G none τ) args s 0 0 (x_A TM G)) TM G 3 0 [(0, .ref (x_ad G 0)), (1, .int x1)] [] σ) (x1 : Int32) (s0 : Int32) (σ : x_Hp) (h : F_X9_comesOut_84 k0 x1 s0 σ = some ((), τ)) : x_W p l e rm_X9_comesOut s m args below meth c (MQ below (x_Q TM G none τ) args s 0 0 (x_A TM G)) TM G 3 84 [(0, .ref (x_ad G 0)), (1, .int x1)] [.int s0, .ref (x_ad G 0)] σ := by
  have hG : x_OK TM G := C.2.2.2.2.2.2.2.2.1
  rw [F_X9_comesOut_84] at h
  refine x_iconst C (0 : Int32) dX9_comesOut_84 (by decide) ?_
  obtain ⟨v3, σ3, hc3, h⟩ := x_b_some h
  refine x_callV C (n := 2) (c_X9_emit hG hc3) kM_0 (by decide) rfl wd_1511 wd_1513 wd_66 wd_111 wd_1514 (by decide +kernel) rfl ⟨Nat.le_of_ble_eq_true rfl, Nat.le_of_ble_eq_true rfl⟩ ⟨rfl, rfl⟩ rfl (Nat.le_of_ble_eq_true rfl) dX9_comesOut_85 ?_
  refine x_goto C 0 dX9_comesOut_88 rfl ?_
  exact x_sub [0, 1] rfl (hk0 x1 σ3 h)
set_option maxHeartbeats 4000000 in
set_option maxRecDepth 100000 in
theorem w_X9_comesOut_42 {τ : x_Hp} (C : x_C p s m args meth c cX9_comesOut 3 none yX9_comesOut.cls TM G) {k0 : Int32 → x_Hp → Option (Unit × x_Hp)} (hk0 : ∀ (x1 : Int32) (σ : x_Hp) (h : k0 x1 σ = some ((), τ)), x_W p l e rm_X9_comesOut s m args below meth c (MQ below (x_Q TM G none τ) args s 0 0 (x_A TM G)) TM G 3 0 [(0, .ref (x_ad G 0)), (1, .int x1)] [] σ) (x1 : Int32) (x2 : Int32) (σ : x_Hp) (h : F_X9_comesOut_42 k0 x1 x2 σ = some ((), τ)) : x_W p l e rm_X9_comesOut s m args below meth c (MQ below (x_Q TM G none τ) args s 0 0 (x_A TM G)) TM G 3 42 [(0, .ref (x_ad G 0)), (1, .int x1), (2, .int x2)] [] σ := by
  have hG : x_OK TM G := C.2.2.2.2.2.2.2.2.1
  rw [F_X9_comesOut_42] at h
  refine x_aload_n C 0 dX9_comesOut_42 rfl rfl ?_
  refine x_dup C dX9_comesOut_43 rfl ?_
  refine x_getI C (k := 44) kM_0 (by decide) rfl x_in9 (by decide) (by decide) rfl rfl wd_1252 dX9_comesOut_44 ?_
  refine x_iconst C (1 : Int32) dX9_comesOut_47 (by decide) ?_
  refine x_isub C dX9_comesOut_48 ?_
  refine x_putI C (k := 44) tyX9 kM_0 (by decide) rfl x_in9 tyX9_ok nmX9 (by decide) (by decide) rfl rfl wd_1252 rfl (tyX9_ok 44 (by decide)) rfl rfl dX9_comesOut_49 (x_gen h fun σ2 h => ?_)
  refine x_aload_n C 0 dX9_comesOut_52 rfl rfl ?_
  refine x_iload_n C 2 dX9_comesOut_53 rfl rfl ?_
  refine x_bipush C (8 : Int32) dX9_comesOut_54 (by decide) ?_
  refine x_icmp_ne C 63 dX9_comesOut_56 rfl (fun hc => ?_) (fun hc => ?_)
  · replace h := x_itn hc h
    refine x_iload_n C 2 dX9_comesOut_63 rfl rfl ?_
    refine x_bipush C (9 : Int32) dX9_comesOut_64 (by decide) ?_
    refine x_icmp_ne C 73 dX9_comesOut_66 rfl (fun hc => ?_) (fun hc => ?_)
    · replace h := x_itn hc h
      refine x_iload_n C 2 dX9_comesOut_73 rfl rfl ?_
      refine x_bipush C (10 : Int32) dX9_comesOut_74 (by decide) ?_
      refine x_icmp_ne C 83 dX9_comesOut_76 rfl (fun hc => ?_) (fun hc => ?_)
      · replace h := x_itn hc h
        refine x_iconst C (5 : Int32) dX9_comesOut_83 (by decide) ?_
        exact x_sub [0, 1] rfl (w_X9_comesOut_84 C hk0 x1 (5 : Int32) σ2 h)
      · replace h := x_itp hc h
        refine x_iconst C (4 : Int32) dX9_comesOut_79 (by decide) ?_
        refine x_goto C 84 dX9_comesOut_80 rfl ?_
        exact x_sub [0, 1] rfl (w_X9_comesOut_84 C hk0 x1 (4 : Int32) σ2 h)
    · replace h := x_itp hc h
      refine x_iconst C (3 : Int32) dX9_comesOut_69 (by decide) ?_
      refine x_goto C 84 dX9_comesOut_70 rfl ?_
      exact x_sub [0, 1] rfl (w_X9_comesOut_84 C hk0 x1 (3 : Int32) σ2 h)
  · replace h := x_itp hc h
    refine x_iconst C (2 : Int32) dX9_comesOut_59 (by decide) ?_
    refine x_goto C 84 dX9_comesOut_60 rfl ?_
    exact x_sub [0, 1] rfl (w_X9_comesOut_84 C hk0 x1 (2 : Int32) σ2 h)
set_option maxHeartbeats 4000000 in
set_option maxRecDepth 100000 in
theorem w_X9_comesOut_0 {τ : x_Hp} (C : x_C p s m args meth c cX9_comesOut 3 none yX9_comesOut.cls TM G) : ∀ (n : Nat) (x1 : Int32) (σ : x_Hp) (h : F_X9_comesOut_0 n x1 σ = some ((), τ)), x_W p l e rm_X9_comesOut s m args below meth c (MQ below (x_Q TM G none τ) args s 0 0 (x_A TM G)) TM G 3 0 [(0, .ref (x_ad G 0)), (1, .int x1)] [] σ := by
  intro n
  induction n with
  | zero => intro x1 σ  h; cases h
  | succ n ih =>
    intro x1 σ  h
    have hG : x_OK TM G := C.2.2.2.2.2.2.2.2.1
    rw [F_X9_comesOut_0] at h
    refine x_aload_n C 0 dX9_comesOut_0 rfl rfl ?_
    refine x_getI C (k := 44) kM_0 (by decide) rfl x_in9 (by decide) (by decide) rfl rfl wd_1252 dX9_comesOut_1 ?_
    refine x_if_le C 91 dX9_comesOut_4 rfl (fun hc => ?_) (fun hc => ?_)
    · replace h := x_itp hc h
      obtain ⟨-, rfl⟩ := x_ret h
      exact x_vret C dX9_comesOut_91
    · replace h := x_itn hc h
      refine x_aload_n C 0 dX9_comesOut_7 rfl rfl ?_
      refine x_getRq C (k := 43) kM_0 (by decide) rfl x_in9 (by decide) (by decide) rfl rfl wd_1251 rfM_0_43 dX9_comesOut_8 ?_
      refine x_aload_n C 0 dX9_comesOut_11 rfl rfl ?_
      refine x_getI C (k := 44) kM_0 (by decide) rfl x_in9 (by decide) (by decide) rfl rfl wd_1252 dX9_comesOut_12 ?_
      refine x_iconst C (1 : Int32) dX9_comesOut_15 (by decide) ?_
      refine x_isub C dX9_comesOut_16 ?_
      obtain ⟨hi1, h⟩ := x_gd_some h
      refine x_iald C kM_28 (x_inl lnM_28 hi1) dX9_comesOut_17 ?_
      refine x_istore_n C [(2, .int (σ.1 28 (x_ix ((σ.1 0 44) - (1 : Int32))))), (0, .ref (x_ad G 0)), (1, .int x1)] dX9_comesOut_18 rfl (by decide) rfl ?_
      refine x_iload_n C 0 dX9_comesOut_19 rfl rfl ?_
      refine x_bipush C (6 : Int32) dX9_comesOut_20 (by decide) ?_
      refine x_icmp_eq C 41 dX9_comesOut_22 rfl (fun hc => ?_) (fun hc => ?_)
      · replace h := x_itp hc h
        obtain ⟨-, rfl⟩ := x_ret h
        exact x_vret C dX9_comesOut_41
      · replace h := x_itn hc h
        refine x_iload_n C 2 dX9_comesOut_25 rfl rfl ?_
        refine x_if_eq C 42 dX9_comesOut_26 rfl (fun hc => ?_) (fun hc => ?_)
        · replace h := x_itp hc h
          exact x_sub [1, 2, 0] rfl (w_X9_comesOut_42 C ih x1 (σ.1 28 (x_ix ((σ.1 0 44) - (1 : Int32)))) σ h)
        · replace h := x_itn hc h
          refine x_iload_n C 0 dX9_comesOut_29 rfl rfl ?_
          refine x_bipush C (8 : Int32) dX9_comesOut_30 (by decide) ?_
          refine x_icmp_eq C 41 dX9_comesOut_32 rfl (fun hc => ?_) (fun hc => ?_)
          · replace h := x_itp hc h
            obtain ⟨-, rfl⟩ := x_ret h
            exact x_vret C dX9_comesOut_41
          · replace h := x_itn hc h
            refine x_iload_n C 0 dX9_comesOut_35 rfl rfl ?_
            refine x_bipush C (9 : Int32) dX9_comesOut_36 (by decide) ?_
            refine x_icmp_ne C 42 dX9_comesOut_38 rfl (fun hc => ?_) (fun hc => ?_)
            · replace h := x_itn hc h
              exact x_sub [1, 2, 0] rfl (w_X9_comesOut_42 C ih x1 (σ.1 28 (x_ix ((σ.1 0 44) - (1 : Int32)))) σ h)
            · replace h := x_itp hc h
              obtain ⟨-, rfl⟩ := x_ret h
              exact x_vret C dX9_comesOut_41
set_option maxHeartbeats 4000000 in
set_option maxRecDepth 100000 in
theorem c_X9_comesOut (hG : x_OK TM G) {x1 : Int32} {σ τ : x_Hp} (h : F_X9_comesOut x1 σ = some ((), τ)) : x_M l TM G yX9_comesOut cX9_comesOut 3 none rm_X9_comesOut [.ref (x_ad G 0), .int x1] σ none τ := by
  refine x_M.of hG (lv := [(0, .ref (x_ad G 0)), (1, .int x1)]) (by decide) (Nat.le_of_ble_eq_true rfl) rfl (fun p e s m below meth c C => ?_)
  rw [F_X9_comesOut] at h
  exact x_sub [0, 1] rfl (w_X9_comesOut_0 C x_fuel x1 σ h)
abbrev rm_X9_unit : Room := { frames := 2, cells := 0, slots := 0, locals := 41 }
set_option maxHeartbeats 4000000 in
set_option maxRecDepth 100000 in
theorem w_X9_unit_88 {τ : x_Hp} (C : x_C p s m args meth c cX9_unit 1 none yX9_unit.cls TM G) (σ : x_Hp) (h : F_X9_unit_88 σ = some ((), τ)) : x_W p l e rm_X9_unit s m args below meth c (MQ below (x_Q TM G none τ) args s 0 0 (x_A TM G)) TM G 1 88 [(0, .ref (x_ad G 0))] [] σ := by
  have hG : x_OK TM G := C.2.2.2.2.2.2.2.2.1
  rw [F_X9_unit_88] at h
  refine x_aload_n C 0 dX9_unit_88 rfl rfl ?_
  refine x_iconst C (1 : Int32) dX9_unit_89 (by decide) ?_
  obtain ⟨v10, σ10, hc10, h⟩ := x_b_some h
  refine x_callV C (n := 1) (c_X9_fail hG hc10) kM_0 (by decide) rfl wd_1479 wd_1481 wd_58 wd_111 wd_1482 (by decide +kernel) rfl ⟨Nat.le_of_ble_eq_true rfl, Nat.le_of_ble_eq_true rfl⟩ ⟨rfl, rfl⟩ rfl (Nat.le_of_ble_eq_true rfl) dX9_unit_90 ?_
  obtain ⟨-, rfl⟩ := x_ret h
  exact x_vret C dX9_unit_93
set_option maxHeartbeats 4000000 in
set_option maxRecDepth 100000 in
theorem c_X9_unit (hG : x_OK TM G) {σ τ : x_Hp} (h : F_X9_unit σ = some ((), τ)) : x_M l TM G yX9_unit cX9_unit 1 none rm_X9_unit [.ref (x_ad G 0)] σ none τ := by
  refine x_M.of hG (lv := [(0, .ref (x_ad G 0))]) (by decide) (Nat.le_of_ble_eq_true rfl) rfl (fun p e s m below meth c C => ?_)
  rw [F_X9_unit] at h
  refine x_aload_n C 0 dX9_unit_0 rfl rfl ?_
  refine x_iconst C (2 : Int32) dX9_unit_1 (by decide) ?_
  obtain ⟨v1, σ1, hc1, h⟩ := x_b_some h
  refine x_callV C (n := 1) (c_X9_is hG hc1) kM_0 (by decide) rfl wd_1467 wd_1469 wd_55 wd_111 wd_1470 (by decide +kernel) rfl ⟨Nat.le_of_ble_eq_true rfl, Nat.le_of_ble_eq_true rfl⟩ ⟨rfl, rfl⟩ rfl (Nat.le_of_ble_eq_true rfl) dX9_unit_2 ?_
  refine x_if_eq C 29 dX9_unit_5 rfl (fun hc => ?_) (fun hc => ?_)
  · replace h := x_itp hc h
    refine x_aload_n C 0 dX9_unit_29 rfl rfl ?_
    refine x_getI C (k := 13) kM_0 (by decide) rfl x_in9 (by decide) (by decide) rfl rfl wd_1221 dX9_unit_30 ?_
    refine x_if_ne C 88 dX9_unit_33 rfl (fun hc => ?_) (fun hc => ?_)
    · replace h := x_itn hc h
      exact x_sub [0] rfl (w_X9_unit_88 C σ1 h)
    · replace h := x_itp hc h
      refine x_aload_n C 0 dX9_unit_36 rfl rfl ?_
      refine x_getRq C (k := 5) kM_0 (by decide) rfl x_in9 (by decide) (by decide) rfl rfl wd_1213 rfM_0_5 dX9_unit_37 ?_
      refine x_aload_n C 0 dX9_unit_40 rfl rfl ?_
      refine x_getI C (k := 11) kM_0 (by decide) rfl x_in9 (by decide) (by decide) rfl rfl wd_1219 dX9_unit_41 ?_
      obtain ⟨hi2, h⟩ := x_gd_some h
      refine x_iald C kM_3 (x_inl lnM_3 hi2) dX9_unit_44 ?_
      refine x_bipush C (36 : Int32) dX9_unit_45 (by decide) ?_
      refine x_icmp_lt C 88 dX9_unit_47 rfl (fun hc => ?_) (fun hc => ?_)
      · replace h := x_itp hc h
        exact x_sub [0] rfl (w_X9_unit_88 C σ1 h)
      · replace h := x_itn hc h
        refine x_aload_n C 0 dX9_unit_50 rfl rfl ?_
        refine x_getRq C (k := 5) kM_0 (by decide) rfl x_in9 (by decide) (by decide) rfl rfl wd_1213 rfM_0_5 dX9_unit_51 ?_
        refine x_aload_n C 0 dX9_unit_54 rfl rfl ?_
        refine x_getI C (k := 11) kM_0 (by decide) rfl x_in9 (by decide) (by decide) rfl rfl wd_1219 dX9_unit_55 ?_
        obtain ⟨hi3, h⟩ := x_gd_some h
        refine x_iald C kM_3 (x_inl lnM_3 hi3) dX9_unit_58 ?_
        refine x_bipush C (44 : Int32) dX9_unit_59 (by decide) ?_
        refine x_icmp_gt C 88 dX9_unit_61 rfl (fun hc => ?_) (fun hc => ?_)
        · replace h := x_itp hc h
          exact x_sub [0] rfl (w_X9_unit_88 C σ1 h)
        · replace h := x_itn hc h
          refine x_aload_n C 0 dX9_unit_64 rfl rfl ?_
          refine x_iconst C (1 : Int32) dX9_unit_65 (by decide) ?_
          refine x_aload_n C 0 dX9_unit_66 rfl rfl ?_
          refine x_getRq C (k := 5) kM_0 (by decide) rfl x_in9 (by decide) (by decide) rfl rfl wd_1213 rfM_0_5 dX9_unit_67 ?_
          refine x_aload_n C 0 dX9_unit_70 rfl rfl ?_
          refine x_getI C (k := 11) kM_0 (by decide) rfl x_in9 (by decide) (by decide) rfl rfl wd_1219 dX9_unit_71 ?_
          obtain ⟨hi4, h⟩ := x_gd_some h
          refine x_iald C kM_3 (x_inl lnM_3 hi4) dX9_unit_74 ?_
          refine x_bipush C (36 : Int32) dX9_unit_75 (by decide) ?_
          refine x_isub C dX9_unit_77 ?_
          obtain ⟨v5, σ5, hc5, h⟩ := x_b_some h
          refine x_callV C (n := 2) (c_X9_emit hG hc5) kM_0 (by decide) rfl wd_1511 wd_1513 wd_66 wd_111 wd_1514 (by decide +kernel) rfl ⟨Nat.le_of_ble_eq_true rfl, Nat.le_of_ble_eq_true rfl⟩ ⟨rfl, rfl⟩ rfl (Nat.le_of_ble_eq_true rfl) dX9_unit_78 ?_
          refine x_aload_n C 0 dX9_unit_81 rfl rfl ?_
          obtain ⟨v6, σ6, hc6, h⟩ := x_b_some h
          refine x_callV C (n := 0) (c_X9_goesOn hG hc6) kM_0 (by decide) rfl wd_1475 wd_1477 wd_57 wd_111 wd_1478 (by decide +kernel) rfl ⟨Nat.le_of_ble_eq_true rfl, Nat.le_of_ble_eq_true rfl⟩ ⟨rfl, rfl⟩ rfl (Nat.le_of_ble_eq_true rfl) dX9_unit_82 ?_
          refine x_goto C 93 dX9_unit_85 rfl ?_
          obtain ⟨-, rfl⟩ := x_ret h
          exact x_vret C dX9_unit_93
  · replace h := x_itn hc h
    refine x_aload_n C 0 dX9_unit_8 rfl rfl ?_
    refine x_iconst C (0 : Int32) dX9_unit_9 (by decide) ?_
    refine x_aload_n C 0 dX9_unit_10 rfl rfl ?_
    refine x_getRq C (k := 7) kM_0 (by decide) rfl x_in9 (by decide) (by decide) rfl rfl wd_1215 rfM_0_7 dX9_unit_11 ?_
    refine x_aload_n C 0 dX9_unit_14 rfl rfl ?_
    refine x_getI C (k := 11) kM_0 (by decide) rfl x_in9 (by decide) (by decide) rfl rfl wd_1219 dX9_unit_15 ?_
    obtain ⟨hi7, h⟩ := x_gd_some h
    refine x_iald C kM_5 (x_inl lnM_5 hi7) dX9_unit_18 ?_
    obtain ⟨v8, σ8, hc8, h⟩ := x_b_some h
    refine x_callV C (n := 2) (c_X9_emit hG hc8) kM_0 (by decide) rfl wd_1511 wd_1513 wd_66 wd_111 wd_1514 (by decide +kernel) rfl ⟨Nat.le_of_ble_eq_true rfl, Nat.le_of_ble_eq_true rfl⟩ ⟨rfl, rfl⟩ rfl (Nat.le_of_ble_eq_true rfl) dX9_unit_19 ?_
    refine x_aload_n C 0 dX9_unit_22 rfl rfl ?_
    obtain ⟨v9, σ9, hc9, h⟩ := x_b_some h
    refine x_callV C (n := 0) (c_X9_goesOn hG hc9) kM_0 (by decide) rfl wd_1475 wd_1477 wd_57 wd_111 wd_1478 (by decide +kernel) rfl ⟨Nat.le_of_ble_eq_true rfl, Nat.le_of_ble_eq_true rfl⟩ ⟨rfl, rfl⟩ rfl (Nat.le_of_ble_eq_true rfl) dX9_unit_23 ?_
    refine x_goto C 93 dX9_unit_26 rfl ?_
    obtain ⟨-, rfl⟩ := x_ret h
    exact x_vret C dX9_unit_93
abbrev rm_X9_expression : Room := { frames := 3, cells := 0, slots := 0, locals := 61 }
set_option maxHeartbeats 4000000 in
set_option maxRecDepth 100000 in
theorem w_X9_expression_234 {τ : x_Hp} (C : x_C p s m args meth c cX9_expression 3 none yX9_expression.cls TM G) {k12 : Int32 → Int32 → x_Hp → Option (Unit × x_Hp)} (hk12 : ∀ (x1 : Int32) (x2 : Int32) (σ : x_Hp) (h : k12 x1 x2 σ = some ((), τ)), x_W p l e rm_X9_expression s m args below meth c (MQ below (x_Q TM G none τ) args s 0 0 (x_A TM G)) TM G 3 12 [(0, .ref (x_ad G 0)), (1, .int x1), (2, .int x2)] [] σ) (x1 : Int32) (x2 : Int32) (s0 : Int32) (σ : x_Hp) (h : F_X9_expression_234 k12 x1 x2 s0 σ = some ((), τ)) : x_W p l e rm_X9_expression s m args below meth c (MQ below (x_Q TM G none τ) args s 0 0 (x_A TM G)) TM G 3 234 [(0, .ref (x_ad G 0)), (1, .int x1), (2, .int x2)] [.int s0, .ref (x_ad G 0)] σ := by
  have hG : x_OK TM G := C.2.2.2.2.2.2.2.2.1
  rw [F_X9_expression_234] at h
  obtain ⟨v22, σ22, hc22, h⟩ := x_b_some h
  refine x_callV C (n := 1) (c_X9_comesOut hG hc22) kM_0 (by decide) rfl wd_1515 wd_1517 wd_67 wd_111 wd_1518 (by decide +kernel) rfl ⟨Nat.le_of_ble_eq_true rfl, Nat.le_of_ble_eq_true rfl⟩ ⟨rfl, rfl⟩ rfl (Nat.le_of_ble_eq_true rfl) dX9_expression_234 ?_
  refine x_aload_n C 0 dX9_expression_237 rfl rfl ?_
  refine x_getRq C (k := 43) kM_0 (by decide) rfl x_in9 (by decide) (by decide) rfl rfl wd_1251 rfM_0_43 dX9_expression_238 ?_
  refine x_aload_n C 0 dX9_expression_241 rfl rfl ?_
  refine x_getI C (k := 44) kM_0 (by decide) rfl x_in9 (by decide) (by decide) rfl rfl wd_1252 dX9_expression_242 ?_
  refine x_aload_n C 0 dX9_expression_245 rfl rfl ?_
  refine x_getRq C (k := 5) kM_0 (by decide) rfl x_in9 (by decide) (by decide) rfl rfl wd_1213 rfM_0_5 dX9_expression_246 ?_
  refine x_aload_n C 0 dX9_expression_249 rfl rfl ?_
  refine x_getI C (k := 11) kM_0 (by decide) rfl x_in9 (by decide) (by decide) rfl rfl wd_1219 dX9_expression_250 ?_
  obtain ⟨hi23, h⟩ := x_gd_some h
  refine x_iald C kM_3 (x_inl lnM_3 hi23) dX9_expression_253 ?_
  obtain ⟨hi24, h⟩ := x_gd_some h
  refine x_iast C kM_28 (x_inl lnM_28 hi24) dX9_expression_254 (x_gen h fun σ25 h => ?_)
  refine x_aload_n C 0 dX9_expression_255 rfl rfl ?_
  refine x_dup C dX9_expression_256 rfl ?_
  refine x_getI C (k := 44) kM_0 (by decide) rfl x_in9 (by decide) (by decide) rfl rfl wd_1252 dX9_expression_257 ?_
  refine x_iconst C (1 : Int32) dX9_expression_260 (by decide) ?_
  refine x_iadd C dX9_expression_261 ?_
  refine x_putI C (k := 44) tyX9 kM_0 (by decide) rfl x_in9 tyX9_ok nmX9 (by decide) (by decide) rfl rfl wd_1252 rfl (tyX9_ok 44 (by decide)) rfl rfl dX9_expression_262 (x_gen h fun σ26 h => ?_)
  refine x_aload_n C 0 dX9_expression_265 rfl rfl ?_
  obtain ⟨v27, σ27, hc27, h⟩ := x_b_some h
  refine x_callV C (n := 0) (c_X9_goesOn hG hc27) kM_0 (by decide) rfl wd_1475 wd_1477 wd_57 wd_111 wd_1478 (by decide +kernel) rfl ⟨Nat.le_of_ble_eq_true rfl, Nat.le_of_ble_eq_true rfl⟩ ⟨rfl, rfl⟩ rfl (Nat.le_of_ble_eq_true rfl) dX9_expression_266 ?_
  refine x_goto C 12 dX9_expression_269 rfl ?_
  exact x_sub [0, 1, 2] rfl (hk12 x1 x2 σ27 h)
set_option maxHeartbeats 4000000 in
set_option maxRecDepth 100000 in
theorem w_X9_expression_229 {τ : x_Hp} (C : x_C p s m args meth c cX9_expression 3 none yX9_expression.cls TM G) {k12 : Int32 → Int32 → x_Hp → Option (Unit × x_Hp)} (hk12 : ∀ (x1 : Int32) (x2 : Int32) (σ : x_Hp) (h : k12 x1 x2 σ = some ((), τ)), x_W p l e rm_X9_expression s m args below meth c (MQ below (x_Q TM G none τ) args s 0 0 (x_A TM G)) TM G 3 12 [(0, .ref (x_ad G 0)), (1, .int x1), (2, .int x2)] [] σ) (x1 : Int32) (x2 : Int32) (σ : x_Hp) (h : F_X9_expression_229 k12 x1 x2 σ = some ((), τ)) : x_W p l e rm_X9_expression s m args below meth c (MQ below (x_Q TM G none τ) args s 0 0 (x_A TM G)) TM G 3 229 [(0, .ref (x_ad G 0)), (1, .int x1), (2, .int x2)] [.ref (x_ad G 0)] σ := by
  have hG : x_OK TM G := C.2.2.2.2.2.2.2.2.1
  rw [F_X9_expression_229] at h
  refine x_iconst C (1 : Int32) dX9_expression_229 (by decide) ?_
  refine x_goto C 234 dX9_expression_230 rfl ?_
  exact x_sub [0, 1, 2] rfl (w_X9_expression_234 C hk12 x1 x2 (1 : Int32) σ h)
set_option maxHeartbeats 4000000 in
set_option maxRecDepth 100000 in
theorem w_X9_expression_204 {τ : x_Hp} (C : x_C p s m args meth c cX9_expression 3 none yX9_expression.cls TM G) (σ : x_Hp) (h : F_X9_expression_204 σ = some ((), τ)) : x_W p l e rm_X9_expression s m args below meth c (MQ below (x_Q TM G none τ) args s 0 0 (x_A TM G)) TM G 3 204 [(0, .ref (x_ad G 0))] [] σ := by
  have hG : x_OK TM G := C.2.2.2.2.2.2.2.2.1
  rw [F_X9_expression_204] at h
  refine x_aload_n C 0 dX9_expression_204 rfl rfl ?_
  refine x_iconst C (0 : Int32) dX9_expression_205 (by decide) ?_
  obtain ⟨v28, σ28, hc28, h⟩ := x_b_some h
  refine x_callV C (n := 1) (c_X9_comesOut hG hc28) kM_0 (by decide) rfl wd_1515 wd_1517 wd_67 wd_111 wd_1518 (by decide +kernel) rfl ⟨Nat.le_of_ble_eq_true rfl, Nat.le_of_ble_eq_true rfl⟩ ⟨rfl, rfl⟩ rfl (Nat.le_of_ble_eq_true rfl) dX9_expression_206 ?_
  obtain ⟨-, rfl⟩ := x_ret h
  exact x_vret C dX9_expression_209
set_option maxHeartbeats 4000000 in
set_option maxRecDepth 100000 in
theorem w_X9_expression_186 {τ : x_Hp} (C : x_C p s m args meth c cX9_expression 3 none yX9_expression.cls TM G) {k12 : Int32 → Int32 → x_Hp → Option (Unit × x_Hp)} (hk12 : ∀ (x1 : Int32) (x2 : Int32) (σ : x_Hp) (h : k12 x1 x2 σ = some ((), τ)), x_W p l e rm_X9_expression s m args below meth c (MQ below (x_Q TM G none τ) args s 0 0 (x_A TM G)) TM G 3 12 [(0, .ref (x_ad G 0)), (1, .int x1), (2, .int x2)] [] σ) (x1 : Int32) (s0 : Int32) (σ : x_Hp) (h : F_X9_expression_186 k12 x1 s0 σ = some ((), τ)) : x_W p l e rm_X9_expression s m args below meth c (MQ below (x_Q TM G none τ) args s 0 0 (x_A TM G)) TM G 3 186 [(0, .ref (x_ad G 0)), (1, .int x1)] [.int s0] σ := by
  have hG : x_OK TM G := C.2.2.2.2.2.2.2.2.1
  rw [F_X9_expression_186] at h
  refine x_istore_n C [(2, .int s0), (0, .ref (x_ad G 0)), (1, .int x1)] dX9_expression_186 rfl (by decide) rfl ?_
  refine x_iload_n C 0 dX9_expression_187 rfl rfl ?_
  refine x_if_ne C 210 dX9_expression_188 rfl (fun hc => ?_) (fun hc => ?_)
  · replace h := x_itn hc h
    refine x_aload_n C 1 dX9_expression_210 rfl rfl ?_
    refine x_aload_n C 1 dX9_expression_211 rfl rfl ?_
    refine x_bipush C (10 : Int32) dX9_expression_212 (by decide) ?_
    obtain ⟨v19, σ19, hc19, h⟩ := x_b_some h
    refine x_callV C (n := 1) (c_X9_is hG hc19) kM_0 (by decide) rfl wd_1467 wd_1469 wd_55 wd_111 wd_1470 (by decide +kernel) rfl ⟨Nat.le_of_ble_eq_true rfl, Nat.le_of_ble_eq_true rfl⟩ ⟨rfl, rfl⟩ rfl (Nat.le_of_ble_eq_true rfl) dX9_expression_214 ?_
    refine x_if_ne C 229 dX9_expression_217 rfl (fun hc => ?_) (fun hc => ?_)
    · replace h := x_itn hc h
      exact x_sub [1, 2, 0] rfl (w_X9_expression_229 C hk12 x1 s0 σ19 h)
    · replace h := x_itp hc h
      refine x_aload_n C 1 dX9_expression_220 rfl rfl ?_
      refine x_bipush C (15 : Int32) dX9_expression_221 (by decide) ?_
      obtain ⟨v20, σ20, hc20, h⟩ := x_b_some h
      refine x_callV C (n := 1) (c_X9_is hG hc20) kM_0 (by decide) rfl wd_1467 wd_1469 wd_55 wd_111 wd_1470 (by decide +kernel) rfl ⟨Nat.le_of_ble_eq_true rfl, Nat.le_of_ble_eq_true rfl⟩ ⟨rfl, rfl⟩ rfl (Nat.le_of_ble_eq_true rfl) dX9_expression_223 ?_
      refine x_if_eq C 233 dX9_expression_226 rfl (fun hc => ?_) (fun hc => ?_)
      · replace h := x_itp hc h
        refine x_iconst C (0 : Int32) dX9_expression_233 (by decide) ?_
        exact x_sub [1, 2, 0] rfl (w_X9_expression_234 C hk12 x1 s0 (0 : Int32) σ20 h)
      · replace h := x_itn hc h
        exact x_sub [1, 2, 0] rfl (w_X9_expression_229 C hk12 x1 s0 σ20 h)
  · replace h := x_itp hc h
    refine x_aload_n C 1 dX9_expression_191 rfl rfl ?_
    refine x_getI C (k := 12) kM_0 (by decide) rfl x_in9 (by decide) (by decide) rfl rfl wd_1220 dX9_expression_192 ?_
    refine x_iload_n C 2 dX9_expression_195 rfl rfl ?_
    refine x_icmp_le C 204 dX9_expression_196 rfl (fun hc => ?_) (fun hc => ?_)
    · replace h := x_itp hc h
      exact x_sub [1] rfl (w_X9_expression_204 C σ h)
    · replace h := x_itn hc h
      refine x_aload_n C 1 dX9_expression_199 rfl rfl ?_
      refine x_iconst C (1 : Int32) dX9_expression_200 (by decide) ?_
      obtain ⟨v21, σ21, hc21, h⟩ := x_b_some h
      refine x_callV C (n := 1) (c_X9_fail hG hc21) kM_0 (by decide) rfl wd_1479 wd_1481 wd_58 wd_111 wd_1482 (by decide +kernel) rfl ⟨Nat.le_of_ble_eq_true rfl, Nat.le_of_ble_eq_true rfl⟩ ⟨rfl, rfl⟩ rfl (Nat.le_of_ble_eq_true rfl) dX9_expression_201 ?_
      exact x_sub [1] rfl (w_X9_expression_204 C σ21 h)
set_option maxHeartbeats 4000000 in
set_option maxRecDepth 100000 in
theorem w_X9_expression_181 {τ : x_Hp} (C : x_C p s m args meth c cX9_expression 3 none yX9_expression.cls TM G) {k12 : Int32 → Int32 → x_Hp → Option (Unit × x_Hp)} (hk12 : ∀ (x1 : Int32) (x2 : Int32) (σ : x_Hp) (h : k12 x1 x2 σ = some ((), τ)), x_W p l e rm_X9_expression s m args below meth c (MQ below (x_Q TM G none τ) args s 0 0 (x_A TM G)) TM G 3 12 [(0, .ref (x_ad G 0)), (1, .int x1), (2, .int x2)] [] σ) (x1 : Int32) (σ : x_Hp) (h : F_X9_expression_181 k12 x1 σ = some ((), τ)) : x_W p l e rm_X9_expression s m args below meth c (MQ below (x_Q TM G none τ) args s 0 0 (x_A TM G)) TM G 3 181 [(0, .ref (x_ad G 0)), (1, .int x1)] [] σ := by
  have hG : x_OK TM G := C.2.2.2.2.2.2.2.2.1
  rw [F_X9_expression_181] at h
  refine x_iconst C (1 : Int32) dX9_expression_181 (by decide) ?_
  refine x_goto C 186 dX9_expression_182 rfl ?_
  exact x_sub [0, 1] rfl (w_X9_expression_186 C hk12 x1 (1 : Int32) σ h)
set_option maxHeartbeats 4000000 in
set_option maxRecDepth 100000 in
theorem w_X9_expression_145 {τ : x_Hp} (C : x_C p s m args meth c cX9_expression 3 none yX9_expression.cls TM G) {k12 : Int32 → Int32 → x_Hp → Option (Unit × x_Hp)} (hk12 : ∀ (x1 : Int32) (x2 : Int32) (σ : x_Hp) (h : k12 x1 x2 σ = some ((), τ)), x_W p l e rm_X9_expression s m args below meth c (MQ below (x_Q TM G none τ) args s 0 0 (x_A TM G)) TM G 3 12 [(0, .ref (x_ad G 0)), (1, .int x1), (2, .int x2)] [] σ) (x1 : Int32) (σ : x_Hp) (h : F_X9_expression_145 k12 x1 σ = some ((), τ)) : x_W p l e rm_X9_expression s m args below meth c (MQ below (x_Q TM G none τ) args s 0 0 (x_A TM G)) TM G 3 145 [(0, .ref (x_ad G 0)), (1, .int x1)] [] σ := by
  have hG : x_OK TM G := C.2.2.2.2.2.2.2.2.1
  rw [F_X9_expression_145] at h
  refine x_aload_n C 0 dX9_expression_145 rfl rfl ?_
  refine x_bipush C (8 : Int32) dX9_expression_146 (by decide) ?_
  obtain ⟨v15, σ15, hc15, h⟩ := x_b_some h
  refine x_callV C (n := 1) (c_X9_is hG hc15) kM_0 (by decide) rfl wd_1467 wd_1469 wd_55 wd_111 wd_1470 (by decide +kernel) rfl ⟨Nat.le_of_ble_eq_true rfl, Nat.le_of_ble_eq_true rfl⟩ ⟨rfl, rfl⟩ rfl (Nat.le_of_ble_eq_true rfl) dX9_expression_148 ?_
  refine x_if_ne C 181 dX9_expression_151 rfl (fun hc => ?_) (fun hc => ?_)
  · replace h := x_itn hc h
    exact x_sub [0, 1] rfl (w_X9_expression_181 C hk12 x1 σ15 h)
  · replace h := x_itp hc h
    refine x_aload_n C 0 dX9_expression_154 rfl rfl ?_
    refine x_bipush C (9 : Int32) dX9_expression_155 (by decide) ?_
    obtain ⟨v16, σ16, hc16, h⟩ := x_b_some h
    refine x_callV C (n := 1) (c_X9_is hG hc16) kM_0 (by decide) rfl wd_1467 wd_1469 wd_55 wd_111 wd_1470 (by decide +kernel) rfl ⟨Nat.le_of_ble_eq_true rfl, Nat.le_of_ble_eq_true rfl⟩ ⟨rfl, rfl⟩ rfl (Nat.le_of_ble_eq_true rfl) dX9_expression_157 ?_
    refine x_if_ne C 181 dX9_expression_160 rfl (fun hc => ?_) (fun hc => ?_)
    · replace h := x_itn hc h
      exact x_sub [0, 1] rfl (w_X9_expression_181 C hk12 x1 σ16 h)
    · replace h := x_itp hc h
      refine x_aload_n C 0 dX9_expression_163 rfl rfl ?_
      refine x_bipush C (10 : Int32) dX9_expression_164 (by decide) ?_
      obtain ⟨v17, σ17, hc17, h⟩ := x_b_some h
      refine x_callV C (n := 1) (c_X9_is hG hc17) kM_0 (by decide) rfl wd_1467 wd_1469 wd_55 wd_111 wd_1470 (by decide +kernel) rfl ⟨Nat.le_of_ble_eq_true rfl, Nat.le_of_ble_eq_true rfl⟩ ⟨rfl, rfl⟩ rfl (Nat.le_of_ble_eq_true rfl) dX9_expression_166 ?_
      refine x_if_ne C 181 dX9_expression_169 rfl (fun hc => ?_) (fun hc => ?_)
      · replace h := x_itn hc h
        exact x_sub [0, 1] rfl (w_X9_expression_181 C hk12 x1 σ17 h)
      · replace h := x_itp hc h
        refine x_aload_n C 0 dX9_expression_172 rfl rfl ?_
        refine x_bipush C (15 : Int32) dX9_expression_173 (by decide) ?_
        obtain ⟨v18, σ18, hc18, h⟩ := x_b_some h
        refine x_callV C (n := 1) (c_X9_is hG hc18) kM_0 (by decide) rfl wd_1467 wd_1469 wd_55 wd_111 wd_1470 (by decide +kernel) rfl ⟨Nat.le_of_ble_eq_true rfl, Nat.le_of_ble_eq_true rfl⟩ ⟨rfl, rfl⟩ rfl (Nat.le_of_ble_eq_true rfl) dX9_expression_175 ?_
        refine x_if_eq C 185 dX9_expression_178 rfl (fun hc => ?_) (fun hc => ?_)
        · replace h := x_itp hc h
          refine x_iconst C (0 : Int32) dX9_expression_185 (by decide) ?_
          exact x_sub [0, 1] rfl (w_X9_expression_186 C hk12 x1 (0 : Int32) σ18 h)
        · replace h := x_itn hc h
          exact x_sub [0, 1] rfl (w_X9_expression_181 C hk12 x1 σ18 h)
set_option maxHeartbeats 4000000 in
set_option maxRecDepth 100000 in
theorem w_X9_expression_96 {τ : x_Hp} (C : x_C p s m args meth c cX9_expression 3 none yX9_expression.cls TM G) {k12 : Int32 → Int32 → x_Hp → Option (Unit × x_Hp)} (hk12 : ∀ (x1 : Int32) (x2 : Int32) (σ : x_Hp) (h : k12 x1 x2 σ = some ((), τ)), x_W p l e rm_X9_expression s m args below meth c (MQ below (x_Q TM G none τ) args s 0 0 (x_A TM G)) TM G 3 12 [(0, .ref (x_ad G 0)), (1, .int x1), (2, .int x2)] [] σ) : ∀ (n : Nat) (x1 : Int32) (σ : x_Hp) (h : F_X9_expression_96 k12 n x1 σ = some ((), τ)), x_W p l e rm_X9_expression s m args below meth c (MQ below (x_Q TM G none τ) args s 0 0 (x_A TM G)) TM G 3 96 [(0, .ref (x_ad G 0)), (1, .int x1)] [] σ := by
  intro n
  induction n with
  | zero => intro x1 σ  h; cases h
  | succ n ih =>
    intro x1 σ  h
    have hG : x_OK TM G := C.2.2.2.2.2.2.2.2.1
    rw [F_X9_expression_96] at h
    refine x_aload_n C 0 dX9_expression_96 rfl rfl ?_
    refine x_bipush C (7 : Int32) dX9_expression_97 (by decide) ?_
    obtain ⟨v5, σ5, hc5, h⟩ := x_b_some h
    refine x_callV C (n := 1) (c_X9_is hG hc5) kM_0 (by decide) rfl wd_1467 wd_1469 wd_55 wd_111 wd_1470 (by decide +kernel) rfl ⟨Nat.le_of_ble_eq_true rfl, Nat.le_of_ble_eq_true rfl⟩ ⟨rfl, rfl⟩ rfl (Nat.le_of_ble_eq_true rfl) dX9_expression_99 ?_
    refine x_if_eq C 145 dX9_expression_102 rfl (fun hc => ?_) (fun hc => ?_)
    · replace h := x_itp hc h
      exact x_sub [0, 1] rfl (w_X9_expression_145 C hk12 x1 σ5 h)
    · replace h := x_itn hc h
      refine x_aload_n C 0 dX9_expression_105 rfl rfl ?_
      refine x_getI C (k := 12) kM_0 (by decide) rfl x_in9 (by decide) (by decide) rfl rfl wd_1220 dX9_expression_106 ?_
      refine x_iload_n C 1 dX9_expression_109 rfl rfl ?_
      refine x_icmp_le C 145 dX9_expression_110 rfl (fun hc => ?_) (fun hc => ?_)
      · replace h := x_itp hc h
        exact x_sub [0, 1] rfl (w_X9_expression_145 C hk12 x1 σ5 h)
      · replace h := x_itn hc h
        refine x_aload_n C 0 dX9_expression_113 rfl rfl ?_
        refine x_iconst C (0 : Int32) dX9_expression_114 (by decide) ?_
        obtain ⟨v6, σ6, hc6, h⟩ := x_b_some h
        refine x_callV C (n := 1) (c_X9_comesOut hG hc6) kM_0 (by decide) rfl wd_1515 wd_1517 wd_67 wd_111 wd_1518 (by decide +kernel) rfl ⟨Nat.le_of_ble_eq_true rfl, Nat.le_of_ble_eq_true rfl⟩ ⟨rfl, rfl⟩ rfl (Nat.le_of_ble_eq_true rfl) dX9_expression_115 ?_
        refine x_aload_n C 0 dX9_expression_118 rfl rfl ?_
        refine x_dup C dX9_expression_119 rfl ?_
        refine x_getI C (k := 44) kM_0 (by decide) rfl x_in9 (by decide) (by decide) rfl rfl wd_1252 dX9_expression_120 ?_
        refine x_iconst C (1 : Int32) dX9_expression_123 (by decide) ?_
        refine x_isub C dX9_expression_124 ?_
        refine x_putI C (k := 44) tyX9 kM_0 (by decide) rfl x_in9 tyX9_ok nmX9 (by decide) (by decide) rfl rfl wd_1252 rfl (tyX9_ok 44 (by decide)) rfl rfl dX9_expression_125 (x_gen h fun σ7 h => ?_)
        refine x_aload_n C 0 dX9_expression_128 rfl rfl ?_
        refine x_dup C dX9_expression_129 rfl ?_
        refine x_getI C (k := 12) kM_0 (by decide) rfl x_in9 (by decide) (by decide) rfl rfl wd_1220 dX9_expression_130 ?_
        refine x_iconst C (1 : Int32) dX9_expression_133 (by decide) ?_
        refine x_isub C dX9_expression_134 ?_
        refine x_putI C (k := 12) tyX9 kM_0 (by decide) rfl x_in9 tyX9_ok nmX9 (by decide) (by decide) rfl rfl wd_1220 rfl (tyX9_ok 12 (by decide)) rfl rfl dX9_expression_135 (x_gen h fun σ8 h => ?_)
        refine x_aload_n C 0 dX9_expression_138 rfl rfl ?_
        obtain ⟨v9, σ9, hc9, h⟩ := x_b_some h
        refine x_callV C (n := 0) (c_X9_goesOn hG hc9) kM_0 (by decide) rfl wd_1475 wd_1477 wd_57 wd_111 wd_1478 (by decide +kernel) rfl ⟨Nat.le_of_ble_eq_true rfl, Nat.le_of_ble_eq_true rfl⟩ ⟨rfl, rfl⟩ rfl (Nat.le_of_ble_eq_true rfl) dX9_expression_139 ?_
        refine x_goto C 96 dX9_expression_142 rfl ?_
        exact x_sub [0, 1] rfl (ih x1 σ9 h)
set_option maxHeartbeats 4000000 in
set_option maxRecDepth 100000 in
theorem w_X9_expression_46 {τ : x_Hp} (C : x_C p s m args meth c cX9_expression 3 none yX9_expression.cls TM G) {k12 : Int32 → Int32 → x_Hp → Option (Unit × x_Hp)} (hk12 : ∀ (x1 : Int32) (x2 : Int32) (σ : x_Hp) (h : k12 x1 x2 σ = some ((), τ)), x_W p l e rm_X9_expression s m args below meth c (MQ below (x_Q TM G none τ) args s 0 0 (x_A TM G)) TM G 3 12 [(0, .ref (x_ad G 0)), (1, .int x1), (2, .int x2)] [] σ) {k23 : Int32 → x_Hp → Option (Unit × x_Hp)} (hk23 : ∀ (x1 : Int32) (σ : x_Hp) (h : k23 x1 σ = some ((), τ)), x_W p l e rm_X9_expression s m args below meth c (MQ below (x_Q TM G none τ) args s 0 0 (x_A TM G)) TM G 3 23 [(0, .ref (x_ad G 0)), (1, .int x1)] [] σ) (x1 : Int32) (σ : x_Hp) (h : F_X9_expression_46 k12 k23 x1 σ = some ((), τ)) : x_W p l e rm_X9_expression s m args below meth c (MQ below (x_Q TM G none τ) args s 0 0 (x_A TM G)) TM G 3 46 [(0, .ref (x_ad G 0)), (1, .int x1)] [] σ := by
  have hG : x_OK TM G := C.2.2.2.2.2.2.2.2.1
  rw [F_X9_expression_46] at h
  refine x_aload_n C 0 dX9_expression_46 rfl rfl ?_
  refine x_dup C dX9_expression_47 rfl ?_
  refine x_getI C (k := 12) kM_0 (by decide) rfl x_in9 (by decide) (by decide) rfl rfl wd_1220 dX9_expression_48 ?_
  refine x_iconst C (1 : Int32) dX9_expression_51 (by decide) ?_
  refine x_iadd C dX9_expression_52 ?_
  refine x_putI C (k := 12) tyX9 kM_0 (by decide) rfl x_in9 tyX9_ok nmX9 (by decide) (by decide) rfl rfl wd_1220 rfl (tyX9_ok 12 (by decide)) rfl rfl dX9_expression_53 (x_gen h fun σ10 h => ?_)
  refine x_aload_n C 0 dX9_expression_56 rfl rfl ?_
  obtain ⟨v11, σ11, hc11, h⟩ := x_b_some h
  refine x_callV C (n := 0) (c_X9_goesOn hG hc11) kM_0 (by decide) rfl wd_1475 wd_1477 wd_57 wd_111 wd_1478 (by decide +kernel) rfl ⟨Nat.le_of_ble_eq_true rfl, Nat.le_of_ble_eq_true rfl⟩ ⟨rfl, rfl⟩ rfl (Nat.le_of_ble_eq_true rfl) dX9_expression_57 ?_
  refine x_aload_n C 0 dX9_expression_60 rfl rfl ?_
  refine x_getRq C (k := 43) kM_0 (by decide) rfl x_in9 (by decide) (by decide) rfl rfl wd_1251 rfM_0_43 dX9_expression_61 ?_
  refine x_aload_n C 0 dX9_expression_64 rfl rfl ?_
  refine x_getI C (k := 44) kM_0 (by decide) rfl x_in9 (by decide) (by decide) rfl rfl wd_1252 dX9_expression_65 ?_
  refine x_bipush C (6 : Int32) dX9_expression_68 (by decide) ?_
  obtain ⟨hi12, h⟩ := x_gd_some h
  refine x_iast C kM_28 (x_inl lnM_28 hi12) dX9_expression_70 (x_gen h fun σ13 h => ?_)
  refine x_aload_n C 0 dX9_expression_71 rfl rfl ?_
  refine x_dup C dX9_expression_72 rfl ?_
  refine x_getI C (k := 44) kM_0 (by decide) rfl x_in9 (by decide) (by decide) rfl rfl wd_1252 dX9_expression_73 ?_
  refine x_iconst C (1 : Int32) dX9_expression_76 (by decide) ?_
  refine x_iadd C dX9_expression_77 ?_
  refine x_putI C (k := 44) tyX9 kM_0 (by decide) rfl x_in9 tyX9_ok nmX9 (by decide) (by decide) rfl rfl wd_1252 rfl (tyX9_ok 44 (by decide)) rfl rfl dX9_expression_78 (x_gen h fun σ14 h => ?_)
  refine x_goto C 23 dX9_expression_81 rfl ?_
  exact x_sub [0, 1] rfl (hk23 x1 σ14 h)
set_option maxHeartbeats 4000000 in
set_option maxRecDepth 100000 in
theorem w_X9_expression_23 {τ : x_Hp} (C : x_C p s m args meth c cX9_expression 3 none yX9_expression.cls TM G) {k12 : Int32 → Int32 → x_Hp → Option (Unit × x_Hp)} (hk12 : ∀ (x1 : Int32) (x2 : Int32) (σ : x_Hp) (h : k12 x1 x2 σ = some ((), τ)), x_W p l e rm_X9_expression s m args below meth c (MQ below (x_Q TM G none τ) args s 0 0 (x_A TM G)) TM G 3 12 [(0, .ref (x_ad G 0)), (1, .int x1), (2, .int x2)] [] σ) : ∀ (n : Nat) (x1 : Int32) (σ : x_Hp) (h : F_X9_expression_23 k12 n x1 σ = some ((), τ)), x_W p l e rm_X9_expression s m args below meth c (MQ below (x_Q TM G none τ) args s 0 0 (x_A TM G)) TM G 3 23 [(0, .ref (x_ad G 0)), (1, .int x1)] [] σ := by
  intro n
  induction n with
  | zero => intro x1 σ  h; cases h
  | succ n ih =>
    intro x1 σ  h
    have hG : x_OK TM G := C.2.2.2.2.2.2.2.2.1
    rw [F_X9_expression_23] at h
    refine x_aload_n C 0 dX9_expression_23 rfl rfl ?_
    refine x_bipush C (6 : Int32) dX9_expression_24 (by decide) ?_
    obtain ⟨v2, σ2, hc2, h⟩ := x_b_some h
    refine x_callV C (n := 1) (c_X9_is hG hc2) kM_0 (by decide) rfl wd_1467 wd_1469 wd_55 wd_111 wd_1470 (by decide +kernel) rfl ⟨Nat.le_of_ble_eq_true rfl, Nat.le_of_ble_eq_true rfl⟩ ⟨rfl, rfl⟩ rfl (Nat.le_of_ble_eq_true rfl) dX9_expression_26 ?_
    refine x_if_eq C 84 dX9_expression_29 rfl (fun hc => ?_) (fun hc => ?_)
    · replace h := x_itp hc h
      refine x_aload_n C 0 dX9_expression_84 rfl rfl ?_
      obtain ⟨v3, σ3, hc3, h⟩ := x_b_some h
      refine x_callV C (n := 0) (c_X9_unit hG hc3) kM_0 (by decide) rfl wd_1507 wd_1509 wd_65 wd_111 wd_1510 (by decide +kernel) rfl ⟨Nat.le_of_ble_eq_true rfl, Nat.le_of_ble_eq_true rfl⟩ ⟨rfl, rfl⟩ rfl (Nat.le_of_ble_eq_true rfl) dX9_expression_85 ?_
      refine x_aload_n C 0 dX9_expression_88 rfl rfl ?_
      refine x_getI C (k := 13) kM_0 (by decide) rfl x_in9 (by decide) (by decide) rfl rfl wd_1221 dX9_expression_89 ?_
      refine x_if_le C 96 dX9_expression_92 rfl (fun hc => ?_) (fun hc => ?_)
      · replace h := x_itp hc h
        exact x_sub [0, 1] rfl (w_X9_expression_96 C hk12 x_fuel x1 σ3 h)
      · replace h := x_itn hc h
        obtain ⟨-, rfl⟩ := x_ret h
        exact x_vret C dX9_expression_95
    · replace h := x_itn hc h
      refine x_aload_n C 0 dX9_expression_32 rfl rfl ?_
      refine x_getI C (k := 12) kM_0 (by decide) rfl x_in9 (by decide) (by decide) rfl rfl wd_1220 dX9_expression_33 ?_
      refine x_bipush C (6 : Int32) dX9_expression_36 (by decide) ?_
      refine x_icmp_ne C 46 dX9_expression_38 rfl (fun hc => ?_) (fun hc => ?_)
      · replace h := x_itn hc h
        exact x_sub [0, 1] rfl (w_X9_expression_46 C hk12 ih x1 σ2 h)
      · replace h := x_itp hc h
        refine x_aload_n C 0 dX9_expression_41 rfl rfl ?_
        refine x_iconst C (2 : Int32) dX9_expression_42 (by decide) ?_
        obtain ⟨v4, σ4, hc4, h⟩ := x_b_some h
        refine x_callV C (n := 1) (c_X9_fail hG hc4) kM_0 (by decide) rfl wd_1479 wd_1481 wd_58 wd_111 wd_1482 (by decide +kernel) rfl ⟨Nat.le_of_ble_eq_true rfl, Nat.le_of_ble_eq_true rfl⟩ ⟨rfl, rfl⟩ rfl (Nat.le_of_ble_eq_true rfl) dX9_expression_43 ?_
        exact x_sub [0, 1] rfl (w_X9_expression_46 C hk12 ih x1 σ4 h)
set_option maxHeartbeats 4000000 in
set_option maxRecDepth 100000 in
theorem w_X9_expression_12 {τ : x_Hp} (C : x_C p s m args meth c cX9_expression 3 none yX9_expression.cls TM G) : ∀ (n : Nat) (x1 : Int32) (x2 : Int32) (σ : x_Hp) (h : F_X9_expression_12 n x1 x2 σ = some ((), τ)), x_W p l e rm_X9_expression s m args below meth c (MQ below (x_Q TM G none τ) args s 0 0 (x_A TM G)) TM G 3 12 [(0, .ref (x_ad G 0)), (1, .int x1), (2, .int x2)] [] σ := by
  intro n
  induction n with
  | zero => intro x1 x2 σ  h; cases h
  | succ n ih =>
    intro x1 x2 σ  h
    have hG : x_OK TM G := C.2.2.2.2.2.2.2.2.1
    rw [F_X9_expression_12] at h
    refine x_iload_n C 2 dX9_expression_12 rfl rfl ?_
    refine x_if_eq C 272 dX9_expression_13 rfl (fun hc => ?_) (fun hc => ?_)
    · replace h := x_itp hc h
      obtain ⟨-, rfl⟩ := x_ret h
      exact x_vret C dX9_expression_272
    · replace h := x_itn hc h
      refine x_aload_n C 0 dX9_expression_16 rfl rfl ?_
      refine x_getI C (k := 13) kM_0 (by decide) rfl x_in9 (by decide) (by decide) rfl rfl wd_1221 dX9_expression_17 ?_
      refine x_if_ne C 272 dX9_expression_20 rfl (fun hc => ?_) (fun hc => ?_)
      · replace h := x_itn hc h
        obtain ⟨-, rfl⟩ := x_ret h
        exact x_vret C dX9_expression_272
      · replace h := x_itp hc h
        exact x_sub [0, 1] rfl (w_X9_expression_23 C ih x_fuel x1 σ h)
set_option maxHeartbeats 4000000 in
set_option maxRecDepth 100000 in
theorem c_X9_expression (hG : x_OK TM G) {σ τ : x_Hp} (h : F_X9_expression σ = some ((), τ)) : x_M l TM G yX9_expression cX9_expression 3 none rm_X9_expression [.ref (x_ad G 0)] σ none τ := by
  refine x_M.of hG (lv := [(0, .ref (x_ad G 0))]) (by decide) (Nat.le_of_ble_eq_true rfl) rfl (fun p e s m below meth c C => ?_)
  rw [F_X9_expression] at h
  refine x_aload_n C 0 dX9_expression_0 rfl rfl ?_
  refine x_iconst C (0 : Int32) dX9_expression_1 (by decide) ?_
  refine x_putI C (k := 44) tyX9 kM_0 (by decide) rfl x_in9 tyX9_ok nmX9 (by decide) (by decide) rfl rfl wd_1252 rfl (tyX9_ok 44 (by decide)) rfl rfl dX9_expression_2 (x_gen h fun σ1 h => ?_)
  refine x_aload_n C 0 dX9_expression_5 rfl rfl ?_
  refine x_getI C (k := 12) kM_0 (by decide) rfl x_in9 (by decide) (by decide) rfl rfl wd_1220 dX9_expression_6 ?_
  refine x_istore_n C [(1, .int (σ1.1 0 12)), (0, .ref (x_ad G 0))] dX9_expression_9 rfl (by decide) rfl ?_
  refine x_iconst C (1 : Int32) dX9_expression_10 (by decide) ?_
  refine x_istore_n C [(2, .int (1 : Int32)), (1, .int (σ1.1 0 12)), (0, .ref (x_ad G 0))] dX9_expression_11 rfl (by decide) rfl ?_
  exact x_sub [2, 1, 0] rfl (w_X9_expression_12 C x_fuel (σ1.1 0 12) (1 : Int32) σ1 h)
abbrev rm_X9_term : Room := { frames := 4, cells := 0, slots := 0, locals := 83 }
set_option maxHeartbeats 4000000 in
set_option maxRecDepth 100000 in
theorem w_X9_term_24 {τ : x_Hp} (C : x_C p s m args meth c cX9_term 1 none yX9_term.cls TM G) (σ : x_Hp) (h : F_X9_term_24 σ = some ((), τ)) : x_W p l e rm_X9_term s m args below meth c (MQ below (x_Q TM G none τ) args s 0 0 (x_A TM G)) TM G 1 24 [(0, .ref (x_ad G 0))] [] σ := by
  have hG : x_OK TM G := C.2.2.2.2.2.2.2.2.1
  rw [F_X9_term_24] at h
  refine x_aload_n C 0 dX9_term_24 rfl rfl ?_
  refine x_getRq C (k := 39) kM_0 (by decide) rfl x_in9 (by decide) (by decide) rfl rfl wd_1247 rfM_0_39 dX9_term_25 ?_
  refine x_aload_n C 0 dX9_term_28 rfl rfl ?_
  refine x_getI C (k := 34) kM_0 (by decide) rfl x_in9 (by decide) (by decide) rfl rfl wd_1242 dX9_term_29 ?_
  refine x_aload_n C 0 dX9_term_32 rfl rfl ?_
  refine x_getI C (k := 40) kM_0 (by decide) rfl x_in9 (by decide) (by decide) rfl rfl wd_1248 dX9_term_33 ?_
  obtain ⟨hi4, h⟩ := x_gd_some h
  refine x_iast C kM_25 (x_inl lnM_25 hi4) dX9_term_36 (x_gen h fun σ5 h => ?_)
  refine x_aload_n C 0 dX9_term_37 rfl rfl ?_
  refine x_dup C dX9_term_38 rfl ?_
  refine x_getI C (k := 34) kM_0 (by decide) rfl x_in9 (by decide) (by decide) rfl rfl wd_1242 dX9_term_39 ?_
  refine x_iconst C (1 : Int32) dX9_term_42 (by decide) ?_
  refine x_iadd C dX9_term_43 ?_
  refine x_putI C (k := 34) tyX9 kM_0 (by decide) rfl x_in9 tyX9_ok nmX9 (by decide) (by decide) rfl rfl wd_1242 rfl (tyX9_ok 34 (by decide)) rfl rfl dX9_term_44 (x_gen h fun σ6 h => ?_)
  obtain ⟨-, rfl⟩ := x_ret h
  exact x_vret C dX9_term_47
set_option maxHeartbeats 4000000 in
set_option maxRecDepth 100000 in
theorem c_X9_term (hG : x_OK TM G) {σ τ : x_Hp} (h : F_X9_term σ = some ((), τ)) : x_M l TM G yX9_term cX9_term 1 none rm_X9_term [.ref (x_ad G 0)] σ none τ := by
  refine x_M.of hG (lv := [(0, .ref (x_ad G 0))]) (by decide) (Nat.le_of_ble_eq_true rfl) rfl (fun p e s m below meth c C => ?_)
  rw [F_X9_term] at h
  refine x_aload_n C 0 dX9_term_0 rfl rfl ?_
  refine x_getRq C (k := 38) kM_0 (by decide) rfl x_in9 (by decide) (by decide) rfl rfl wd_1246 rfM_0_38 dX9_term_1 ?_
  refine x_aload_n C 0 dX9_term_4 rfl rfl ?_
  refine x_getI C (k := 34) kM_0 (by decide) rfl x_in9 (by decide) (by decide) rfl rfl wd_1242 dX9_term_5 ?_
  refine x_aload_n C 0 dX9_term_8 rfl rfl ?_
  refine x_getI C (k := 40) kM_0 (by decide) rfl x_in9 (by decide) (by decide) rfl rfl wd_1248 dX9_term_9 ?_
  obtain ⟨hi1, h⟩ := x_gd_some h
  refine x_iast C kM_24 (x_inl lnM_24 hi1) dX9_term_12 (x_gen h fun σ2 h => ?_)
  refine x_aload_n C 0 dX9_term_13 rfl rfl ?_
  refine x_getI C (k := 13) kM_0 (by decide) rfl x_in9 (by decide) (by decide) rfl rfl wd_1221 dX9_term_14 ?_
  refine x_if_ne C 24 dX9_term_17 rfl (fun hc => ?_) (fun hc => ?_)
  · replace h := x_itn hc h
    exact x_sub [0] rfl (w_X9_term_24 C σ2 h)
  · replace h := x_itp hc h
    refine x_aload_n C 0 dX9_term_20 rfl rfl ?_
    obtain ⟨v3, σ3, hc3, h⟩ := x_b_some h
    refine x_callV C (n := 0) (c_X9_expression hG hc3) kM_0 (by decide) rfl wd_1503 wd_1505 wd_64 wd_111 wd_1506 (by decide +kernel) rfl ⟨Nat.le_of_ble_eq_true rfl, Nat.le_of_ble_eq_true rfl⟩ ⟨rfl, rfl⟩ rfl (Nat.le_of_ble_eq_true rfl) dX9_term_21 ?_
    exact x_sub [0] rfl (w_X9_term_24 C σ3 h)
abbrev rm_X9_tellLaw : Room := { frames := 5, cells := 0, slots := 0, locals := 103 }
set_option maxHeartbeats 4000000 in
set_option maxRecDepth 100000 in
theorem w_X9_tellLaw_129 {τ : x_Hp} (C : x_C p s m args meth c cX9_tellLaw 4 none yX9_tellLaw.cls TM G) (x1 : Int32) (x2 : Int32) (σ : x_Hp) (h : F_X9_tellLaw_129 x1 x2 σ = some ((), τ)) : x_W p l e rm_X9_tellLaw s m args below meth c (MQ below (x_Q TM G none τ) args s 0 0 (x_A TM G)) TM G 4 129 [(0, .ref (x_ad G 0)), (1, .int x1), (2, .int x2)] [] σ := by
  have hG : x_OK TM G := C.2.2.2.2.2.2.2.2.1
  rw [F_X9_tellLaw_129] at h
  refine x_aload_n C 0 dX9_tellLaw_129 rfl rfl ?_
  refine x_getRq C (k := 35) kM_0 (by decide) rfl x_in9 (by decide) (by decide) rfl rfl wd_1243 rfM_0_35 dX9_tellLaw_130 ?_
  refine x_aload_n C 0 dX9_tellLaw_133 rfl rfl ?_
  refine x_getI C (k := 34) kM_0 (by decide) rfl x_in9 (by decide) (by decide) rfl rfl wd_1242 dX9_tellLaw_134 ?_
  refine x_iconst C (0 : Int32) dX9_tellLaw_137 (by decide) ?_
  obtain ⟨hi4, h⟩ := x_gd_some h
  refine x_zast C kM_21 (x_inl lnM_21 hi4) dX9_tellLaw_138 (x_gen h fun σ5 h => ?_)
  refine x_aload_n C 0 dX9_tellLaw_139 rfl rfl ?_
  obtain ⟨v6, σ6, hc6, h⟩ := x_b_some h
  refine x_callV C (n := 0) (c_X9_term hG hc6) kM_0 (by decide) rfl wd_1519 wd_1521 wd_68 wd_111 wd_1522 (by decide +kernel) rfl ⟨Nat.le_of_ble_eq_true rfl, Nat.le_of_ble_eq_true rfl⟩ ⟨rfl, rfl⟩ rfl (Nat.le_of_ble_eq_true rfl) dX9_tellLaw_140 ?_
  refine x_aload_n C 0 dX9_tellLaw_143 rfl rfl ?_
  refine x_iconst C (4 : Int32) dX9_tellLaw_144 (by decide) ?_
  obtain ⟨v7, σ7, hc7, h⟩ := x_b_some h
  refine x_callV C (n := 1) (c_X9_must hG hc7) kM_0 (by decide) rfl wd_1491 wd_1493 wd_61 wd_111 wd_1494 (by decide +kernel) rfl ⟨Nat.le_of_ble_eq_true rfl, Nat.le_of_ble_eq_true rfl⟩ ⟨rfl, rfl⟩ rfl (Nat.le_of_ble_eq_true rfl) dX9_tellLaw_145 ?_
  refine x_aload_n C 0 dX9_tellLaw_148 rfl rfl ?_
  refine x_getI C (k := 13) kM_0 (by decide) rfl x_in9 (by decide) (by decide) rfl rfl wd_1221 dX9_tellLaw_149 ?_
  refine x_if_le C 156 dX9_tellLaw_152 rfl (fun hc => ?_) (fun hc => ?_)
  · replace h := x_itp hc h
    refine x_aload_n C 0 dX9_tellLaw_156 rfl rfl ?_
    refine x_getRq C (k := 32) kM_0 (by decide) rfl x_in9 (by decide) (by decide) rfl rfl wd_1240 rfM_0_32 dX9_tellLaw_157 ?_
    refine x_bipush C (7 : Int32) dX9_tellLaw_160 (by decide) ?_
    refine x_aload_n C 0 dX9_tellLaw_162 rfl rfl ?_
    refine x_getI C (k := 19) kM_0 (by decide) rfl x_in9 (by decide) (by decide) rfl rfl wd_1227 dX9_tellLaw_163 ?_
    refine x_imul C dX9_tellLaw_166 ?_
    refine x_iload_n C 1 dX9_tellLaw_167 rfl rfl ?_
    refine x_iadd C dX9_tellLaw_168 ?_
    refine x_iload_n C 2 dX9_tellLaw_169 rfl rfl ?_
    obtain ⟨hi8, h⟩ := x_gd_some h
    refine x_iast C kM_19 (x_inl lnM_19 hi8) dX9_tellLaw_170 (x_gen h fun σ9 h => ?_)
    refine x_aload_n C 0 dX9_tellLaw_171 rfl rfl ?_
    refine x_getRq C (k := 33) kM_0 (by decide) rfl x_in9 (by decide) (by decide) rfl rfl wd_1241 rfM_0_33 dX9_tellLaw_172 ?_
    refine x_bipush C (7 : Int32) dX9_tellLaw_175 (by decide) ?_
    refine x_aload_n C 0 dX9_tellLaw_177 rfl rfl ?_
    refine x_getI C (k := 19) kM_0 (by decide) rfl x_in9 (by decide) (by decide) rfl rfl wd_1227 dX9_tellLaw_178 ?_
    refine x_imul C dX9_tellLaw_181 ?_
    refine x_iload_n C 1 dX9_tellLaw_182 rfl rfl ?_
    refine x_iadd C dX9_tellLaw_183 ?_
    refine x_aload_n C 0 dX9_tellLaw_184 rfl rfl ?_
    refine x_getI C (k := 34) kM_0 (by decide) rfl x_in9 (by decide) (by decide) rfl rfl wd_1242 dX9_tellLaw_185 ?_
    obtain ⟨hi10, h⟩ := x_gd_some h
    refine x_iast C kM_20 (x_inl lnM_20 hi10) dX9_tellLaw_188 (x_gen h fun σ11 h => ?_)
    obtain ⟨-, rfl⟩ := x_ret h
    exact x_vret C dX9_tellLaw_189
  · replace h := x_itn hc h
    obtain ⟨-, rfl⟩ := x_ret h
    exact x_vret C dX9_tellLaw_155
set_option maxHeartbeats 4000000 in
set_option maxRecDepth 100000 in
theorem w_X9_tellLaw_110 {τ : x_Hp} (C : x_C p s m args meth c cX9_tellLaw 4 none yX9_tellLaw.cls TM G) {k12 : Int32 → Int32 → Int32 → x_Hp → Option (Unit × x_Hp)} (hk12 : ∀ (x1 : Int32) (x2 : Int32) (x3 : Int32) (σ : x_Hp) (h : k12 x1 x2 x3 σ = some ((), τ)), x_W p l e rm_X9_tellLaw s m args below meth c (MQ below (x_Q TM G none τ) args s 0 0 (x_A TM G)) TM G 4 12 [(0, .ref (x_ad G 0)), (1, .int x1), (2, .int x2), (3, .int x3)] [] σ) (x1 : Int32) (x2 : Int32) (x3 : Int32) (σ : x_Hp) (h : F_X9_tellLaw_110 k12 x1 x2 x3 σ = some ((), τ)) : x_W p l e rm_X9_tellLaw s m args below meth c (MQ below (x_Q TM G none τ) args s 0 0 (x_A TM G)) TM G 4 110 [(0, .ref (x_ad G 0)), (1, .int x1), (2, .int x2), (3, .int x3)] [] σ := by
  have hG : x_OK TM G := C.2.2.2.2.2.2.2.2.1
  rw [F_X9_tellLaw_110] at h
  refine x_aload_n C 0 dX9_tellLaw_110 rfl rfl ?_
  refine x_bipush C (34 : Int32) dX9_tellLaw_111 (by decide) ?_
  obtain ⟨v22, σ22, hc22, h⟩ := x_b_some h
  refine x_callV C (n := 1) (c_X9_must hG hc22) kM_0 (by decide) rfl wd_1491 wd_1493 wd_61 wd_111 wd_1494 (by decide +kernel) rfl ⟨Nat.le_of_ble_eq_true rfl, Nat.le_of_ble_eq_true rfl⟩ ⟨rfl, rfl⟩ rfl (Nat.le_of_ble_eq_true rfl) dX9_tellLaw_113 ?_
  refine x_aload_n C 0 dX9_tellLaw_116 rfl rfl ?_
  obtain ⟨v23, σ23, hc23, h⟩ := x_b_some h
  refine x_callV C (n := 0) (c_X9_term hG hc23) kM_0 (by decide) rfl wd_1519 wd_1521 wd_68 wd_111 wd_1522 (by decide +kernel) rfl ⟨Nat.le_of_ble_eq_true rfl, Nat.le_of_ble_eq_true rfl⟩ ⟨rfl, rfl⟩ rfl (Nat.le_of_ble_eq_true rfl) dX9_tellLaw_117 ?_
  refine x_aload_n C 0 dX9_tellLaw_120 rfl rfl ?_
  refine x_bipush C (35 : Int32) dX9_tellLaw_121 (by decide) ?_
  obtain ⟨v24, σ24, hc24, h⟩ := x_b_some h
  refine x_callV C (n := 1) (c_X9_must hG hc24) kM_0 (by decide) rfl wd_1491 wd_1493 wd_61 wd_111 wd_1494 (by decide +kernel) rfl ⟨Nat.le_of_ble_eq_true rfl, Nat.le_of_ble_eq_true rfl⟩ ⟨rfl, rfl⟩ rfl (Nat.le_of_ble_eq_true rfl) dX9_tellLaw_123 ?_
  refine x_goto C 12 dX9_tellLaw_126 rfl ?_
  exact x_sub [0, 1, 2, 3] rfl (hk12 x1 x2 x3 σ24 h)
set_option maxHeartbeats 4000000 in
set_option maxRecDepth 100000 in
theorem w_X9_tellLaw_38 {τ : x_Hp} (C : x_C p s m args meth c cX9_tellLaw 4 none yX9_tellLaw.cls TM G) {k12 : Int32 → Int32 → Int32 → x_Hp → Option (Unit × x_Hp)} (hk12 : ∀ (x1 : Int32) (x2 : Int32) (x3 : Int32) (σ : x_Hp) (h : k12 x1 x2 x3 σ = some ((), τ)), x_W p l e rm_X9_tellLaw s m args below meth c (MQ below (x_Q TM G none τ) args s 0 0 (x_A TM G)) TM G 4 12 [(0, .ref (x_ad G 0)), (1, .int x1), (2, .int x2), (3, .int x3)] [] σ) (x1 : Int32) (x2 : Int32) (x3 : Int32) (σ : x_Hp) (h : F_X9_tellLaw_38 k12 x1 x2 x3 σ = some ((), τ)) : x_W p l e rm_X9_tellLaw s m args below meth c (MQ below (x_Q TM G none τ) args s 0 0 (x_A TM G)) TM G 4 38 [(0, .ref (x_ad G 0)), (1, .int x1), (2, .int x2), (3, .int x3)] [] σ := by
  have hG : x_OK TM G := C.2.2.2.2.2.2.2.2.1
  rw [F_X9_tellLaw_38] at h
  refine x_aload_n C 0 dX9_tellLaw_38 rfl rfl ?_
  refine x_getI C (k := 13) kM_0 (by decide) rfl x_in9 (by decide) (by decide) rfl rfl wd_1221 dX9_tellLaw_39 ?_
  refine x_if_le C 46 dX9_tellLaw_42 rfl (fun hc => ?_) (fun hc => ?_)
  · replace h := x_itp hc h
    refine x_iinc C 3 (x3 + (1 : Int32)) [(3, .int (x3 + (1 : Int32))), (0, .ref (x_ad G 0)), (1, .int x1), (2, .int x2)] dX9_tellLaw_46 rfl rfl (by decide) rfl ?_
    refine x_aload_n C 1 dX9_tellLaw_49 rfl rfl ?_
    obtain ⟨v12, σ12, hc12, h⟩ := x_b_some h
    refine x_callV C (n := 0) (c_X9_goesOn hG hc12) kM_0 (by decide) rfl wd_1475 wd_1477 wd_57 wd_111 wd_1478 (by decide +kernel) rfl ⟨Nat.le_of_ble_eq_true rfl, Nat.le_of_ble_eq_true rfl⟩ ⟨rfl, rfl⟩ rfl (Nat.le_of_ble_eq_true rfl) dX9_tellLaw_50 ?_
    refine x_aload_n C 1 dX9_tellLaw_53 rfl rfl ?_
    refine x_getRq C (k := 35) kM_0 (by decide) rfl x_in9 (by decide) (by decide) rfl rfl wd_1243 rfM_0_35 dX9_tellLaw_54 ?_
    refine x_aload_n C 1 dX9_tellLaw_57 rfl rfl ?_
    refine x_getI C (k := 34) kM_0 (by decide) rfl x_in9 (by decide) (by decide) rfl rfl wd_1242 dX9_tellLaw_58 ?_
    refine x_iconst C (1 : Int32) dX9_tellLaw_61 (by decide) ?_
    obtain ⟨hi13, h⟩ := x_gd_some h
    refine x_zast C kM_21 (x_inl lnM_21 hi13) dX9_tellLaw_62 (x_gen h fun σ14 h => ?_)
    refine x_aload_n C 1 dX9_tellLaw_63 rfl rfl ?_
    refine x_getRq C (k := 36) kM_0 (by decide) rfl x_in9 (by decide) (by decide) rfl rfl wd_1244 rfM_0_36 dX9_tellLaw_64 ?_
    refine x_aload_n C 1 dX9_tellLaw_67 rfl rfl ?_
    refine x_getI C (k := 34) kM_0 (by decide) rfl x_in9 (by decide) (by decide) rfl rfl wd_1242 dX9_tellLaw_68 ?_
    refine x_aload_n C 1 dX9_tellLaw_71 rfl rfl ?_
    refine x_getI C (k := 40) kM_0 (by decide) rfl x_in9 (by decide) (by decide) rfl rfl wd_1248 dX9_tellLaw_72 ?_
    obtain ⟨hi15, h⟩ := x_gd_some h
    refine x_iast C kM_22 (x_inl lnM_22 hi15) dX9_tellLaw_75 (x_gen h fun σ16 h => ?_)
    refine x_aload_n C 1 dX9_tellLaw_76 rfl rfl ?_
    obtain ⟨v17, σ17, hc17, h⟩ := x_b_some h
    refine x_callV C (n := 0) (c_X9_expression hG hc17) kM_0 (by decide) rfl wd_1503 wd_1505 wd_64 wd_111 wd_1506 (by decide +kernel) rfl ⟨Nat.le_of_ble_eq_true rfl, Nat.le_of_ble_eq_true rfl⟩ ⟨rfl, rfl⟩ rfl (Nat.le_of_ble_eq_true rfl) dX9_tellLaw_77 ?_
    refine x_aload_n C 1 dX9_tellLaw_80 rfl rfl ?_
    refine x_bipush C (13 : Int32) dX9_tellLaw_81 (by decide) ?_
    obtain ⟨v18, σ18, hc18, h⟩ := x_b_some h
    refine x_callV C (n := 1) (c_X9_must hG hc18) kM_0 (by decide) rfl wd_1491 wd_1493 wd_61 wd_111 wd_1494 (by decide +kernel) rfl ⟨Nat.le_of_ble_eq_true rfl, Nat.le_of_ble_eq_true rfl⟩ ⟨rfl, rfl⟩ rfl (Nat.le_of_ble_eq_true rfl) dX9_tellLaw_83 ?_
    refine x_aload_n C 1 dX9_tellLaw_86 rfl rfl ?_
    refine x_getRq C (k := 37) kM_0 (by decide) rfl x_in9 (by decide) (by decide) rfl rfl wd_1245 rfM_0_37 dX9_tellLaw_87 ?_
    refine x_aload_n C 1 dX9_tellLaw_90 rfl rfl ?_
    refine x_getI C (k := 34) kM_0 (by decide) rfl x_in9 (by decide) (by decide) rfl rfl wd_1242 dX9_tellLaw_91 ?_
    refine x_aload_n C 1 dX9_tellLaw_94 rfl rfl ?_
    refine x_getI C (k := 40) kM_0 (by decide) rfl x_in9 (by decide) (by decide) rfl rfl wd_1248 dX9_tellLaw_95 ?_
    obtain ⟨hi19, h⟩ := x_gd_some h
    refine x_iast C kM_23 (x_inl lnM_23 hi19) dX9_tellLaw_98 (x_gen h fun σ20 h => ?_)
    refine x_aload_n C 1 dX9_tellLaw_99 rfl rfl ?_
    refine x_getI C (k := 13) kM_0 (by decide) rfl x_in9 (by decide) (by decide) rfl rfl wd_1221 dX9_tellLaw_100 ?_
    refine x_if_ne C 110 dX9_tellLaw_103 rfl (fun hc => ?_) (fun hc => ?_)
    · replace h := x_itn hc h
      exact x_sub [1, 2, 3, 0] rfl (w_X9_tellLaw_110 C hk12 x1 x2 (x3 + (1 : Int32)) σ20 h)
    · replace h := x_itp hc h
      refine x_aload_n C 1 dX9_tellLaw_106 rfl rfl ?_
      obtain ⟨v21, σ21, hc21, h⟩ := x_b_some h
      refine x_callV C (n := 0) (c_X9_expression hG hc21) kM_0 (by decide) rfl wd_1503 wd_1505 wd_64 wd_111 wd_1506 (by decide +kernel) rfl ⟨Nat.le_of_ble_eq_true rfl, Nat.le_of_ble_eq_true rfl⟩ ⟨rfl, rfl⟩ rfl (Nat.le_of_ble_eq_true rfl) dX9_tellLaw_107 ?_
      exact x_sub [1, 2, 3, 0] rfl (w_X9_tellLaw_110 C hk12 x1 x2 (x3 + (1 : Int32)) σ21 h)
  · replace h := x_itn hc h
    obtain ⟨-, rfl⟩ := x_ret h
    exact x_vret C dX9_tellLaw_45
set_option maxHeartbeats 4000000 in
set_option maxRecDepth 100000 in
theorem w_X9_tellLaw_12 {τ : x_Hp} (C : x_C p s m args meth c cX9_tellLaw 4 none yX9_tellLaw.cls TM G) : ∀ (n : Nat) (x1 : Int32) (x2 : Int32) (x3 : Int32) (σ : x_Hp) (h : F_X9_tellLaw_12 n x1 x2 x3 σ = some ((), τ)), x_W p l e rm_X9_tellLaw s m args below meth c (MQ below (x_Q TM G none τ) args s 0 0 (x_A TM G)) TM G 4 12 [(0, .ref (x_ad G 0)), (1, .int x1), (2, .int x2), (3, .int x3)] [] σ := by
  intro n
  induction n with
  | zero => intro x1 x2 x3 σ  h; cases h
  | succ n ih =>
    intro x1 x2 x3 σ  h
    have hG : x_OK TM G := C.2.2.2.2.2.2.2.2.1
    rw [F_X9_tellLaw_12] at h
    refine x_aload_n C 0 dX9_tellLaw_12 rfl rfl ?_
    refine x_getI C (k := 13) kM_0 (by decide) rfl x_in9 (by decide) (by decide) rfl rfl wd_1221 dX9_tellLaw_13 ?_
    refine x_if_ne C 129 dX9_tellLaw_16 rfl (fun hc => ?_) (fun hc => ?_)
    · replace h := x_itn hc h
      exact x_sub [0, 1, 2] rfl (w_X9_tellLaw_129 C x1 x2 σ h)
    · replace h := x_itp hc h
      refine x_aload_n C 0 dX9_tellLaw_19 rfl rfl ?_
      refine x_bipush C (33 : Int32) dX9_tellLaw_20 (by decide) ?_
      obtain ⟨v2, σ2, hc2, h⟩ := x_b_some h
      refine x_callV C (n := 1) (c_X9_is hG hc2) kM_0 (by decide) rfl wd_1467 wd_1469 wd_55 wd_111 wd_1470 (by decide +kernel) rfl ⟨Nat.le_of_ble_eq_true rfl, Nat.le_of_ble_eq_true rfl⟩ ⟨rfl, rfl⟩ rfl (Nat.le_of_ble_eq_true rfl) dX9_tellLaw_22 ?_
      refine x_if_eq C 129 dX9_tellLaw_25 rfl (fun hc => ?_) (fun hc => ?_)
      · replace h := x_itp hc h
        exact x_sub [0, 1, 2] rfl (w_X9_tellLaw_129 C x1 x2 σ2 h)
      · replace h := x_itn hc h
        refine x_iload_n C 3 dX9_tellLaw_28 rfl rfl ?_
        refine x_iconst C (4 : Int32) dX9_tellLaw_29 (by decide) ?_
        refine x_icmp_ne C 38 dX9_tellLaw_30 rfl (fun hc => ?_) (fun hc => ?_)
        · replace h := x_itn hc h
          exact x_sub [0, 1, 2, 3] rfl (w_X9_tellLaw_38 C ih x1 x2 x3 σ2 h)
        · replace h := x_itp hc h
          refine x_aload_n C 0 dX9_tellLaw_33 rfl rfl ?_
          refine x_iconst C (2 : Int32) dX9_tellLaw_34 (by decide) ?_
          obtain ⟨v3, σ3, hc3, h⟩ := x_b_some h
          refine x_callV C (n := 1) (c_X9_fail hG hc3) kM_0 (by decide) rfl wd_1479 wd_1481 wd_58 wd_111 wd_1482 (by decide +kernel) rfl ⟨Nat.le_of_ble_eq_true rfl, Nat.le_of_ble_eq_true rfl⟩ ⟨rfl, rfl⟩ rfl (Nat.le_of_ble_eq_true rfl) dX9_tellLaw_35 ?_
          exact x_sub [0, 1, 2, 3] rfl (w_X9_tellLaw_38 C ih x1 x2 x3 σ3 h)
set_option maxHeartbeats 4000000 in
set_option maxRecDepth 100000 in
theorem c_X9_tellLaw (hG : x_OK TM G) {x1 : Int32} {σ τ : x_Hp} (h : F_X9_tellLaw x1 σ = some ((), τ)) : x_M l TM G yX9_tellLaw cX9_tellLaw 4 none rm_X9_tellLaw [.ref (x_ad G 0), .int x1] σ none τ := by
  refine x_M.of hG (lv := [(0, .ref (x_ad G 0)), (1, .int x1)]) (by decide) (Nat.le_of_ble_eq_true rfl) rfl (fun p e s m below meth c C => ?_)
  rw [F_X9_tellLaw] at h
  refine x_aload_n C 0 dX9_tellLaw_0 rfl rfl ?_
  refine x_iconst C (5 : Int32) dX9_tellLaw_1 (by decide) ?_
  obtain ⟨v1, σ1, hc1, h⟩ := x_b_some h
  refine x_callV C (n := 1) (c_X9_must hG hc1) kM_0 (by decide) rfl wd_1491 wd_1493 wd_61 wd_111 wd_1494 (by decide +kernel) rfl ⟨Nat.le_of_ble_eq_true rfl, Nat.le_of_ble_eq_true rfl⟩ ⟨rfl, rfl⟩ rfl (Nat.le_of_ble_eq_true rfl) dX9_tellLaw_2 ?_
  refine x_aload_n C 0 dX9_tellLaw_5 rfl rfl ?_
  refine x_getI C (k := 34) kM_0 (by decide) rfl x_in9 (by decide) (by decide) rfl rfl wd_1242 dX9_tellLaw_6 ?_
  refine x_istore_n C [(2, .int (σ1.1 0 34)), (0, .ref (x_ad G 0)), (1, .int x1)] dX9_tellLaw_9 rfl (by decide) rfl ?_
  refine x_iconst C (0 : Int32) dX9_tellLaw_10 (by decide) ?_
  refine x_istore_n C [(3, .int (0 : Int32)), (2, .int (σ1.1 0 34)), (0, .ref (x_ad G 0)), (1, .int x1)] dX9_tellLaw_11 rfl (by decide) rfl ?_
  exact x_sub [2, 3, 1, 0] rfl (w_X9_tellLaw_12 C x_fuel x1 (σ1.1 0 34) (0 : Int32) σ1 h)
abbrev rm_X9_tellOne : Room := { frames := 6, cells := 0, slots := 0, locals := 126 }
set_option maxHeartbeats 4000000 in
set_option maxRecDepth 100000 in
theorem w_X9_tellOne_82 {τ : x_Hp} (C : x_C p s m args meth c cX9_tellOne 2 none yX9_tellOne.cls TM G) : ∀ (n : Nat) (x1 : Int32) (σ : x_Hp) (h : F_X9_tellOne_82 n x1 σ = some ((), τ)), x_W p l e rm_X9_tellOne s m args below meth c (MQ below (x_Q TM G none τ) args s 0 0 (x_A TM G)) TM G 2 82 [(0, .ref (x_ad G 0)), (1, .int x1)] [] σ := by
  intro n
  induction n with
  | zero => intro x1 σ  h; cases h
  | succ n ih =>
    intro x1 σ  h
    have hG : x_OK TM G := C.2.2.2.2.2.2.2.2.1
    rw [F_X9_tellOne_82] at h
    refine x_iload_n C 1 dX9_tellOne_82 rfl rfl ?_
    refine x_iconst C (4 : Int32) dX9_tellOne_83 (by decide) ?_
    refine x_icmp_ge C 113 dX9_tellOne_84 rfl (fun hc => ?_) (fun hc => ?_)
    · replace h := x_itp hc h
      refine x_aload_n C 0 dX9_tellOne_113 rfl rfl ?_
      refine x_iconst C (4 : Int32) dX9_tellOne_114 (by decide) ?_
      obtain ⟨v20, σ20, hc20, h⟩ := x_b_some h
      refine x_callV C (n := 1) (c_X9_must hG hc20) kM_0 (by decide) rfl wd_1491 wd_1493 wd_61 wd_111 wd_1494 (by decide +kernel) rfl ⟨Nat.le_of_ble_eq_true rfl, Nat.le_of_ble_eq_true rfl⟩ ⟨rfl, rfl⟩ rfl (Nat.le_of_ble_eq_true rfl) dX9_tellOne_115 ?_
      refine x_goto C 292 dX9_tellOne_118 rfl ?_
      obtain ⟨-, rfl⟩ := x_ret h
      exact x_vret C dX9_tellOne_292
    · replace h := x_itn hc h
      refine x_aload_n C 0 dX9_tellOne_87 rfl rfl ?_
      refine x_getRq C (k := 22) kM_0 (by decide) rfl x_in9 (by decide) (by decide) rfl rfl wd_1230 rfM_0_22 dX9_tellOne_88 ?_
      refine x_iconst C (4 : Int32) dX9_tellOne_91 (by decide) ?_
      refine x_aload_n C 0 dX9_tellOne_92 rfl rfl ?_
      refine x_getI C (k := 19) kM_0 (by decide) rfl x_in9 (by decide) (by decide) rfl rfl wd_1227 dX9_tellOne_93 ?_
      refine x_imul C dX9_tellOne_96 ?_
      refine x_iload_n C 1 dX9_tellOne_97 rfl rfl ?_
      refine x_iadd C dX9_tellOne_98 ?_
      refine x_aload_n C 0 dX9_tellOne_99 rfl rfl ?_
      refine x_iconst C (0 : Int32) dX9_tellOne_100 (by decide) ?_
      refine x_bipush C (99 : Int32) dX9_tellOne_101 (by decide) ?_
      obtain ⟨v21, σ21, hc21, h⟩ := x_b_some h
      refine x_callV C (n := 2) (c_X9_bounded hG hc21) kM_0 (by decide) rfl wd_1483 wd_1485 wd_59 wd_111 wd_1486 (by decide +kernel) rfl ⟨Nat.le_of_ble_eq_true rfl, Nat.le_of_ble_eq_true rfl⟩ ⟨rfl, rfl⟩ rfl (Nat.le_of_ble_eq_true rfl) dX9_tellOne_103 ?_
      obtain ⟨hi22, h⟩ := x_gd_some h
      refine x_iast C kM_9 (x_inl lnM_9 hi22) dX9_tellOne_106 (x_gen h fun σ23 h => ?_)
      refine x_iinc C 1 (x1 + (1 : Int32)) [(1, .int (x1 + (1 : Int32))), (0, .ref (x_ad G 0))] dX9_tellOne_107 rfl rfl (by decide) rfl ?_
      refine x_goto C 82 dX9_tellOne_110 rfl ?_
      exact x_sub [1, 0] rfl (ih (x1 + (1 : Int32)) σ23 h)
set_option maxHeartbeats 4000000 in
set_option maxRecDepth 100000 in
theorem w_X9_tellOne_140 {τ : x_Hp} (C : x_C p s m args meth c cX9_tellOne 2 none yX9_tellOne.cls TM G) (σ : x_Hp) (h : F_X9_tellOne_140 σ = some ((), τ)) : x_W p l e rm_X9_tellOne s m args below meth c (MQ below (x_Q TM G none τ) args s 0 0 (x_A TM G)) TM G 2 140 [(0, .ref (x_ad G 0))] [] σ := by
  have hG : x_OK TM G := C.2.2.2.2.2.2.2.2.1
  rw [F_X9_tellOne_140] at h
  refine x_aload_n C 0 dX9_tellOne_140 rfl rfl ?_
  refine x_getI C (k := 13) kM_0 (by decide) rfl x_in9 (by decide) (by decide) rfl rfl wd_1221 dX9_tellOne_141 ?_
  refine x_if_ne C 292 dX9_tellOne_144 rfl (fun hc => ?_) (fun hc => ?_)
  · replace h := x_itn hc h
    obtain ⟨-, rfl⟩ := x_ret h
    exact x_vret C dX9_tellOne_292
  · replace h := x_itp hc h
    refine x_aload_n C 0 dX9_tellOne_147 rfl rfl ?_
    obtain ⟨v24, σ24, hc24, h⟩ := x_b_some h
    refine x_callV C (n := 0) (c_X9_tellAunt hG hc24) kM_0 (by decide) rfl wd_1495 wd_1497 wd_62 wd_111 wd_1498 (by decide +kernel) rfl ⟨Nat.le_of_ble_eq_true rfl, Nat.le_of_ble_eq_true rfl⟩ ⟨rfl, rfl⟩ rfl (Nat.le_of_ble_eq_true rfl) dX9_tellOne_148 ?_
    refine x_goto C 292 dX9_tellOne_151 rfl ?_
    obtain ⟨-, rfl⟩ := x_ret h
    exact x_vret C dX9_tellOne_292
set_option maxHeartbeats 4000000 in
set_option maxRecDepth 100000 in
theorem w_X9_tellOne_275 {τ : x_Hp} (C : x_C p s m args meth c cX9_tellOne 2 none yX9_tellOne.cls TM G) (x1 : Int32) (σ : x_Hp) (h : F_X9_tellOne_275 x1 σ = some ((), τ)) : x_W p l e rm_X9_tellOne s m args below meth c (MQ below (x_Q TM G none τ) args s 0 0 (x_A TM G)) TM G 2 275 [(0, .ref (x_ad G 0)), (1, .int x1)] [] σ := by
  have hG : x_OK TM G := C.2.2.2.2.2.2.2.2.1
  rw [F_X9_tellOne_275] at h
  refine x_aload_n C 0 dX9_tellOne_275 rfl rfl ?_
  refine x_getI C (k := 13) kM_0 (by decide) rfl x_in9 (by decide) (by decide) rfl rfl wd_1221 dX9_tellOne_276 ?_
  refine x_if_le C 283 dX9_tellOne_279 rfl (fun hc => ?_) (fun hc => ?_)
  · replace h := x_itp hc h
    refine x_aload_n C 0 dX9_tellOne_283 rfl rfl ?_
    obtain ⟨v28, σ28, hc28, h⟩ := x_b_some h
    refine x_callV C (n := 0) (c_X9_goesOn hG hc28) kM_0 (by decide) rfl wd_1475 wd_1477 wd_57 wd_111 wd_1478 (by decide +kernel) rfl ⟨Nat.le_of_ble_eq_true rfl, Nat.le_of_ble_eq_true rfl⟩ ⟨rfl, rfl⟩ rfl (Nat.le_of_ble_eq_true rfl) dX9_tellOne_284 ?_
    refine x_aload_n C 0 dX9_tellOne_287 rfl rfl ?_
    refine x_iload_n C 1 dX9_tellOne_288 rfl rfl ?_
    obtain ⟨v29, σ29, hc29, h⟩ := x_b_some h
    refine x_callV C (n := 1) (c_X9_tellLaw hG hc29) kM_0 (by decide) rfl wd_1499 wd_1501 wd_63 wd_111 wd_1502 (by decide +kernel) rfl ⟨Nat.le_of_ble_eq_true rfl, Nat.le_of_ble_eq_true rfl⟩ ⟨rfl, rfl⟩ rfl (Nat.le_of_ble_eq_true rfl) dX9_tellOne_289 ?_
    obtain ⟨-, rfl⟩ := x_ret h
    exact x_vret C dX9_tellOne_292
  · replace h := x_itn hc h
    obtain ⟨-, rfl⟩ := x_ret h
    exact x_vret C dX9_tellOne_282
set_option maxHeartbeats 4000000 in
set_option maxRecDepth 100000 in
theorem w_X9_tellOne_270 {τ : x_Hp} (C : x_C p s m args meth c cX9_tellOne 2 none yX9_tellOne.cls TM G) (x1 : Int32) (σ : x_Hp) (h : F_X9_tellOne_270 x1 σ = some ((), τ)) : x_W p l e rm_X9_tellOne s m args below meth c (MQ below (x_Q TM G none τ) args s 0 0 (x_A TM G)) TM G 2 270 [(0, .ref (x_ad G 0)), (1, .int x1)] [] σ := by
  have hG : x_OK TM G := C.2.2.2.2.2.2.2.2.1
  rw [F_X9_tellOne_270] at h
  refine x_aload_n C 0 dX9_tellOne_270 rfl rfl ?_
  refine x_iconst C (1 : Int32) dX9_tellOne_271 (by decide) ?_
  obtain ⟨v27, σ27, hc27, h⟩ := x_b_some h
  refine x_callV C (n := 1) (c_X9_fail hG hc27) kM_0 (by decide) rfl wd_1479 wd_1481 wd_58 wd_111 wd_1482 (by decide +kernel) rfl ⟨Nat.le_of_ble_eq_true rfl, Nat.le_of_ble_eq_true rfl⟩ ⟨rfl, rfl⟩ rfl (Nat.le_of_ble_eq_true rfl) dX9_tellOne_272 ?_
  exact x_sub [0, 1] rfl (w_X9_tellOne_275 C x1 σ27 h)
set_option maxHeartbeats 4000000 in
set_option maxRecDepth 100000 in
theorem w_X9_tellOne_239 {τ : x_Hp} (C : x_C p s m args meth c cX9_tellOne 2 none yX9_tellOne.cls TM G) (σ : x_Hp) (h : F_X9_tellOne_239 σ = some ((), τ)) : x_W p l e rm_X9_tellOne s m args below meth c (MQ below (x_Q TM G none τ) args s 0 0 (x_A TM G)) TM G 2 239 [(0, .ref (x_ad G 0))] [] σ := by
  have hG : x_OK TM G := C.2.2.2.2.2.2.2.2.1
  rw [F_X9_tellOne_239] at h
  refine x_aload_n C 0 dX9_tellOne_239 rfl rfl ?_
  refine x_getRq C (k := 5) kM_0 (by decide) rfl x_in9 (by decide) (by decide) rfl rfl wd_1213 rfM_0_5 dX9_tellOne_240 ?_
  refine x_aload_n C 0 dX9_tellOne_243 rfl rfl ?_
  refine x_getI C (k := 11) kM_0 (by decide) rfl x_in9 (by decide) (by decide) rfl rfl wd_1219 dX9_tellOne_244 ?_
  obtain ⟨hi25, h⟩ := x_gd_some h
  refine x_iald C kM_3 (x_inl lnM_3 hi25) dX9_tellOne_247 ?_
  refine x_bipush C (23 : Int32) dX9_tellOne_248 (by decide) ?_
  refine x_isub C dX9_tellOne_250 ?_
  refine x_istore_n C [(1, .int ((σ.1 3 (x_ix (σ.1 0 11))) - (23 : Int32))), (0, .ref (x_ad G 0))] dX9_tellOne_251 rfl (by decide) rfl ?_
  refine x_iload_n C 0 dX9_tellOne_252 rfl rfl ?_
  refine x_if_lt C 270 dX9_tellOne_253 rfl (fun hc => ?_) (fun hc => ?_)
  · replace h := x_itp hc h
    exact x_sub [1, 0] rfl (w_X9_tellOne_270 C ((σ.1 3 (x_ix (σ.1 0 11))) - (23 : Int32)) σ h)
  · replace h := x_itn hc h
    refine x_aload_n C 1 dX9_tellOne_256 rfl rfl ?_
    refine x_getRq C (k := 5) kM_0 (by decide) rfl x_in9 (by decide) (by decide) rfl rfl wd_1213 rfM_0_5 dX9_tellOne_257 ?_
    refine x_aload_n C 1 dX9_tellOne_260 rfl rfl ?_
    refine x_getI C (k := 11) kM_0 (by decide) rfl x_in9 (by decide) (by decide) rfl rfl wd_1219 dX9_tellOne_261 ?_
    obtain ⟨hi26, h⟩ := x_gd_some h
    refine x_iald C kM_3 (x_inl lnM_3 hi26) dX9_tellOne_264 ?_
    refine x_bipush C (29 : Int32) dX9_tellOne_265 (by decide) ?_
    refine x_icmp_le C 275 dX9_tellOne_267 rfl (fun hc => ?_) (fun hc => ?_)
    · replace h := x_itp hc h
      exact x_sub [1, 0] rfl (w_X9_tellOne_275 C ((σ.1 3 (x_ix (σ.1 0 11))) - (23 : Int32)) σ h)
    · replace h := x_itn hc h
      exact x_sub [1, 0] rfl (w_X9_tellOne_270 C ((σ.1 3 (x_ix (σ.1 0 11))) - (23 : Int32)) σ h)
set_option maxHeartbeats 4000000 in
set_option maxRecDepth 100000 in
theorem c_X9_tellOne (hG : x_OK TM G) {σ τ : x_Hp} (h : F_X9_tellOne σ = some ((), τ)) : x_M l TM G yX9_tellOne cX9_tellOne 2 none rm_X9_tellOne [.ref (x_ad G 0)] σ none τ := by
  refine x_M.of hG (lv := [(0, .ref (x_ad G 0))]) (by decide) (Nat.le_of_ble_eq_true rfl) rfl (fun p e s m below meth c C => ?_)
  rw [F_X9_tellOne] at h
  refine x_aload_n C 0 dX9_tellOne_0 rfl rfl ?_
  refine x_getRq C (k := 5) kM_0 (by decide) rfl x_in9 (by decide) (by decide) rfl rfl wd_1213 rfM_0_5 dX9_tellOne_1 ?_
  refine x_aload_n C 0 dX9_tellOne_4 rfl rfl ?_
  refine x_getI C (k := 11) kM_0 (by decide) rfl x_in9 (by decide) (by decide) rfl rfl wd_1219 dX9_tellOne_5 ?_
  obtain ⟨hi1, h⟩ := x_gd_some h
  refine x_iald C kM_3 (x_inl lnM_3 hi1) dX9_tellOne_8 ?_
  by_cases hw0 : (σ.1 3 (x_ix (σ.1 0 11))) = (20 : Int32)
  · replace h := x_itp hw0 h
    refine x_ts_at C (20 : Int32) (67) 76 dX9_tellOne_9 hw0 (by decide +kernel) (by decide +kernel) (by decide +kernel) rfl ?_
    refine x_aload_n C 0 dX9_tellOne_76 rfl rfl ?_
    obtain ⟨v2, σ2, hc2, h⟩ := x_b_some h
    refine x_callV C (n := 0) (c_X9_goesOn hG hc2) kM_0 (by decide) rfl wd_1475 wd_1477 wd_57 wd_111 wd_1478 (by decide +kernel) rfl ⟨Nat.le_of_ble_eq_true rfl, Nat.le_of_ble_eq_true rfl⟩ ⟨rfl, rfl⟩ rfl (Nat.le_of_ble_eq_true rfl) dX9_tellOne_77 ?_
    refine x_iconst C (0 : Int32) dX9_tellOne_80 (by decide) ?_
    refine x_istore_n C [(1, .int (0 : Int32)), (0, .ref (x_ad G 0))] dX9_tellOne_81 rfl (by decide) rfl ?_
    exact x_sub [1, 0] rfl (w_X9_tellOne_82 C x_fuel (0 : Int32) σ2 h)
  replace h := x_itn hw0 h
  by_cases hw1 : (σ.1 3 (x_ix (σ.1 0 11))) = (21 : Int32)
  · replace h := x_itp hw1 h
    refine x_ts_at C (21 : Int32) (112) 121 dX9_tellOne_9 hw1 (by decide +kernel) (by decide +kernel) (by decide +kernel) rfl ?_
    refine x_aload_n C 0 dX9_tellOne_121 rfl rfl ?_
    refine x_getRq C (k := 23) kM_0 (by decide) rfl x_in9 (by decide) (by decide) rfl rfl wd_1231 rfM_0_23 dX9_tellOne_122 ?_
    refine x_aload_n C 0 dX9_tellOne_125 rfl rfl ?_
    refine x_getI C (k := 19) kM_0 (by decide) rfl x_in9 (by decide) (by decide) rfl rfl wd_1227 dX9_tellOne_126 ?_
    obtain ⟨hi3, h⟩ := x_gd_some h
    refine x_iald C kM_10 (x_inl lnM_10 hi3) dX9_tellOne_129 ?_
    refine x_bipush C (6 : Int32) dX9_tellOne_130 (by decide) ?_
    refine x_icmp_ne C 140 dX9_tellOne_132 rfl (fun hc => ?_) (fun hc => ?_)
    · replace h := x_itn hc h
      exact x_sub [0] rfl (w_X9_tellOne_140 C σ h)
    · replace h := x_itp hc h
      refine x_aload_n C 0 dX9_tellOne_135 rfl rfl ?_
      refine x_iconst C (2 : Int32) dX9_tellOne_136 (by decide) ?_
      obtain ⟨v4, σ4, hc4, h⟩ := x_b_some h
      refine x_callV C (n := 1) (c_X9_fail hG hc4) kM_0 (by decide) rfl wd_1479 wd_1481 wd_58 wd_111 wd_1482 (by decide +kernel) rfl ⟨Nat.le_of_ble_eq_true rfl, Nat.le_of_ble_eq_true rfl⟩ ⟨rfl, rfl⟩ rfl (Nat.le_of_ble_eq_true rfl) dX9_tellOne_137 ?_
      exact x_sub [0] rfl (w_X9_tellOne_140 C σ4 h)
  replace h := x_itn hw1 h
  by_cases hw2 : (σ.1 3 (x_ix (σ.1 0 11))) = (22 : Int32)
  · replace h := x_itp hw2 h
    refine x_ts_at C (22 : Int32) (230) 239 dX9_tellOne_9 hw2 (by decide +kernel) (by decide +kernel) (by decide +kernel) rfl ?_
    exact x_sub [0] rfl (w_X9_tellOne_239 C σ h)
  replace h := x_itn hw2 h
  by_cases hw3 : (σ.1 3 (x_ix (σ.1 0 11))) = (23 : Int32)
  · replace h := x_itp hw3 h
    refine x_ts_at C (23 : Int32) (230) 239 dX9_tellOne_9 hw3 (by decide +kernel) (by decide +kernel) (by decide +kernel) rfl ?_
    exact x_sub [0] rfl (w_X9_tellOne_239 C σ h)
  replace h := x_itn hw3 h
  by_cases hw4 : (σ.1 3 (x_ix (σ.1 0 11))) = (24 : Int32)
  · replace h := x_itp hw4 h
    refine x_ts_at C (24 : Int32) (230) 239 dX9_tellOne_9 hw4 (by decide +kernel) (by decide +kernel) (by decide +kernel) rfl ?_
    exact x_sub [0] rfl (w_X9_tellOne_239 C σ h)
  replace h := x_itn hw4 h
  by_cases hw5 : (σ.1 3 (x_ix (σ.1 0 11))) = (25 : Int32)
  · replace h := x_itp hw5 h
    refine x_ts_at C (25 : Int32) (230) 239 dX9_tellOne_9 hw5 (by decide +kernel) (by decide +kernel) (by decide +kernel) rfl ?_
    exact x_sub [0] rfl (w_X9_tellOne_239 C σ h)
  replace h := x_itn hw5 h
  by_cases hw6 : (σ.1 3 (x_ix (σ.1 0 11))) = (26 : Int32)
  · replace h := x_itp hw6 h
    refine x_ts_at C (26 : Int32) (230) 239 dX9_tellOne_9 hw6 (by decide +kernel) (by decide +kernel) (by decide +kernel) rfl ?_
    exact x_sub [0] rfl (w_X9_tellOne_239 C σ h)
  replace h := x_itn hw6 h
  by_cases hw7 : (σ.1 3 (x_ix (σ.1 0 11))) = (27 : Int32)
  · replace h := x_itp hw7 h
    refine x_ts_at C (27 : Int32) (230) 239 dX9_tellOne_9 hw7 (by decide +kernel) (by decide +kernel) (by decide +kernel) rfl ?_
    exact x_sub [0] rfl (w_X9_tellOne_239 C σ h)
  replace h := x_itn hw7 h
  by_cases hw8 : (σ.1 3 (x_ix (σ.1 0 11))) = (28 : Int32)
  · replace h := x_itp hw8 h
    refine x_ts_at C (28 : Int32) (230) 239 dX9_tellOne_9 hw8 (by decide +kernel) (by decide +kernel) (by decide +kernel) rfl ?_
    exact x_sub [0] rfl (w_X9_tellOne_239 C σ h)
  replace h := x_itn hw8 h
  by_cases hw9 : (σ.1 3 (x_ix (σ.1 0 11))) = (29 : Int32)
  · replace h := x_itp hw9 h
    refine x_ts_at C (29 : Int32) (230) 239 dX9_tellOne_9 hw9 (by decide +kernel) (by decide +kernel) (by decide +kernel) rfl ?_
    exact x_sub [0] rfl (w_X9_tellOne_239 C σ h)
  replace h := x_itn hw9 h
  by_cases hw10 : (σ.1 3 (x_ix (σ.1 0 11))) = (30 : Int32)
  · replace h := x_itp hw10 h
    refine x_ts_at C (30 : Int32) (145) 154 dX9_tellOne_9 hw10 (by decide +kernel) (by decide +kernel) (by decide +kernel) rfl ?_
    refine x_aload_n C 0 dX9_tellOne_154 rfl rfl ?_
    obtain ⟨v5, σ5, hc5, h⟩ := x_b_some h
    refine x_callV C (n := 0) (c_X9_goesOn hG hc5) kM_0 (by decide) rfl wd_1475 wd_1477 wd_57 wd_111 wd_1478 (by decide +kernel) rfl ⟨Nat.le_of_ble_eq_true rfl, Nat.le_of_ble_eq_true rfl⟩ ⟨rfl, rfl⟩ rfl (Nat.le_of_ble_eq_true rfl) dX9_tellOne_155 ?_
    refine x_aload_n C 0 dX9_tellOne_158 rfl rfl ?_
    refine x_getRq C (k := 29) kM_0 (by decide) rfl x_in9 (by decide) (by decide) rfl rfl wd_1237 rfM_0_29 dX9_tellOne_159 ?_
    refine x_aload_n C 0 dX9_tellOne_162 rfl rfl ?_
    refine x_getI C (k := 19) kM_0 (by decide) rfl x_in9 (by decide) (by decide) rfl rfl wd_1227 dX9_tellOne_163 ?_
    refine x_aload_n C 0 dX9_tellOne_166 rfl rfl ?_
    refine x_iconst C (0 : Int32) dX9_tellOne_167 (by decide) ?_
    refine x_bipush C (99 : Int32) dX9_tellOne_168 (by decide) ?_
    obtain ⟨v6, σ6, hc6, h⟩ := x_b_some h
    refine x_callV C (n := 2) (c_X9_bounded hG hc6) kM_0 (by decide) rfl wd_1483 wd_1485 wd_59 wd_111 wd_1486 (by decide +kernel) rfl ⟨Nat.le_of_ble_eq_true rfl, Nat.le_of_ble_eq_true rfl⟩ ⟨rfl, rfl⟩ rfl (Nat.le_of_ble_eq_true rfl) dX9_tellOne_170 ?_
    obtain ⟨hi7, h⟩ := x_gd_some h
    refine x_iast C kM_16 (x_inl lnM_16 hi7) dX9_tellOne_173 (x_gen h fun σ8 h => ?_)
    refine x_aload_n C 0 dX9_tellOne_174 rfl rfl ?_
    refine x_iconst C (4 : Int32) dX9_tellOne_175 (by decide) ?_
    obtain ⟨v9, σ9, hc9, h⟩ := x_b_some h
    refine x_callV C (n := 1) (c_X9_must hG hc9) kM_0 (by decide) rfl wd_1491 wd_1493 wd_61 wd_111 wd_1494 (by decide +kernel) rfl ⟨Nat.le_of_ble_eq_true rfl, Nat.le_of_ble_eq_true rfl⟩ ⟨rfl, rfl⟩ rfl (Nat.le_of_ble_eq_true rfl) dX9_tellOne_176 ?_
    refine x_goto C 292 dX9_tellOne_179 rfl ?_
    obtain ⟨-, rfl⟩ := x_ret h
    exact x_vret C dX9_tellOne_292
  replace h := x_itn hw10 h
  by_cases hw11 : (σ.1 3 (x_ix (σ.1 0 11))) = (31 : Int32)
  · replace h := x_itp hw11 h
    refine x_ts_at C (31 : Int32) (173) 182 dX9_tellOne_9 hw11 (by decide +kernel) (by decide +kernel) (by decide +kernel) rfl ?_
    refine x_aload_n C 0 dX9_tellOne_182 rfl rfl ?_
    obtain ⟨v10, σ10, hc10, h⟩ := x_b_some h
    refine x_callV C (n := 0) (c_X9_goesOn hG hc10) kM_0 (by decide) rfl wd_1475 wd_1477 wd_57 wd_111 wd_1478 (by decide +kernel) rfl ⟨Nat.le_of_ble_eq_true rfl, Nat.le_of_ble_eq_true rfl⟩ ⟨rfl, rfl⟩ rfl (Nat.le_of_ble_eq_true rfl) dX9_tellOne_183 ?_
    refine x_aload_n C 0 dX9_tellOne_186 rfl rfl ?_
    refine x_getRq C (k := 30) kM_0 (by decide) rfl x_in9 (by decide) (by decide) rfl rfl wd_1238 rfM_0_30 dX9_tellOne_187 ?_
    refine x_aload_n C 0 dX9_tellOne_190 rfl rfl ?_
    refine x_getI C (k := 19) kM_0 (by decide) rfl x_in9 (by decide) (by decide) rfl rfl wd_1227 dX9_tellOne_191 ?_
    refine x_aload_n C 0 dX9_tellOne_194 rfl rfl ?_
    refine x_iconst C (0 : Int32) dX9_tellOne_195 (by decide) ?_
    refine x_bipush C (99 : Int32) dX9_tellOne_196 (by decide) ?_
    obtain ⟨v11, σ11, hc11, h⟩ := x_b_some h
    refine x_callV C (n := 2) (c_X9_bounded hG hc11) kM_0 (by decide) rfl wd_1483 wd_1485 wd_59 wd_111 wd_1486 (by decide +kernel) rfl ⟨Nat.le_of_ble_eq_true rfl, Nat.le_of_ble_eq_true rfl⟩ ⟨rfl, rfl⟩ rfl (Nat.le_of_ble_eq_true rfl) dX9_tellOne_198 ?_
    obtain ⟨hi12, h⟩ := x_gd_some h
    refine x_iast C kM_17 (x_inl lnM_17 hi12) dX9_tellOne_201 (x_gen h fun σ13 h => ?_)
    refine x_aload_n C 0 dX9_tellOne_202 rfl rfl ?_
    refine x_iconst C (4 : Int32) dX9_tellOne_203 (by decide) ?_
    obtain ⟨v14, σ14, hc14, h⟩ := x_b_some h
    refine x_callV C (n := 1) (c_X9_must hG hc14) kM_0 (by decide) rfl wd_1491 wd_1493 wd_61 wd_111 wd_1494 (by decide +kernel) rfl ⟨Nat.le_of_ble_eq_true rfl, Nat.le_of_ble_eq_true rfl⟩ ⟨rfl, rfl⟩ rfl (Nat.le_of_ble_eq_true rfl) dX9_tellOne_204 ?_
    refine x_goto C 292 dX9_tellOne_207 rfl ?_
    obtain ⟨-, rfl⟩ := x_ret h
    exact x_vret C dX9_tellOne_292
  replace h := x_itn hw11 h
  by_cases hw12 : (σ.1 3 (x_ix (σ.1 0 11))) = (32 : Int32)
  · replace h := x_itp hw12 h
    refine x_ts_at C (32 : Int32) (201) 210 dX9_tellOne_9 hw12 (by decide +kernel) (by decide +kernel) (by decide +kernel) rfl ?_
    refine x_aload_n C 0 dX9_tellOne_210 rfl rfl ?_
    obtain ⟨v15, σ15, hc15, h⟩ := x_b_some h
    refine x_callV C (n := 0) (c_X9_goesOn hG hc15) kM_0 (by decide) rfl wd_1475 wd_1477 wd_57 wd_111 wd_1478 (by decide +kernel) rfl ⟨Nat.le_of_ble_eq_true rfl, Nat.le_of_ble_eq_true rfl⟩ ⟨rfl, rfl⟩ rfl (Nat.le_of_ble_eq_true rfl) dX9_tellOne_211 ?_
    refine x_aload_n C 0 dX9_tellOne_214 rfl rfl ?_
    refine x_getRq C (k := 31) kM_0 (by decide) rfl x_in9 (by decide) (by decide) rfl rfl wd_1239 rfM_0_31 dX9_tellOne_215 ?_
    refine x_aload_n C 0 dX9_tellOne_218 rfl rfl ?_
    refine x_getI C (k := 19) kM_0 (by decide) rfl x_in9 (by decide) (by decide) rfl rfl wd_1227 dX9_tellOne_219 ?_
    refine x_aload_n C 0 dX9_tellOne_222 rfl rfl ?_
    refine x_iconst C (0 : Int32) dX9_tellOne_223 (by decide) ?_
    refine x_sipush C (9999 : Int32) dX9_tellOne_224 (by decide) ?_
    obtain ⟨v16, σ16, hc16, h⟩ := x_b_some h
    refine x_callV C (n := 2) (c_X9_bounded hG hc16) kM_0 (by decide) rfl wd_1483 wd_1485 wd_59 wd_111 wd_1486 (by decide +kernel) rfl ⟨Nat.le_of_ble_eq_true rfl, Nat.le_of_ble_eq_true rfl⟩ ⟨rfl, rfl⟩ rfl (Nat.le_of_ble_eq_true rfl) dX9_tellOne_227 ?_
    obtain ⟨hi17, h⟩ := x_gd_some h
    refine x_iast C kM_18 (x_inl lnM_18 hi17) dX9_tellOne_230 (x_gen h fun σ18 h => ?_)
    refine x_aload_n C 0 dX9_tellOne_231 rfl rfl ?_
    refine x_iconst C (4 : Int32) dX9_tellOne_232 (by decide) ?_
    obtain ⟨v19, σ19, hc19, h⟩ := x_b_some h
    refine x_callV C (n := 1) (c_X9_must hG hc19) kM_0 (by decide) rfl wd_1491 wd_1493 wd_61 wd_111 wd_1494 (by decide +kernel) rfl ⟨Nat.le_of_ble_eq_true rfl, Nat.le_of_ble_eq_true rfl⟩ ⟨rfl, rfl⟩ rfl (Nat.le_of_ble_eq_true rfl) dX9_tellOne_233 ?_
    refine x_goto C 292 dX9_tellOne_236 rfl ?_
    obtain ⟨-, rfl⟩ := x_ret h
    exact x_vret C dX9_tellOne_292
  replace h := x_itn hw12 h
  refine x_ts_out C 239 dX9_tellOne_9 (by have q0 := x_tne (k := 20) (by decide +kernel) hw0; have q1 := x_tne (k := 21) (by decide +kernel) hw1; have q2 := x_tne (k := 22) (by decide +kernel) hw2; have q3 := x_tne (k := 23) (by decide +kernel) hw3; have q4 := x_tne (k := 24) (by decide +kernel) hw4; have q5 := x_tne (k := 25) (by decide +kernel) hw5; have q6 := x_tne (k := 26) (by decide +kernel) hw6; have q7 := x_tne (k := 27) (by decide +kernel) hw7; have q8 := x_tne (k := 28) (by decide +kernel) hw8; have q9 := x_tne (k := 29) (by decide +kernel) hw9; have q10 := x_tne (k := 30) (by decide +kernel) hw10; have q11 := x_tne (k := 31) (by decide +kernel) hw11; have q12 := x_tne (k := 32) (by decide +kernel) hw12; omega) rfl ?_
  exact x_sub [0] rfl (w_X9_tellOne_239 C σ h)
abbrev rm_X9_read : Room := { frames := 7, cells := 0, slots := 0, locals := 147 }
set_option maxHeartbeats 4000000 in
set_option maxRecDepth 100000 in
theorem w_X9_read_219 {r : Int32} {τ : x_Hp} (C : x_C p s m args meth c cX9_read 2 (some .int) yX9_read.cls TM G) : ∀ (n : Nat) (x1 : Int32) (σ : x_Hp) (h : F_X9_read_219 n x1 σ = some (r, τ)), x_W p l e rm_X9_read s m args below meth c (MQ below (x_Q TM G (some (.int r)) τ) args s 0 0 (x_A TM G)) TM G 2 219 [(0, .ref (x_ad G 0)), (1, .int x1)] [] σ := by
  intro n
  induction n with
  | zero => intro x1 σ  h; cases h
  | succ n ih =>
    intro x1 σ  h
    have hG : x_OK TM G := C.2.2.2.2.2.2.2.2.1
    rw [F_X9_read_219] at h
    refine x_iload_n C 1 dX9_read_219 rfl rfl ?_
    refine x_iconst C (3 : Int32) dX9_read_220 (by decide) ?_
    refine x_icmp_ge C 237 dX9_read_221 rfl (fun hc => ?_) (fun hc => ?_)
    · replace h := x_itp hc h
      refine x_iconst C (0 : Int32) dX9_read_237 (by decide) ?_
      obtain ⟨rfl, rfl⟩ := x_ret h
      exact x_iret C dX9_read_238
    · replace h := x_itn hc h
      refine x_aload_n C 0 dX9_read_224 rfl rfl ?_
      refine x_getRq C (k := 71) kM_0 (by decide) rfl x_in9 (by decide) (by decide) rfl rfl wd_1279 rfM_0_71 dX9_read_225 ?_
      refine x_iload_n C 1 dX9_read_228 rfl rfl ?_
      refine x_iconst C (0 : Int32) dX9_read_229 (by decide) ?_
      obtain ⟨hi24, h⟩ := x_gd_some h
      refine x_zast C kM_43 (x_inl lnM_43 hi24) dX9_read_230 (x_gen h fun σ25 h => ?_)
      refine x_iinc C 1 (x1 + (1 : Int32)) [(1, .int (x1 + (1 : Int32))), (0, .ref (x_ad G 0))] dX9_read_231 rfl rfl (by decide) rfl ?_
      refine x_goto C 219 dX9_read_234 rfl ?_
      exact x_sub [1, 0] rfl (ih (x1 + (1 : Int32)) σ25 h)
set_option maxHeartbeats 4000000 in
set_option maxRecDepth 100000 in
theorem w_X9_read_164 {r : Int32} {τ : x_Hp} (C : x_C p s m args meth c cX9_read 2 (some .int) yX9_read.cls TM G) (s0 : Int32) (σ : x_Hp) (h : F_X9_read_164 s0 σ = some (r, τ)) : x_W p l e rm_X9_read s m args below meth c (MQ below (x_Q TM G (some (.int r)) τ) args s 0 0 (x_A TM G)) TM G 2 164 [(0, .ref (x_ad G 0))] [.int s0, .ref (x_ad G 0)] σ := by
  have hG : x_OK TM G := C.2.2.2.2.2.2.2.2.1
  rw [F_X9_read_164] at h
  refine x_putI C (k := 17) tyX9 kM_0 (by decide) rfl x_in9 tyX9_ok nmX9 (by decide) (by decide) rfl rfl wd_1225 rfl (tyX9_ok 17 (by decide)) rfl rfl dX9_read_164 (x_gen h fun σ18 h => ?_)
  refine x_aload_n C 0 dX9_read_167 rfl rfl ?_
  refine x_getI C (k := 13) kM_0 (by decide) rfl x_in9 (by decide) (by decide) rfl rfl wd_1221 dX9_read_168 ?_
  refine x_if_le C 179 dX9_read_171 rfl (fun hc => ?_) (fun hc => ?_)
  · replace h := x_itp hc h
    refine x_aload_n C 0 dX9_read_179 rfl rfl ?_
    refine x_getI C (k := 15) kM_0 (by decide) rfl x_in9 (by decide) (by decide) rfl rfl wd_1223 dX9_read_180 ?_
    refine x_if_le C 191 dX9_read_183 rfl (fun hc => ?_) (fun hc => ?_)
    · replace h := x_itp hc h
      refine x_aload_n C 0 dX9_read_191 rfl rfl ?_
      refine x_aload_n C 0 dX9_read_192 rfl rfl ?_
      refine x_getI C (k := 19) kM_0 (by decide) rfl x_in9 (by decide) (by decide) rfl rfl wd_1227 dX9_read_193 ?_
      refine x_putI C (k := 18) tyX9 kM_0 (by decide) rfl x_in9 tyX9_ok nmX9 (by decide) (by decide) rfl rfl wd_1226 rfl (tyX9_ok 18 (by decide)) rfl rfl dX9_read_196 (x_gen h fun σ19 h => ?_)
      refine x_aload_n C 0 dX9_read_199 rfl rfl ?_
      obtain ⟨v20, σ20, hc20, h⟩ := x_b_some h
      refine x_callV C (n := 0) (c_X9_begins hG hc20) kM_0 (by decide) rfl wd_1197 wd_1199 wd_47 wd_111 wd_1200 (by decide +kernel) rfl ⟨Nat.le_of_ble_eq_true rfl, Nat.le_of_ble_eq_true rfl⟩ ⟨rfl, rfl⟩ rfl (Nat.le_of_ble_eq_true rfl) dX9_read_200 ?_
      refine x_aload_n C 0 dX9_read_203 rfl rfl ?_
      obtain ⟨v21, σ21, hc21, h⟩ := x_b_some h
      refine x_callV C (n := 0) (c_X9_keepsRow hG hc21) kM_0 (by decide) rfl wd_1205 wd_1207 wd_49 wd_111 wd_1208 (by decide +kernel) rfl ⟨Nat.le_of_ble_eq_true rfl, Nat.le_of_ble_eq_true rfl⟩ ⟨rfl, rfl⟩ rfl (Nat.le_of_ble_eq_true rfl) dX9_read_204 ?_
      refine x_aload_n C 0 dX9_read_207 rfl rfl ?_
      refine x_iconst C (0 : Int32) dX9_read_208 (by decide) ?_
      refine x_putI C (k := 54) tyX9 kM_0 (by decide) rfl x_in9 tyX9_ok nmX9 (by decide) (by decide) rfl rfl wd_1262 rfl (tyX9_ok 54 (by decide)) rfl rfl dX9_read_209 (x_gen h fun σ22 h => ?_)
      refine x_aload_n C 0 dX9_read_212 rfl rfl ?_
      refine x_iconst C (0 : Int32) dX9_read_213 (by decide) ?_
      refine x_putI C (k := 68) tyX9 kM_0 (by decide) rfl x_in9 tyX9_ok nmX9 (by decide) (by decide) rfl rfl wd_1276 rfl (tyX9_ok 68 (by decide)) rfl rfl dX9_read_214 (x_gen h fun σ23 h => ?_)
      refine x_iconst C (0 : Int32) dX9_read_217 (by decide) ?_
      refine x_istore_n C [(1, .int (0 : Int32)), (0, .ref (x_ad G 0))] dX9_read_218 rfl (by decide) rfl ?_
      exact x_sub [1, 0] rfl (w_X9_read_219 C x_fuel (0 : Int32) σ23 h)
    · replace h := x_itn hc h
      refine x_aload_n C 0 dX9_read_186 rfl rfl ?_
      refine x_getI C (k := 15) kM_0 (by decide) rfl x_in9 (by decide) (by decide) rfl rfl wd_1223 dX9_read_187 ?_
      obtain ⟨rfl, rfl⟩ := x_ret h
      exact x_iret C dX9_read_190
  · replace h := x_itn hc h
    refine x_aload_n C 0 dX9_read_174 rfl rfl ?_
    refine x_getI C (k := 13) kM_0 (by decide) rfl x_in9 (by decide) (by decide) rfl rfl wd_1221 dX9_read_175 ?_
    obtain ⟨rfl, rfl⟩ := x_ret h
    exact x_iret C dX9_read_178
set_option maxHeartbeats 4000000 in
set_option maxRecDepth 100000 in
theorem w_X9_read_134 {r : Int32} {τ : x_Hp} (C : x_C p s m args meth c cX9_read 2 (some .int) yX9_read.cls TM G) (σ : x_Hp) (h : F_X9_read_134 σ = some (r, τ)) : x_W p l e rm_X9_read s m args below meth c (MQ below (x_Q TM G (some (.int r)) τ) args s 0 0 (x_A TM G)) TM G 2 134 [(0, .ref (x_ad G 0))] [] σ := by
  have hG : x_OK TM G := C.2.2.2.2.2.2.2.2.1
  rw [F_X9_read_134] at h
  refine x_aload_n C 0 dX9_read_134 rfl rfl ?_
  refine x_aload_n C 0 dX9_read_135 rfl rfl ?_
  refine x_getI C (k := 13) kM_0 (by decide) rfl x_in9 (by decide) (by decide) rfl rfl wd_1221 dX9_read_136 ?_
  refine x_if_le C 149 dX9_read_139 rfl (fun hc => ?_) (fun hc => ?_)
  · replace h := x_itp hc h
    refine x_aload_n C 0 dX9_read_149 rfl rfl ?_
    refine x_getI C (k := 15) kM_0 (by decide) rfl x_in9 (by decide) (by decide) rfl rfl wd_1223 dX9_read_150 ?_
    refine x_if_le C 163 dX9_read_153 rfl (fun hc => ?_) (fun hc => ?_)
    · replace h := x_itp hc h
      refine x_iconst C (-1 : Int32) dX9_read_163 (by decide) ?_
      exact x_sub [0] rfl (w_X9_read_164 C (-1 : Int32) σ h)
    · replace h := x_itn hc h
      refine x_aload_n C 0 dX9_read_156 rfl rfl ?_
      refine x_getI C (k := 16) kM_0 (by decide) rfl x_in9 (by decide) (by decide) rfl rfl wd_1224 dX9_read_157 ?_
      refine x_goto C 164 dX9_read_160 rfl ?_
      exact x_sub [0] rfl (w_X9_read_164 C (σ.1 0 16) σ h)
  · replace h := x_itn hc h
    refine x_aload_n C 0 dX9_read_142 rfl rfl ?_
    refine x_getI C (k := 14) kM_0 (by decide) rfl x_in9 (by decide) (by decide) rfl rfl wd_1222 dX9_read_143 ?_
    refine x_goto C 164 dX9_read_146 rfl ?_
    exact x_sub [0] rfl (w_X9_read_164 C (σ.1 0 14) σ h)
set_option maxHeartbeats 4000000 in
set_option maxRecDepth 100000 in
theorem w_X9_read_112 {r : Int32} {τ : x_Hp} (C : x_C p s m args meth c cX9_read 2 (some .int) yX9_read.cls TM G) : ∀ (n : Nat) (σ : x_Hp) (h : F_X9_read_112 n σ = some (r, τ)), x_W p l e rm_X9_read s m args below meth c (MQ below (x_Q TM G (some (.int r)) τ) args s 0 0 (x_A TM G)) TM G 2 112 [(0, .ref (x_ad G 0))] [] σ := by
  intro n
  induction n with
  | zero => intro  σ  h; cases h
  | succ n ih =>
    intro  σ  h
    have hG : x_OK TM G := C.2.2.2.2.2.2.2.2.1
    rw [F_X9_read_112] at h
    refine x_aload_n C 0 dX9_read_112 rfl rfl ?_
    refine x_getI C (k := 13) kM_0 (by decide) rfl x_in9 (by decide) (by decide) rfl rfl wd_1221 dX9_read_113 ?_
    refine x_if_ne C 134 dX9_read_116 rfl (fun hc => ?_) (fun hc => ?_)
    · replace h := x_itn hc h
      exact x_sub [0] rfl (w_X9_read_134 C σ h)
    · replace h := x_itp hc h
      refine x_aload_n C 0 dX9_read_119 rfl rfl ?_
      refine x_iconst C (0 : Int32) dX9_read_120 (by decide) ?_
      obtain ⟨v16, σ16, hc16, h⟩ := x_b_some h
      refine x_callV C (n := 1) (c_X9_is hG hc16) kM_0 (by decide) rfl wd_1467 wd_1469 wd_55 wd_111 wd_1470 (by decide +kernel) rfl ⟨Nat.le_of_ble_eq_true rfl, Nat.le_of_ble_eq_true rfl⟩ ⟨rfl, rfl⟩ rfl (Nat.le_of_ble_eq_true rfl) dX9_read_121 ?_
      refine x_if_ne C 134 dX9_read_124 rfl (fun hc => ?_) (fun hc => ?_)
      · replace h := x_itn hc h
        exact x_sub [0] rfl (w_X9_read_134 C σ16 h)
      · replace h := x_itp hc h
        refine x_aload_n C 0 dX9_read_127 rfl rfl ?_
        obtain ⟨v17, σ17, hc17, h⟩ := x_b_some h
        refine x_callV C (n := 0) (c_X9_tellOne hG hc17) kM_0 (by decide) rfl wd_1471 wd_1473 wd_56 wd_111 wd_1474 (by decide +kernel) rfl ⟨Nat.le_of_ble_eq_true rfl, Nat.le_of_ble_eq_true rfl⟩ ⟨rfl, rfl⟩ rfl (Nat.le_of_ble_eq_true rfl) dX9_read_128 ?_
        refine x_goto C 112 dX9_read_131 rfl ?_
        exact x_sub [0] rfl (ih σ17 h)
set_option maxHeartbeats 4000000 in
set_option maxRecDepth 100000 in
theorem w_X9_read_10 {r : Int32} {τ : x_Hp} (C : x_C p s m args meth c cX9_read 2 (some .int) yX9_read.cls TM G) : ∀ (n : Nat) (x1 : Int32) (σ : x_Hp) (h : F_X9_read_10 n x1 σ = some (r, τ)), x_W p l e rm_X9_read s m args below meth c (MQ below (x_Q TM G (some (.int r)) τ) args s 0 0 (x_A TM G)) TM G 2 10 [(0, .ref (x_ad G 0)), (1, .int x1)] [] σ := by
  intro n
  induction n with
  | zero => intro x1 σ  h; cases h
  | succ n ih =>
    intro x1 σ  h
    have hG : x_OK TM G := C.2.2.2.2.2.2.2.2.1
    rw [F_X9_read_10] at h
    refine x_iload_n C 1 dX9_read_10 rfl rfl ?_
    refine x_aload_n C 0 dX9_read_11 rfl rfl ?_
    refine x_getI C (k := 4) kM_0 (by decide) rfl x_in9 (by decide) (by decide) rfl rfl wd_1212 dX9_read_12 ?_
    refine x_icmp_ge C 36 dX9_read_15 rfl (fun hc => ?_) (fun hc => ?_)
    · replace h := x_itp hc h
      refine x_aload_n C 0 dX9_read_36 rfl rfl ?_
      refine x_iconst C (0 : Int32) dX9_read_37 (by decide) ?_
      refine x_putI C (k := 2) tyX9 kM_0 (by decide) rfl x_in9 tyX9_ok nmX9 (by decide) (by decide) rfl rfl wd_1210 rfl (tyX9_ok 2 (by decide)) rfl rfl dX9_read_38 (x_gen h fun σ2 h => ?_)
      refine x_aload_n C 0 dX9_read_41 rfl rfl ?_
      obtain ⟨v3, σ3, hc3, h⟩ := x_b_some h
      refine x_callV C (n := 0) (c_X9_cut hG hc3) kM_0 (by decide) rfl wd_1445 wd_1447 wd_51 wd_111 wd_1448 (by decide +kernel) rfl ⟨Nat.le_of_ble_eq_true rfl, Nat.le_of_ble_eq_true rfl⟩ ⟨rfl, rfl⟩ rfl (Nat.le_of_ble_eq_true rfl) dX9_read_42 ?_
      refine x_aload_n C 0 dX9_read_45 rfl rfl ?_
      refine x_iconst C (0 : Int32) dX9_read_46 (by decide) ?_
      refine x_putI C (k := 11) tyX9 kM_0 (by decide) rfl x_in9 tyX9_ok nmX9 (by decide) (by decide) rfl rfl wd_1219 rfl (tyX9_ok 11 (by decide)) rfl rfl dX9_read_47 (x_gen h fun σ4 h => ?_)
      refine x_aload_n C 0 dX9_read_50 rfl rfl ?_
      refine x_iconst C (0 : Int32) dX9_read_51 (by decide) ?_
      refine x_putI C (k := 12) tyX9 kM_0 (by decide) rfl x_in9 tyX9_ok nmX9 (by decide) (by decide) rfl rfl wd_1220 rfl (tyX9_ok 12 (by decide)) rfl rfl dX9_read_52 (x_gen h fun σ5 h => ?_)
      refine x_aload_n C 0 dX9_read_55 rfl rfl ?_
      refine x_iconst C (0 : Int32) dX9_read_56 (by decide) ?_
      refine x_putI C (k := 13) tyX9 kM_0 (by decide) rfl x_in9 tyX9_ok nmX9 (by decide) (by decide) rfl rfl wd_1221 rfl (tyX9_ok 13 (by decide)) rfl rfl dX9_read_57 (x_gen h fun σ6 h => ?_)
      refine x_aload_n C 0 dX9_read_60 rfl rfl ?_
      refine x_iconst C (0 : Int32) dX9_read_61 (by decide) ?_
      refine x_putI C (k := 15) tyX9 kM_0 (by decide) rfl x_in9 tyX9_ok nmX9 (by decide) (by decide) rfl rfl wd_1223 rfl (tyX9_ok 15 (by decide)) rfl rfl dX9_read_62 (x_gen h fun σ7 h => ?_)
      refine x_aload_n C 0 dX9_read_65 rfl rfl ?_
      refine x_iconst C (1 : Int32) dX9_read_66 (by decide) ?_
      refine x_aload_n C 0 dX9_read_67 rfl rfl ?_
      refine x_getI C (k := 18) kM_0 (by decide) rfl x_in9 (by decide) (by decide) rfl rfl wd_1226 dX9_read_68 ?_
      refine x_isub C dX9_read_71 ?_
      refine x_putI C (k := 19) tyX9 kM_0 (by decide) rfl x_in9 tyX9_ok nmX9 (by decide) (by decide) rfl rfl wd_1227 rfl (tyX9_ok 19 (by decide)) rfl rfl dX9_read_72 (x_gen h fun σ8 h => ?_)
      refine x_aload_n C 0 dX9_read_75 rfl rfl ?_
      refine x_iconst C (0 : Int32) dX9_read_76 (by decide) ?_
      refine x_putI C (k := 20) tyX9 kM_0 (by decide) rfl x_in9 tyX9_ok nmX9 (by decide) (by decide) rfl rfl wd_1228 rfl (tyX9_ok 20 (by decide)) rfl rfl dX9_read_77 (x_gen h fun σ9 h => ?_)
      refine x_aload_n C 0 dX9_read_80 rfl rfl ?_
      refine x_aload_n C 0 dX9_read_81 rfl rfl ?_
      refine x_getI C (k := 19) kM_0 (by decide) rfl x_in9 (by decide) (by decide) rfl rfl wd_1227 dX9_read_82 ?_
      obtain ⟨v10, σ10, hc10, h⟩ := x_b_some h
      refine x_callV C (n := 1) (c_X9_plain hG hc10) kM_0 (by decide) rfl wd_1186 wd_1188 wd_46 wd_111 wd_1189 (by decide +kernel) rfl ⟨Nat.le_of_ble_eq_true rfl, Nat.le_of_ble_eq_true rfl⟩ ⟨rfl, rfl⟩ rfl (Nat.le_of_ble_eq_true rfl) dX9_read_85 ?_
      refine x_aload_n C 0 dX9_read_88 rfl rfl ?_
      refine x_sipush C (130 : Int32) dX9_read_89 (by decide) ?_
      refine x_aload_n C 0 dX9_read_92 rfl rfl ?_
      refine x_getI C (k := 19) kM_0 (by decide) rfl x_in9 (by decide) (by decide) rfl rfl wd_1227 dX9_read_93 ?_
      refine x_imul C dX9_read_96 ?_
      refine x_putI C (k := 34) tyX9 kM_0 (by decide) rfl x_in9 tyX9_ok nmX9 (by decide) (by decide) rfl rfl wd_1242 rfl (tyX9_ok 34 (by decide)) rfl rfl dX9_read_97 (x_gen h fun σ11 h => ?_)
      refine x_aload_n C 0 dX9_read_100 rfl rfl ?_
      refine x_sipush C (420 : Int32) dX9_read_101 (by decide) ?_
      refine x_aload_n C 0 dX9_read_104 rfl rfl ?_
      refine x_getI C (k := 19) kM_0 (by decide) rfl x_in9 (by decide) (by decide) rfl rfl wd_1227 dX9_read_105 ?_
      refine x_imul C dX9_read_108 ?_
      refine x_putI C (k := 40) tyX9 kM_0 (by decide) rfl x_in9 tyX9_ok nmX9 (by decide) (by decide) rfl rfl wd_1248 rfl (tyX9_ok 40 (by decide)) rfl rfl dX9_read_109 (x_gen h fun σ12 h => ?_)
      exact x_sub [0] rfl (w_X9_read_112 C x_fuel σ12 h)
    · replace h := x_itn hc h
      refine x_aload_n C 0 dX9_read_18 rfl rfl ?_
      refine x_getRq C (k := 3) kM_0 (by decide) rfl x_in9 (by decide) (by decide) rfl rfl wd_1211 rfM_0_3 dX9_read_19 ?_
      refine x_iload_n C 1 dX9_read_22 rfl rfl ?_
      refine x_aload_n C 0 dX9_read_23 rfl rfl ?_
      refine x_getRq C (k := 1) kM_0 (by decide) rfl x_in9 (by decide) (by decide) rfl rfl wd_1209 rfM_0_1 dX9_read_24 ?_
      refine x_iload_n C 1 dX9_read_27 rfl rfl ?_
      obtain ⟨hi13, h⟩ := x_gd_some h
      refine x_bald C kM_1 (x_inl lnM_1 hi13) dX9_read_28 ?_
      obtain ⟨hi14, h⟩ := x_gd_some h
      refine x_bast C kM_2 (x_inl lnM_2 hi14) dX9_read_29 (x_gen h fun σ15 h => ?_)
      refine x_iinc C 1 (x1 + (1 : Int32)) [(1, .int (x1 + (1 : Int32))), (0, .ref (x_ad G 0))] dX9_read_30 rfl rfl (by decide) rfl ?_
      refine x_goto C 10 dX9_read_33 rfl ?_
      exact x_sub [1, 0] rfl (ih (x1 + (1 : Int32)) σ15 h)
set_option maxHeartbeats 4000000 in
set_option maxRecDepth 100000 in
theorem c_X9_read (hG : x_OK TM G) {σ τ : x_Hp} {r : Int32} (h : F_X9_read σ = some (r, τ)) : x_M l TM G yX9_read cX9_read 2 (some .int) rm_X9_read [.ref (x_ad G 0)] σ (some (.int r)) τ := by
  refine x_M.of hG (lv := [(0, .ref (x_ad G 0))]) (by decide) (Nat.le_of_ble_eq_true rfl) rfl (fun p e s m below meth c C => ?_)
  rw [F_X9_read] at h
  refine x_aload_n C 0 dX9_read_0 rfl rfl ?_
  refine x_aload_n C 0 dX9_read_1 rfl rfl ?_
  refine x_getI C (k := 2) kM_0 (by decide) rfl x_in9 (by decide) (by decide) rfl rfl wd_1210 dX9_read_2 ?_
  refine x_putI C (k := 4) tyX9 kM_0 (by decide) rfl x_in9 tyX9_ok nmX9 (by decide) (by decide) rfl rfl wd_1212 rfl (tyX9_ok 4 (by decide)) rfl rfl dX9_read_5 (x_gen h fun σ1 h => ?_)
  refine x_iconst C (0 : Int32) dX9_read_8 (by decide) ?_
  refine x_istore_n C [(1, .int (0 : Int32)), (0, .ref (x_ad G 0))] dX9_read_9 rfl (by decide) rfl ?_
  exact x_sub [1, 0] rfl (w_X9_read_10 C x_fuel (0 : Int32) σ1 h)
abbrev rm_X9_place : Room := { frames := 0, cells := 0, slots := 0, locals := 0 }
set_option maxHeartbeats 4000000 in
set_option maxRecDepth 100000 in
theorem c_X9_place (hG : x_OK TM G) {σ τ : x_Hp} {r : Int32} (h : F_X9_place σ = some (r, τ)) : x_M l TM G yX9_place cX9_place 1 (some .int) rm_X9_place [.ref (x_ad G 0)] σ (some (.int r)) τ := by
  refine x_M.of hG (lv := [(0, .ref (x_ad G 0))]) (by decide) (Nat.le_of_ble_eq_true rfl) rfl (fun p e s m below meth c C => ?_)
  rw [F_X9_place] at h
  refine x_aload_n C 0 dX9_place_0 rfl rfl ?_
  refine x_getI C (k := 17) kM_0 (by decide) rfl x_in9 (by decide) (by decide) rfl rfl wd_1225 dX9_place_1 ?_
  obtain ⟨rfl, rfl⟩ := x_ret h
  exact x_iret C dX9_place_4
abbrev rm_X9_termOf : Room := { frames := 0, cells := 0, slots := 0, locals := 0 }
set_option maxHeartbeats 4000000 in
set_option maxRecDepth 100000 in
theorem w_X9_termOf_159 {r : Int32} {τ : x_Hp} (C : x_C p s m args meth c cX9_termOf 8 (some .int) yX9_termOf.cls TM G) {k5 : Int32 → Int32 → Int32 → x_Hp → Option (Int32 × x_Hp)} (hk5 : ∀ (x2 : Int32) (x3 : Int32) (x4 : Int32) (σ : x_Hp) (h : k5 x2 x3 x4 σ = some (r, τ)), x_W p l e rm_X9_termOf s m args below meth c (MQ below (x_Q TM G (some (.int r)) τ) args s 0 0 (x_A TM G)) TM G 8 5 [(0, .ref (x_ad G 0)), (2, .int x2), (3, .int x3), (4, .int x4)] [] σ) (x2 : Int32) (x3 : Int32) (x4 : Int32) (σ : x_Hp) (h : F_X9_termOf_159 k5 x2 x3 x4 σ = some (r, τ)) : x_W p l e rm_X9_termOf s m args below meth c (MQ below (x_Q TM G (some (.int r)) τ) args s 0 0 (x_A TM G)) TM G 8 159 [(0, .ref (x_ad G 0)), (2, .int x2), (3, .int x3), (4, .int x4)] [] σ := by
  have hG : x_OK TM G := C.2.2.2.2.2.2.2.2.1
  rw [F_X9_termOf_159] at h
  refine x_iinc C 3 (x4 + (1 : Int32)) [(4, .int (x4 + (1 : Int32))), (0, .ref (x_ad G 0)), (2, .int x2), (3, .int x3)] dX9_termOf_159 rfl rfl (by decide) rfl ?_
  refine x_goto C 5 dX9_termOf_162 rfl ?_
  exact x_sub [1, 2, 3, 0] rfl (hk5 x2 x3 (x4 + (1 : Int32)) σ h)
set_option maxHeartbeats 4000000 in
set_option maxRecDepth 100000 in
theorem w_X9_termOf_158 {r : Int32} {τ : x_Hp} (C : x_C p s m args meth c cX9_termOf 8 (some .int) yX9_termOf.cls TM G) {k5 : Int32 → Int32 → Int32 → x_Hp → Option (Int32 × x_Hp)} (hk5 : ∀ (x2 : Int32) (x3 : Int32) (x4 : Int32) (σ : x_Hp) (h : k5 x2 x3 x4 σ = some (r, τ)), x_W p l e rm_X9_termOf s m args below meth c (MQ below (x_Q TM G (some (.int r)) τ) args s 0 0 (x_A TM G)) TM G 8 5 [(0, .ref (x_ad G 0)), (2, .int x2), (3, .int x3), (4, .int x4)] [] σ) (x2 : Int32) (x3 : Int32) (x4 : Int32) (s0 : Int32) (s1 : Int32) (σ : x_Hp) (h : F_X9_termOf_158 k5 x2 x3 x4 s0 s1 σ = some (r, τ)) : x_W p l e rm_X9_termOf s m args below meth c (MQ below (x_Q TM G (some (.int r)) τ) args s 0 0 (x_A TM G)) TM G 8 158 [(0, .ref (x_ad G 0)), (2, .int x2), (3, .int x3), (4, .int x4)] [.int s0, .int s1, .ref (x_ad G 30)] σ := by
  have hG : x_OK TM G := C.2.2.2.2.2.2.2.2.1
  rw [F_X9_termOf_158] at h
  obtain ⟨hi10, h⟩ := x_gd_some h
  refine x_iast C kM_30 (x_inl lnM_30 hi10) dX9_termOf_158 (x_gen h fun σ11 h => ?_)
  exact x_sub [0, 1, 2, 3] rfl (w_X9_termOf_159 C hk5 x2 x3 x4 σ11 h)
set_option maxHeartbeats 4000000 in
set_option maxRecDepth 100000 in
theorem w_X9_termOf_104 {r : Int32} {τ : x_Hp} (C : x_C p s m args meth c cX9_termOf 8 (some .int) yX9_termOf.cls TM G) {k5 : Int32 → Int32 → Int32 → x_Hp → Option (Int32 × x_Hp)} (hk5 : ∀ (x2 : Int32) (x3 : Int32) (x4 : Int32) (σ : x_Hp) (h : k5 x2 x3 x4 σ = some (r, τ)), x_W p l e rm_X9_termOf s m args below meth c (MQ below (x_Q TM G (some (.int r)) τ) args s 0 0 (x_A TM G)) TM G 8 5 [(0, .ref (x_ad G 0)), (2, .int x2), (3, .int x3), (4, .int x4)] [] σ) (x2 : Int32) (x3 : Int32) (x4 : Int32) (x5 : Int32) (x6 : Int32) (x7 : Int32) (σ : x_Hp) (h : F_X9_termOf_104 k5 x2 x3 x4 x5 x6 x7 σ = some (r, τ)) : x_W p l e rm_X9_termOf s m args below meth c (MQ below (x_Q TM G (some (.int r)) τ) args s 0 0 (x_A TM G)) TM G 8 104 [(0, .ref (x_ad G 0)), (2, .int x2), (3, .int x3), (4, .int x4), (5, .int x5), (6, .int x6), (7, .int x7)] [] σ := by
  have hG : x_OK TM G := C.2.2.2.2.2.2.2.2.1
  rw [F_X9_termOf_104] at h
  refine x_aload_n C 0 dX9_termOf_104 rfl rfl ?_
  refine x_getRq C (k := 46) kM_0 (by decide) rfl x_in9 (by decide) (by decide) rfl rfl wd_1254 rfM_0_46 dX9_termOf_105 ?_
  refine x_iload_n C 2 dX9_termOf_108 rfl rfl ?_
  refine x_iconst C (1 : Int32) dX9_termOf_109 (by decide) ?_
  refine x_isub C dX9_termOf_110 ?_
  refine x_iload C 4 dX9_termOf_111 rfl ?_
  refine x_iconst C (2 : Int32) dX9_termOf_113 (by decide) ?_
  refine x_icmp_ne C 125 dX9_termOf_114 rfl (fun hc => ?_) (fun hc => ?_)
  · replace h := x_itn hc h
    refine x_iload C 4 dX9_termOf_125 rfl ?_
    refine x_iconst C (3 : Int32) dX9_termOf_127 (by decide) ?_
    refine x_icmp_ne C 139 dX9_termOf_128 rfl (fun hc => ?_) (fun hc => ?_)
    · replace h := x_itn hc h
      refine x_iload C 4 dX9_termOf_139 rfl ?_
      refine x_iconst C (4 : Int32) dX9_termOf_141 (by decide) ?_
      refine x_icmp_ne C 153 dX9_termOf_142 rfl (fun hc => ?_) (fun hc => ?_)
      · replace h := x_itn hc h
        refine x_iload C 5 dX9_termOf_153 rfl ?_
        refine x_iload C 6 dX9_termOf_155 rfl ?_
        obtain ⟨hg, h⟩ := x_gd_some h
        refine x_idiv C dX9_termOf_157 (x_ne0 hg) ?_
        exact x_sub [0, 1, 2, 3] rfl (w_X9_termOf_158 C hk5 x2 x3 x4 (x6 / x7) (x3 - (1 : Int32)) σ h)
      · replace h := x_itp hc h
        refine x_iload C 5 dX9_termOf_145 rfl ?_
        refine x_iload C 6 dX9_termOf_147 rfl ?_
        refine x_imul C dX9_termOf_149 ?_
        refine x_goto C 158 dX9_termOf_150 rfl ?_
        exact x_sub [0, 1, 2, 3] rfl (w_X9_termOf_158 C hk5 x2 x3 x4 (x6 * x7) (x3 - (1 : Int32)) σ h)
    · replace h := x_itp hc h
      refine x_iload C 5 dX9_termOf_131 rfl ?_
      refine x_iload C 6 dX9_termOf_133 rfl ?_
      refine x_isub C dX9_termOf_135 ?_
      refine x_goto C 158 dX9_termOf_136 rfl ?_
      exact x_sub [0, 1, 2, 3] rfl (w_X9_termOf_158 C hk5 x2 x3 x4 (x6 - x7) (x3 - (1 : Int32)) σ h)
  · replace h := x_itp hc h
    refine x_iload C 5 dX9_termOf_117 rfl ?_
    refine x_iload C 6 dX9_termOf_119 rfl ?_
    refine x_iadd C dX9_termOf_121 ?_
    refine x_goto C 158 dX9_termOf_122 rfl ?_
    exact x_sub [0, 1, 2, 3] rfl (w_X9_termOf_158 C hk5 x2 x3 x4 (x6 + x7) (x3 - (1 : Int32)) σ h)
set_option maxHeartbeats 4000000 in
set_option maxRecDepth 100000 in
theorem w_X9_termOf_58 {r : Int32} {τ : x_Hp} (C : x_C p s m args meth c cX9_termOf 8 (some .int) yX9_termOf.cls TM G) {k5 : Int32 → Int32 → Int32 → x_Hp → Option (Int32 × x_Hp)} (hk5 : ∀ (x2 : Int32) (x3 : Int32) (x4 : Int32) (σ : x_Hp) (h : k5 x2 x3 x4 σ = some (r, τ)), x_W p l e rm_X9_termOf s m args below meth c (MQ below (x_Q TM G (some (.int r)) τ) args s 0 0 (x_A TM G)) TM G 8 5 [(0, .ref (x_ad G 0)), (2, .int x2), (3, .int x3), (4, .int x4)] [] σ) (x2 : Int32) (x3 : Int32) (x4 : Int32) (s0 : Int32) (s1 : Int32) (σ : x_Hp) (h : F_X9_termOf_58 k5 x2 x3 x4 s0 s1 σ = some (r, τ)) : x_W p l e rm_X9_termOf s m args below meth c (MQ below (x_Q TM G (some (.int r)) τ) args s 0 0 (x_A TM G)) TM G 8 58 [(0, .ref (x_ad G 0)), (2, .int x2), (3, .int x3), (4, .int x4)] [.int s0, .int s1, .ref (x_ad G 30)] σ := by
  have hG : x_OK TM G := C.2.2.2.2.2.2.2.2.1
  rw [F_X9_termOf_58] at h
  obtain ⟨hi8, h⟩ := x_gd_some h
  refine x_iast C kM_30 (x_inl lnM_30 hi8) dX9_termOf_58 (x_gen h fun σ9 h => ?_)
  refine x_iinc C 2 (x3 + (1 : Int32)) [(3, .int (x3 + (1 : Int32))), (0, .ref (x_ad G 0)), (2, .int x2), (4, .int x4)] dX9_termOf_59 rfl rfl (by decide) rfl ?_
  refine x_goto C 159 dX9_termOf_62 rfl ?_
  exact x_sub [1, 2, 0, 3] rfl (w_X9_termOf_159 C hk5 x2 (x3 + (1 : Int32)) x4 σ9 h)
set_option maxHeartbeats 4000000 in
set_option maxRecDepth 100000 in
theorem w_X9_termOf_5 {r : Int32} {τ : x_Hp} (C : x_C p s m args meth c cX9_termOf 8 (some .int) yX9_termOf.cls TM G) : ∀ (n : Nat) (x2 : Int32) (x3 : Int32) (x4 : Int32) (σ : x_Hp) (h : F_X9_termOf_5 n x2 x3 x4 σ = some (r, τ)), x_W p l e rm_X9_termOf s m args below meth c (MQ below (x_Q TM G (some (.int r)) τ) args s 0 0 (x_A TM G)) TM G 8 5 [(0, .ref (x_ad G 0)), (2, .int x2), (3, .int x3), (4, .int x4)] [] σ := by
  intro n
  induction n with
  | zero => intro x2 x3 x4 σ  h; cases h
  | succ n ih =>
    intro x2 x3 x4 σ  h
    have hG : x_OK TM G := C.2.2.2.2.2.2.2.2.1
    rw [F_X9_termOf_5] at h
    refine x_iload C 3 dX9_termOf_5 rfl ?_
    refine x_iload_n C 1 dX9_termOf_7 rfl rfl ?_
    refine x_icmp_ge C 165 dX9_termOf_8 rfl (fun hc => ?_) (fun hc => ?_)
    · replace h := x_itp hc h
      refine x_aload_n C 0 dX9_termOf_165 rfl rfl ?_
      refine x_getRq C (k := 46) kM_0 (by decide) rfl x_in9 (by decide) (by decide) rfl rfl wd_1254 rfM_0_46 dX9_termOf_166 ?_
      refine x_iconst C (0 : Int32) dX9_termOf_169 (by decide) ?_
      refine x_ialdJ C kM_30 (x_inl lnM_30 (by decide)) (j := 0) (by decide) dX9_termOf_170 ?_
      obtain ⟨rfl, rfl⟩ := x_ret h
      exact x_iret C dX9_termOf_171
    · replace h := x_itn hc h
      refine x_aload_n C 0 dX9_termOf_11 rfl rfl ?_
      refine x_getRq C (k := 41) kM_0 (by decide) rfl x_in9 (by decide) (by decide) rfl rfl wd_1249 rfM_0_41 dX9_termOf_12 ?_
      refine x_iload C 3 dX9_termOf_15 rfl ?_
      obtain ⟨hi1, h⟩ := x_gd_some h
      refine x_iald C kM_26 (x_inl lnM_26 hi1) dX9_termOf_17 ?_
      refine x_istore C [(5, .int (σ.1 26 (x_ix x4))), (0, .ref (x_ad G 0)), (2, .int x2), (3, .int x3), (4, .int x4)] dX9_termOf_18 (by decide) rfl ?_
      refine x_iload C 0 dX9_termOf_20 rfl ?_
      refine x_iconst C (2 : Int32) dX9_termOf_22 (by decide) ?_
      refine x_icmp_ge C 65 dX9_termOf_23 rfl (fun hc => ?_) (fun hc => ?_)
      · replace h := x_itp hc h
        refine x_iinc C 3 (x3 + (-1 : Int32)) [(3, .int (x3 + (-1 : Int32))), (5, .int (σ.1 26 (x_ix x4))), (0, .ref (x_ad G 0)), (2, .int x2), (4, .int x4)] dX9_termOf_65 rfl rfl (by decide) rfl ?_
        refine x_aload_n C 2 dX9_termOf_68 rfl rfl ?_
        refine x_getRq C (k := 46) kM_0 (by decide) rfl x_in9 (by decide) (by decide) rfl rfl wd_1254 rfM_0_46 dX9_termOf_69 ?_
        refine x_iload_n C 0 dX9_termOf_72 rfl rfl ?_
        refine x_iconst C (1 : Int32) dX9_termOf_73 (by decide) ?_
        refine x_isub C dX9_termOf_74 ?_
        obtain ⟨hi2, h⟩ := x_gd_some h
        refine x_iald C kM_30 (x_inl lnM_30 hi2) dX9_termOf_75 ?_
        refine x_istore C [(6, .int (σ.1 30 (x_ix ((x3 + (-1 : Int32)) - (1 : Int32))))), (3, .int (x3 + (-1 : Int32))), (5, .int (σ.1 26 (x_ix x4))), (0, .ref (x_ad G 0)), (2, .int x2), (4, .int x4)] dX9_termOf_76 (by decide) rfl ?_
        refine x_aload_n C 3 dX9_termOf_78 rfl rfl ?_
        refine x_getRq C (k := 46) kM_0 (by decide) rfl x_in9 (by decide) (by decide) rfl rfl wd_1254 rfM_0_46 dX9_termOf_79 ?_
        refine x_iload_n C 1 dX9_termOf_82 rfl rfl ?_
        obtain ⟨hi3, h⟩ := x_gd_some h
        refine x_iald C kM_30 (x_inl lnM_30 hi3) dX9_termOf_83 ?_
        refine x_istore C [(7, .int (σ.1 30 (x_ix (x3 + (-1 : Int32))))), (6, .int (σ.1 30 (x_ix ((x3 + (-1 : Int32)) - (1 : Int32))))), (3, .int (x3 + (-1 : Int32))), (5, .int (σ.1 26 (x_ix x4))), (0, .ref (x_ad G 0)), (2, .int x2), (4, .int x4)] dX9_termOf_84 (by decide) rfl ?_
        refine x_iload C 3 dX9_termOf_86 rfl ?_
        refine x_iconst C (5 : Int32) dX9_termOf_88 (by decide) ?_
        refine x_icmp_ne C 104 dX9_termOf_89 rfl (fun hc => ?_) (fun hc => ?_)
        · replace h := x_itn hc h
          exact x_sub [4, 5, 2, 6, 3, 1, 0] rfl (w_X9_termOf_104 C ih x2 (x3 + (-1 : Int32)) x4 (σ.1 26 (x_ix x4)) (σ.1 30 (x_ix ((x3 + (-1 : Int32)) - (1 : Int32)))) (σ.1 30 (x_ix (x3 + (-1 : Int32)))) σ h)
        · replace h := x_itp hc h
          refine x_iload C 0 dX9_termOf_92 rfl ?_
          refine x_if_ne C 104 dX9_termOf_94 rfl (fun hc => ?_) (fun hc => ?_)
          · replace h := x_itn hc h
            exact x_sub [4, 5, 2, 6, 3, 1, 0] rfl (w_X9_termOf_104 C ih x2 (x3 + (-1 : Int32)) x4 (σ.1 26 (x_ix x4)) (σ.1 30 (x_ix ((x3 + (-1 : Int32)) - (1 : Int32)))) (σ.1 30 (x_ix (x3 + (-1 : Int32)))) σ h)
          · replace h := x_itp hc h
            refine x_aload_n C 4 dX9_termOf_97 rfl rfl ?_
            refine x_iconst C (1 : Int32) dX9_termOf_98 (by decide) ?_
            refine x_putI C (k := 47) tyX9 kM_0 (by decide) rfl x_in9 tyX9_ok nmX9 (by decide) (by decide) rfl rfl wd_1255 rfl (tyX9_ok 47 (by decide)) rfl rfl dX9_termOf_99 (x_gen h fun σ4 h => ?_)
            refine x_iconst C (0 : Int32) dX9_termOf_102 (by decide) ?_
            obtain ⟨rfl, rfl⟩ := x_ret h
            exact x_iret C dX9_termOf_103
      · replace h := x_itn hc h
        refine x_aload_n C 1 dX9_termOf_26 rfl rfl ?_
        refine x_getRq C (k := 46) kM_0 (by decide) rfl x_in9 (by decide) (by decide) rfl rfl wd_1254 rfM_0_46 dX9_termOf_27 ?_
        refine x_iload_n C 3 dX9_termOf_30 rfl rfl ?_
        refine x_iload C 0 dX9_termOf_31 rfl ?_
        refine x_if_ne C 46 dX9_termOf_33 rfl (fun hc => ?_) (fun hc => ?_)
        · replace h := x_itn hc h
          refine x_aload_n C 1 dX9_termOf_46 rfl rfl ?_
          refine x_getRq C (k := 45) kM_0 (by decide) rfl x_in9 (by decide) (by decide) rfl rfl wd_1253 rfM_0_45 dX9_termOf_47 ?_
          refine x_aload_n C 1 dX9_termOf_50 rfl rfl ?_
          refine x_getRq C (k := 42) kM_0 (by decide) rfl x_in9 (by decide) (by decide) rfl rfl wd_1250 rfM_0_42 dX9_termOf_51 ?_
          refine x_iload C 4 dX9_termOf_54 rfl ?_
          obtain ⟨hi5, h⟩ := x_gd_some h
          refine x_iald C kM_27 (x_inl lnM_27 hi5) dX9_termOf_56 ?_
          obtain ⟨hi6, h⟩ := x_gd_some h
          refine x_iald C kM_29 (x_inl lnM_29 hi6) dX9_termOf_57 ?_
          exact x_sub [1, 2, 3, 4] rfl (w_X9_termOf_58 C ih x2 x3 x4 (σ.1 29 (x_ix (σ.1 27 (x_ix x4)))) x3 σ h)
        · replace h := x_itp hc h
          refine x_aload_n C 1 dX9_termOf_36 rfl rfl ?_
          refine x_getRq C (k := 42) kM_0 (by decide) rfl x_in9 (by decide) (by decide) rfl rfl wd_1250 rfM_0_42 dX9_termOf_37 ?_
          refine x_iload C 4 dX9_termOf_40 rfl ?_
          obtain ⟨hi7, h⟩ := x_gd_some h
          refine x_iald C kM_27 (x_inl lnM_27 hi7) dX9_termOf_42 ?_
          refine x_goto C 58 dX9_termOf_43 rfl ?_
          exact x_sub [1, 2, 3, 4] rfl (w_X9_termOf_58 C ih x2 x3 x4 (σ.1 27 (x_ix x4)) x3 σ h)
set_option maxHeartbeats 4000000 in
set_option maxRecDepth 100000 in
theorem c_X9_termOf (hG : x_OK TM G) {x1 : Int32} {x2 : Int32} {σ τ : x_Hp} {r : Int32} (h : F_X9_termOf x1 x2 σ = some (r, τ)) : x_M l TM G yX9_termOf cX9_termOf 8 (some .int) rm_X9_termOf [.ref (x_ad G 0), .int x1, .int x2] σ (some (.int r)) τ := by
  refine x_M.of hG (lv := [(0, .ref (x_ad G 0)), (1, .int x1), (2, .int x2)]) (by decide) (Nat.le_of_ble_eq_true rfl) rfl (fun p e s m below meth c C => ?_)
  rw [F_X9_termOf] at h
  refine x_iconst C (0 : Int32) dX9_termOf_0 (by decide) ?_
  refine x_istore_n C [(3, .int (0 : Int32)), (0, .ref (x_ad G 0)), (1, .int x1), (2, .int x2)] dX9_termOf_1 rfl (by decide) rfl ?_
  refine x_iload_n C 2 dX9_termOf_2 rfl rfl ?_
  refine x_istore C [(4, .int x1), (3, .int (0 : Int32)), (0, .ref (x_ad G 0)), (1, .int x1), (2, .int x2)] dX9_termOf_3 (by decide) rfl ?_
  exact x_sub [2, 4, 1, 0] rfl (w_X9_termOf_5 C x_fuel x2 (0 : Int32) x1 σ h)
abbrev rm_X9_in : Room := { frames := 0, cells := 0, slots := 0, locals := 0 }
set_option maxHeartbeats 4000000 in
set_option maxRecDepth 100000 in
theorem c_X9_in (hG : x_OK TM G) {x0 : Int32} {x1 : Int32} {x2 : Int32} {σ τ : x_Hp} {r : Int32} (h : F_X9_in x0 x1 x2 σ = some (r, τ)) : x_M l TM G yX9_in cX9_in 3 (some .boolean) rm_X9_in [.int x0, .int x1, .int x2] σ (some (.int r)) τ := by
  refine x_M.of hG (lv := [(0, .int x0), (1, .int x1), (2, .int x2)]) (by decide) (Nat.le_of_ble_eq_true rfl) rfl (fun p e s m below meth c C => ?_)
  rw [F_X9_in] at h
  refine x_iload_n C 0 dX9_in_0 rfl rfl ?_
  refine x_iload_n C 1 dX9_in_1 rfl rfl ?_
  refine x_icmp_lt C 14 dX9_in_2 rfl (fun hc => ?_) (fun hc => ?_)
  · replace h := x_itp hc h
    refine x_iconst C (0 : Int32) dX9_in_14 (by decide) ?_
    obtain ⟨rfl, rfl⟩ := x_ret h
    exact x_zret C rfl dX9_in_15
  · replace h := x_itn hc h
    refine x_iload_n C 0 dX9_in_5 rfl rfl ?_
    refine x_iload_n C 2 dX9_in_6 rfl rfl ?_
    refine x_icmp_gt C 14 dX9_in_7 rfl (fun hc => ?_) (fun hc => ?_)
    · replace h := x_itp hc h
      refine x_iconst C (0 : Int32) dX9_in_14 (by decide) ?_
      obtain ⟨rfl, rfl⟩ := x_ret h
      exact x_zret C rfl dX9_in_15
    · replace h := x_itn hc h
      refine x_iconst C (1 : Int32) dX9_in_10 (by decide) ?_
      refine x_goto C 15 dX9_in_11 rfl ?_
      obtain ⟨rfl, rfl⟩ := x_ret h
      exact x_zret C rfl dX9_in_15
abbrev rm_X9_copies : Room := { frames := 1, cells := 0, slots := 0, locals := 20 }
set_option maxHeartbeats 4000000 in
set_option maxRecDepth 100000 in
theorem w_X9_copies_2 {τ : x_Hp} (C : x_C p s m args meth c cX9_copies 2 none yX9_copies.cls TM G) : ∀ (n : Nat) (x1 : Int32) (σ : x_Hp) (h : F_X9_copies_2 n x1 σ = some ((), τ)), x_W p l e rm_X9_copies s m args below meth c (MQ below (x_Q TM G none τ) args s 0 0 (x_A TM G)) TM G 2 2 [(0, .ref (x_ad G 0)), (1, .int x1)] [] σ := by
  intro n
  induction n with
  | zero => intro x1 σ  h; cases h
  | succ n ih =>
    intro x1 σ  h
    have hG : x_OK TM G := C.2.2.2.2.2.2.2.2.1
    rw [F_X9_copies_2] at h
    refine x_iload_n C 1 dX9_copies_2 rfl rfl ?_
    refine x_bipush C (60 : Int32) dX9_copies_3 (by decide) ?_
    refine x_icmp_ge C 26 dX9_copies_5 rfl (fun hc => ?_) (fun hc => ?_)
    · replace h := x_itp hc h
      refine x_aload_n C 0 dX9_copies_26 rfl rfl ?_
      obtain ⟨v1, σ1, hc1, h⟩ := x_b_some h
      refine x_callV C (n := 0) (c_X9_plainly hG hc1) kM_0 (by decide) rfl wd_1201 wd_1203 wd_48 wd_111 wd_1204 (by decide +kernel) rfl ⟨Nat.le_of_ble_eq_true rfl, Nat.le_of_ble_eq_true rfl⟩ ⟨rfl, rfl⟩ rfl (Nat.le_of_ble_eq_true rfl) dX9_copies_27 ?_
      obtain ⟨-, rfl⟩ := x_ret h
      exact x_vret C dX9_copies_30
    · replace h := x_itn hc h
      refine x_aload_n C 0 dX9_copies_8 rfl rfl ?_
      refine x_getRq C (k := 49) kM_0 (by decide) rfl x_in9 (by decide) (by decide) rfl rfl wd_1257 rfM_0_49 dX9_copies_9 ?_
      refine x_iload_n C 1 dX9_copies_12 rfl rfl ?_
      refine x_aload_n C 0 dX9_copies_13 rfl rfl ?_
      refine x_getRq C (k := 48) kM_0 (by decide) rfl x_in9 (by decide) (by decide) rfl rfl wd_1256 rfM_0_48 dX9_copies_14 ?_
      refine x_iload_n C 1 dX9_copies_17 rfl rfl ?_
      obtain ⟨hi2, h⟩ := x_gd_some h
      refine x_iald C kM_31 (x_inl lnM_31 hi2) dX9_copies_18 ?_
      obtain ⟨hi3, h⟩ := x_gd_some h
      refine x_iast C kM_32 (x_inl lnM_32 hi3) dX9_copies_19 (x_gen h fun σ4 h => ?_)
      refine x_iinc C 1 (x1 + (1 : Int32)) [(1, .int (x1 + (1 : Int32))), (0, .ref (x_ad G 0))] dX9_copies_20 rfl rfl (by decide) rfl ?_
      refine x_goto C 2 dX9_copies_23 rfl ?_
      exact x_sub [1, 0] rfl (ih (x1 + (1 : Int32)) σ4 h)
set_option maxHeartbeats 4000000 in
set_option maxRecDepth 100000 in
theorem c_X9_copies (hG : x_OK TM G) {σ τ : x_Hp} (h : F_X9_copies σ = some ((), τ)) : x_M l TM G yX9_copies cX9_copies 2 none rm_X9_copies [.ref (x_ad G 0)] σ none τ := by
  refine x_M.of hG (lv := [(0, .ref (x_ad G 0))]) (by decide) (Nat.le_of_ble_eq_true rfl) rfl (fun p e s m below meth c C => ?_)
  rw [F_X9_copies] at h
  refine x_iconst C (0 : Int32) dX9_copies_0 (by decide) ?_
  refine x_istore_n C [(1, .int (0 : Int32)), (0, .ref (x_ad G 0))] dX9_copies_1 rfl (by decide) rfl ?_
  exact x_sub [1, 0] rfl (w_X9_copies_2 C x_fuel (0 : Int32) σ h)
abbrev rm_X9_mixed : Room := { frames := 0, cells := 0, slots := 0, locals := 0 }
set_option maxHeartbeats 4000000 in
set_option maxRecDepth 100000 in
theorem c_X9_mixed (hG : x_OK TM G) {x0 : Int32} {x1 : Int32} {σ τ : x_Hp} {r : Int32} (h : F_X9_mixed x0 x1 σ = some (r, τ)) : x_M l TM G yX9_mixed cX9_mixed 3 (some .int) rm_X9_mixed [.int x0, .int x1] σ (some (.int r)) τ := by
  refine x_M.of hG (lv := [(0, .int x0), (1, .int x1)]) (by decide) (Nat.le_of_ble_eq_true rfl) rfl (fun p e s m below meth c C => ?_)
  rw [F_X9_mixed] at h
  refine x_iload_n C 0 dX9_mixed_0 rfl rfl ?_
  refine x_iload_n C 1 dX9_mixed_1 rfl rfl ?_
  refine x_ixor C dX9_mixed_2 ?_
  refine x_ldcw C wd_1592 dX9_mixed_3 ?_
  refine x_imul C dX9_mixed_6 ?_
  refine x_sipush C (12345 : Int32) dX9_mixed_7 (by decide) ?_
  refine x_iadd C dX9_mixed_10 ?_
  refine x_istore_n C [(2, .int (((x0 ^^^ x1) * (1103515245 : Int32)) + (12345 : Int32))), (0, .int x0), (1, .int x1)] dX9_mixed_11 rfl (by decide) rfl ?_
  refine x_iload_n C 0 dX9_mixed_12 rfl rfl ?_
  refine x_iload_n C 0 dX9_mixed_13 rfl rfl ?_
  refine x_bipush C (15 : Int32) dX9_mixed_14 (by decide) ?_
  refine x_iushr C dX9_mixed_16 ?_
  refine x_ixor C dX9_mixed_17 ?_
  obtain ⟨rfl, rfl⟩ := x_ret h
  exact x_iret C dX9_mixed_18
abbrev rm_X9_lotNow : Room := { frames := 1, cells := 0, slots := 0, locals := 22 }
set_option maxHeartbeats 4000000 in
set_option maxRecDepth 100000 in
theorem c_X9_lotNow (hG : x_OK TM G) {σ τ : x_Hp} {r : Int32} (h : F_X9_lotNow σ = some (r, τ)) : x_M l TM G yX9_lotNow cX9_lotNow 1 (some .int) rm_X9_lotNow [.ref (x_ad G 0)] σ (some (.int r)) τ := by
  refine x_M.of hG (lv := [(0, .ref (x_ad G 0))]) (by decide) (Nat.le_of_ble_eq_true rfl) rfl (fun p e s m below meth c C => ?_)
  rw [F_X9_lotNow] at h
  refine x_aload_n C 0 dX9_lotNow_0 rfl rfl ?_
  refine x_getI C (k := 50) kM_0 (by decide) rfl x_in9 (by decide) (by decide) rfl rfl wd_1258 dX9_lotNow_1 ?_
  refine x_bipush C (37 : Int32) dX9_lotNow_4 (by decide) ?_
  obtain ⟨v1, σ1, hc1, h⟩ := x_b_some h
  refine x_callS C (n := 2) (c_X9_mixed hG hc1) wd_1589 wd_1590 wd_111 wd_1591 (by decide +kernel) rfl ⟨Nat.le_of_ble_eq_true rfl, Nat.le_of_ble_eq_true rfl⟩ ⟨rfl, rfl⟩ rfl (Nat.le_of_ble_eq_true rfl) dX9_lotNow_6 ?_
  refine x_aload_n C 0 dX9_lotNow_9 rfl rfl ?_
  refine x_getRq C (k := 49) kM_0 (by decide) rfl x_in9 (by decide) (by decide) rfl rfl wd_1257 rfM_0_49 dX9_lotNow_10 ?_
  refine x_bipush C (12 : Int32) dX9_lotNow_13 (by decide) ?_
  refine x_ialdJ C kM_32 (x_inl lnM_32 (by decide)) (j := 12) (by decide) dX9_lotNow_15 ?_
  obtain ⟨v2, σ2, hc2, h⟩ := x_b_some h
  refine x_callS C (n := 2) (c_X9_mixed hG hc2) wd_1589 wd_1590 wd_111 wd_1591 (by decide +kernel) rfl ⟨Nat.le_of_ble_eq_true rfl, Nat.le_of_ble_eq_true rfl⟩ ⟨rfl, rfl⟩ rfl (Nat.le_of_ble_eq_true rfl) dX9_lotNow_16 ?_
  refine x_iconst C (1 : Int32) dX9_lotNow_19 (by decide) ?_
  refine x_iushr C dX9_lotNow_20 ?_
  refine x_bipush C (100 : Int32) dX9_lotNow_21 (by decide) ?_
  refine x_irem C dX9_lotNow_23 (by decide) ?_
  obtain ⟨rfl, rfl⟩ := x_ret h
  exact x_iret C dX9_lotNow_24
abbrev rm_X9_held : Room := { frames := 0, cells := 0, slots := 0, locals := 0 }
set_option maxHeartbeats 4000000 in
set_option maxRecDepth 100000 in
theorem c_X9_held (hG : x_OK TM G) {x0 : Int32} {x1 : Int32} {x2 : Int32} {σ τ : x_Hp} {r : Int32} (h : F_X9_held x0 x1 x2 σ = some (r, τ)) : x_M l TM G yX9_held cX9_held 3 (some .int) rm_X9_held [.int x0, .int x1, .int x2] σ (some (.int r)) τ := by
  refine x_M.of hG (lv := [(0, .int x0), (1, .int x1), (2, .int x2)]) (by decide) (Nat.le_of_ble_eq_true rfl) rfl (fun p e s m below meth c C => ?_)
  rw [F_X9_held] at h
  refine x_iload_n C 0 dX9_held_0 rfl rfl ?_
  refine x_iload_n C 1 dX9_held_1 rfl rfl ?_
  refine x_icmp_ge C 9 dX9_held_2 rfl (fun hc => ?_) (fun hc => ?_)
  · replace h := x_itp hc h
    refine x_iload_n C 0 dX9_held_9 rfl rfl ?_
    refine x_iload_n C 2 dX9_held_10 rfl rfl ?_
    refine x_icmp_le C 18 dX9_held_11 rfl (fun hc => ?_) (fun hc => ?_)
    · replace h := x_itp hc h
      refine x_iload_n C 0 dX9_held_18 rfl rfl ?_
      obtain ⟨rfl, rfl⟩ := x_ret h
      exact x_iret C dX9_held_19
    · replace h := x_itn hc h
      refine x_iload_n C 2 dX9_held_14 rfl rfl ?_
      refine x_goto C 19 dX9_held_15 rfl ?_
      obtain ⟨rfl, rfl⟩ := x_ret h
      exact x_iret C dX9_held_19
  · replace h := x_itn hc h
    refine x_iload_n C 1 dX9_held_5 rfl rfl ?_
    refine x_goto C 19 dX9_held_6 rfl ?_
    obtain ⟨rfl, rfl⟩ := x_ret h
    exact x_iret C dX9_held_19
abbrev rm_X9_tells : Room := { frames := 1, cells := 0, slots := 0, locals := 27 }
set_option maxHeartbeats 4000000 in
set_option maxRecDepth 100000 in
theorem w_X9_tells_257 {r : Int32} {τ : x_Hp} (C : x_C p s m args meth c cX9_tells 10 (some .int) yX9_tells.cls TM G) (x3 : Int32) (x4 : Int32) (x7 : Int32) (σ : x_Hp) (h : F_X9_tells_257 x3 x4 x7 σ = some (r, τ)) : x_W p l e rm_X9_tells s m args below meth c (MQ below (x_Q TM G (some (.int r)) τ) args s 0 0 (x_A TM G)) TM G 10 257 [(0, .ref (x_ad G 0)), (3, .int x3), (4, .int x4), (7, .int x7)] [] σ := by
  have hG : x_OK TM G := C.2.2.2.2.2.2.2.2.1
  rw [F_X9_tells_257] at h
  refine x_aload_n C 0 dX9_tells_257 rfl rfl ?_
  refine x_aload_n C 0 dX9_tells_258 rfl rfl ?_
  refine x_getRq C (k := 38) kM_0 (by decide) rfl x_in9 (by decide) (by decide) rfl rfl wd_1246 rfM_0_38 dX9_tells_259 ?_
  refine x_iload C 3 dX9_tells_262 rfl ?_
  obtain ⟨hi25, h⟩ := x_gd_some h
  refine x_iald C kM_24 (x_inl lnM_24 hi25) dX9_tells_264 ?_
  refine x_aload_n C 0 dX9_tells_265 rfl rfl ?_
  refine x_getRq C (k := 39) kM_0 (by decide) rfl x_in9 (by decide) (by decide) rfl rfl wd_1247 rfM_0_39 dX9_tells_266 ?_
  refine x_iload C 3 dX9_tells_269 rfl ?_
  obtain ⟨hi26, h⟩ := x_gd_some h
  refine x_iald C kM_25 (x_inl lnM_25 hi26) dX9_tells_271 ?_
  obtain ⟨v27, σ27, hc27, h⟩ := x_b_some h
  refine x_callV C (n := 2) (c_X9_termOf hG hc27) kM_0 (by decide) rfl wd_1558 wd_1560 wd_73 wd_111 wd_1561 (by decide +kernel) rfl ⟨Nat.le_of_ble_eq_true rfl, Nat.le_of_ble_eq_true rfl⟩ ⟨rfl, rfl⟩ rfl (Nat.le_of_ble_eq_true rfl) dX9_tells_272 ?_
  refine x_istore C [(8, .int v27), (0, .ref (x_ad G 0)), (3, .int x3), (4, .int x4), (7, .int x7)] dX9_tells_275 (by decide) rfl ?_
  refine x_aload_n C 1 dX9_tells_277 rfl rfl ?_
  refine x_getI C (k := 47) kM_0 (by decide) rfl x_in9 (by decide) (by decide) rfl rfl wd_1255 dX9_tells_278 ?_
  refine x_if_eq C 288 dX9_tells_281 rfl (fun hc => ?_) (fun hc => ?_)
  · replace h := x_itp hc h
    refine x_iload C 0 dX9_tells_288 rfl ?_
    refine x_iload_n C 2 dX9_tells_290 rfl rfl ?_
    refine x_iload C 3 dX9_tells_291 rfl ?_
    obtain ⟨v28, σ28, hc28, h⟩ := x_b_some h
    refine x_callS C (n := 3) (c_X9_held hG hc28) wd_1562 wd_1563 wd_111 wd_1564 (by decide +kernel) rfl ⟨Nat.le_of_ble_eq_true rfl, Nat.le_of_ble_eq_true rfl⟩ ⟨rfl, rfl⟩ rfl (Nat.le_of_ble_eq_true rfl) dX9_tells_293 ?_
    obtain ⟨rfl, rfl⟩ := x_ret h
    exact x_iret C dX9_tells_296
  · replace h := x_itn hc h
    refine x_iconst C (0 : Int32) dX9_tells_284 (by decide) ?_
    refine x_goto C 296 dX9_tells_285 rfl ?_
    obtain ⟨rfl, rfl⟩ := x_ret h
    exact x_iret C dX9_tells_296
set_option maxHeartbeats 4000000 in
set_option maxRecDepth 100000 in
theorem w_X9_tells_176 {r : Int32} {τ : x_Hp} (C : x_C p s m args meth c cX9_tells 10 (some .int) yX9_tells.cls TM G) : ∀ (n : Nat) (x3 : Int32) (x4 : Int32) (x5 : Int32) (x7 : Int32) (σ : x_Hp) (h : F_X9_tells_176 n x3 x4 x5 x7 σ = some (r, τ)), x_W p l e rm_X9_tells s m args below meth c (MQ below (x_Q TM G (some (.int r)) τ) args s 0 0 (x_A TM G)) TM G 10 176 [(0, .ref (x_ad G 0)), (3, .int x3), (4, .int x4), (5, .int x5), (7, .int x7)] [] σ := by
  intro n
  induction n with
  | zero => intro x3 x4 x5 x7 σ  h; cases h
  | succ n ih =>
    intro x3 x4 x5 x7 σ  h
    have hG : x_OK TM G := C.2.2.2.2.2.2.2.2.1
    rw [F_X9_tells_176] at h
    refine x_iload C 4 dX9_tells_176 rfl ?_
    refine x_aload_n C 0 dX9_tells_178 rfl rfl ?_
    refine x_getRq C (k := 33) kM_0 (by decide) rfl x_in9 (by decide) (by decide) rfl rfl wd_1241 rfM_0_33 dX9_tells_179 ?_
    refine x_iload C 3 dX9_tells_182 rfl ?_
    obtain ⟨hi17, h⟩ := x_gd_some h
    refine x_iald C kM_20 (x_inl lnM_20 hi17) dX9_tells_184 ?_
    refine x_icmp_ge C 303 dX9_tells_185 rfl (fun hc => ?_) (fun hc => ?_)
    · replace h := x_itp hc h
      refine x_iconst C (0 : Int32) dX9_tells_303 (by decide) ?_
      obtain ⟨rfl, rfl⟩ := x_ret h
      exact x_iret C dX9_tells_304
    · replace h := x_itn hc h
      refine x_aload_n C 0 dX9_tells_188 rfl rfl ?_
      refine x_getRq C (k := 35) kM_0 (by decide) rfl x_in9 (by decide) (by decide) rfl rfl wd_1243 rfM_0_35 dX9_tells_189 ?_
      refine x_iload C 4 dX9_tells_192 rfl ?_
      obtain ⟨hi18, h⟩ := x_gd_some h
      refine x_zald C kM_21 (x_inl lnM_21 hi18) dX9_tells_194 ?_
      refine x_if_eq C 257 dX9_tells_195 rfl (fun hc => ?_) (fun hc => ?_)
      · replace h := x_itp hc h
        exact x_sub [0, 1, 2, 4] rfl (w_X9_tells_257 C x3 x4 x7 σ h)
      · replace h := x_itn hc h
        refine x_aload_n C 0 dX9_tells_198 rfl rfl ?_
        refine x_aload_n C 0 dX9_tells_199 rfl rfl ?_
        refine x_getRq C (k := 36) kM_0 (by decide) rfl x_in9 (by decide) (by decide) rfl rfl wd_1244 rfM_0_36 dX9_tells_200 ?_
        refine x_iload C 4 dX9_tells_203 rfl ?_
        obtain ⟨hi19, h⟩ := x_gd_some h
        refine x_iald C kM_22 (x_inl lnM_22 hi19) dX9_tells_205 ?_
        refine x_aload_n C 0 dX9_tells_206 rfl rfl ?_
        refine x_getRq C (k := 37) kM_0 (by decide) rfl x_in9 (by decide) (by decide) rfl rfl wd_1245 rfM_0_37 dX9_tells_207 ?_
        refine x_iload C 4 dX9_tells_210 rfl ?_
        obtain ⟨hi20, h⟩ := x_gd_some h
        refine x_iald C kM_23 (x_inl lnM_23 hi20) dX9_tells_212 ?_
        obtain ⟨v21, σ21, hc21, h⟩ := x_b_some h
        refine x_callV C (n := 2) (c_X9_termOf hG hc21) kM_0 (by decide) rfl wd_1558 wd_1560 wd_73 wd_111 wd_1561 (by decide +kernel) rfl ⟨Nat.le_of_ble_eq_true rfl, Nat.le_of_ble_eq_true rfl⟩ ⟨rfl, rfl⟩ rfl (Nat.le_of_ble_eq_true rfl) dX9_tells_213 ?_
        refine x_istore C [(8, .int v21), (0, .ref (x_ad G 0)), (3, .int x3), (4, .int x4), (5, .int x5), (7, .int x7)] dX9_tells_216 (by decide) rfl ?_
        refine x_aload_n C 1 dX9_tells_218 rfl rfl ?_
        refine x_aload_n C 1 dX9_tells_219 rfl rfl ?_
        refine x_getRq C (k := 37) kM_0 (by decide) rfl x_in9 (by decide) (by decide) rfl rfl wd_1245 rfM_0_37 dX9_tells_220 ?_
        refine x_iload C 5 dX9_tells_223 rfl ?_
        obtain ⟨hi22, h⟩ := x_gd_some h
        refine x_iald C kM_23 (x_inl lnM_23 hi22) dX9_tells_225 ?_
        refine x_aload_n C 1 dX9_tells_226 rfl rfl ?_
        refine x_getRq C (k := 38) kM_0 (by decide) rfl x_in9 (by decide) (by decide) rfl rfl wd_1246 rfM_0_38 dX9_tells_227 ?_
        refine x_iload C 5 dX9_tells_230 rfl ?_
        obtain ⟨hi23, h⟩ := x_gd_some h
        refine x_iald C kM_24 (x_inl lnM_24 hi23) dX9_tells_232 ?_
        obtain ⟨v24, σ24, hc24, h⟩ := x_b_some h
        refine x_callV C (n := 2) (c_X9_termOf hG hc24) kM_0 (by decide) rfl wd_1558 wd_1560 wd_73 wd_111 wd_1561 (by decide +kernel) rfl ⟨Nat.le_of_ble_eq_true rfl, Nat.le_of_ble_eq_true rfl⟩ ⟨rfl, rfl⟩ rfl (Nat.le_of_ble_eq_true rfl) dX9_tells_233 ?_
        refine x_istore C [(9, .int v24), (8, .int v21), (0, .ref (x_ad G 0)), (3, .int x3), (4, .int x4), (5, .int x5), (7, .int x7)] dX9_tells_236 (by decide) rfl ?_
        refine x_aload_n C 2 dX9_tells_238 rfl rfl ?_
        refine x_getI C (k := 47) kM_0 (by decide) rfl x_in9 (by decide) (by decide) rfl rfl wd_1255 dX9_tells_239 ?_
        refine x_if_eq C 247 dX9_tells_242 rfl (fun hc => ?_) (fun hc => ?_)
        · replace h := x_itp hc h
          refine x_iload C 1 dX9_tells_247 rfl ?_
          refine x_iload C 0 dX9_tells_249 rfl ?_
          refine x_icmp_lt C 257 dX9_tells_251 rfl (fun hc => ?_) (fun hc => ?_)
          · replace h := x_itp hc h
            exact x_sub [2, 3, 4, 6] rfl (w_X9_tells_257 C x3 x4 x7 σ24 h)
          · replace h := x_itn hc h
            refine x_goto C 297 dX9_tells_254 rfl ?_
            refine x_iinc C 6 (x7 + (1 : Int32)) [(7, .int (x7 + (1 : Int32))), (9, .int v24), (8, .int v21), (0, .ref (x_ad G 0)), (3, .int x3), (4, .int x4), (5, .int x5)] dX9_tells_297 rfl rfl (by decide) rfl ?_
            refine x_goto C 176 dX9_tells_300 rfl ?_
            exact x_sub [3, 4, 5, 6, 0] rfl (ih x3 x4 x5 (x7 + (1 : Int32)) σ24 h)
        · replace h := x_itn hc h
          refine x_iconst C (0 : Int32) dX9_tells_245 (by decide) ?_
          obtain ⟨rfl, rfl⟩ := x_ret h
          exact x_iret C dX9_tells_246
set_option maxHeartbeats 4000000 in
set_option maxRecDepth 100000 in
theorem w_X9_tells_119 {r : Int32} {τ : x_Hp} (C : x_C p s m args meth c cX9_tells 10 (some .int) yX9_tells.cls TM G) (x3 : Int32) (x4 : Int32) (x5 : Int32) (x6 : Int32) (s0 : Int32) (s1 : Int32) (σ : x_Hp) (h : F_X9_tells_119 x3 x4 x5 x6 s0 s1 σ = some (r, τ)) : x_W p l e rm_X9_tells s m args below meth c (MQ below (x_Q TM G (some (.int r)) τ) args s 0 0 (x_A TM G)) TM G 10 119 [(0, .ref (x_ad G 0)), (3, .int x3), (4, .int x4), (5, .int x5), (6, .int x6)] [.int s0, .int s1, .ref (x_ad G 29)] σ := by
  have hG : x_OK TM G := C.2.2.2.2.2.2.2.2.1
  rw [F_X9_tells_119] at h
  obtain ⟨hi8, h⟩ := x_gd_some h
  refine x_iast C kM_29 (x_inl lnM_29 hi8) dX9_tells_119 (x_gen h fun σ9 h => ?_)
  refine x_aload_n C 0 dX9_tells_120 rfl rfl ?_
  refine x_getRq C (k := 45) kM_0 (by decide) rfl x_in9 (by decide) (by decide) rfl rfl wd_1253 rfM_0_45 dX9_tells_121 ?_
  refine x_bipush C (6 : Int32) dX9_tells_124 (by decide) ?_
  refine x_aload_n C 0 dX9_tells_126 rfl rfl ?_
  refine x_getRq C (k := 25) kM_0 (by decide) rfl x_in9 (by decide) (by decide) rfl rfl wd_1233 rfM_0_25 dX9_tells_127 ?_
  refine x_iload C 4 dX9_tells_130 rfl ?_
  obtain ⟨hi10, h⟩ := x_gd_some h
  refine x_iald C kM_12 (x_inl lnM_12 hi10) dX9_tells_132 ?_
  refine x_iastJ C kM_29 (x_inl lnM_29 (by decide)) (j := 6) (by decide) dX9_tells_133 (x_gen h fun σ11 h => ?_)
  refine x_aload_n C 0 dX9_tells_134 rfl rfl ?_
  refine x_getRq C (k := 45) kM_0 (by decide) rfl x_in9 (by decide) (by decide) rfl rfl wd_1253 rfM_0_45 dX9_tells_135 ?_
  refine x_bipush C (7 : Int32) dX9_tells_138 (by decide) ?_
  refine x_aload_n C 0 dX9_tells_140 rfl rfl ?_
  refine x_getRq C (k := 26) kM_0 (by decide) rfl x_in9 (by decide) (by decide) rfl rfl wd_1234 rfM_0_26 dX9_tells_141 ?_
  refine x_iload C 4 dX9_tells_144 rfl ?_
  obtain ⟨hi12, h⟩ := x_gd_some h
  refine x_iald C kM_13 (x_inl lnM_13 hi12) dX9_tells_146 ?_
  refine x_iastJ C kM_29 (x_inl lnM_29 (by decide)) (j := 7) (by decide) dX9_tells_147 (x_gen h fun σ13 h => ?_)
  refine x_aload_n C 0 dX9_tells_148 rfl rfl ?_
  refine x_getRq C (k := 45) kM_0 (by decide) rfl x_in9 (by decide) (by decide) rfl rfl wd_1253 rfM_0_45 dX9_tells_149 ?_
  refine x_bipush C (8 : Int32) dX9_tells_152 (by decide) ?_
  refine x_aload_n C 0 dX9_tells_154 rfl rfl ?_
  refine x_getRq C (k := 49) kM_0 (by decide) rfl x_in9 (by decide) (by decide) rfl rfl wd_1257 rfM_0_49 dX9_tells_155 ?_
  refine x_bipush C (9 : Int32) dX9_tells_158 (by decide) ?_
  refine x_ialdJ C kM_32 (x_inl lnM_32 (by decide)) (j := 9) (by decide) dX9_tells_160 ?_
  refine x_iastJ C kM_29 (x_inl lnM_29 (by decide)) (j := 8) (by decide) dX9_tells_161 (x_gen h fun σ14 h => ?_)
  refine x_aload_n C 0 dX9_tells_162 rfl rfl ?_
  refine x_iconst C (0 : Int32) dX9_tells_163 (by decide) ?_
  refine x_putI C (k := 47) tyX9 kM_0 (by decide) rfl x_in9 tyX9_ok nmX9 (by decide) (by decide) rfl rfl wd_1255 rfl (tyX9_ok 47 (by decide)) rfl rfl dX9_tells_164 (x_gen h fun σ15 h => ?_)
  refine x_aload_n C 0 dX9_tells_167 rfl rfl ?_
  refine x_getRq C (k := 32) kM_0 (by decide) rfl x_in9 (by decide) (by decide) rfl rfl wd_1240 rfM_0_32 dX9_tells_168 ?_
  refine x_iload C 3 dX9_tells_171 rfl ?_
  obtain ⟨hi16, h⟩ := x_gd_some h
  refine x_iald C kM_19 (x_inl lnM_19 hi16) dX9_tells_173 ?_
  refine x_istore C [(7, .int (σ15.1 19 (x_ix x5))), (0, .ref (x_ad G 0)), (3, .int x3), (4, .int x4), (5, .int x5), (6, .int x6)] dX9_tells_174 (by decide) rfl ?_
  exact x_sub [1, 2, 3, 4, 0] rfl (w_X9_tells_176 C x_fuel x3 x4 x5 (σ15.1 19 (x_ix x5)) σ15 h)
set_option maxHeartbeats 4000000 in
set_option maxRecDepth 100000 in
theorem w_X9_tells_49 {r : Int32} {τ : x_Hp} (C : x_C p s m args meth c cX9_tells 10 (some .int) yX9_tells.cls TM G) : ∀ (n : Nat) (x3 : Int32) (x4 : Int32) (x5 : Int32) (x6 : Int32) (x7 : Int32) (σ : x_Hp) (h : F_X9_tells_49 n x3 x4 x5 x6 x7 σ = some (r, τ)), x_W p l e rm_X9_tells s m args below meth c (MQ below (x_Q TM G (some (.int r)) τ) args s 0 0 (x_A TM G)) TM G 10 49 [(0, .ref (x_ad G 0)), (3, .int x3), (4, .int x4), (5, .int x5), (6, .int x6), (7, .int x7)] [] σ := by
  intro n
  induction n with
  | zero => intro x3 x4 x5 x6 x7 σ  h; cases h
  | succ n ih =>
    intro x3 x4 x5 x6 x7 σ  h
    have hG : x_OK TM G := C.2.2.2.2.2.2.2.2.1
    rw [F_X9_tells_49] at h
    refine x_iload C 5 dX9_tells_49 rfl ?_
    refine x_iconst C (4 : Int32) dX9_tells_51 (by decide) ?_
    refine x_icmp_ge C 75 dX9_tells_52 rfl (fun hc => ?_) (fun hc => ?_)
    · replace h := x_itp hc h
      refine x_aload_n C 0 dX9_tells_75 rfl rfl ?_
      refine x_getRq C (k := 45) kM_0 (by decide) rfl x_in9 (by decide) (by decide) rfl rfl wd_1253 rfM_0_45 dX9_tells_76 ?_
      refine x_iconst C (4 : Int32) dX9_tells_79 (by decide) ?_
      refine x_aload_n C 0 dX9_tells_80 rfl rfl ?_
      refine x_getRq C (k := 49) kM_0 (by decide) rfl x_in9 (by decide) (by decide) rfl rfl wd_1257 rfM_0_49 dX9_tells_81 ?_
      refine x_iconst C (5 : Int32) dX9_tells_84 (by decide) ?_
      refine x_ialdJ C kM_32 (x_inl lnM_32 (by decide)) (j := 5) (by decide) dX9_tells_85 ?_
      refine x_iastJ C kM_29 (x_inl lnM_29 (by decide)) (j := 4) (by decide) dX9_tells_86 (x_gen h fun σ3 h => ?_)
      refine x_aload_n C 0 dX9_tells_87 rfl rfl ?_
      refine x_getRq C (k := 45) kM_0 (by decide) rfl x_in9 (by decide) (by decide) rfl rfl wd_1253 rfM_0_45 dX9_tells_88 ?_
      refine x_iconst C (5 : Int32) dX9_tells_91 (by decide) ?_
      refine x_aload_n C 0 dX9_tells_92 rfl rfl ?_
      refine x_getRq C (k := 49) kM_0 (by decide) rfl x_in9 (by decide) (by decide) rfl rfl wd_1257 rfM_0_49 dX9_tells_93 ?_
      refine x_iconst C (4 : Int32) dX9_tells_96 (by decide) ?_
      refine x_ialdJ C kM_32 (x_inl lnM_32 (by decide)) (j := 4) (by decide) dX9_tells_97 ?_
      refine x_aload_n C 0 dX9_tells_98 rfl rfl ?_
      refine x_getI C (k := 51) kM_0 (by decide) rfl x_in9 (by decide) (by decide) rfl rfl wd_1259 dX9_tells_99 ?_
      refine x_icmp_ne C 112 dX9_tells_102 rfl (fun hc => ?_) (fun hc => ?_)
      · replace h := x_itn hc h
        refine x_aload_n C 0 dX9_tells_112 rfl rfl ?_
        refine x_getRq C (k := 24) kM_0 (by decide) rfl x_in9 (by decide) (by decide) rfl rfl wd_1232 rfM_0_24 dX9_tells_113 ?_
        refine x_iload C 4 dX9_tells_116 rfl ?_
        obtain ⟨hi4, h⟩ := x_gd_some h
        refine x_iald C kM_11 (x_inl lnM_11 hi4) dX9_tells_118 ?_
        exact x_sub [0, 1, 2, 3, 4] rfl (w_X9_tells_119 C x3 x4 x5 x6 (σ3.1 11 (x_ix x6)) (5 : Int32) σ3 h)
      · replace h := x_itp hc h
        refine x_aload_n C 0 dX9_tells_105 rfl rfl ?_
        refine x_getI C (k := 52) kM_0 (by decide) rfl x_in9 (by decide) (by decide) rfl rfl wd_1260 dX9_tells_106 ?_
        refine x_goto C 119 dX9_tells_109 rfl ?_
        exact x_sub [0, 1, 2, 3, 4] rfl (w_X9_tells_119 C x3 x4 x5 x6 (σ3.1 0 52) (5 : Int32) σ3 h)
    · replace h := x_itn hc h
      refine x_aload_n C 0 dX9_tells_55 rfl rfl ?_
      refine x_getRq C (k := 45) kM_0 (by decide) rfl x_in9 (by decide) (by decide) rfl rfl wd_1253 rfM_0_45 dX9_tells_56 ?_
      refine x_iload C 5 dX9_tells_59 rfl ?_
      refine x_aload_n C 0 dX9_tells_61 rfl rfl ?_
      refine x_getRq C (k := 49) kM_0 (by decide) rfl x_in9 (by decide) (by decide) rfl rfl wd_1257 rfM_0_49 dX9_tells_62 ?_
      refine x_iload C 5 dX9_tells_65 rfl ?_
      obtain ⟨hi5, h⟩ := x_gd_some h
      refine x_iald C kM_32 (x_inl lnM_32 hi5) dX9_tells_67 ?_
      obtain ⟨hi6, h⟩ := x_gd_some h
      refine x_iast C kM_29 (x_inl lnM_29 hi6) dX9_tells_68 (x_gen h fun σ7 h => ?_)
      refine x_iinc C 5 (x7 + (1 : Int32)) [(7, .int (x7 + (1 : Int32))), (0, .ref (x_ad G 0)), (3, .int x3), (4, .int x4), (5, .int x5), (6, .int x6)] dX9_tells_69 rfl rfl (by decide) rfl ?_
      refine x_goto C 49 dX9_tells_72 rfl ?_
      exact x_sub [1, 2, 3, 4, 5, 0] rfl (ih x3 x4 x5 x6 (x7 + (1 : Int32)) σ7 h)
set_option maxHeartbeats 4000000 in
set_option maxRecDepth 100000 in
theorem c_X9_tells (hG : x_OK TM G) {x1 : Int32} {x2 : Int32} {x3 : Int32} {x4 : Int32} {σ τ : x_Hp} {r : Int32} (h : F_X9_tells x1 x2 x3 x4 σ = some (r, τ)) : x_M l TM G yX9_tells cX9_tells 10 (some .int) rm_X9_tells [.ref (x_ad G 0), .int x1, .int x2, .int x3, .int x4] σ (some (.int r)) τ := by
  refine x_M.of hG (lv := [(0, .ref (x_ad G 0)), (1, .int x1), (2, .int x2), (3, .int x3), (4, .int x4)]) (by decide) (Nat.le_of_ble_eq_true rfl) rfl (fun p e s m below meth c C => ?_)
  rw [F_X9_tells] at h
  refine x_bipush C (7 : Int32) dX9_tells_0 (by decide) ?_
  refine x_aload_n C 0 dX9_tells_2 rfl rfl ?_
  refine x_getI C (k := 18) kM_0 (by decide) rfl x_in9 (by decide) (by decide) rfl rfl wd_1226 dX9_tells_3 ?_
  refine x_imul C dX9_tells_6 ?_
  refine x_iload_n C 1 dX9_tells_7 rfl rfl ?_
  refine x_iadd C dX9_tells_8 ?_
  refine x_istore C [(5, .int (((7 : Int32) * (σ.1 0 18)) + x1)), (0, .ref (x_ad G 0)), (1, .int x1), (2, .int x2), (3, .int x3), (4, .int x4)] dX9_tells_9 (by decide) rfl ?_
  refine x_aload_n C 1 dX9_tells_11 rfl rfl ?_
  refine x_getRq C (k := 32) kM_0 (by decide) rfl x_in9 (by decide) (by decide) rfl rfl wd_1240 rfM_0_32 dX9_tells_12 ?_
  refine x_iload C 0 dX9_tells_15 rfl ?_
  obtain ⟨hi1, h⟩ := x_gd_some h
  refine x_iald C kM_19 (x_inl lnM_19 hi1) dX9_tells_17 ?_
  refine x_aload_n C 1 dX9_tells_18 rfl rfl ?_
  refine x_getRq C (k := 33) kM_0 (by decide) rfl x_in9 (by decide) (by decide) rfl rfl wd_1241 rfM_0_33 dX9_tells_19 ?_
  refine x_iload C 0 dX9_tells_22 rfl ?_
  obtain ⟨hi2, h⟩ := x_gd_some h
  refine x_iald C kM_20 (x_inl lnM_20 hi2) dX9_tells_24 ?_
  refine x_icmp_ne C 30 dX9_tells_25 rfl (fun hc => ?_) (fun hc => ?_)
  · replace h := x_itn hc h
    refine x_bipush C (6 : Int32) dX9_tells_30 (by decide) ?_
    refine x_aload_n C 1 dX9_tells_32 rfl rfl ?_
    refine x_getI C (k := 18) kM_0 (by decide) rfl x_in9 (by decide) (by decide) rfl rfl wd_1226 dX9_tells_33 ?_
    refine x_imul C dX9_tells_36 ?_
    refine x_aload_n C 1 dX9_tells_37 rfl rfl ?_
    refine x_getRq C (k := 49) kM_0 (by decide) rfl x_in9 (by decide) (by decide) rfl rfl wd_1257 rfM_0_49 dX9_tells_38 ?_
    refine x_iconst C (4 : Int32) dX9_tells_41 (by decide) ?_
    refine x_ialdJ C kM_32 (x_inl lnM_32 (by decide)) (j := 4) (by decide) dX9_tells_42 ?_
    refine x_iadd C dX9_tells_43 ?_
    refine x_istore C [(6, .int (((6 : Int32) * (σ.1 0 18)) + (σ.1 32 4))), (5, .int (((7 : Int32) * (σ.1 0 18)) + x1)), (0, .ref (x_ad G 0)), (1, .int x1), (2, .int x2), (3, .int x3), (4, .int x4)] dX9_tells_44 (by decide) rfl ?_
    refine x_iconst C (0 : Int32) dX9_tells_46 (by decide) ?_
    refine x_istore C [(7, .int (0 : Int32)), (6, .int (((6 : Int32) * (σ.1 0 18)) + (σ.1 32 4))), (5, .int (((7 : Int32) * (σ.1 0 18)) + x1)), (0, .ref (x_ad G 0)), (1, .int x1), (2, .int x2), (3, .int x3), (4, .int x4)] dX9_tells_47 (by decide) rfl ?_
    exact x_sub [3, 6, 7, 2, 1, 0] rfl (w_X9_tells_49 C x_fuel x3 x4 (((7 : Int32) * (σ.1 0 18)) + x1) (((6 : Int32) * (σ.1 0 18)) + (σ.1 32 4)) (0 : Int32) σ h)
  · replace h := x_itp hc h
    refine x_iload_n C 3 dX9_tells_28 rfl rfl ?_
    obtain ⟨rfl, rfl⟩ := x_ret h
    exact x_iret C dX9_tells_29
abbrev rm_X9_lawNow : Room := { frames := 2, cells := 0, slots := 0, locals := 56 }
set_option maxHeartbeats 4000000 in
set_option maxRecDepth 100000 in
theorem w_X9_lawNow_17 {r : Int32} {τ : x_Hp} (C : x_C p s m args meth c cX9_lawNow 2 (some .int) yX9_lawNow.cls TM G) (s0 : Int32) (s1 : Int32) (σ : x_Hp) (h : F_X9_lawNow_17 s0 s1 σ = some (r, τ)) : x_W p l e rm_X9_lawNow s m args below meth c (MQ below (x_Q TM G (some (.int r)) τ) args s 0 0 (x_A TM G)) TM G 2 17 [] [.int s0, .int s1, .ref (x_ad G 0)] σ := by
  have hG : x_OK TM G := C.2.2.2.2.2.2.2.2.1
  rw [F_X9_lawNow_17] at h
  refine x_bipush C (-9 : Int32) dX9_lawNow_17 (by decide) ?_
  refine x_bipush C (9 : Int32) dX9_lawNow_19 (by decide) ?_
  obtain ⟨v4, σ4, hc4, h⟩ := x_b_some h
  refine x_callV C (n := 4) (c_X9_tells hG hc4) kM_0 (by decide) rfl wd_1554 wd_1556 wd_72 wd_111 wd_1557 (by decide +kernel) rfl ⟨Nat.le_of_ble_eq_true rfl, Nat.le_of_ble_eq_true rfl⟩ ⟨rfl, rfl⟩ rfl (Nat.le_of_ble_eq_true rfl) dX9_lawNow_21 ?_
  obtain ⟨rfl, rfl⟩ := x_ret h
  exact x_iret C dX9_lawNow_24
set_option maxHeartbeats 4000000 in
set_option maxRecDepth 100000 in
theorem c_X9_lawNow (hG : x_OK TM G) {x1 : Int32} {σ τ : x_Hp} {r : Int32} (h : F_X9_lawNow x1 σ = some (r, τ)) : x_M l TM G yX9_lawNow cX9_lawNow 2 (some .int) rm_X9_lawNow [.ref (x_ad G 0), .int x1] σ (some (.int r)) τ := by
  refine x_M.of hG (lv := [(0, .ref (x_ad G 0)), (1, .int x1)]) (by decide) (Nat.le_of_ble_eq_true rfl) rfl (fun p e s m below meth c C => ?_)
  rw [F_X9_lawNow] at h
  refine x_iload_n C 1 dX9_lawNow_0 rfl rfl ?_
  refine x_iconst C (4 : Int32) dX9_lawNow_1 (by decide) ?_
  refine x_icmp_ge C 25 dX9_lawNow_2 rfl (fun hc => ?_) (fun hc => ?_)
  · replace h := x_itp hc h
    refine x_iload_n C 1 dX9_lawNow_25 rfl rfl ?_
    refine x_iconst C (4 : Int32) dX9_lawNow_26 (by decide) ?_
    refine x_icmp_ne C 42 dX9_lawNow_27 rfl (fun hc => ?_) (fun hc => ?_)
    · replace h := x_itn hc h
      refine x_iload_n C 1 dX9_lawNow_42 rfl rfl ?_
      refine x_iconst C (5 : Int32) dX9_lawNow_43 (by decide) ?_
      refine x_icmp_ne C 58 dX9_lawNow_44 rfl (fun hc => ?_) (fun hc => ?_)
      · replace h := x_itn hc h
        refine x_aload_n C 0 dX9_lawNow_58 rfl rfl ?_
        refine x_bipush C (6 : Int32) dX9_lawNow_59 (by decide) ?_
        refine x_iconst C (0 : Int32) dX9_lawNow_61 (by decide) ?_
        refine x_iconst C (0 : Int32) dX9_lawNow_62 (by decide) ?_
        refine x_bipush C (100 : Int32) dX9_lawNow_63 (by decide) ?_
        obtain ⟨v1, σ1, hc1, h⟩ := x_b_some h
        refine x_callV C (n := 4) (c_X9_tells hG hc1) kM_0 (by decide) rfl wd_1554 wd_1556 wd_72 wd_111 wd_1557 (by decide +kernel) rfl ⟨Nat.le_of_ble_eq_true rfl, Nat.le_of_ble_eq_true rfl⟩ ⟨rfl, rfl⟩ rfl (Nat.le_of_ble_eq_true rfl) dX9_lawNow_65 ?_
        obtain ⟨rfl, rfl⟩ := x_ret h
        exact x_iret C dX9_lawNow_68
      · replace h := x_itp hc h
        refine x_aload_n C 0 dX9_lawNow_47 rfl rfl ?_
        refine x_iconst C (5 : Int32) dX9_lawNow_48 (by decide) ?_
        refine x_iconst C (0 : Int32) dX9_lawNow_49 (by decide) ?_
        refine x_iconst C (0 : Int32) dX9_lawNow_50 (by decide) ?_
        refine x_iconst C (1 : Int32) dX9_lawNow_51 (by decide) ?_
        obtain ⟨v2, σ2, hc2, h⟩ := x_b_some h
        refine x_callV C (n := 4) (c_X9_tells hG hc2) kM_0 (by decide) rfl wd_1554 wd_1556 wd_72 wd_111 wd_1557 (by decide +kernel) rfl ⟨Nat.le_of_ble_eq_true rfl, Nat.le_of_ble_eq_true rfl⟩ ⟨rfl, rfl⟩ rfl (Nat.le_of_ble_eq_true rfl) dX9_lawNow_52 ?_
        refine x_goto C 68 dX9_lawNow_55 rfl ?_
        obtain ⟨rfl, rfl⟩ := x_ret h
        exact x_iret C dX9_lawNow_68
    · replace h := x_itp hc h
      refine x_aload_n C 0 dX9_lawNow_30 rfl rfl ?_
      refine x_iconst C (4 : Int32) dX9_lawNow_31 (by decide) ?_
      refine x_iconst C (0 : Int32) dX9_lawNow_32 (by decide) ?_
      refine x_iconst C (0 : Int32) dX9_lawNow_33 (by decide) ?_
      refine x_bipush C (99 : Int32) dX9_lawNow_34 (by decide) ?_
      obtain ⟨v3, σ3, hc3, h⟩ := x_b_some h
      refine x_callV C (n := 4) (c_X9_tells hG hc3) kM_0 (by decide) rfl wd_1554 wd_1556 wd_72 wd_111 wd_1557 (by decide +kernel) rfl ⟨Nat.le_of_ble_eq_true rfl, Nat.le_of_ble_eq_true rfl⟩ ⟨rfl, rfl⟩ rfl (Nat.le_of_ble_eq_true rfl) dX9_lawNow_36 ?_
      refine x_goto C 68 dX9_lawNow_39 rfl ?_
      obtain ⟨rfl, rfl⟩ := x_ret h
      exact x_iret C dX9_lawNow_68
  · replace h := x_itn hc h
    refine x_aload_n C 0 dX9_lawNow_5 rfl rfl ?_
    refine x_iload_n C 1 dX9_lawNow_6 rfl rfl ?_
    refine x_iload_n C 1 dX9_lawNow_7 rfl rfl ?_
    refine x_iconst C (2 : Int32) dX9_lawNow_8 (by decide) ?_
    refine x_icmp_ge C 16 dX9_lawNow_9 rfl (fun hc => ?_) (fun hc => ?_)
    · replace h := x_itp hc h
      refine x_iconst C (0 : Int32) dX9_lawNow_16 (by decide) ?_
      exact x_sub [] rfl (w_X9_lawNow_17 C (0 : Int32) x1 σ h)
    · replace h := x_itn hc h
      refine x_iconst C (1 : Int32) dX9_lawNow_12 (by decide) ?_
      refine x_goto C 17 dX9_lawNow_13 rfl ?_
      exact x_sub [] rfl (w_X9_lawNow_17 C (1 : Int32) x1 σ h)
abbrev rm_X9_fallsAsleep : Room := { frames := 0, cells := 0, slots := 0, locals := 0 }
set_option maxHeartbeats 4000000 in
set_option maxRecDepth 100000 in
theorem c_X9_fallsAsleep (hG : x_OK TM G) {σ τ : x_Hp} (h : F_X9_fallsAsleep σ = some ((), τ)) : x_M l TM G yX9_fallsAsleep cX9_fallsAsleep 1 none rm_X9_fallsAsleep [.ref (x_ad G 0)] σ none τ := by
  refine x_M.of hG (lv := [(0, .ref (x_ad G 0))]) (by decide) (Nat.le_of_ble_eq_true rfl) rfl (fun p e s m below meth c C => ?_)
  rw [F_X9_fallsAsleep] at h
  refine x_aload_n C 0 dX9_fallsAsleep_0 rfl rfl ?_
  refine x_getRq C (k := 49) kM_0 (by decide) rfl x_in9 (by decide) (by decide) rfl rfl wd_1257 rfM_0_49 dX9_fallsAsleep_1 ?_
  refine x_bipush C (7 : Int32) dX9_fallsAsleep_4 (by decide) ?_
  refine x_bipush C (60 : Int32) dX9_fallsAsleep_6 (by decide) ?_
  refine x_iastJ C kM_32 (x_inl lnM_32 (by decide)) (j := 7) (by decide) dX9_fallsAsleep_8 (x_gen h fun σ1 h => ?_)
  refine x_aload_n C 0 dX9_fallsAsleep_9 rfl rfl ?_
  refine x_getRq C (k := 49) kM_0 (by decide) rfl x_in9 (by decide) (by decide) rfl rfl wd_1257 rfM_0_49 dX9_fallsAsleep_10 ?_
  refine x_bipush C (16 : Int32) dX9_fallsAsleep_13 (by decide) ?_
  refine x_dup2 C dX9_fallsAsleep_15 rfl rfl ?_
  refine x_ialdJ C kM_32 (x_inl lnM_32 (by decide)) (j := 16) (by decide) dX9_fallsAsleep_16 ?_
  refine x_iconst C (1 : Int32) dX9_fallsAsleep_17 (by decide) ?_
  refine x_iadd C dX9_fallsAsleep_18 ?_
  refine x_iastJ C kM_32 (x_inl lnM_32 (by decide)) (j := 16) (by decide) dX9_fallsAsleep_19 (x_gen h fun σ2 h => ?_)
  obtain ⟨-, rfl⟩ := x_ret h
  exact x_vret C dX9_fallsAsleep_20
abbrev rm_X9_wakeMinute : Room := { frames := 3, cells := 0, slots := 0, locals := 77 }
set_option maxHeartbeats 4000000 in
set_option maxRecDepth 100000 in
theorem w_X9_wakeMinute_262 {τ : x_Hp} (C : x_C p s m args meth c cX9_wakeMinute 3 none yX9_wakeMinute.cls TM G) (σ : x_Hp) (h : F_X9_wakeMinute_262 σ = some ((), τ)) : x_W p l e rm_X9_wakeMinute s m args below meth c (MQ below (x_Q TM G none τ) args s 0 0 (x_A TM G)) TM G 3 262 [(0, .ref (x_ad G 0))] [] σ := by
  have hG : x_OK TM G := C.2.2.2.2.2.2.2.2.1
  rw [F_X9_wakeMinute_262] at h
  refine x_aload_n C 0 dX9_wakeMinute_262 rfl rfl ?_
  refine x_iconst C (5 : Int32) dX9_wakeMinute_263 (by decide) ?_
  obtain ⟨v35, σ35, hc35, h⟩ := x_b_some h
  refine x_callV C (n := 1) (c_X9_lawNow hG hc35) kM_0 (by decide) rfl wd_1550 wd_1552 wd_71 wd_111 wd_1553 (by decide +kernel) rfl ⟨Nat.le_of_ble_eq_true rfl, Nat.le_of_ble_eq_true rfl⟩ ⟨rfl, rfl⟩ rfl (Nat.le_of_ble_eq_true rfl) dX9_wakeMinute_264 ?_
  refine x_if_le C 274 dX9_wakeMinute_267 rfl (fun hc => ?_) (fun hc => ?_)
  · replace h := x_itp hc h
    obtain ⟨-, rfl⟩ := x_ret h
    exact x_vret C dX9_wakeMinute_274
  · replace h := x_itn hc h
    refine x_aload_n C 0 dX9_wakeMinute_270 rfl rfl ?_
    obtain ⟨v36, σ36, hc36, h⟩ := x_b_some h
    refine x_callV C (n := 0) (c_X9_fallsAsleep hG hc36) kM_0 (by decide) rfl wd_1593 wd_1595 wd_79 wd_111 wd_1596 (by decide +kernel) rfl ⟨Nat.le_of_ble_eq_true rfl, Nat.le_of_ble_eq_true rfl⟩ ⟨rfl, rfl⟩ rfl (Nat.le_of_ble_eq_true rfl) dX9_wakeMinute_271 ?_
    obtain ⟨-, rfl⟩ := x_ret h
    exact x_vret C dX9_wakeMinute_274
set_option maxHeartbeats 4000000 in
set_option maxRecDepth 100000 in
theorem w_X9_wakeMinute_169 {τ : x_Hp} (C : x_C p s m args meth c cX9_wakeMinute 3 none yX9_wakeMinute.cls TM G) (x1 : Int32) (σ : x_Hp) (h : F_X9_wakeMinute_169 x1 σ = some ((), τ)) : x_W p l e rm_X9_wakeMinute s m args below meth c (MQ below (x_Q TM G none τ) args s 0 0 (x_A TM G)) TM G 3 169 [(0, .ref (x_ad G 0)), (1, .int x1)] [] σ := by
  have hG : x_OK TM G := C.2.2.2.2.2.2.2.2.1
  rw [F_X9_wakeMinute_169] at h
  refine x_aload_n C 0 dX9_wakeMinute_169 rfl rfl ?_
  obtain ⟨v23, σ23, hc23, h⟩ := x_b_some h
  refine x_callV C (n := 0) (c_X9_lotNow hG hc23) kM_0 (by decide) rfl wd_1585 wd_1587 wd_78 wd_111 wd_1588 (by decide +kernel) rfl ⟨Nat.le_of_ble_eq_true rfl, Nat.le_of_ble_eq_true rfl⟩ ⟨rfl, rfl⟩ rfl (Nat.le_of_ble_eq_true rfl) dX9_wakeMinute_170 ?_
  refine x_aload_n C 0 dX9_wakeMinute_173 rfl rfl ?_
  refine x_bipush C (6 : Int32) dX9_wakeMinute_174 (by decide) ?_
  obtain ⟨v24, σ24, hc24, h⟩ := x_b_some h
  refine x_callV C (n := 1) (c_X9_lawNow hG hc24) kM_0 (by decide) rfl wd_1550 wd_1552 wd_71 wd_111 wd_1553 (by decide +kernel) rfl ⟨Nat.le_of_ble_eq_true rfl, Nat.le_of_ble_eq_true rfl⟩ ⟨rfl, rfl⟩ rfl (Nat.le_of_ble_eq_true rfl) dX9_wakeMinute_176 ?_
  refine x_icmp_ge C 262 dX9_wakeMinute_179 rfl (fun hc => ?_) (fun hc => ?_)
  · replace h := x_itp hc h
    exact x_sub [0] rfl (w_X9_wakeMinute_262 C σ24 h)
  · replace h := x_itn hc h
    refine x_aload_n C 0 dX9_wakeMinute_182 rfl rfl ?_
    refine x_getRq C (k := 49) kM_0 (by decide) rfl x_in9 (by decide) (by decide) rfl rfl wd_1257 rfM_0_49 dX9_wakeMinute_183 ?_
    refine x_iconst C (3 : Int32) dX9_wakeMinute_186 (by decide) ?_
    refine x_iconst C (0 : Int32) dX9_wakeMinute_187 (by decide) ?_
    refine x_iastJ C kM_32 (x_inl lnM_32 (by decide)) (j := 3) (by decide) dX9_wakeMinute_188 (x_gen h fun σ25 h => ?_)
    refine x_aload_n C 0 dX9_wakeMinute_189 rfl rfl ?_
    refine x_getRq C (k := 49) kM_0 (by decide) rfl x_in9 (by decide) (by decide) rfl rfl wd_1257 rfM_0_49 dX9_wakeMinute_190 ?_
    refine x_bipush C (50 : Int32) dX9_wakeMinute_193 (by decide) ?_
    refine x_iload_n C 1 dX9_wakeMinute_195 rfl rfl ?_
    refine x_iadd C dX9_wakeMinute_196 ?_
    refine x_dup2 C dX9_wakeMinute_197 rfl rfl ?_
    obtain ⟨hi26, h⟩ := x_gd_some h
    refine x_iald C kM_32 (x_inl lnM_32 hi26) dX9_wakeMinute_198 ?_
    refine x_iconst C (1 : Int32) dX9_wakeMinute_199 (by decide) ?_
    refine x_iadd C dX9_wakeMinute_200 ?_
    obtain ⟨hi27, h⟩ := x_gd_some h
    refine x_iast C kM_32 (x_inl lnM_32 hi27) dX9_wakeMinute_201 (x_gen h fun σ28 h => ?_)
    refine x_aload_n C 0 dX9_wakeMinute_202 rfl rfl ?_
    refine x_getRq C (k := 49) kM_0 (by decide) rfl x_in9 (by decide) (by decide) rfl rfl wd_1257 rfM_0_49 dX9_wakeMinute_203 ?_
    refine x_bipush C (8 : Int32) dX9_wakeMinute_206 (by decide) ?_
    refine x_ialdJ C kM_32 (x_inl lnM_32 (by decide)) (j := 8) (by decide) dX9_wakeMinute_208 ?_
    refine x_if_ne C 262 dX9_wakeMinute_209 rfl (fun hc => ?_) (fun hc => ?_)
    · replace h := x_itn hc h
      exact x_sub [0] rfl (w_X9_wakeMinute_262 C σ28 h)
    · replace h := x_itp hc h
      refine x_aload_n C 0 dX9_wakeMinute_212 rfl rfl ?_
      refine x_getRq C (k := 49) kM_0 (by decide) rfl x_in9 (by decide) (by decide) rfl rfl wd_1257 rfM_0_49 dX9_wakeMinute_213 ?_
      refine x_bipush C (15 : Int32) dX9_wakeMinute_216 (by decide) ?_
      refine x_dup2 C dX9_wakeMinute_218 rfl rfl ?_
      refine x_ialdJ C kM_32 (x_inl lnM_32 (by decide)) (j := 15) (by decide) dX9_wakeMinute_219 ?_
      refine x_aload_n C 0 dX9_wakeMinute_220 rfl rfl ?_
      refine x_getRq C (k := 27) kM_0 (by decide) rfl x_in9 (by decide) (by decide) rfl rfl wd_1235 rfM_0_27 dX9_wakeMinute_221 ?_
      refine x_bipush C (6 : Int32) dX9_wakeMinute_224 (by decide) ?_
      refine x_aload_n C 0 dX9_wakeMinute_226 rfl rfl ?_
      refine x_getI C (k := 18) kM_0 (by decide) rfl x_in9 (by decide) (by decide) rfl rfl wd_1226 dX9_wakeMinute_227 ?_
      refine x_imul C dX9_wakeMinute_230 ?_
      refine x_iload_n C 1 dX9_wakeMinute_231 rfl rfl ?_
      refine x_iadd C dX9_wakeMinute_232 ?_
      obtain ⟨hi29, h⟩ := x_gd_some h
      refine x_iald C kM_14 (x_inl lnM_14 hi29) dX9_wakeMinute_233 ?_
      refine x_iadd C dX9_wakeMinute_234 ?_
      refine x_iastJ C kM_32 (x_inl lnM_32 (by decide)) (j := 15) (by decide) dX9_wakeMinute_235 (x_gen h fun σ30 h => ?_)
      refine x_aload_n C 0 dX9_wakeMinute_236 rfl rfl ?_
      refine x_getRq C (k := 49) kM_0 (by decide) rfl x_in9 (by decide) (by decide) rfl rfl wd_1257 rfM_0_49 dX9_wakeMinute_237 ?_
      refine x_bipush C (44 : Int32) dX9_wakeMinute_240 (by decide) ?_
      refine x_iload_n C 1 dX9_wakeMinute_242 rfl rfl ?_
      refine x_iadd C dX9_wakeMinute_243 ?_
      refine x_dup2 C dX9_wakeMinute_244 rfl rfl ?_
      obtain ⟨hi31, h⟩ := x_gd_some h
      refine x_iald C kM_32 (x_inl lnM_32 hi31) dX9_wakeMinute_245 ?_
      refine x_aload_n C 0 dX9_wakeMinute_246 rfl rfl ?_
      refine x_getRq C (k := 27) kM_0 (by decide) rfl x_in9 (by decide) (by decide) rfl rfl wd_1235 rfM_0_27 dX9_wakeMinute_247 ?_
      refine x_bipush C (6 : Int32) dX9_wakeMinute_250 (by decide) ?_
      refine x_aload_n C 0 dX9_wakeMinute_252 rfl rfl ?_
      refine x_getI C (k := 18) kM_0 (by decide) rfl x_in9 (by decide) (by decide) rfl rfl wd_1226 dX9_wakeMinute_253 ?_
      refine x_imul C dX9_wakeMinute_256 ?_
      refine x_iload_n C 1 dX9_wakeMinute_257 rfl rfl ?_
      refine x_iadd C dX9_wakeMinute_258 ?_
      obtain ⟨hi32, h⟩ := x_gd_some h
      refine x_iald C kM_14 (x_inl lnM_14 hi32) dX9_wakeMinute_259 ?_
      refine x_iadd C dX9_wakeMinute_260 ?_
      obtain ⟨hi33, h⟩ := x_gd_some h
      refine x_iast C kM_32 (x_inl lnM_32 hi33) dX9_wakeMinute_261 (x_gen h fun σ34 h => ?_)
      exact x_sub [0] rfl (w_X9_wakeMinute_262 C σ34 h)
set_option maxHeartbeats 4000000 in
set_option maxRecDepth 100000 in
theorem w_X9_wakeMinute_33 {τ : x_Hp} (C : x_C p s m args meth c cX9_wakeMinute 3 none yX9_wakeMinute.cls TM G) : ∀ (n : Nat) (x1 : Int32) (x2 : Int32) (σ : x_Hp) (h : F_X9_wakeMinute_33 n x1 x2 σ = some ((), τ)), x_W p l e rm_X9_wakeMinute s m args below meth c (MQ below (x_Q TM G none τ) args s 0 0 (x_A TM G)) TM G 3 33 [(0, .ref (x_ad G 0)), (1, .int x1), (2, .int x2)] [] σ := by
  intro n
  induction n with
  | zero => intro x1 x2 σ  h; cases h
  | succ n ih =>
    intro x1 x2 σ  h
    have hG : x_OK TM G := C.2.2.2.2.2.2.2.2.1
    rw [F_X9_wakeMinute_33] at h
    refine x_iload_n C 2 dX9_wakeMinute_33 rfl rfl ?_
    refine x_iconst C (4 : Int32) dX9_wakeMinute_34 (by decide) ?_
    refine x_icmp_ge C 69 dX9_wakeMinute_35 rfl (fun hc => ?_) (fun hc => ?_)
    · replace h := x_itp hc h
      refine x_aload_n C 0 dX9_wakeMinute_69 rfl rfl ?_
      refine x_getRq C (k := 49) kM_0 (by decide) rfl x_in9 (by decide) (by decide) rfl rfl wd_1257 rfM_0_49 dX9_wakeMinute_70 ?_
      refine x_iconst C (5 : Int32) dX9_wakeMinute_73 (by decide) ?_
      refine x_dup2 C dX9_wakeMinute_74 rfl rfl ?_
      refine x_ialdJ C kM_32 (x_inl lnM_32 (by decide)) (j := 5) (by decide) dX9_wakeMinute_75 ?_
      refine x_iconst C (1 : Int32) dX9_wakeMinute_76 (by decide) ?_
      refine x_iadd C dX9_wakeMinute_77 ?_
      refine x_iastJ C kM_32 (x_inl lnM_32 (by decide)) (j := 5) (by decide) dX9_wakeMinute_78 (x_gen h fun σ4 h => ?_)
      refine x_aload_n C 0 dX9_wakeMinute_79 rfl rfl ?_
      refine x_iconst C (4 : Int32) dX9_wakeMinute_80 (by decide) ?_
      obtain ⟨v5, σ5, hc5, h⟩ := x_b_some h
      refine x_callV C (n := 1) (c_X9_lawNow hG hc5) kM_0 (by decide) rfl wd_1550 wd_1552 wd_71 wd_111 wd_1553 (by decide +kernel) rfl ⟨Nat.le_of_ble_eq_true rfl, Nat.le_of_ble_eq_true rfl⟩ ⟨rfl, rfl⟩ rfl (Nat.le_of_ble_eq_true rfl) dX9_wakeMinute_81 ?_
      refine x_istore_n C [(2, .int v5), (0, .ref (x_ad G 0)), (1, .int x1)] dX9_wakeMinute_84 rfl (by decide) rfl ?_
      refine x_aload_n C 1 dX9_wakeMinute_85 rfl rfl ?_
      refine x_getRq C (k := 49) kM_0 (by decide) rfl x_in9 (by decide) (by decide) rfl rfl wd_1257 rfM_0_49 dX9_wakeMinute_86 ?_
      refine x_bipush C (6 : Int32) dX9_wakeMinute_89 (by decide) ?_
      refine x_iload_n C 0 dX9_wakeMinute_91 rfl rfl ?_
      refine x_iastJ C kM_32 (x_inl lnM_32 (by decide)) (j := 6) (by decide) dX9_wakeMinute_92 (x_gen h fun σ6 h => ?_)
      refine x_aload_n C 1 dX9_wakeMinute_93 rfl rfl ?_
      refine x_getRq C (k := 49) kM_0 (by decide) rfl x_in9 (by decide) (by decide) rfl rfl wd_1257 rfM_0_49 dX9_wakeMinute_94 ?_
      refine x_bipush C (13 : Int32) dX9_wakeMinute_97 (by decide) ?_
      refine x_dup2 C dX9_wakeMinute_99 rfl rfl ?_
      refine x_ialdJ C kM_32 (x_inl lnM_32 (by decide)) (j := 13) (by decide) dX9_wakeMinute_100 ?_
      refine x_iload_n C 0 dX9_wakeMinute_101 rfl rfl ?_
      refine x_iadd C dX9_wakeMinute_102 ?_
      refine x_iastJ C kM_32 (x_inl lnM_32 (by decide)) (j := 13) (by decide) dX9_wakeMinute_103 (x_gen h fun σ7 h => ?_)
      refine x_aload_n C 1 dX9_wakeMinute_104 rfl rfl ?_
      refine x_getRq C (k := 49) kM_0 (by decide) rfl x_in9 (by decide) (by decide) rfl rfl wd_1257 rfM_0_49 dX9_wakeMinute_105 ?_
      refine x_bipush C (20 : Int32) dX9_wakeMinute_108 (by decide) ?_
      refine x_iload_n C 2 dX9_wakeMinute_110 rfl rfl ?_
      refine x_iadd C dX9_wakeMinute_111 ?_
      refine x_dup2 C dX9_wakeMinute_112 rfl rfl ?_
      obtain ⟨hi8, h⟩ := x_gd_some h
      refine x_iald C kM_32 (x_inl lnM_32 hi8) dX9_wakeMinute_113 ?_
      refine x_iconst C (1 : Int32) dX9_wakeMinute_114 (by decide) ?_
      refine x_iadd C dX9_wakeMinute_115 ?_
      obtain ⟨hi9, h⟩ := x_gd_some h
      refine x_iast C kM_32 (x_inl lnM_32 hi9) dX9_wakeMinute_116 (x_gen h fun σ10 h => ?_)
      refine x_aload_n C 1 dX9_wakeMinute_117 rfl rfl ?_
      refine x_getRq C (k := 49) kM_0 (by decide) rfl x_in9 (by decide) (by decide) rfl rfl wd_1257 rfM_0_49 dX9_wakeMinute_118 ?_
      refine x_bipush C (26 : Int32) dX9_wakeMinute_121 (by decide) ?_
      refine x_iload_n C 2 dX9_wakeMinute_123 rfl rfl ?_
      refine x_iadd C dX9_wakeMinute_124 ?_
      refine x_dup2 C dX9_wakeMinute_125 rfl rfl ?_
      obtain ⟨hi11, h⟩ := x_gd_some h
      refine x_iald C kM_32 (x_inl lnM_32 hi11) dX9_wakeMinute_126 ?_
      refine x_iload_n C 0 dX9_wakeMinute_127 rfl rfl ?_
      refine x_iadd C dX9_wakeMinute_128 ?_
      obtain ⟨hi12, h⟩ := x_gd_some h
      refine x_iast C kM_32 (x_inl lnM_32 hi12) dX9_wakeMinute_129 (x_gen h fun σ13 h => ?_)
      refine x_iload_n C 0 dX9_wakeMinute_130 rfl rfl ?_
      refine x_if_ne C 169 dX9_wakeMinute_131 rfl (fun hc => ?_) (fun hc => ?_)
      · replace h := x_itn hc h
        exact x_sub [1, 2] rfl (w_X9_wakeMinute_169 C x1 σ13 h)
      · replace h := x_itp hc h
        refine x_aload_n C 1 dX9_wakeMinute_134 rfl rfl ?_
        refine x_getRq C (k := 49) kM_0 (by decide) rfl x_in9 (by decide) (by decide) rfl rfl wd_1257 rfM_0_49 dX9_wakeMinute_135 ?_
        refine x_iconst C (2 : Int32) dX9_wakeMinute_138 (by decide) ?_
        refine x_ialdJ C kM_32 (x_inl lnM_32 (by decide)) (j := 2) (by decide) dX9_wakeMinute_139 ?_
        refine x_bipush C (50 : Int32) dX9_wakeMinute_140 (by decide) ?_
        refine x_icmp_lt C 169 dX9_wakeMinute_142 rfl (fun hc => ?_) (fun hc => ?_)
        · replace h := x_itp hc h
          exact x_sub [1, 2] rfl (w_X9_wakeMinute_169 C x1 σ13 h)
        · replace h := x_itn hc h
          refine x_aload_n C 1 dX9_wakeMinute_145 rfl rfl ?_
          refine x_getRq C (k := 49) kM_0 (by decide) rfl x_in9 (by decide) (by decide) rfl rfl wd_1257 rfM_0_49 dX9_wakeMinute_146 ?_
          refine x_bipush C (14 : Int32) dX9_wakeMinute_149 (by decide) ?_
          refine x_dup2 C dX9_wakeMinute_151 rfl rfl ?_
          refine x_ialdJ C kM_32 (x_inl lnM_32 (by decide)) (j := 14) (by decide) dX9_wakeMinute_152 ?_
          refine x_iconst C (1 : Int32) dX9_wakeMinute_153 (by decide) ?_
          refine x_iadd C dX9_wakeMinute_154 ?_
          refine x_iastJ C kM_32 (x_inl lnM_32 (by decide)) (j := 14) (by decide) dX9_wakeMinute_155 (x_gen h fun σ14 h => ?_)
          refine x_aload_n C 1 dX9_wakeMinute_156 rfl rfl ?_
          refine x_getRq C (k := 49) kM_0 (by decide) rfl x_in9 (by decide) (by decide) rfl rfl wd_1257 rfM_0_49 dX9_wakeMinute_157 ?_
          refine x_bipush C (32 : Int32) dX9_wakeMinute_160 (by decide) ?_
          refine x_iload_n C 2 dX9_wakeMinute_162 rfl rfl ?_
          refine x_iadd C dX9_wakeMinute_163 ?_
          refine x_dup2 C dX9_wakeMinute_164 rfl rfl ?_
          obtain ⟨hi15, h⟩ := x_gd_some h
          refine x_iald C kM_32 (x_inl lnM_32 hi15) dX9_wakeMinute_165 ?_
          refine x_iconst C (1 : Int32) dX9_wakeMinute_166 (by decide) ?_
          refine x_iadd C dX9_wakeMinute_167 ?_
          obtain ⟨hi16, h⟩ := x_gd_some h
          refine x_iast C kM_32 (x_inl lnM_32 hi16) dX9_wakeMinute_168 (x_gen h fun σ17 h => ?_)
          exact x_sub [1, 2] rfl (w_X9_wakeMinute_169 C x1 σ17 h)
    · replace h := x_itn hc h
      refine x_aload_n C 0 dX9_wakeMinute_38 rfl rfl ?_
      refine x_getRq C (k := 49) kM_0 (by decide) rfl x_in9 (by decide) (by decide) rfl rfl wd_1257 rfM_0_49 dX9_wakeMinute_39 ?_
      refine x_iload_n C 2 dX9_wakeMinute_42 rfl rfl ?_
      refine x_aload_n C 0 dX9_wakeMinute_43 rfl rfl ?_
      refine x_getRq C (k := 49) kM_0 (by decide) rfl x_in9 (by decide) (by decide) rfl rfl wd_1257 rfM_0_49 dX9_wakeMinute_44 ?_
      refine x_iload_n C 2 dX9_wakeMinute_47 rfl rfl ?_
      obtain ⟨hi18, h⟩ := x_gd_some h
      refine x_iald C kM_32 (x_inl lnM_32 hi18) dX9_wakeMinute_48 ?_
      refine x_aload_n C 0 dX9_wakeMinute_49 rfl rfl ?_
      refine x_getRq C (k := 53) kM_0 (by decide) rfl x_in9 (by decide) (by decide) rfl rfl wd_1261 rfM_0_53 dX9_wakeMinute_50 ?_
      refine x_iload_n C 2 dX9_wakeMinute_53 rfl rfl ?_
      obtain ⟨hi19, h⟩ := x_gd_some h
      refine x_iald C kM_33 (x_inl lnM_33 hi19) dX9_wakeMinute_54 ?_
      refine x_iadd C dX9_wakeMinute_55 ?_
      refine x_iconst C (0 : Int32) dX9_wakeMinute_56 (by decide) ?_
      refine x_bipush C (99 : Int32) dX9_wakeMinute_57 (by decide) ?_
      obtain ⟨v20, σ20, hc20, h⟩ := x_b_some h
      refine x_callS C (n := 3) (c_X9_held hG hc20) wd_1562 wd_1563 wd_111 wd_1564 (by decide +kernel) rfl ⟨Nat.le_of_ble_eq_true rfl, Nat.le_of_ble_eq_true rfl⟩ ⟨rfl, rfl⟩ rfl (Nat.le_of_ble_eq_true rfl) dX9_wakeMinute_59 ?_
      obtain ⟨hi21, h⟩ := x_gd_some h
      refine x_iast C kM_32 (x_inl lnM_32 hi21) dX9_wakeMinute_62 (x_gen h fun σ22 h => ?_)
      refine x_iinc C 2 (x2 + (1 : Int32)) [(2, .int (x2 + (1 : Int32))), (0, .ref (x_ad G 0)), (1, .int x1)] dX9_wakeMinute_63 rfl rfl (by decide) rfl ?_
      refine x_goto C 33 dX9_wakeMinute_66 rfl ?_
      exact x_sub [1, 2, 0] rfl (ih x1 (x2 + (1 : Int32)) σ22 h)
set_option maxHeartbeats 4000000 in
set_option maxRecDepth 100000 in
theorem w_X9_wakeMinute_9 {τ : x_Hp} (C : x_C p s m args meth c cX9_wakeMinute 3 none yX9_wakeMinute.cls TM G) : ∀ (n : Nat) (x1 : Int32) (x2 : Int32) (σ : x_Hp) (h : F_X9_wakeMinute_9 n x1 x2 σ = some ((), τ)), x_W p l e rm_X9_wakeMinute s m args below meth c (MQ below (x_Q TM G none τ) args s 0 0 (x_A TM G)) TM G 3 9 [(0, .ref (x_ad G 0)), (1, .int x1), (2, .int x2)] [] σ := by
  intro n
  induction n with
  | zero => intro x1 x2 σ  h; cases h
  | succ n ih =>
    intro x1 x2 σ  h
    have hG : x_OK TM G := C.2.2.2.2.2.2.2.2.1
    rw [F_X9_wakeMinute_9] at h
    refine x_iload_n C 2 dX9_wakeMinute_9 rfl rfl ?_
    refine x_iconst C (4 : Int32) dX9_wakeMinute_10 (by decide) ?_
    refine x_icmp_ge C 31 dX9_wakeMinute_11 rfl (fun hc => ?_) (fun hc => ?_)
    · replace h := x_itp hc h
      refine x_iconst C (0 : Int32) dX9_wakeMinute_31 (by decide) ?_
      refine x_istore_n C [(2, .int (0 : Int32)), (0, .ref (x_ad G 0)), (1, .int x1)] dX9_wakeMinute_32 rfl (by decide) rfl ?_
      exact x_sub [1, 2, 0] rfl (w_X9_wakeMinute_33 C x_fuel x1 (0 : Int32) σ h)
    · replace h := x_itn hc h
      refine x_aload_n C 0 dX9_wakeMinute_14 rfl rfl ?_
      refine x_getRq C (k := 53) kM_0 (by decide) rfl x_in9 (by decide) (by decide) rfl rfl wd_1261 rfM_0_53 dX9_wakeMinute_15 ?_
      refine x_iload_n C 2 dX9_wakeMinute_18 rfl rfl ?_
      refine x_aload_n C 0 dX9_wakeMinute_19 rfl rfl ?_
      refine x_iload_n C 2 dX9_wakeMinute_20 rfl rfl ?_
      obtain ⟨v1, σ1, hc1, h⟩ := x_b_some h
      refine x_callV C (n := 1) (c_X9_lawNow hG hc1) kM_0 (by decide) rfl wd_1550 wd_1552 wd_71 wd_111 wd_1553 (by decide +kernel) rfl ⟨Nat.le_of_ble_eq_true rfl, Nat.le_of_ble_eq_true rfl⟩ ⟨rfl, rfl⟩ rfl (Nat.le_of_ble_eq_true rfl) dX9_wakeMinute_21 ?_
      obtain ⟨hi2, h⟩ := x_gd_some h
      refine x_iast C kM_33 (x_inl lnM_33 hi2) dX9_wakeMinute_24 (x_gen h fun σ3 h => ?_)
      refine x_iinc C 2 (x2 + (1 : Int32)) [(2, .int (x2 + (1 : Int32))), (0, .ref (x_ad G 0)), (1, .int x1)] dX9_wakeMinute_25 rfl rfl (by decide) rfl ?_
      refine x_goto C 9 dX9_wakeMinute_28 rfl ?_
      exact x_sub [1, 2, 0] rfl (ih x1 (x2 + (1 : Int32)) σ3 h)
set_option maxHeartbeats 4000000 in
set_option maxRecDepth 100000 in
theorem c_X9_wakeMinute (hG : x_OK TM G) {σ τ : x_Hp} (h : F_X9_wakeMinute σ = some ((), τ)) : x_M l TM G yX9_wakeMinute cX9_wakeMinute 3 none rm_X9_wakeMinute [.ref (x_ad G 0)] σ none τ := by
  refine x_M.of hG (lv := [(0, .ref (x_ad G 0))]) (by decide) (Nat.le_of_ble_eq_true rfl) rfl (fun p e s m below meth c C => ?_)
  rw [F_X9_wakeMinute] at h
  refine x_aload_n C 0 dX9_wakeMinute_0 rfl rfl ?_
  refine x_getRq C (k := 49) kM_0 (by decide) rfl x_in9 (by decide) (by decide) rfl rfl wd_1257 rfM_0_49 dX9_wakeMinute_1 ?_
  refine x_iconst C (4 : Int32) dX9_wakeMinute_4 (by decide) ?_
  refine x_ialdJ C kM_32 (x_inl lnM_32 (by decide)) (j := 4) (by decide) dX9_wakeMinute_5 ?_
  refine x_istore_n C [(1, .int (σ.1 32 4)), (0, .ref (x_ad G 0))] dX9_wakeMinute_6 rfl (by decide) rfl ?_
  refine x_iconst C (0 : Int32) dX9_wakeMinute_7 (by decide) ?_
  refine x_istore_n C [(2, .int (0 : Int32)), (1, .int (σ.1 32 4)), (0, .ref (x_ad G 0))] dX9_wakeMinute_8 rfl (by decide) rfl ?_
  exact x_sub [2, 1, 0] rfl (w_X9_wakeMinute_9 C x_fuel (σ.1 32 4) (0 : Int32) σ h)
abbrev rm_X9_sleepMinute : Room := { frames := 3, cells := 0, slots := 0, locals := 77 }
set_option maxHeartbeats 4000000 in
set_option maxRecDepth 100000 in
theorem c_X9_sleepMinute (hG : x_OK TM G) {σ τ : x_Hp} (h : F_X9_sleepMinute σ = some ((), τ)) : x_M l TM G yX9_sleepMinute cX9_sleepMinute 1 none rm_X9_sleepMinute [.ref (x_ad G 0)] σ none τ := by
  refine x_M.of hG (lv := [(0, .ref (x_ad G 0))]) (by decide) (Nat.le_of_ble_eq_true rfl) rfl (fun p e s m below meth c C => ?_)
  rw [F_X9_sleepMinute] at h
  refine x_aload_n C 0 dX9_sleepMinute_0 rfl rfl ?_
  refine x_getRq C (k := 49) kM_0 (by decide) rfl x_in9 (by decide) (by decide) rfl rfl wd_1257 rfM_0_49 dX9_sleepMinute_1 ?_
  refine x_iconst C (0 : Int32) dX9_sleepMinute_4 (by decide) ?_
  refine x_aload_n C 0 dX9_sleepMinute_5 rfl rfl ?_
  refine x_getRq C (k := 49) kM_0 (by decide) rfl x_in9 (by decide) (by decide) rfl rfl wd_1257 rfM_0_49 dX9_sleepMinute_6 ?_
  refine x_iconst C (0 : Int32) dX9_sleepMinute_9 (by decide) ?_
  refine x_ialdJ C kM_32 (x_inl lnM_32 (by decide)) (j := 0) (by decide) dX9_sleepMinute_10 ?_
  refine x_aload_n C 0 dX9_sleepMinute_11 rfl rfl ?_
  refine x_iconst C (0 : Int32) dX9_sleepMinute_12 (by decide) ?_
  obtain ⟨v1, σ1, hc1, h⟩ := x_b_some h
  refine x_callV C (n := 1) (c_X9_lawNow hG hc1) kM_0 (by decide) rfl wd_1550 wd_1552 wd_71 wd_111 wd_1553 (by decide +kernel) rfl ⟨Nat.le_of_ble_eq_true rfl, Nat.le_of_ble_eq_true rfl⟩ ⟨rfl, rfl⟩ rfl (Nat.le_of_ble_eq_true rfl) dX9_sleepMinute_13 ?_
  refine x_iadd C dX9_sleepMinute_16 ?_
  refine x_iconst C (0 : Int32) dX9_sleepMinute_17 (by decide) ?_
  refine x_bipush C (99 : Int32) dX9_sleepMinute_18 (by decide) ?_
  obtain ⟨v2, σ2, hc2, h⟩ := x_b_some h
  refine x_callS C (n := 3) (c_X9_held hG hc2) wd_1562 wd_1563 wd_111 wd_1564 (by decide +kernel) rfl ⟨Nat.le_of_ble_eq_true rfl, Nat.le_of_ble_eq_true rfl⟩ ⟨rfl, rfl⟩ rfl (Nat.le_of_ble_eq_true rfl) dX9_sleepMinute_20 ?_
  refine x_iastJ C kM_32 (x_inl lnM_32 (by decide)) (j := 0) (by decide) dX9_sleepMinute_23 (x_gen h fun σ3 h => ?_)
  refine x_aload_n C 0 dX9_sleepMinute_24 rfl rfl ?_
  refine x_getRq C (k := 49) kM_0 (by decide) rfl x_in9 (by decide) (by decide) rfl rfl wd_1257 rfM_0_49 dX9_sleepMinute_25 ?_
  refine x_bipush C (38 : Int32) dX9_sleepMinute_28 (by decide) ?_
  refine x_aload_n C 0 dX9_sleepMinute_30 rfl rfl ?_
  refine x_getRq C (k := 49) kM_0 (by decide) rfl x_in9 (by decide) (by decide) rfl rfl wd_1257 rfM_0_49 dX9_sleepMinute_31 ?_
  refine x_iconst C (4 : Int32) dX9_sleepMinute_34 (by decide) ?_
  refine x_ialdJ C kM_32 (x_inl lnM_32 (by decide)) (j := 4) (by decide) dX9_sleepMinute_35 ?_
  refine x_iadd C dX9_sleepMinute_36 ?_
  refine x_dup2 C dX9_sleepMinute_37 rfl rfl ?_
  obtain ⟨hi4, h⟩ := x_gd_some h
  refine x_iald C kM_32 (x_inl lnM_32 hi4) dX9_sleepMinute_38 ?_
  refine x_iconst C (1 : Int32) dX9_sleepMinute_39 (by decide) ?_
  refine x_iadd C dX9_sleepMinute_40 ?_
  obtain ⟨hi5, h⟩ := x_gd_some h
  refine x_iast C kM_32 (x_inl lnM_32 hi5) dX9_sleepMinute_41 (x_gen h fun σ6 h => ?_)
  refine x_aload_n C 0 dX9_sleepMinute_42 rfl rfl ?_
  refine x_getRq C (k := 49) kM_0 (by decide) rfl x_in9 (by decide) (by decide) rfl rfl wd_1257 rfM_0_49 dX9_sleepMinute_43 ?_
  refine x_bipush C (6 : Int32) dX9_sleepMinute_46 (by decide) ?_
  refine x_iconst C (0 : Int32) dX9_sleepMinute_48 (by decide) ?_
  refine x_iastJ C kM_32 (x_inl lnM_32 (by decide)) (j := 6) (by decide) dX9_sleepMinute_49 (x_gen h fun σ7 h => ?_)
  refine x_aload_n C 0 dX9_sleepMinute_50 rfl rfl ?_
  refine x_getRq C (k := 49) kM_0 (by decide) rfl x_in9 (by decide) (by decide) rfl rfl wd_1257 rfM_0_49 dX9_sleepMinute_51 ?_
  refine x_bipush C (7 : Int32) dX9_sleepMinute_54 (by decide) ?_
  refine x_dup2 C dX9_sleepMinute_56 rfl rfl ?_
  refine x_ialdJ C kM_32 (x_inl lnM_32 (by decide)) (j := 7) (by decide) dX9_sleepMinute_57 ?_
  refine x_iconst C (1 : Int32) dX9_sleepMinute_58 (by decide) ?_
  refine x_isub C dX9_sleepMinute_59 ?_
  refine x_iastJ C kM_32 (x_inl lnM_32 (by decide)) (j := 7) (by decide) dX9_sleepMinute_60 (x_gen h fun σ8 h => ?_)
  refine x_aload_n C 0 dX9_sleepMinute_61 rfl rfl ?_
  refine x_getRq C (k := 49) kM_0 (by decide) rfl x_in9 (by decide) (by decide) rfl rfl wd_1257 rfM_0_49 dX9_sleepMinute_62 ?_
  refine x_bipush C (7 : Int32) dX9_sleepMinute_65 (by decide) ?_
  refine x_ialdJ C kM_32 (x_inl lnM_32 (by decide)) (j := 7) (by decide) dX9_sleepMinute_67 ?_
  refine x_if_le C 72 dX9_sleepMinute_68 rfl (fun hc => ?_) (fun hc => ?_)
  · replace h := x_itp hc h
    refine x_aload_n C 0 dX9_sleepMinute_72 rfl rfl ?_
    refine x_getRq C (k := 49) kM_0 (by decide) rfl x_in9 (by decide) (by decide) rfl rfl wd_1257 rfM_0_49 dX9_sleepMinute_73 ?_
    refine x_iconst C (1 : Int32) dX9_sleepMinute_76 (by decide) ?_
    refine x_iconst C (0 : Int32) dX9_sleepMinute_77 (by decide) ?_
    refine x_iastJ C kM_32 (x_inl lnM_32 (by decide)) (j := 1) (by decide) dX9_sleepMinute_78 (x_gen h fun σ9 h => ?_)
    refine x_aload_n C 0 dX9_sleepMinute_79 rfl rfl ?_
    refine x_getRq C (k := 49) kM_0 (by decide) rfl x_in9 (by decide) (by decide) rfl rfl wd_1257 rfM_0_49 dX9_sleepMinute_80 ?_
    refine x_iconst C (5 : Int32) dX9_sleepMinute_83 (by decide) ?_
    refine x_iconst C (0 : Int32) dX9_sleepMinute_84 (by decide) ?_
    refine x_iastJ C kM_32 (x_inl lnM_32 (by decide)) (j := 5) (by decide) dX9_sleepMinute_85 (x_gen h fun σ10 h => ?_)
    obtain ⟨-, rfl⟩ := x_ret h
    exact x_vret C dX9_sleepMinute_86
  · replace h := x_itn hc h
    obtain ⟨-, rfl⟩ := x_ret h
    exact x_vret C dX9_sleepMinute_71
abbrev rm_X9_minuteGoes : Room := { frames := 4, cells := 0, slots := 0, locals := 99 }
set_option maxHeartbeats 4000000 in
set_option maxRecDepth 100000 in
theorem w_X9_minuteGoes_30 {τ : x_Hp} (C : x_C p s m args meth c cX9_minuteGoes 1 none yX9_minuteGoes.cls TM G) (σ : x_Hp) (h : F_X9_minuteGoes_30 σ = some ((), τ)) : x_W p l e rm_X9_minuteGoes s m args below meth c (MQ below (x_Q TM G none τ) args s 0 0 (x_A TM G)) TM G 1 30 [(0, .ref (x_ad G 0))] [] σ := by
  have hG : x_OK TM G := C.2.2.2.2.2.2.2.2.1
  rw [F_X9_minuteGoes_30] at h
  refine x_aload_n C 0 dX9_minuteGoes_30 rfl rfl ?_
  refine x_getRq C (k := 49) kM_0 (by decide) rfl x_in9 (by decide) (by decide) rfl rfl wd_1257 rfM_0_49 dX9_minuteGoes_31 ?_
  refine x_bipush C (12 : Int32) dX9_minuteGoes_34 (by decide) ?_
  refine x_dup2 C dX9_minuteGoes_36 rfl rfl ?_
  refine x_ialdJ C kM_32 (x_inl lnM_32 (by decide)) (j := 12) (by decide) dX9_minuteGoes_37 ?_
  refine x_iconst C (1 : Int32) dX9_minuteGoes_38 (by decide) ?_
  refine x_iadd C dX9_minuteGoes_39 ?_
  refine x_iastJ C kM_32 (x_inl lnM_32 (by decide)) (j := 12) (by decide) dX9_minuteGoes_40 (x_gen h fun σ3 h => ?_)
  obtain ⟨-, rfl⟩ := x_ret h
  exact x_vret C dX9_minuteGoes_41
set_option maxHeartbeats 4000000 in
set_option maxRecDepth 100000 in
theorem c_X9_minuteGoes (hG : x_OK TM G) {σ τ : x_Hp} (h : F_X9_minuteGoes σ = some ((), τ)) : x_M l TM G yX9_minuteGoes cX9_minuteGoes 1 none rm_X9_minuteGoes [.ref (x_ad G 0)] σ none τ := by
  refine x_M.of hG (lv := [(0, .ref (x_ad G 0))]) (by decide) (Nat.le_of_ble_eq_true rfl) rfl (fun p e s m below meth c C => ?_)
  rw [F_X9_minuteGoes] at h
  refine x_aload_n C 0 dX9_minuteGoes_0 rfl rfl ?_
  refine x_getRq C (k := 49) kM_0 (by decide) rfl x_in9 (by decide) (by decide) rfl rfl wd_1257 rfM_0_49 dX9_minuteGoes_1 ?_
  refine x_iconst C (4 : Int32) dX9_minuteGoes_4 (by decide) ?_
  refine x_ialdJ C kM_32 (x_inl lnM_32 (by decide)) (j := 4) (by decide) dX9_minuteGoes_5 ?_
  refine x_if_lt C 30 dX9_minuteGoes_6 rfl (fun hc => ?_) (fun hc => ?_)
  · replace h := x_itp hc h
    exact x_sub [0] rfl (w_X9_minuteGoes_30 C σ h)
  · replace h := x_itn hc h
    refine x_aload_n C 0 dX9_minuteGoes_9 rfl rfl ?_
    refine x_getRq C (k := 49) kM_0 (by decide) rfl x_in9 (by decide) (by decide) rfl rfl wd_1257 rfM_0_49 dX9_minuteGoes_10 ?_
    refine x_bipush C (7 : Int32) dX9_minuteGoes_13 (by decide) ?_
    refine x_ialdJ C kM_32 (x_inl lnM_32 (by decide)) (j := 7) (by decide) dX9_minuteGoes_15 ?_
    refine x_if_le C 26 dX9_minuteGoes_16 rfl (fun hc => ?_) (fun hc => ?_)
    · replace h := x_itp hc h
      refine x_aload_n C 0 dX9_minuteGoes_26 rfl rfl ?_
      obtain ⟨v1, σ1, hc1, h⟩ := x_b_some h
      refine x_callV C (n := 0) (c_X9_wakeMinute hG hc1) kM_0 (by decide) rfl wd_1581 wd_1583 wd_77 wd_111 wd_1584 (by decide +kernel) rfl ⟨Nat.le_of_ble_eq_true rfl, Nat.le_of_ble_eq_true rfl⟩ ⟨rfl, rfl⟩ rfl (Nat.le_of_ble_eq_true rfl) dX9_minuteGoes_27 ?_
      exact x_sub [0] rfl (w_X9_minuteGoes_30 C σ1 h)
    · replace h := x_itn hc h
      refine x_aload_n C 0 dX9_minuteGoes_19 rfl rfl ?_
      obtain ⟨v2, σ2, hc2, h⟩ := x_b_some h
      refine x_callV C (n := 0) (c_X9_sleepMinute hG hc2) kM_0 (by decide) rfl wd_1577 wd_1579 wd_76 wd_111 wd_1580 (by decide +kernel) rfl ⟨Nat.le_of_ble_eq_true rfl, Nat.le_of_ble_eq_true rfl⟩ ⟨rfl, rfl⟩ rfl (Nat.le_of_ble_eq_true rfl) dX9_minuteGoes_20 ?_
      refine x_goto C 30 dX9_minuteGoes_23 rfl ?_
      exact x_sub [0] rfl (w_X9_minuteGoes_30 C σ2 h)
abbrev rm_X9_goes : Room := { frames := 5, cells := 0, slots := 0, locals := 119 }
set_option maxHeartbeats 4000000 in
set_option maxRecDepth 100000 in
theorem w_X9_goes_2 {τ : x_Hp} (C : x_C p s m args meth c cX9_goes 3 none yX9_goes.cls TM G) : ∀ (n : Nat) (x1 : Int32) (x2 : Int32) (σ : x_Hp) (h : F_X9_goes_2 n x1 x2 σ = some ((), τ)), x_W p l e rm_X9_goes s m args below meth c (MQ below (x_Q TM G none τ) args s 0 0 (x_A TM G)) TM G 3 2 [(0, .ref (x_ad G 0)), (1, .int x1), (2, .int x2)] [] σ := by
  intro n
  induction n with
  | zero => intro x1 x2 σ  h; cases h
  | succ n ih =>
    intro x1 x2 σ  h
    have hG : x_OK TM G := C.2.2.2.2.2.2.2.2.1
    rw [F_X9_goes_2] at h
    refine x_iload_n C 2 dX9_goes_2 rfl rfl ?_
    refine x_iload_n C 1 dX9_goes_3 rfl rfl ?_
    refine x_icmp_ge C 17 dX9_goes_4 rfl (fun hc => ?_) (fun hc => ?_)
    · replace h := x_itp hc h
      obtain ⟨-, rfl⟩ := x_ret h
      exact x_vret C dX9_goes_17
    · replace h := x_itn hc h
      refine x_aload_n C 0 dX9_goes_7 rfl rfl ?_
      obtain ⟨v1, σ1, hc1, h⟩ := x_b_some h
      refine x_callV C (n := 0) (c_X9_minuteGoes hG hc1) kM_0 (by decide) rfl wd_1573 wd_1575 wd_75 wd_111 wd_1576 (by decide +kernel) rfl ⟨Nat.le_of_ble_eq_true rfl, Nat.le_of_ble_eq_true rfl⟩ ⟨rfl, rfl⟩ rfl (Nat.le_of_ble_eq_true rfl) dX9_goes_8 ?_
      refine x_iinc C 2 (x2 + (1 : Int32)) [(2, .int (x2 + (1 : Int32))), (0, .ref (x_ad G 0)), (1, .int x1)] dX9_goes_11 rfl rfl (by decide) rfl ?_
      refine x_goto C 2 dX9_goes_14 rfl ?_
      exact x_sub [1, 2, 0] rfl (ih x1 (x2 + (1 : Int32)) σ1 h)
set_option maxHeartbeats 4000000 in
set_option maxRecDepth 100000 in
theorem c_X9_goes (hG : x_OK TM G) {x1 : Int32} {σ τ : x_Hp} (h : F_X9_goes x1 σ = some ((), τ)) : x_M l TM G yX9_goes cX9_goes 3 none rm_X9_goes [.ref (x_ad G 0), .int x1] σ none τ := by
  refine x_M.of hG (lv := [(0, .ref (x_ad G 0)), (1, .int x1)]) (by decide) (Nat.le_of_ble_eq_true rfl) rfl (fun p e s m below meth c C => ?_)
  rw [F_X9_goes] at h
  refine x_iconst C (0 : Int32) dX9_goes_0 (by decide) ?_
  refine x_istore_n C [(2, .int (0 : Int32)), (0, .ref (x_ad G 0)), (1, .int x1)] dX9_goes_1 rfl (by decide) rfl ?_
  exact x_sub [1, 2, 0] rfl (w_X9_goes_2 C x_fuel x1 (0 : Int32) σ h)
abbrev rm_X9_hands : Room := { frames := 1, cells := 0, slots := 0, locals := 22 }
set_option maxHeartbeats 4000000 in
set_option maxRecDepth 100000 in
theorem w_X9_hands_50 {τ : x_Hp} (C : x_C p s m args meth c cX9_hands 2 none yX9_hands.cls TM G) (x1 : Int32) (σ : x_Hp) (h : F_X9_hands_50 x1 σ = some ((), τ)) : x_W p l e rm_X9_hands s m args below meth c (MQ below (x_Q TM G none τ) args s 0 0 (x_A TM G)) TM G 2 50 [(0, .ref (x_ad G 0)), (1, .int x1)] [] σ := by
  have hG : x_OK TM G := C.2.2.2.2.2.2.2.2.1
  rw [F_X9_hands_50] at h
  refine x_aload_n C 0 dX9_hands_50 rfl rfl ?_
  refine x_getRq C (k := 49) kM_0 (by decide) rfl x_in9 (by decide) (by decide) rfl rfl wd_1257 rfM_0_49 dX9_hands_51 ?_
  refine x_bipush C (11 : Int32) dX9_hands_54 (by decide) ?_
  refine x_aload_n C 0 dX9_hands_56 rfl rfl ?_
  refine x_getRq C (k := 49) kM_0 (by decide) rfl x_in9 (by decide) (by decide) rfl rfl wd_1257 rfM_0_49 dX9_hands_57 ?_
  refine x_bipush C (10 : Int32) dX9_hands_60 (by decide) ?_
  refine x_ialdJ C kM_32 (x_inl lnM_32 (by decide)) (j := 10) (by decide) dX9_hands_62 ?_
  refine x_iastJ C kM_32 (x_inl lnM_32 (by decide)) (j := 11) (by decide) dX9_hands_63 (x_gen h fun σ4 h => ?_)
  refine x_aload_n C 0 dX9_hands_64 rfl rfl ?_
  refine x_getRq C (k := 49) kM_0 (by decide) rfl x_in9 (by decide) (by decide) rfl rfl wd_1257 rfM_0_49 dX9_hands_65 ?_
  refine x_bipush C (10 : Int32) dX9_hands_68 (by decide) ?_
  refine x_aload_n C 0 dX9_hands_70 rfl rfl ?_
  refine x_getRq C (k := 49) kM_0 (by decide) rfl x_in9 (by decide) (by decide) rfl rfl wd_1257 rfM_0_49 dX9_hands_71 ?_
  refine x_iconst C (4 : Int32) dX9_hands_74 (by decide) ?_
  refine x_ialdJ C kM_32 (x_inl lnM_32 (by decide)) (j := 4) (by decide) dX9_hands_75 ?_
  refine x_iastJ C kM_32 (x_inl lnM_32 (by decide)) (j := 10) (by decide) dX9_hands_76 (x_gen h fun σ5 h => ?_)
  refine x_aload_n C 0 dX9_hands_77 rfl rfl ?_
  refine x_getRq C (k := 49) kM_0 (by decide) rfl x_in9 (by decide) (by decide) rfl rfl wd_1257 rfM_0_49 dX9_hands_78 ?_
  refine x_iconst C (4 : Int32) dX9_hands_81 (by decide) ?_
  refine x_iload_n C 1 dX9_hands_82 rfl rfl ?_
  refine x_iastJ C kM_32 (x_inl lnM_32 (by decide)) (j := 4) (by decide) dX9_hands_83 (x_gen h fun σ6 h => ?_)
  refine x_aload_n C 0 dX9_hands_84 rfl rfl ?_
  refine x_getRq C (k := 49) kM_0 (by decide) rfl x_in9 (by decide) (by decide) rfl rfl wd_1257 rfM_0_49 dX9_hands_85 ?_
  refine x_iconst C (5 : Int32) dX9_hands_88 (by decide) ?_
  refine x_iconst C (0 : Int32) dX9_hands_89 (by decide) ?_
  refine x_iastJ C kM_32 (x_inl lnM_32 (by decide)) (j := 5) (by decide) dX9_hands_90 (x_gen h fun σ7 h => ?_)
  refine x_aload_n C 0 dX9_hands_91 rfl rfl ?_
  refine x_getRq C (k := 49) kM_0 (by decide) rfl x_in9 (by decide) (by decide) rfl rfl wd_1257 rfM_0_49 dX9_hands_92 ?_
  refine x_bipush C (17 : Int32) dX9_hands_95 (by decide) ?_
  refine x_dup2 C dX9_hands_97 rfl rfl ?_
  refine x_ialdJ C kM_32 (x_inl lnM_32 (by decide)) (j := 17) (by decide) dX9_hands_98 ?_
  refine x_iconst C (1 : Int32) dX9_hands_99 (by decide) ?_
  refine x_iadd C dX9_hands_100 ?_
  refine x_iastJ C kM_32 (x_inl lnM_32 (by decide)) (j := 17) (by decide) dX9_hands_101 (x_gen h fun σ8 h => ?_)
  refine x_aload_n C 0 dX9_hands_102 rfl rfl ?_
  refine x_getRq C (k := 49) kM_0 (by decide) rfl x_in9 (by decide) (by decide) rfl rfl wd_1257 rfM_0_49 dX9_hands_103 ?_
  refine x_bipush C (18 : Int32) dX9_hands_106 (by decide) ?_
  refine x_dup2 C dX9_hands_108 rfl rfl ?_
  refine x_ialdJ C kM_32 (x_inl lnM_32 (by decide)) (j := 18) (by decide) dX9_hands_109 ?_
  refine x_iconst C (1 : Int32) dX9_hands_110 (by decide) ?_
  refine x_iload_n C 1 dX9_hands_111 rfl rfl ?_
  refine x_ishl C dX9_hands_112 ?_
  refine x_ior C dX9_hands_113 ?_
  refine x_iastJ C kM_32 (x_inl lnM_32 (by decide)) (j := 18) (by decide) dX9_hands_114 (x_gen h fun σ9 h => ?_)
  obtain ⟨-, rfl⟩ := x_ret h
  exact x_vret C dX9_hands_115
set_option maxHeartbeats 4000000 in
set_option maxRecDepth 100000 in
theorem c_X9_hands (hG : x_OK TM G) {x1 : Int32} {σ τ : x_Hp} (h : F_X9_hands x1 σ = some ((), τ)) : x_M l TM G yX9_hands cX9_hands 2 none rm_X9_hands [.ref (x_ad G 0), .int x1] σ none τ := by
  refine x_M.of hG (lv := [(0, .ref (x_ad G 0)), (1, .int x1)]) (by decide) (Nat.le_of_ble_eq_true rfl) rfl (fun p e s m below meth c C => ?_)
  rw [F_X9_hands] at h
  refine x_iload_n C 1 dX9_hands_0 rfl rfl ?_
  refine x_aload_n C 0 dX9_hands_1 rfl rfl ?_
  refine x_getRq C (k := 49) kM_0 (by decide) rfl x_in9 (by decide) (by decide) rfl rfl wd_1257 rfM_0_49 dX9_hands_2 ?_
  refine x_bipush C (10 : Int32) dX9_hands_5 (by decide) ?_
  refine x_ialdJ C kM_32 (x_inl lnM_32 (by decide)) (j := 10) (by decide) dX9_hands_7 ?_
  refine x_icmp_eq C 50 dX9_hands_8 rfl (fun hc => ?_) (fun hc => ?_)
  · replace h := x_itp hc h
    exact x_sub [0, 1] rfl (w_X9_hands_50 C x1 σ h)
  · replace h := x_itn hc h
    refine x_iload_n C 1 dX9_hands_11 rfl rfl ?_
    refine x_aload_n C 0 dX9_hands_12 rfl rfl ?_
    refine x_getRq C (k := 49) kM_0 (by decide) rfl x_in9 (by decide) (by decide) rfl rfl wd_1257 rfM_0_49 dX9_hands_13 ?_
    refine x_bipush C (11 : Int32) dX9_hands_16 (by decide) ?_
    refine x_ialdJ C kM_32 (x_inl lnM_32 (by decide)) (j := 11) (by decide) dX9_hands_18 ?_
    refine x_icmp_eq C 50 dX9_hands_19 rfl (fun hc => ?_) (fun hc => ?_)
    · replace h := x_itp hc h
      exact x_sub [0, 1] rfl (w_X9_hands_50 C x1 σ h)
    · replace h := x_itn hc h
      refine x_aload_n C 0 dX9_hands_22 rfl rfl ?_
      refine x_getRq C (k := 49) kM_0 (by decide) rfl x_in9 (by decide) (by decide) rfl rfl wd_1257 rfM_0_49 dX9_hands_23 ?_
      refine x_iconst C (2 : Int32) dX9_hands_26 (by decide) ?_
      refine x_aload_n C 0 dX9_hands_27 rfl rfl ?_
      refine x_getRq C (k := 49) kM_0 (by decide) rfl x_in9 (by decide) (by decide) rfl rfl wd_1257 rfM_0_49 dX9_hands_28 ?_
      refine x_iconst C (2 : Int32) dX9_hands_31 (by decide) ?_
      refine x_ialdJ C kM_32 (x_inl lnM_32 (by decide)) (j := 2) (by decide) dX9_hands_32 ?_
      refine x_aload_n C 0 dX9_hands_33 rfl rfl ?_
      refine x_getRq C (k := 29) kM_0 (by decide) rfl x_in9 (by decide) (by decide) rfl rfl wd_1237 rfM_0_29 dX9_hands_34 ?_
      refine x_aload_n C 0 dX9_hands_37 rfl rfl ?_
      refine x_getI C (k := 18) kM_0 (by decide) rfl x_in9 (by decide) (by decide) rfl rfl wd_1226 dX9_hands_38 ?_
      obtain ⟨hi1, h⟩ := x_gd_some h
      refine x_iald C kM_16 (x_inl lnM_16 hi1) dX9_hands_41 ?_
      refine x_iadd C dX9_hands_42 ?_
      refine x_iconst C (0 : Int32) dX9_hands_43 (by decide) ?_
      refine x_bipush C (99 : Int32) dX9_hands_44 (by decide) ?_
      obtain ⟨v2, σ2, hc2, h⟩ := x_b_some h
      refine x_callS C (n := 3) (c_X9_held hG hc2) wd_1562 wd_1563 wd_111 wd_1564 (by decide +kernel) rfl ⟨Nat.le_of_ble_eq_true rfl, Nat.le_of_ble_eq_true rfl⟩ ⟨rfl, rfl⟩ rfl (Nat.le_of_ble_eq_true rfl) dX9_hands_46 ?_
      refine x_iastJ C kM_32 (x_inl lnM_32 (by decide)) (j := 2) (by decide) dX9_hands_49 (x_gen h fun σ3 h => ?_)
      exact x_sub [0, 1] rfl (w_X9_hands_50 C x1 σ3 h)
abbrev rm_X9_isAunt : Room := { frames := 1, cells := 0, slots := 0, locals := 22 }
set_option maxHeartbeats 4000000 in
set_option maxRecDepth 100000 in
theorem c_X9_isAunt (hG : x_OK TM G) {x1 : Int32} {σ τ : x_Hp} {r : Int32} (h : F_X9_isAunt x1 σ = some (r, τ)) : x_M l TM G yX9_isAunt cX9_isAunt 2 (some .boolean) rm_X9_isAunt [.ref (x_ad G 0), .int x1] σ (some (.int r)) τ := by
  refine x_M.of hG (lv := [(0, .ref (x_ad G 0)), (1, .int x1)]) (by decide) (Nat.le_of_ble_eq_true rfl) rfl (fun p e s m below meth c C => ?_)
  rw [F_X9_isAunt] at h
  refine x_iload_n C 1 dX9_isAunt_0 rfl rfl ?_
  refine x_iconst C (0 : Int32) dX9_isAunt_1 (by decide) ?_
  refine x_aload_n C 0 dX9_isAunt_2 rfl rfl ?_
  refine x_getRq C (k := 23) kM_0 (by decide) rfl x_in9 (by decide) (by decide) rfl rfl wd_1231 rfM_0_23 dX9_isAunt_3 ?_
  refine x_aload_n C 0 dX9_isAunt_6 rfl rfl ?_
  refine x_getI C (k := 18) kM_0 (by decide) rfl x_in9 (by decide) (by decide) rfl rfl wd_1226 dX9_isAunt_7 ?_
  obtain ⟨hi1, h⟩ := x_gd_some h
  refine x_iald C kM_10 (x_inl lnM_10 hi1) dX9_isAunt_10 ?_
  refine x_iconst C (1 : Int32) dX9_isAunt_11 (by decide) ?_
  refine x_isub C dX9_isAunt_12 ?_
  obtain ⟨v2, σ2, hc2, h⟩ := x_b_some h
  refine x_callS C (n := 3) (c_X9_in hG hc2) wd_1531 wd_1532 wd_111 wd_1533 (by decide +kernel) rfl ⟨Nat.le_of_ble_eq_true rfl, Nat.le_of_ble_eq_true rfl⟩ ⟨rfl, rfl⟩ rfl (Nat.le_of_ble_eq_true rfl) dX9_isAunt_13 ?_
  obtain ⟨hg, h⟩ := x_gd_some h
  obtain ⟨rfl, rfl⟩ := x_ret h
  exact x_zret C (x_isz_n hg) dX9_isAunt_16
abbrev rm_X9_isAwake : Room := { frames := 0, cells := 0, slots := 0, locals := 0 }
set_option maxHeartbeats 4000000 in
set_option maxRecDepth 100000 in
theorem c_X9_isAwake (hG : x_OK TM G) {σ τ : x_Hp} {r : Int32} (h : F_X9_isAwake σ = some (r, τ)) : x_M l TM G yX9_isAwake cX9_isAwake 1 (some .boolean) rm_X9_isAwake [.ref (x_ad G 0)] σ (some (.int r)) τ := by
  refine x_M.of hG (lv := [(0, .ref (x_ad G 0))]) (by decide) (Nat.le_of_ble_eq_true rfl) rfl (fun p e s m below meth c C => ?_)
  rw [F_X9_isAwake] at h
  refine x_aload_n C 0 dX9_isAwake_0 rfl rfl ?_
  refine x_getRq C (k := 48) kM_0 (by decide) rfl x_in9 (by decide) (by decide) rfl rfl wd_1256 rfM_0_48 dX9_isAwake_1 ?_
  refine x_iconst C (4 : Int32) dX9_isAwake_4 (by decide) ?_
  refine x_ialdJ C kM_31 (x_inl lnM_31 (by decide)) (j := 4) (by decide) dX9_isAwake_5 ?_
  refine x_if_lt C 23 dX9_isAwake_6 rfl (fun hc => ?_) (fun hc => ?_)
  · replace h := x_itp hc h
    refine x_iconst C (0 : Int32) dX9_isAwake_23 (by decide) ?_
    obtain ⟨rfl, rfl⟩ := x_ret h
    exact x_zret C rfl dX9_isAwake_24
  · replace h := x_itn hc h
    refine x_aload_n C 0 dX9_isAwake_9 rfl rfl ?_
    refine x_getRq C (k := 48) kM_0 (by decide) rfl x_in9 (by decide) (by decide) rfl rfl wd_1256 rfM_0_48 dX9_isAwake_10 ?_
    refine x_bipush C (7 : Int32) dX9_isAwake_13 (by decide) ?_
    refine x_ialdJ C kM_31 (x_inl lnM_31 (by decide)) (j := 7) (by decide) dX9_isAwake_15 ?_
    refine x_if_ne C 23 dX9_isAwake_16 rfl (fun hc => ?_) (fun hc => ?_)
    · replace h := x_itn hc h
      refine x_iconst C (0 : Int32) dX9_isAwake_23 (by decide) ?_
      obtain ⟨rfl, rfl⟩ := x_ret h
      exact x_zret C rfl dX9_isAwake_24
    · replace h := x_itp hc h
      refine x_iconst C (1 : Int32) dX9_isAwake_19 (by decide) ?_
      refine x_goto C 24 dX9_isAwake_20 rfl ?_
      obtain ⟨rfl, rfl⟩ := x_ret h
      exact x_zret C rfl dX9_isAwake_24
abbrev rm_X9_cries : Room := { frames := 6, cells := 0, slots := 0, locals := 141 }
set_option maxHeartbeats 4000000 in
set_option maxRecDepth 100000 in
theorem c_X9_cries (hG : x_OK TM G) {x1 : Int32} {σ τ : x_Hp} {r : Int32} (h : F_X9_cries x1 σ = some (r, τ)) : x_M l TM G yX9_cries cX9_cries 3 (some .int) rm_X9_cries [.ref (x_ad G 0), .int x1] σ (some (.int r)) τ := by
  refine x_M.of hG (lv := [(0, .ref (x_ad G 0)), (1, .int x1)]) (by decide) (Nat.le_of_ble_eq_true rfl) rfl (fun p e s m below meth c C => ?_)
  rw [F_X9_cries] at h
  refine x_aload_n C 0 dX9_cries_0 rfl rfl ?_
  refine x_getRq C (k := 49) kM_0 (by decide) rfl x_in9 (by decide) (by decide) rfl rfl wd_1257 rfM_0_49 dX9_cries_1 ?_
  refine x_bipush C (13 : Int32) dX9_cries_4 (by decide) ?_
  refine x_ialdJ C kM_32 (x_inl lnM_32 (by decide)) (j := 13) (by decide) dX9_cries_6 ?_
  refine x_istore_n C [(2, .int (σ.1 32 13)), (0, .ref (x_ad G 0)), (1, .int x1)] dX9_cries_7 rfl (by decide) rfl ?_
  refine x_aload_n C 1 dX9_cries_8 rfl rfl ?_
  refine x_iload_n C 2 dX9_cries_9 rfl rfl ?_
  obtain ⟨v1, σ1, hc1, h⟩ := x_b_some h
  refine x_callV C (n := 1) (c_X9_goes hG hc1) kM_0 (by decide) rfl wd_1569 wd_1571 wd_74 wd_111 wd_1572 (by decide +kernel) rfl ⟨Nat.le_of_ble_eq_true rfl, Nat.le_of_ble_eq_true rfl⟩ ⟨rfl, rfl⟩ rfl (Nat.le_of_ble_eq_true rfl) dX9_cries_10 ?_
  refine x_aload_n C 1 dX9_cries_13 rfl rfl ?_
  refine x_getRq C (k := 49) kM_0 (by decide) rfl x_in9 (by decide) (by decide) rfl rfl wd_1257 rfM_0_49 dX9_cries_14 ?_
  refine x_bipush C (13 : Int32) dX9_cries_17 (by decide) ?_
  refine x_ialdJ C kM_32 (x_inl lnM_32 (by decide)) (j := 13) (by decide) dX9_cries_19 ?_
  refine x_iload_n C 0 dX9_cries_20 rfl rfl ?_
  refine x_isub C dX9_cries_21 ?_
  obtain ⟨rfl, rfl⟩ := x_ret h
  exact x_iret C dX9_cries_22
abbrev rm_X9_now : Room := { frames := 1, cells := 0, slots := 0, locals := 22 }
set_option maxHeartbeats 4000000 in
set_option maxRecDepth 100000 in
theorem c_X9_now (hG : x_OK TM G) {x1 : Int32} {σ τ : x_Hp} {r : Int32} (h : F_X9_now x1 σ = some (r, τ)) : x_M l TM G yX9_now cX9_now 2 (some .int) rm_X9_now [.ref (x_ad G 0), .int x1] σ (some (.int r)) τ := by
  refine x_M.of hG (lv := [(0, .ref (x_ad G 0)), (1, .int x1)]) (by decide) (Nat.le_of_ble_eq_true rfl) rfl (fun p e s m below meth c C => ?_)
  rw [F_X9_now] at h
  refine x_iload_n C 1 dX9_now_0 rfl rfl ?_
  refine x_iconst C (0 : Int32) dX9_now_1 (by decide) ?_
  refine x_bipush C (11 : Int32) dX9_now_2 (by decide) ?_
  obtain ⟨v1, σ1, hc1, h⟩ := x_b_some h
  refine x_callS C (n := 3) (c_X9_in hG hc1) wd_1531 wd_1532 wd_111 wd_1533 (by decide +kernel) rfl ⟨Nat.le_of_ble_eq_true rfl, Nat.le_of_ble_eq_true rfl⟩ ⟨rfl, rfl⟩ rfl (Nat.le_of_ble_eq_true rfl) dX9_now_4 ?_
  refine x_if_eq C 19 dX9_now_7 rfl (fun hc => ?_) (fun hc => ?_)
  · replace h := x_itp hc h
    refine x_iconst C (-1 : Int32) dX9_now_19 (by decide) ?_
    obtain ⟨rfl, rfl⟩ := x_ret h
    exact x_iret C dX9_now_20
  · replace h := x_itn hc h
    refine x_aload_n C 0 dX9_now_10 rfl rfl ?_
    refine x_getRq C (k := 48) kM_0 (by decide) rfl x_in9 (by decide) (by decide) rfl rfl wd_1256 rfM_0_48 dX9_now_11 ?_
    refine x_iload_n C 1 dX9_now_14 rfl rfl ?_
    obtain ⟨hi2, h⟩ := x_gd_some h
    refine x_iald C kM_31 (x_inl lnM_31 hi2) dX9_now_15 ?_
    refine x_goto C 20 dX9_now_16 rfl ?_
    obtain ⟨rfl, rfl⟩ := x_ret h
    exact x_iret C dX9_now_20
abbrev rm_X9_aunt : Room := { frames := 2, cells := 0, slots := 0, locals := 43 }
set_option maxHeartbeats 4000000 in
set_option maxRecDepth 100000 in
theorem w_X9_aunt_52 {r : Int32} {τ : x_Hp} (C : x_C p s m args meth c cX9_aunt 3 (some .int) yX9_aunt.cls TM G) (x1 : Int32) (x2 : Int32) (σ : x_Hp) (h : F_X9_aunt_52 x1 x2 σ = some (r, τ)) : x_W p l e rm_X9_aunt s m args below meth c (MQ below (x_Q TM G (some (.int r)) τ) args s 0 0 (x_A TM G)) TM G 3 52 [(0, .ref (x_ad G 0)), (1, .int x1), (2, .int x2)] [] σ := by
  have hG : x_OK TM G := C.2.2.2.2.2.2.2.2.1
  rw [F_X9_aunt_52] at h
  refine x_aload_n C 0 dX9_aunt_52 rfl rfl ?_
  refine x_getRq C (k := 48) kM_0 (by decide) rfl x_in9 (by decide) (by decide) rfl rfl wd_1256 rfM_0_48 dX9_aunt_53 ?_
  refine x_bipush C (20 : Int32) dX9_aunt_56 (by decide) ?_
  refine x_bipush C (6 : Int32) dX9_aunt_58 (by decide) ?_
  refine x_iload_n C 2 dX9_aunt_60 rfl rfl ?_
  refine x_imul C dX9_aunt_61 ?_
  refine x_iadd C dX9_aunt_62 ?_
  refine x_iload_n C 1 dX9_aunt_63 rfl rfl ?_
  refine x_iadd C dX9_aunt_64 ?_
  obtain ⟨hi4, h⟩ := x_gd_some h
  refine x_iald C kM_31 (x_inl lnM_31 hi4) dX9_aunt_65 ?_
  obtain ⟨rfl, rfl⟩ := x_ret h
  exact x_iret C dX9_aunt_66
set_option maxHeartbeats 4000000 in
set_option maxRecDepth 100000 in
theorem c_X9_aunt (hG : x_OK TM G) {x1 : Int32} {x2 : Int32} {σ τ : x_Hp} {r : Int32} (h : F_X9_aunt x1 x2 σ = some (r, τ)) : x_M l TM G yX9_aunt cX9_aunt 3 (some .int) rm_X9_aunt [.ref (x_ad G 0), .int x1, .int x2] σ (some (.int r)) τ := by
  refine x_M.of hG (lv := [(0, .ref (x_ad G 0)), (1, .int x1), (2, .int x2)]) (by decide) (Nat.le_of_ble_eq_true rfl) rfl (fun p e s m below meth c C => ?_)
  rw [F_X9_aunt] at h
  refine x_aload_n C 0 dX9_aunt_0 rfl rfl ?_
  refine x_iload_n C 1 dX9_aunt_1 rfl rfl ?_
  obtain ⟨v1, σ1, hc1, h⟩ := x_b_some h
  refine x_callV C (n := 1) (c_X9_isAunt hG hc1) kM_0 (by decide) rfl wd_1538 wd_1540 wd_69 wd_111 wd_1541 (by decide +kernel) rfl ⟨Nat.le_of_ble_eq_true rfl, Nat.le_of_ble_eq_true rfl⟩ ⟨rfl, rfl⟩ rfl (Nat.le_of_ble_eq_true rfl) dX9_aunt_2 ?_
  refine x_if_ne C 10 dX9_aunt_5 rfl (fun hc => ?_) (fun hc => ?_)
  · replace h := x_itn hc h
    refine x_iload_n C 2 dX9_aunt_10 rfl rfl ?_
    by_cases hw0 : x2 = (0 : Int32)
    · replace h := x_itp hw0 h
      refine x_ts_at C (0 : Int32) (41) 52 dX9_aunt_11 hw0 (by decide +kernel) (by decide +kernel) (by decide +kernel) rfl ?_
      exact x_sub [0, 1, 2] rfl (w_X9_aunt_52 C x1 x2 σ1 h)
    replace h := x_itn hw0 h
    by_cases hw1 : x2 = (1 : Int32)
    · replace h := x_itp hw1 h
      refine x_ts_at C (1 : Int32) (41) 52 dX9_aunt_11 hw1 (by decide +kernel) (by decide +kernel) (by decide +kernel) rfl ?_
      exact x_sub [0, 1, 2] rfl (w_X9_aunt_52 C x1 x2 σ1 h)
    replace h := x_itn hw1 h
    by_cases hw2 : x2 = (2 : Int32)
    · replace h := x_itp hw2 h
      refine x_ts_at C (2 : Int32) (41) 52 dX9_aunt_11 hw2 (by decide +kernel) (by decide +kernel) (by decide +kernel) rfl ?_
      exact x_sub [0, 1, 2] rfl (w_X9_aunt_52 C x1 x2 σ1 h)
    replace h := x_itn hw2 h
    by_cases hw3 : x2 = (3 : Int32)
    · replace h := x_itp hw3 h
      refine x_ts_at C (3 : Int32) (41) 52 dX9_aunt_11 hw3 (by decide +kernel) (by decide +kernel) (by decide +kernel) rfl ?_
      exact x_sub [0, 1, 2] rfl (w_X9_aunt_52 C x1 x2 σ1 h)
    replace h := x_itn hw3 h
    by_cases hw4 : x2 = (4 : Int32)
    · replace h := x_itp hw4 h
      refine x_ts_at C (4 : Int32) (41) 52 dX9_aunt_11 hw4 (by decide +kernel) (by decide +kernel) (by decide +kernel) rfl ?_
      exact x_sub [0, 1, 2] rfl (w_X9_aunt_52 C x1 x2 σ1 h)
    replace h := x_itn hw4 h
    by_cases hw5 : x2 = (5 : Int32)
    · replace h := x_itp hw5 h
      refine x_ts_at C (5 : Int32) (56) 67 dX9_aunt_11 hw5 (by decide +kernel) (by decide +kernel) (by decide +kernel) rfl ?_
      refine x_aload_n C 0 dX9_aunt_67 rfl rfl ?_
      refine x_getRq C (k := 24) kM_0 (by decide) rfl x_in9 (by decide) (by decide) rfl rfl wd_1232 rfM_0_24 dX9_aunt_68 ?_
      refine x_bipush C (6 : Int32) dX9_aunt_71 (by decide) ?_
      refine x_aload_n C 0 dX9_aunt_73 rfl rfl ?_
      refine x_getI C (k := 18) kM_0 (by decide) rfl x_in9 (by decide) (by decide) rfl rfl wd_1226 dX9_aunt_74 ?_
      refine x_imul C dX9_aunt_77 ?_
      refine x_iload_n C 1 dX9_aunt_78 rfl rfl ?_
      refine x_iadd C dX9_aunt_79 ?_
      obtain ⟨hi2, h⟩ := x_gd_some h
      refine x_iald C kM_11 (x_inl lnM_11 hi2) dX9_aunt_80 ?_
      obtain ⟨rfl, rfl⟩ := x_ret h
      exact x_iret C dX9_aunt_81
    replace h := x_itn hw5 h
    by_cases hw6 : x2 = (6 : Int32)
    · replace h := x_itp hw6 h
      refine x_ts_at C (6 : Int32) (71) 82 dX9_aunt_11 hw6 (by decide +kernel) (by decide +kernel) (by decide +kernel) rfl ?_
      refine x_aload_n C 0 dX9_aunt_82 rfl rfl ?_
      refine x_getRq C (k := 48) kM_0 (by decide) rfl x_in9 (by decide) (by decide) rfl rfl wd_1256 rfM_0_48 dX9_aunt_83 ?_
      refine x_bipush C (50 : Int32) dX9_aunt_86 (by decide) ?_
      refine x_iload_n C 1 dX9_aunt_88 rfl rfl ?_
      refine x_iadd C dX9_aunt_89 ?_
      obtain ⟨hi3, h⟩ := x_gd_some h
      refine x_iald C kM_31 (x_inl lnM_31 hi3) dX9_aunt_90 ?_
      obtain ⟨rfl, rfl⟩ := x_ret h
      exact x_iret C dX9_aunt_91
    replace h := x_itn hw6 h
    refine x_ts_out C 92 dX9_aunt_11 (by have q0 := x_tne (k := 0) (by decide +kernel) hw0; have q1 := x_tne (k := 1) (by decide +kernel) hw1; have q2 := x_tne (k := 2) (by decide +kernel) hw2; have q3 := x_tne (k := 3) (by decide +kernel) hw3; have q4 := x_tne (k := 4) (by decide +kernel) hw4; have q5 := x_tne (k := 5) (by decide +kernel) hw5; have q6 := x_tne (k := 6) (by decide +kernel) hw6; omega) rfl ?_
    refine x_iconst C (-1 : Int32) dX9_aunt_92 (by decide) ?_
    obtain ⟨rfl, rfl⟩ := x_ret h
    exact x_iret C dX9_aunt_93
  · replace h := x_itp hc h
    refine x_iconst C (-1 : Int32) dX9_aunt_8 (by decide) ?_
    obtain ⟨rfl, rfl⟩ := x_ret h
    exact x_iret C dX9_aunt_9
abbrev rm_X9_law : Room := { frames := 3, cells := 0, slots := 0, locals := 77 }
set_option maxHeartbeats 4000000 in
set_option maxRecDepth 100000 in
theorem c_X9_law (hG : x_OK TM G) {x1 : Int32} {σ τ : x_Hp} {r : Int32} (h : F_X9_law x1 σ = some (r, τ)) : x_M l TM G yX9_law cX9_law 2 (some .int) rm_X9_law [.ref (x_ad G 0), .int x1] σ (some (.int r)) τ := by
  refine x_M.of hG (lv := [(0, .ref (x_ad G 0)), (1, .int x1)]) (by decide) (Nat.le_of_ble_eq_true rfl) rfl (fun p e s m below meth c C => ?_)
  rw [F_X9_law] at h
  refine x_iload_n C 1 dX9_law_0 rfl rfl ?_
  refine x_iconst C (0 : Int32) dX9_law_1 (by decide) ?_
  refine x_bipush C (6 : Int32) dX9_law_2 (by decide) ?_
  obtain ⟨v1, σ1, hc1, h⟩ := x_b_some h
  refine x_callS C (n := 3) (c_X9_in hG hc1) wd_1531 wd_1532 wd_111 wd_1533 (by decide +kernel) rfl ⟨Nat.le_of_ble_eq_true rfl, Nat.le_of_ble_eq_true rfl⟩ ⟨rfl, rfl⟩ rfl (Nat.le_of_ble_eq_true rfl) dX9_law_4 ?_
  refine x_if_eq C 22 dX9_law_7 rfl (fun hc => ?_) (fun hc => ?_)
  · replace h := x_itp hc h
    refine x_sipush C (-10000 : Int32) dX9_law_22 (by decide) ?_
    obtain ⟨rfl, rfl⟩ := x_ret h
    exact x_iret C dX9_law_25
  · replace h := x_itn hc h
    refine x_aload_n C 0 dX9_law_10 rfl rfl ?_
    refine x_getRq C (k := 23) kM_0 (by decide) rfl x_in9 (by decide) (by decide) rfl rfl wd_1231 rfM_0_23 dX9_law_11 ?_
    refine x_aload_n C 0 dX9_law_14 rfl rfl ?_
    refine x_getI C (k := 18) kM_0 (by decide) rfl x_in9 (by decide) (by decide) rfl rfl wd_1226 dX9_law_15 ?_
    obtain ⟨hi2, h⟩ := x_gd_some h
    refine x_iald C kM_10 (x_inl lnM_10 hi2) dX9_law_18 ?_
    refine x_if_ne C 26 dX9_law_19 rfl (fun hc => ?_) (fun hc => ?_)
    · replace h := x_itn hc h
      refine x_aload_n C 0 dX9_law_26 rfl rfl ?_
      obtain ⟨v3, σ3, hc3, h⟩ := x_b_some h
      refine x_callV C (n := 0) (c_X9_copies hG hc3) kM_0 (by decide) rfl wd_1546 wd_1548 wd_70 wd_111 wd_1549 (by decide +kernel) rfl ⟨Nat.le_of_ble_eq_true rfl, Nat.le_of_ble_eq_true rfl⟩ ⟨rfl, rfl⟩ rfl (Nat.le_of_ble_eq_true rfl) dX9_law_27 ?_
      refine x_aload_n C 0 dX9_law_30 rfl rfl ?_
      refine x_iload_n C 1 dX9_law_31 rfl rfl ?_
      obtain ⟨v4, σ4, hc4, h⟩ := x_b_some h
      refine x_callV C (n := 1) (c_X9_lawNow hG hc4) kM_0 (by decide) rfl wd_1550 wd_1552 wd_71 wd_111 wd_1553 (by decide +kernel) rfl ⟨Nat.le_of_ble_eq_true rfl, Nat.le_of_ble_eq_true rfl⟩ ⟨rfl, rfl⟩ rfl (Nat.le_of_ble_eq_true rfl) dX9_law_32 ?_
      obtain ⟨rfl, rfl⟩ := x_ret h
      exact x_iret C dX9_law_35
    · replace h := x_itp hc h
      refine x_sipush C (-10000 : Int32) dX9_law_22 (by decide) ?_
      obtain ⟨rfl, rfl⟩ := x_ret h
      exact x_iret C dX9_law_25
abbrev rm_X9_keeps : Room := { frames := 1, cells := 0, slots := 0, locals := 21 }
set_option maxHeartbeats 4000000 in
set_option maxRecDepth 100000 in
theorem w_X9_keeps_51 {τ : x_Hp} (C : x_C p s m args meth c cX9_keeps 2 none yX9_keeps.cls TM G) : ∀ (n : Nat) (x1 : Int32) (σ : x_Hp) (h : F_X9_keeps_51 n x1 σ = some ((), τ)), x_W p l e rm_X9_keeps s m args below meth c (MQ below (x_Q TM G none τ) args s 0 0 (x_A TM G)) TM G 2 51 [(0, .ref (x_ad G 0)), (1, .int x1)] [] σ := by
  intro n
  induction n with
  | zero => intro x1 σ  h; cases h
  | succ n ih =>
    intro x1 σ  h
    have hG : x_OK TM G := C.2.2.2.2.2.2.2.2.1
    rw [F_X9_keeps_51] at h
    refine x_iload_n C 1 dX9_keeps_51 rfl rfl ?_
    refine x_bipush C (60 : Int32) dX9_keeps_52 (by decide) ?_
    refine x_icmp_ge C 83 dX9_keeps_54 rfl (fun hc => ?_) (fun hc => ?_)
    · replace h := x_itp hc h
      refine x_aload_n C 0 dX9_keeps_83 rfl rfl ?_
      refine x_dup C dX9_keeps_84 rfl ?_
      refine x_getI C (k := 54) kM_0 (by decide) rfl x_in9 (by decide) (by decide) rfl rfl wd_1262 dX9_keeps_85 ?_
      refine x_iconst C (1 : Int32) dX9_keeps_88 (by decide) ?_
      refine x_iadd C dX9_keeps_89 ?_
      refine x_putI C (k := 54) tyX9 kM_0 (by decide) rfl x_in9 tyX9_ok nmX9 (by decide) (by decide) rfl rfl wd_1262 rfl (tyX9_ok 54 (by decide)) rfl rfl dX9_keeps_90 (x_gen h fun σ5 h => ?_)
      refine x_aload_n C 0 dX9_keeps_93 rfl rfl ?_
      obtain ⟨v6, σ6, hc6, h⟩ := x_b_some h
      refine x_callV C (n := 0) (c_X9_keepsRow hG hc6) kM_0 (by decide) rfl wd_1205 wd_1207 wd_49 wd_111 wd_1208 (by decide +kernel) rfl ⟨Nat.le_of_ble_eq_true rfl, Nat.le_of_ble_eq_true rfl⟩ ⟨rfl, rfl⟩ rfl (Nat.le_of_ble_eq_true rfl) dX9_keeps_94 ?_
      obtain ⟨-, rfl⟩ := x_ret h
      exact x_vret C dX9_keeps_97
    · replace h := x_itn hc h
      refine x_aload_n C 0 dX9_keeps_57 rfl rfl ?_
      refine x_getRq C (k := 55) kM_0 (by decide) rfl x_in9 (by decide) (by decide) rfl rfl wd_1263 rfM_0_55 dX9_keeps_58 ?_
      refine x_bipush C (60 : Int32) dX9_keeps_61 (by decide) ?_
      refine x_aload_n C 0 dX9_keeps_63 rfl rfl ?_
      refine x_getI C (k := 54) kM_0 (by decide) rfl x_in9 (by decide) (by decide) rfl rfl wd_1262 dX9_keeps_64 ?_
      refine x_imul C dX9_keeps_67 ?_
      refine x_iload_n C 1 dX9_keeps_68 rfl rfl ?_
      refine x_iadd C dX9_keeps_69 ?_
      refine x_aload_n C 0 dX9_keeps_70 rfl rfl ?_
      refine x_getRq C (k := 48) kM_0 (by decide) rfl x_in9 (by decide) (by decide) rfl rfl wd_1256 rfM_0_48 dX9_keeps_71 ?_
      refine x_iload_n C 1 dX9_keeps_74 rfl rfl ?_
      obtain ⟨hi7, h⟩ := x_gd_some h
      refine x_iald C kM_31 (x_inl lnM_31 hi7) dX9_keeps_75 ?_
      obtain ⟨hi8, h⟩ := x_gd_some h
      refine x_iast C kM_34 (x_inl lnM_34 hi8) dX9_keeps_76 (x_gen h fun σ9 h => ?_)
      refine x_iinc C 1 (x1 + (1 : Int32)) [(1, .int (x1 + (1 : Int32))), (0, .ref (x_ad G 0))] dX9_keeps_77 rfl rfl (by decide) rfl ?_
      refine x_goto C 51 dX9_keeps_80 rfl ?_
      exact x_sub [1, 0] rfl (ih (x1 + (1 : Int32)) σ9 h)
set_option maxHeartbeats 4000000 in
set_option maxRecDepth 100000 in
theorem w_X9_keeps_49 {τ : x_Hp} (C : x_C p s m args meth c cX9_keeps 2 none yX9_keeps.cls TM G) (σ : x_Hp) (h : F_X9_keeps_49 σ = some ((), τ)) : x_W p l e rm_X9_keeps s m args below meth c (MQ below (x_Q TM G none τ) args s 0 0 (x_A TM G)) TM G 2 49 [(0, .ref (x_ad G 0))] [] σ := by
  have hG : x_OK TM G := C.2.2.2.2.2.2.2.2.1
  rw [F_X9_keeps_49] at h
  refine x_iconst C (0 : Int32) dX9_keeps_49 (by decide) ?_
  refine x_istore_n C [(1, .int (0 : Int32)), (0, .ref (x_ad G 0))] dX9_keeps_50 rfl (by decide) rfl ?_
  exact x_sub [1, 0] rfl (w_X9_keeps_51 C x_fuel (0 : Int32) σ h)
set_option maxHeartbeats 4000000 in
set_option maxRecDepth 100000 in
theorem w_X9_keeps_11 {τ : x_Hp} (C : x_C p s m args meth c cX9_keeps 2 none yX9_keeps.cls TM G) : ∀ (n : Nat) (x1 : Int32) (σ : x_Hp) (h : F_X9_keeps_11 n x1 σ = some ((), τ)), x_W p l e rm_X9_keeps s m args below meth c (MQ below (x_Q TM G none τ) args s 0 0 (x_A TM G)) TM G 2 11 [(0, .ref (x_ad G 0)), (1, .int x1)] [] σ := by
  intro n
  induction n with
  | zero => intro x1 σ  h; cases h
  | succ n ih =>
    intro x1 σ  h
    have hG : x_OK TM G := C.2.2.2.2.2.2.2.2.1
    rw [F_X9_keeps_11] at h
    refine x_iload_n C 1 dX9_keeps_11 rfl rfl ?_
    refine x_sipush C (2940 : Int32) dX9_keeps_12 (by decide) ?_
    refine x_icmp_ge C 39 dX9_keeps_15 rfl (fun hc => ?_) (fun hc => ?_)
    · replace h := x_itp hc h
      refine x_aload_n C 0 dX9_keeps_39 rfl rfl ?_
      refine x_dup C dX9_keeps_40 rfl ?_
      refine x_getI C (k := 54) kM_0 (by decide) rfl x_in9 (by decide) (by decide) rfl rfl wd_1262 dX9_keeps_41 ?_
      refine x_iconst C (1 : Int32) dX9_keeps_44 (by decide) ?_
      refine x_isub C dX9_keeps_45 ?_
      refine x_putI C (k := 54) tyX9 kM_0 (by decide) rfl x_in9 tyX9_ok nmX9 (by decide) (by decide) rfl rfl wd_1262 rfl (tyX9_ok 54 (by decide)) rfl rfl dX9_keeps_46 (x_gen h fun σ1 h => ?_)
      exact x_sub [0] rfl (w_X9_keeps_49 C σ1 h)
    · replace h := x_itn hc h
      refine x_aload_n C 0 dX9_keeps_18 rfl rfl ?_
      refine x_getRq C (k := 55) kM_0 (by decide) rfl x_in9 (by decide) (by decide) rfl rfl wd_1263 rfM_0_55 dX9_keeps_19 ?_
      refine x_iload_n C 1 dX9_keeps_22 rfl rfl ?_
      refine x_aload_n C 0 dX9_keeps_23 rfl rfl ?_
      refine x_getRq C (k := 55) kM_0 (by decide) rfl x_in9 (by decide) (by decide) rfl rfl wd_1263 rfM_0_55 dX9_keeps_24 ?_
      refine x_iload_n C 1 dX9_keeps_27 rfl rfl ?_
      refine x_bipush C (60 : Int32) dX9_keeps_28 (by decide) ?_
      refine x_iadd C dX9_keeps_30 ?_
      obtain ⟨hi2, h⟩ := x_gd_some h
      refine x_iald C kM_34 (x_inl lnM_34 hi2) dX9_keeps_31 ?_
      obtain ⟨hi3, h⟩ := x_gd_some h
      refine x_iast C kM_34 (x_inl lnM_34 hi3) dX9_keeps_32 (x_gen h fun σ4 h => ?_)
      refine x_iinc C 1 (x1 + (1 : Int32)) [(1, .int (x1 + (1 : Int32))), (0, .ref (x_ad G 0))] dX9_keeps_33 rfl rfl (by decide) rfl ?_
      refine x_goto C 11 dX9_keeps_36 rfl ?_
      exact x_sub [1, 0] rfl (ih (x1 + (1 : Int32)) σ4 h)
set_option maxHeartbeats 4000000 in
set_option maxRecDepth 100000 in
theorem c_X9_keeps (hG : x_OK TM G) {σ τ : x_Hp} (h : F_X9_keeps σ = some ((), τ)) : x_M l TM G yX9_keeps cX9_keeps 2 none rm_X9_keeps [.ref (x_ad G 0)] σ none τ := by
  refine x_M.of hG (lv := [(0, .ref (x_ad G 0))]) (by decide) (Nat.le_of_ble_eq_true rfl) rfl (fun p e s m below meth c C => ?_)
  rw [F_X9_keeps] at h
  refine x_aload_n C 0 dX9_keeps_0 rfl rfl ?_
  refine x_getI C (k := 54) kM_0 (by decide) rfl x_in9 (by decide) (by decide) rfl rfl wd_1262 dX9_keeps_1 ?_
  refine x_bipush C (50 : Int32) dX9_keeps_4 (by decide) ?_
  refine x_icmp_ne C 49 dX9_keeps_6 rfl (fun hc => ?_) (fun hc => ?_)
  · replace h := x_itn hc h
    exact x_sub [0] rfl (w_X9_keeps_49 C σ h)
  · replace h := x_itp hc h
    refine x_iconst C (0 : Int32) dX9_keeps_9 (by decide) ?_
    refine x_istore_n C [(1, .int (0 : Int32)), (0, .ref (x_ad G 0))] dX9_keeps_10 rfl (by decide) rfl ?_
    exact x_sub [1, 0] rfl (w_X9_keeps_11 C x_fuel (0 : Int32) σ h)
end WW
